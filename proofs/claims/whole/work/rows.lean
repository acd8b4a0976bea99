section
/-! ===== BEGIN words of one list among another's, by their places ===== -/
theorem goodIn_r {big : List Cond} (ws : List Cond) (ps : List Nat) (hp : ws = ps.filterMap (fun i => big[i]?)) (h : ws.all goodWord = true) : GoodIn big ws := by
  intro w hw
  have h1 := List.all_eq_true.mp h w hw
  rw [hp] at hw
  obtain ⟨i, -, hi⟩ := List.mem_filterMap.mp hw
  have hm : w ∈ big := by first | exact List.mem_of_getElem? hi | exact List.getElem?_mem hi
  exact ⟨hm, good_of_word h1⟩
theorem goodIn_app {big a b : List Cond} (ha : GoodIn big a) (hb : GoodIn big b) : GoodIn big (a ++ b) := fun w h => (List.mem_append.mp h).elim (ha w) (hb w)
theorem goodIn_ca {big a b : List Cond} {c : Cond} (ha : GoodIn big (c :: a)) (hb : GoodIn big b) : GoodIn big (c :: (a ++ b)) := fun w h => (List.mem_cons.mp h).elim (fun e => ha w (List.mem_cons.mpr (Or.inl e))) (fun h => (List.mem_append.mp h).elim (fun h => ha w (List.mem_cons.mpr (Or.inr h))) (hb w))
theorem goodIn_sub {big ws : List Cond} (hm : ∀ w ∈ ws, w ∈ big) (h : ws.all goodWord = true) : GoodIn big ws := fun w hw => ⟨hm w hw, good_of_word (List.all_eq_true.mp h w hw)⟩
/-! ===== END ===== -/

/-! ===== BEGIN printed: names, fields, word lists, decode rows ===== -/
def RX0 : String := "StatueSquare$Ground"
def TX0 : u_T := fun k => match k with
  | 0 => ("StatueSquare$Ground", "wide", "I", false)
  | 1 => ("StatueSquare$Ground", "cellCount", "I", false)
  | 2 => ("StatueSquare$Ground", "benchCount", "I", false)
  | 3 => ("StatueSquare$Ground", "thingCount", "I", false)
  | 4 => ("StatueSquare$Ground", "has", "[I", true)
  | 5 => ("StatueSquare$Ground", "rowOf", "[I", true)
  | 6 => ("StatueSquare$Ground", "columnOf", "[I", true)
  | 7 => ("StatueSquare$Ground", "benchCell", "[I", true)
  | 8 => ("StatueSquare$Ground", "kind", "[I", true)
  | 9 => ("StatueSquare$Ground", "thingCell", "[I", true)
  | 10 => ("StatueSquare$Ground", "tallAtFirst", "[I", true)
  | 11 => ("StatueSquare$Ground", "cost", "[I", true)
  | 12 => ("StatueSquare$Ground", "cutThings", "I", false)
  | 13 => ("StatueSquare$Ground", "yearNow", "I", false)
  | 14 => ("StatueSquare$Ground", "isWinter", "Z", false)
  | 15 => ("StatueSquare$Ground", "statueCell", "I", false)
  | _ => ("StatueSquare$Ground", "statueBlock", "I", false)
def tyX0 : Nat → FieldType := fun k => match k with
  | 0 => .int
  | 1 => .int
  | 2 => .int
  | 3 => .int
  | 4 => .array .int
  | 5 => .array .int
  | 6 => .array .int
  | 7 => .array .int
  | 8 => .array .int
  | 9 => .array .int
  | 10 => .array .int
  | 11 => .array .int
  | 12 => .int
  | 13 => .int
  | 14 => .boolean
  | 15 => .int
  | _ => .int
abbrev wsX00 : List Cond := u_ws RX0 TX0 17
theorem nmX0 : ∀ a, a < 17 → ∀ b, b < 17 → a ≠ b → (TX0 a).2.1 ≠ (TX0 b).2.1 := by decide +kernel
theorem tyX0_ok : ∀ k, k < 17 → parseFieldDescriptor (TX0 k).2.2.1 = some (tyX0 k) := by decide +kernel
abbrev cX0_init : ByteArray := prog_2_method_1_code
def yX0_init : MethodName := ⟨RX0, "<init>", "()V"⟩
abbrev cX0_layOut : ByteArray := prog_2_method_2_code
def yX0_layOut : MethodName := ⟨RX0, "layOut", "(LStatueSquare$TextReader;)V"⟩
abbrev cX0_layCell : ByteArray := prog_2_method_3_code
def yX0_layCell : MethodName := ⟨RX0, "layCell", "(III)V"⟩
abbrev cX0_layBench : ByteArray := prog_2_method_4_code
def yX0_layBench : MethodName := ⟨RX0, "layBench", "(I)V"⟩
abbrev cX0_layThing : ByteArray := prog_2_method_5_code
def yX0_layThing : MethodName := ⟨RX0, "layThing", "(III)V"⟩
abbrev cX0_isLaid : ByteArray := prog_2_method_6_code
def yX0_isLaid : MethodName := ⟨RX0, "isLaid", "()Z"⟩
abbrev cX0_hasStatue : ByteArray := prog_2_method_7_code
def yX0_hasStatue : MethodName := ⟨RX0, "hasStatue", "()Z"⟩
abbrev cX0_isFree : ByteArray := prog_2_method_8_code
def yX0_isFree : MethodName := ⟨RX0, "isFree", "(I)Z"⟩
abbrev cX0_isThere : ByteArray := prog_2_method_9_code
def yX0_isThere : MethodName := ⟨RX0, "isThere", "(I)Z"⟩
abbrev cX0_tallIn : ByteArray := prog_2_method_10_code
def yX0_tallIn : MethodName := ⟨RX0, "tallIn", "(II)I"⟩
abbrev cX0_stepsBetween : ByteArray := prog_2_method_11_code
def yX0_stepsBetween : MethodName := ⟨RX0, "stepsBetween", "(II)I"⟩
abbrev cX0_inTheWay : ByteArray := prog_2_method_12_code
def yX0_inTheWay : MethodName := ⟨RX0, "inTheWay", "(IIII)I"⟩
abbrev cX0_partsSeen : ByteArray := prog_2_method_13_code
def yX0_partsSeen : MethodName := ⟨RX0, "partsSeen", "(II)I"⟩
abbrev cX0_partsSeenInAll : ByteArray := prog_2_method_14_code
def yX0_partsSeenInAll : MethodName := ⟨RX0, "partsSeenInAll", "()I"⟩
abbrev cX0_hiders : ByteArray := prog_2_method_15_code
def yX0_hiders : MethodName := ⟨RX0, "hiders", "(I)I"⟩
abbrev cX0_allHiders : ByteArray := prog_2_method_16_code
def yX0_allHiders : MethodName := ⟨RX0, "allHiders", "()I"⟩
abbrev cX0_costOf : ByteArray := prog_2_method_17_code
def yX0_costOf : MethodName := ⟨RX0, "costOf", "(I)I"⟩
abbrev cX0_complainers : ByteArray := prog_2_method_18_code
def yX0_complainers : MethodName := ⟨RX0, "complainers", "(II)I"⟩
abbrev cX0_benchesThatSeeWhole : ByteArray := prog_2_method_19_code
def yX0_benchesThatSeeWhole : MethodName := ⟨RX0, "benchesThatSeeWhole", "()I"⟩
abbrev cX0_countWhole : ByteArray := prog_2_method_20_code
def yX0_countWhole : MethodName := ⟨RX0, "countWhole", "(II)I"⟩
abbrev cX0_bestCell : ByteArray := prog_2_method_21_code
def yX0_bestCell : MethodName := ⟨RX0, "bestCell", "(I)I"⟩
abbrev cX0_leastBlock : ByteArray := prog_2_method_22_code
def yX0_leastBlock : MethodName := ⟨RX0, "leastBlock", "(I)I"⟩
abbrev cX0_thingsThatLeave : ByteArray := prog_2_method_23_code
def yX0_thingsThatLeave : MethodName := ⟨RX0, "thingsThatLeave", "(I)I"⟩
abbrev cX0_firstYearOfComplaint : ByteArray := prog_2_method_24_code
def yX0_firstYearOfComplaint : MethodName := ⟨RX0, "firstYearOfComplaint", "()I"⟩
abbrev cX0_unseenCells : ByteArray := prog_2_method_25_code
def yX0_unseenCells : MethodName := ⟨RX0, "unseenCells", "()J"⟩
abbrev cX0_isSeenFromAny : ByteArray := prog_2_method_26_code
def yX0_isSeenFromAny : MethodName := ⟨RX0, "isSeenFromAny", "(II)Z"⟩
abbrev cX0_partsLitBy : ByteArray := prog_2_method_27_code
def yX0_partsLitBy : MethodName := ⟨RX0, "partsLitBy", "(I)I"⟩
abbrev cX0_partsLitByAny : ByteArray := prog_2_method_28_code
def yX0_partsLitByAny : MethodName := ⟨RX0, "partsLitByAny", "()I"⟩
abbrev cX0_fewestLamps : ByteArray := prog_2_method_29_code
def yX0_fewestLamps : MethodName := ⟨RX0, "fewestLamps", "()I"⟩
def RX1 : String := "StatueSquare$Sheet"
def TX1 : u_T := fun k => match k with
  | 0 => ("StatueSquare$Sheet", "row", "[I", true)
  | 1 => ("StatueSquare$Sheet", "hasRow", "Z", false)
  | 2 => ("StatueSquare$Sheet", "lane", "I", false)
  | _ => ("StatueSquare$Sheet", "length", "I", false)
def tyX1 : Nat → FieldType := fun k => match k with
  | 0 => .array .int
  | 1 => .boolean
  | 2 => .int
  | _ => .int
abbrev wsX10 : List Cond := u_ws RX1 TX1 4
theorem nmX1 : ∀ a, a < 4 → ∀ b, b < 4 → a ≠ b → (TX1 a).2.1 ≠ (TX1 b).2.1 := by decide +kernel
theorem tyX1_ok : ∀ k, k < 4 → parseFieldDescriptor (TX1 k).2.2.1 = some (tyX1 k) := by decide +kernel
abbrev cX1_init : ByteArray := prog_3_method_1_code
def yX1_init : MethodName := ⟨RX1, "<init>", "()V"⟩
abbrev cX1_renew : ByteArray := prog_3_method_2_code
def yX1_renew : MethodName := ⟨RX1, "renew", "(II)V"⟩
abbrev cX1_write : ByteArray := prog_3_method_3_code
def yX1_write : MethodName := ⟨RX1, "write", "(II)V"⟩
abbrev cX1_faultAsRow : ByteArray := prog_3_method_4_code
def yX1_faultAsRow : MethodName := ⟨RX1, "faultAsRow", "(I)I"⟩
abbrev cX1_hasSpan : ByteArray := prog_3_method_5_code
def yX1_hasSpan : MethodName := ⟨RX1, "hasSpan", "(II)Z"⟩
def RX2 : String := "StatueSquare$TextReader"
def TX2 : u_T := fun k => match k with
  | 0 => ("StatueSquare$TextReader", "signs", "[I", true)
  | 1 => ("StatueSquare$TextReader", "digits", "[I", true)
  | 2 => ("StatueSquare$TextReader", "high", "I", false)
  | 3 => ("StatueSquare$TextReader", "wide", "I", false)
  | 4 => ("StatueSquare$TextReader", "codes", "[I", true)
  | 5 => ("StatueSquare$TextReader", "length", "I", false)
  | 6 => ("StatueSquare$TextReader", "place", "I", false)
  | 7 => ("StatueSquare$TextReader", "benches", "I", false)
  | _ => ("StatueSquare$TextReader", "things", "I", false)
def tyX2 : Nat → FieldType := fun k => match k with
  | 0 => .array .int
  | 1 => .array .int
  | 2 => .int
  | 3 => .int
  | 4 => .array .int
  | 5 => .int
  | 6 => .int
  | 7 => .int
  | _ => .int
abbrev wsX20 : List Cond := u_ws RX2 TX2 9
theorem nmX2 : ∀ a, a < 9 → ∀ b, b < 9 → a ≠ b → (TX2 a).2.1 ≠ (TX2 b).2.1 := by decide +kernel
theorem tyX2_ok : ∀ k, k < 9 → parseFieldDescriptor (TX2 k).2.2.1 = some (tyX2 k) := by decide +kernel
abbrev cX2_init : ByteArray := prog_4_method_1_code
def yX2_init : MethodName := ⟨RX2, "<init>", "()V"⟩
abbrev cX2_read : ByteArray := prog_4_method_2_code
def yX2_read : MethodName := ⟨RX2, "read", "(LStatueSquare$Sheet;II)I"⟩
abbrev cX2_takeRows : ByteArray := prog_4_method_3_code
def yX2_takeRows : MethodName := ⟨RX2, "takeRows", "()Z"⟩
abbrev cX2_takeCell : ByteArray := prog_4_method_4_code
def yX2_takeCell : MethodName := ⟨RX2, "takeCell", "(I)Z"⟩
abbrev cX2_takeBench : ByteArray := prog_4_method_5_code
def yX2_takeBench : MethodName := ⟨RX2, "takeBench", "()Z"⟩
abbrev cX2_takeThing : ByteArray := prog_4_method_6_code
def yX2_takeThing : MethodName := ⟨RX2, "takeThing", "(I)Z"⟩
abbrev cX2_takeSign : ByteArray := prog_4_method_7_code
def yX2_takeSign : MethodName := ⟨RX2, "takeSign", "(I)Z"⟩
abbrev cX2_takeDigit : ByteArray := prog_4_method_8_code
def yX2_takeDigit : MethodName := ⟨RX2, "takeDigit", "(II)I"⟩
abbrev cX2_nextCode : ByteArray := prog_4_method_9_code
def yX2_nextCode : MethodName := ⟨RX2, "nextCode", "()I"⟩
def RX3 : String := "StatueSquare"
def TX3 : u_T := fun k => match k with
  | 0 => ("StatueSquare", "sheets", "[LStatueSquare$Sheet;", true)
  | 1 => ("StatueSquare", "reader", "LStatueSquare$TextReader;", true)
  | 2 => ("StatueSquare", "ground", "LStatueSquare$Ground;", true)
  | 3 => ("StatueSquare", "traced", "I", false)
  | _ => ("StatueSquare", "latestFault", "I", false)
def tyX3 : Nat → FieldType := fun k => match k with
  | 0 => .array (.object "StatueSquare$Sheet")
  | 1 => .object "StatueSquare$TextReader"
  | 2 => .object "StatueSquare$Ground"
  | 3 => .int
  | _ => .int
abbrev wsX30 : List Cond := u_ws RX3 TX3 5
theorem nmX3 : ∀ a, a < 5 → ∀ b, b < 5 → a ≠ b → (TX3 a).2.1 ≠ (TX3 b).2.1 := by decide +kernel
theorem tyX3_ok : ∀ k, k < 5 → parseFieldDescriptor (TX3 k).2.2.1 = some (tyX3 k) := by decide +kernel
abbrev cX3_init : ByteArray := prog_1_method_1_code
def yX3_init : MethodName := ⟨RX3, "<init>", "()V"⟩
abbrev cX3_square : ByteArray := prog_1_method_2_code
def yX3_square : MethodName := ⟨RX3, "square", "(IIII)I"⟩
abbrev cX3_cellHas : ByteArray := prog_1_method_3_code
def yX3_cellHas : MethodName := ⟨RX3, "cellHas", "(I)I"⟩
abbrev cX3_ofThing : ByteArray := prog_1_method_4_code
def yX3_ofThing : MethodName := ⟨RX3, "ofThing", "(II)I"⟩
abbrev cX3_bench : ByteArray := prog_1_method_5_code
def yX3_bench : MethodName := ⟨RX3, "bench", "(I)I"⟩
abbrev cX3_year : ByteArray := prog_1_method_6_code
def yX3_year : MethodName := ⟨RX3, "year", "(IZ)I"⟩
abbrev cX3_cut : ByteArray := prog_1_method_7_code
def yX3_cut : MethodName := ⟨RX3, "cut", "(IZ)I"⟩
abbrev cX3_price : ByteArray := prog_1_method_8_code
def yX3_price : MethodName := ⟨RX3, "price", "(II)I"⟩
abbrev cX3_statue : ByteArray := prog_1_method_9_code
def yX3_statue : MethodName := ⟨RX3, "statue", "(II)I"⟩
abbrev cX3_seen : ByteArray := prog_1_method_10_code
def yX3_seen : MethodName := ⟨RX3, "seen", "(I)I"⟩
abbrev cX3_whole : ByteArray := prog_1_method_11_code
def yX3_whole : MethodName := ⟨RX3, "whole", "()I"⟩
abbrev cX3_hidden : ByteArray := prog_1_method_12_code
def yX3_hidden : MethodName := ⟨RX3, "hidden", "(I)I"⟩
abbrev cX3_sight : ByteArray := prog_1_method_13_code
def yX3_sight : MethodName := ⟨RX3, "sight", "(I)J"⟩
abbrev cX3_best : ByteArray := prog_1_method_14_code
def yX3_best : MethodName := ⟨RX3, "best", "(II)I"⟩
abbrev cX3_block : ByteArray := prog_1_method_15_code
def yX3_block : MethodName := ⟨RX3, "block", "(II)I"⟩
abbrev cX3_cuts : ByteArray := prog_1_method_16_code
def yX3_cuts : MethodName := ⟨RX3, "cuts", "(I)I"⟩
abbrev cX3_complaints : ByteArray := prog_1_method_17_code
def yX3_complaints : MethodName := ⟨RX3, "complaints", "()I"⟩
abbrev cX3_moved : ByteArray := prog_1_method_18_code
def yX3_moved : MethodName := ⟨RX3, "moved", "(I)I"⟩
abbrev cX3_years : ByteArray := prog_1_method_19_code
def yX3_years : MethodName := ⟨RX3, "years", "()I"⟩
abbrev cX3_second : ByteArray := prog_1_method_20_code
def yX3_second : MethodName := ⟨RX3, "second", "()J"⟩
abbrev cX3_lit : ByteArray := prog_1_method_21_code
def yX3_lit : MethodName := ⟨RX3, "lit", "(I)I"⟩
abbrev cX3_sheet : ByteArray := prog_1_method_22_code
def yX3_sheet : MethodName := ⟨RX3, "sheet", "(III)I"⟩
abbrev cX3_lose : ByteArray := prog_1_method_23_code
def yX3_lose : MethodName := ⟨RX3, "lose", "(I)I"⟩
abbrev cX3_put : ByteArray := prog_1_method_24_code
def yX3_put : MethodName := ⟨RX3, "put", "(III)I"⟩
abbrev cX3_cell : ByteArray := prog_1_method_25_code
def yX3_cell : MethodName := ⟨RX3, "cell", "(III)J"⟩
abbrev cX3_copy : ByteArray := prog_1_method_26_code
def yX3_copy : MethodName := ⟨RX3, "copy", "(IIIII)I"⟩
abbrev cX3_tell : ByteArray := prog_1_method_27_code
def yX3_tell : MethodName := ⟨RX3, "tell", "(I)I"⟩
abbrev cX3_tend : ByteArray := prog_1_method_28_code
def yX3_tend : MethodName := ⟨RX3, "tend", "(I)I"⟩
abbrev cX3_as : ByteArray := prog_1_method_29_code
def yX3_as : MethodName := ⟨RX3, "as", "(II)I"⟩
abbrev cX3_trace : ByteArray := prog_1_method_30_code
def yX3_trace : MethodName := ⟨RX3, "trace", "()I"⟩
abbrev cX3_fault : ByteArray := prog_1_method_31_code
def yX3_fault : MethodName := ⟨RX3, "fault", "()I"⟩
abbrev cX3_many : ByteArray := prog_1_method_32_code
def yX3_many : MethodName := ⟨RX3, "many", "(I)I"⟩
abbrev cX3_failed : ByteArray := prog_1_method_33_code
def yX3_failed : MethodName := ⟨RX3, "failed", "(I)I"⟩
abbrev cX3_tellLamp : ByteArray := prog_1_method_34_code
def yX3_tellLamp : MethodName := ⟨RX3, "tellLamp", "(I)I"⟩
abbrev cX3_tellUrn : ByteArray := prog_1_method_35_code
def yX3_tellUrn : MethodName := ⟨RX3, "tellUrn", "(I)I"⟩
abbrev cX3_tellTree : ByteArray := prog_1_method_36_code
def yX3_tellTree : MethodName := ⟨RX3, "tellTree", "(I)I"⟩
abbrev cX3_tendLent : ByteArray := prog_1_method_37_code
def yX3_tendLent : MethodName := ⟨RX3, "tendLent", "(I)I"⟩
abbrev cX3_tendTree : ByteArray := prog_1_method_38_code
def yX3_tendTree : MethodName := ⟨RX3, "tendTree", "()I"⟩
abbrev cX3_leaveInTrace : ByteArray := prog_1_method_39_code
def yX3_leaveInTrace : MethodName := ⟨RX3, "leaveInTrace", "(I)V"⟩
abbrev cX3_isBelow : ByteArray := prog_1_method_40_code
def yX3_isBelow : MethodName := ⟨RX3, "isBelow", "(II)Z"⟩
abbrev cX3_greatestDivisor : ByteArray := prog_1_method_41_code
def yX3_greatestDivisor : MethodName := ⟨RX3, "greatestDivisor", "(II)I"⟩
def RX4 : String := "StatueSquareModel"
def TX4 : u_T := fun k => match k with
  | 0 => ("StatueSquareModel", "fault", "I", false)
  | 1 => ("StatueSquareModel", "high", "I", false)
  | 2 => ("StatueSquareModel", "wide", "I", false)
  | 3 => ("StatueSquareModel", "has", "[I", true)
  | 4 => ("StatueSquareModel", "benches", "I", false)
  | 5 => ("StatueSquareModel", "benchAt", "[I", true)
  | 6 => ("StatueSquareModel", "things", "I", false)
  | 7 => ("StatueSquareModel", "kindOf", "[I", true)
  | 8 => ("StatueSquareModel", "thingAt", "[I", true)
  | 9 => ("StatueSquareModel", "tallOf", "[I", true)
  | 10 => ("StatueSquareModel", "isCut", "[Z", true)
  | 11 => ("StatueSquareModel", "priceOf", "[I", true)
  | 12 => ("StatueSquareModel", "yearNow", "I", false)
  | 13 => ("StatueSquareModel", "isWinter", "Z", false)
  | 14 => ("StatueSquareModel", "readAt", "I", false)
  | 15 => ("StatueSquareModel", "readHigh", "I", false)
  | 16 => ("StatueSquareModel", "readWide", "I", false)
  | 17 => ("StatueSquareModel", "readBenches", "I", false)
  | 18 => ("StatueSquareModel", "readThings", "I", false)
  | 19 => ("StatueSquareModel", "readHas", "[I", true)
  | 20 => ("StatueSquareModel", "readBench", "[I", true)
  | 21 => ("StatueSquareModel", "readKind", "[I", true)
  | 22 => ("StatueSquareModel", "readThing", "[I", true)
  | 23 => ("StatueSquareModel", "readTall", "[I", true)
  | 24 => ("StatueSquareModel", "statueAt", "I", false)
  | 25 => ("StatueSquareModel", "blockNow", "I", false)
  | 26 => ("StatueSquareModel", "sheetSize", "[I", true)
  | 27 => ("StatueSquareModel", "sheetLane", "[I", true)
  | 28 => ("StatueSquareModel", "sheet", "[I", true)
  | 29 => ("StatueSquareModel", "hands", "[I", true)
  | _ => ("StatueSquareModel", "traceNow", "I", false)
def tyX4 : Nat → FieldType := fun k => match k with
  | 0 => .int
  | 1 => .int
  | 2 => .int
  | 3 => .array .int
  | 4 => .int
  | 5 => .array .int
  | 6 => .int
  | 7 => .array .int
  | 8 => .array .int
  | 9 => .array .int
  | 10 => .array .boolean
  | 11 => .array .int
  | 12 => .int
  | 13 => .boolean
  | 14 => .int
  | 15 => .int
  | 16 => .int
  | 17 => .int
  | 18 => .int
  | 19 => .array .int
  | 20 => .array .int
  | 21 => .array .int
  | 22 => .array .int
  | 23 => .array .int
  | 24 => .int
  | 25 => .int
  | 26 => .array .int
  | 27 => .array .int
  | 28 => .array .int
  | 29 => .array .int
  | _ => .int
abbrev wsX40 : List Cond := u_ws RX4 TX4 31
theorem nmX4 : ∀ a, a < 31 → ∀ b, b < 31 → a ≠ b → (TX4 a).2.1 ≠ (TX4 b).2.1 := by decide +kernel
theorem tyX4_ok : ∀ k, k < 31 → parseFieldDescriptor (TX4 k).2.2.1 = some (tyX4 k) := by decide +kernel
abbrev cX4_init : ByteArray := prog_6_method_1_code
def yX4_init : MethodName := ⟨RX4, "<init>", "()V"⟩
abbrev cX4_in : ByteArray := prog_6_method_2_code
def yX4_in : MethodName := ⟨RX4, "in", "(JJJ)Z"⟩
abbrev cX4_lost : ByteArray := prog_6_method_3_code
def yX4_lost : MethodName := ⟨RX4, "lost", "()J"⟩
abbrev cX4_far : ByteArray := prog_6_method_4_code
def yX4_far : MethodName := ⟨RX4, "far", "(II)I"⟩
abbrev cX4_common : ByteArray := prog_6_method_5_code
def yX4_common : MethodName := ⟨RX4, "common", "(II)I"⟩
abbrev cX4_refused : ByteArray := prog_6_method_6_code
def yX4_refused : MethodName := ⟨RX4, "refused", "(I)I"⟩
abbrev cX4_failed : ByteArray := prog_6_method_7_code
def yX4_failed : MethodName := ⟨RX4, "failed", "(I)I"⟩
abbrev cX4_failedLong : ByteArray := prog_6_method_8_code
def yX4_failedLong : MethodName := ⟨RX4, "failedLong", "(I)J"⟩
abbrev cX4_cells : ByteArray := prog_6_method_9_code
def yX4_cells : MethodName := ⟨RX4, "cells", "()I"⟩
abbrev cX4_noCell : ByteArray := prog_6_method_10_code
def yX4_noCell : MethodName := ⟨RX4, "noCell", "(I)Z"⟩
abbrev cX4_noThing : ByteArray := prog_6_method_11_code
def yX4_noThing : MethodName := ⟨RX4, "noThing", "(I)Z"⟩
abbrev cX4_noBench : ByteArray := prog_6_method_12_code
def yX4_noBench : MethodName := ⟨RX4, "noBench", "(I)Z"⟩
abbrev cX4_codeAt : ByteArray := prog_6_method_13_code
def yX4_codeAt : MethodName := ⟨RX4, "codeAt", "(II)I"⟩
abbrev cX4_figure : ByteArray := prog_6_method_14_code
def yX4_figure : MethodName := ⟨RX4, "figure", "(IIII)I"⟩
abbrev cX4_readsCell : ByteArray := prog_6_method_15_code
def yX4_readsCell : MethodName := ⟨RX4, "readsCell", "(III)Z"⟩
abbrev cX4_readsSquare : ByteArray := prog_6_method_16_code
def yX4_readsSquare : MethodName := ⟨RX4, "readsSquare", "(II)Z"⟩
abbrev cX4_square : ByteArray := prog_6_method_17_code
def yX4_square : MethodName := ⟨RX4, "square", "(IIII)I"⟩
abbrev cX4_cellHas : ByteArray := prog_6_method_18_code
def yX4_cellHas : MethodName := ⟨RX4, "cellHas", "(I)I"⟩
abbrev cX4_tallNow : ByteArray := prog_6_method_19_code
def yX4_tallNow : MethodName := ⟨RX4, "tallNow", "(I)I"⟩
abbrev cX4_ofThing : ByteArray := prog_6_method_20_code
def yX4_ofThing : MethodName := ⟨RX4, "ofThing", "(II)I"⟩
abbrev cX4_bench : ByteArray := prog_6_method_21_code
def yX4_bench : MethodName := ⟨RX4, "bench", "(I)I"⟩
abbrev cX4_year : ByteArray := prog_6_method_22_code
def yX4_year : MethodName := ⟨RX4, "year", "(IZ)I"⟩
abbrev cX4_cut : ByteArray := prog_6_method_23_code
def yX4_cut : MethodName := ⟨RX4, "cut", "(IZ)I"⟩
abbrev cX4_price : ByteArray := prog_6_method_24_code
def yX4_price : MethodName := ⟨RX4, "price", "(II)I"⟩
abbrev cX4_statue : ByteArray := prog_6_method_25_code
def yX4_statue : MethodName := ⟨RX4, "statue", "(II)I"⟩
abbrev cX4_inTheWay : ByteArray := prog_6_method_26_code
def yX4_inTheWay : MethodName := ⟨RX4, "inTheWay", "(IIII)I"⟩
abbrev cX4_seenAt : ByteArray := prog_6_method_27_code
def yX4_seenAt : MethodName := ⟨RX4, "seenAt", "(III)I"⟩
abbrev cX4_wholeAt : ByteArray := prog_6_method_28_code
def yX4_wholeAt : MethodName := ⟨RX4, "wholeAt", "(II)I"⟩
abbrev cX4_bits : ByteArray := prog_6_method_29_code
def yX4_bits : MethodName := ⟨RX4, "bits", "(I)I"⟩
abbrev cX4_seen : ByteArray := prog_6_method_30_code
def yX4_seen : MethodName := ⟨RX4, "seen", "(I)I"⟩
abbrev cX4_whole : ByteArray := prog_6_method_31_code
def yX4_whole : MethodName := ⟨RX4, "whole", "()I"⟩
abbrev cX4_hiddenAt : ByteArray := prog_6_method_32_code
def yX4_hiddenAt : MethodName := ⟨RX4, "hiddenAt", "(I)I"⟩
abbrev cX4_hidden : ByteArray := prog_6_method_33_code
def yX4_hidden : MethodName := ⟨RX4, "hidden", "(I)I"⟩
abbrev cX4_sight : ByteArray := prog_6_method_34_code
def yX4_sight : MethodName := ⟨RX4, "sight", "(I)J"⟩
abbrev cX4_best : ByteArray := prog_6_method_35_code
def yX4_best : MethodName := ⟨RX4, "best", "(II)I"⟩
abbrev cX4_block : ByteArray := prog_6_method_36_code
def yX4_block : MethodName := ⟨RX4, "block", "(II)I"⟩
abbrev cX4_cuts : ByteArray := prog_6_method_37_code
def yX4_cuts : MethodName := ⟨RX4, "cuts", "(I)I"⟩
abbrev cX4_complaintsNow : ByteArray := prog_6_method_38_code
def yX4_complaintsNow : MethodName := ⟨RX4, "complaintsNow", "()I"⟩
abbrev cX4_complaints : ByteArray := prog_6_method_39_code
def yX4_complaints : MethodName := ⟨RX4, "complaints", "()I"⟩
abbrev cX4_moved : ByteArray := prog_6_method_40_code
def yX4_moved : MethodName := ⟨RX4, "moved", "(I)I"⟩
abbrev cX4_years : ByteArray := prog_6_method_41_code
def yX4_years : MethodName := ⟨RX4, "years", "()I"⟩
abbrev cX4_isUnseen : ByteArray := prog_6_method_42_code
def yX4_isUnseen : MethodName := ⟨RX4, "isUnseen", "(II)Z"⟩
abbrev cX4_second : ByteArray := prog_6_method_43_code
def yX4_second : MethodName := ⟨RX4, "second", "()J"⟩
abbrev cX4_litBy : ByteArray := prog_6_method_44_code
def yX4_litBy : MethodName := ⟨RX4, "litBy", "(I)I"⟩
abbrev cX4_litByAll : ByteArray := prog_6_method_45_code
def yX4_litByAll : MethodName := ⟨RX4, "litByAll", "(I)I"⟩
abbrev cX4_lit : ByteArray := prog_6_method_46_code
def yX4_lit : MethodName := ⟨RX4, "lit", "(I)I"⟩
abbrev cX4_noSheet : ByteArray := prog_6_method_47_code
def yX4_noSheet : MethodName := ⟨RX4, "noSheet", "(I)Z"⟩
abbrev cX4_sheet : ByteArray := prog_6_method_48_code
def yX4_sheet : MethodName := ⟨RX4, "sheet", "(III)I"⟩
abbrev cX4_lose : ByteArray := prog_6_method_49_code
def yX4_lose : MethodName := ⟨RX4, "lose", "(I)I"⟩
abbrev cX4_noCell_ : ByteArray := prog_6_method_50_code
def yX4_noCell_ : MethodName := ⟨RX4, "noCell", "(II)I"⟩
abbrev cX4_put : ByteArray := prog_6_method_51_code
def yX4_put : MethodName := ⟨RX4, "put", "(III)I"⟩
abbrev cX4_cell : ByteArray := prog_6_method_52_code
def yX4_cell : MethodName := ⟨RX4, "cell", "(III)J"⟩
abbrev cX4_isBeyond : ByteArray := prog_6_method_53_code
def yX4_isBeyond : MethodName := ⟨RX4, "isBeyond", "(IJI)Z"⟩
abbrev cX4_copy : ByteArray := prog_6_method_54_code
def yX4_copy : MethodName := ⟨RX4, "copy", "(IIIII)I"⟩
abbrev cX4_traced : ByteArray := prog_6_method_55_code
def yX4_traced : MethodName := ⟨RX4, "traced", "(I)V"⟩
abbrev cX4_tell : ByteArray := prog_6_method_56_code
def yX4_tell : MethodName := ⟨RX4, "tell", "(I)I"⟩
abbrev cX4_tend : ByteArray := prog_6_method_57_code
def yX4_tend : MethodName := ⟨RX4, "tend", "(I)I"⟩
abbrev cX4_as : ByteArray := prog_6_method_58_code
def yX4_as : MethodName := ⟨RX4, "as", "(II)I"⟩
abbrev cX4_trace : ByteArray := prog_6_method_59_code
def yX4_trace : MethodName := ⟨RX4, "trace", "()I"⟩
abbrev cX4_fault : ByteArray := prog_6_method_60_code
def yX4_fault : MethodName := ⟨RX4, "fault", "()I"⟩
abbrev cX4_many : ByteArray := prog_6_method_61_code
def yX4_many : MethodName := ⟨RX4, "many", "(I)I"⟩
def RJ6 : String := "java/lang/Integer"
def TJ6 : u_T := fun k => match k with
  | _ => ("", "", "", false)
def tyJ6 : Nat → FieldType := fun k => match k with
  | _ => .int
abbrev wsJ60 : List Cond := u_ws RJ6 TJ6 0
theorem nmJ6 : ∀ a, a < 0 → ∀ b, b < 0 → a ≠ b → (TJ6 a).2.1 ≠ (TJ6 b).2.1 := by decide +kernel
theorem tyJ6_ok : ∀ k, k < 0 → parseFieldDescriptor (TJ6 k).2.2.1 = some (tyJ6 k) := by decide +kernel
abbrev cJ6_bitCount_0f7a4 : ByteArray := prog_7_method_49_code
def yJ6_bitCount_0f7a4 : MethodName := ⟨RJ6, "bitCount", "(I)I"⟩
def RJ9 : String := "java/lang/Math"
def TJ9 : u_T := fun k => match k with
  | _ => ("", "", "", false)
def tyJ9 : Nat → FieldType := fun k => match k with
  | _ => .int
abbrev wsJ90 : List Cond := u_ws RJ9 TJ9 0
theorem nmJ9 : ∀ a, a < 0 → ∀ b, b < 0 → a ≠ b → (TJ9 a).2.1 ≠ (TJ9 b).2.1 := by decide +kernel
theorem tyJ9_ok : ∀ k, k < 0 → parseFieldDescriptor (TJ9 k).2.2.1 = some (tyJ9 k) := by decide +kernel
abbrev cJ9_abs_0f7a4 : ByteArray := prog_8_method_59_code
def yJ9_abs_0f7a4 : MethodName := ⟨RJ9, "abs", "(I)I"⟩
abbrev cJ9_max_7cf53 : ByteArray := prog_8_method_65_code
def yJ9_max_7cf53 : MethodName := ⟨RJ9, "max", "(II)I"⟩
def RJ10 : String := "java/lang/System"
def TJ10 : u_T := fun k => match k with
  | _ => ("", "", "", false)
def tyJ10 : Nat → FieldType := fun k => match k with
  | _ => .int
abbrev wsJ100 : List Cond := u_ws RJ10 TJ10 0
theorem nmJ10 : ∀ a, a < 0 → ∀ b, b < 0 → a ≠ b → (TJ10 a).2.1 ≠ (TJ10 b).2.1 := by decide +kernel
theorem tyJ10_ok : ∀ k, k < 0 → parseFieldDescriptor (TJ10 k).2.2.1 = some (tyJ10 k) := by decide +kernel
def RL : String := "StatueSquareLaw"
abbrev cL_law : ByteArray := code
def yL_law : MethodName := ⟨RL, "law", "([I)Z"⟩
def wsX0_init : List Cond := .code yX0_init cX0_init 1 none :: ([.methodLink RX0 3 objectInit, .instanceMethod objectInit, .code objectInit ⟨#[0xb1]⟩ 1 none, .arrayClass .int, .fieldLink RX0 9 "StatueSquare$Ground" "has" "[I", .fieldLink RX0 15 "StatueSquare$Ground" "rowOf" "[I", .fieldLink RX0 18 "StatueSquare$Ground" "columnOf" "[I", .fieldLink RX0 21 "StatueSquare$Ground" "benchCell" "[I", .fieldLink RX0 24 "StatueSquare$Ground" "kind" "[I", .fieldLink RX0 27 "StatueSquare$Ground" "thingCell" "[I", .fieldLink RX0 30 "StatueSquare$Ground" "tallAtFirst" "[I", .fieldLink RX0 33 "StatueSquare$Ground" "cost" "[I", .fieldLink RX0 36 "StatueSquare$Ground" "statueCell" "I"] ++ wsX00)
def wsX0_layBench : List Cond := .code yX0_layBench cX0_layBench 2 none :: ([.fieldLink RX0 9 "StatueSquare$Ground" "has" "[I", .fieldLink RX0 21 "StatueSquare$Ground" "benchCell" "[I", .fieldLink RX0 49 "StatueSquare$Ground" "benchCount" "I"] ++ wsX00)
def wsX0_layThing : List Cond := .code yX0_layThing cX0_layThing 4 none :: ([.fieldLink RX0 9 "StatueSquare$Ground" "has" "[I", .fieldLink RX0 52 "StatueSquare$Ground" "thingCount" "I", .fieldLink RX0 24 "StatueSquare$Ground" "kind" "[I", .fieldLink RX0 27 "StatueSquare$Ground" "thingCell" "[I", .fieldLink RX0 30 "StatueSquare$Ground" "tallAtFirst" "[I", .fieldLink RX0 33 "StatueSquare$Ground" "cost" "[I"] ++ wsX00)
def wsX0_layCell : List Cond := .code yX0_layCell cX0_layCell 4 none :: ([.fieldLink RX0 9 "StatueSquare$Ground" "has" "[I", .methodLink RX0 81 yX0_layBench, .instanceMethod yX0_layBench, .selects RX0 yX0_layBench yX0_layBench, .initialized RX0, .code yX0_layBench cX0_layBench 2 none, .fieldLink RX0 21 "StatueSquare$Ground" "benchCell" "[I", .fieldLink RX0 49 "StatueSquare$Ground" "benchCount" "I", .methodLink RX0 85 yX0_layThing, .instanceMethod yX0_layThing, .selects RX0 yX0_layThing yX0_layThing, .code yX0_layThing cX0_layThing 4 none, .fieldLink RX0 52 "StatueSquare$Ground" "thingCount" "I", .fieldLink RX0 24 "StatueSquare$Ground" "kind" "[I", .fieldLink RX0 27 "StatueSquare$Ground" "thingCell" "[I", .fieldLink RX0 30 "StatueSquare$Ground" "tallAtFirst" "[I", .fieldLink RX0 33 "StatueSquare$Ground" "cost" "[I"] ++ wsX00)
def wsX0_layOut_r1 : List Cond := [Cond.fieldLink RX0 40 "StatueSquare$TextReader" "wide" "I", Cond.fieldLink RX0 45 "StatueSquare$Ground" "wide" "I", Cond.fieldLink RX0 46 "StatueSquare$Ground" "cellCount" "I", Cond.fieldLink RX0 49 "StatueSquare$Ground" "benchCount" "I", Cond.fieldLink RX0 52 "StatueSquare$Ground" "thingCount" "I", Cond.fieldLink RX0 55 "StatueSquare$TextReader" "high" "I", Cond.fieldLink RX0 15 "StatueSquare$Ground" "rowOf" "[I", Cond.fieldLink RX0 18 "StatueSquare$Ground" "columnOf" "[I", Cond.fieldLink RX0 58 "StatueSquare$TextReader" "signs" "[I", Cond.fieldLink RX0 61 "StatueSquare$TextReader" "digits" "[I", Cond.fieldLink RX0 68 "StatueSquare$Ground" "cutThings" "I", Cond.fieldLink RX0 71 "StatueSquare$Ground" "yearNow" "I", Cond.fieldLink RX0 74 "StatueSquare$Ground" "isWinter" "Z", Cond.fieldLink RX0 36 "StatueSquare$Ground" "statueCell" "I", Cond.fieldLink RX0 78 "StatueSquare$Ground" "statueBlock" "I", Cond.methodLink RX0 64 yX0_layCell, Cond.instanceMethod yX0_layCell, Cond.selects RX0 yX0_layCell yX0_layCell, Cond.initialized RX0, Cond.code yX0_layCell cX0_layCell 4 none, Cond.fieldLink RX0 9 "StatueSquare$Ground" "has" "[I", Cond.methodLink RX0 81 yX0_layBench, Cond.instanceMethod yX0_layBench, Cond.selects RX0 yX0_layBench yX0_layBench]
def wsX0_layOut_r2 : List Cond := [Cond.code yX0_layBench cX0_layBench 2 none, Cond.fieldLink RX0 21 "StatueSquare$Ground" "benchCell" "[I", Cond.methodLink RX0 85 yX0_layThing, Cond.instanceMethod yX0_layThing, Cond.selects RX0 yX0_layThing yX0_layThing, Cond.code yX0_layThing cX0_layThing 4 none, Cond.fieldLink RX0 24 "StatueSquare$Ground" "kind" "[I", Cond.fieldLink RX0 27 "StatueSquare$Ground" "thingCell" "[I", Cond.fieldLink RX0 30 "StatueSquare$Ground" "tallAtFirst" "[I", Cond.fieldLink RX0 33 "StatueSquare$Ground" "cost" "[I"]
def wsX0_layOut : List Cond := .code yX0_layOut cX0_layOut 4 none :: ((wsX0_layOut_r1 ++ wsX0_layOut_r2) ++ wsX20 ++ wsX00)
def wsX0_isLaid : List Cond := .code yX0_isLaid cX0_isLaid 1 (some .boolean) :: ([.fieldLink RX0 46 "StatueSquare$Ground" "cellCount" "I"] ++ wsX00)
def wsX0_hasStatue : List Cond := .code yX0_hasStatue cX0_hasStatue 1 (some .boolean) :: ([.fieldLink RX0 36 "StatueSquare$Ground" "statueCell" "I"] ++ wsX00)
def wsX0_isFree : List Cond := .code yX0_isFree cX0_isFree 2 (some .boolean) :: ([.fieldLink RX0 9 "StatueSquare$Ground" "has" "[I"] ++ wsX00)
def wsX0_isThere : List Cond := .code yX0_isThere cX0_isThere 2 (some .boolean) :: ([.fieldLink RX0 68 "StatueSquare$Ground" "cutThings" "I"] ++ wsX00)
def wsX0_tallIn : List Cond := .code yX0_tallIn cX0_tallIn 4 (some .int) :: ([.fieldLink RX0 30 "StatueSquare$Ground" "tallAtFirst" "[I", .fieldLink RX0 24 "StatueSquare$Ground" "kind" "[I", .fieldLink RX0 74 "StatueSquare$Ground" "isWinter" "Z"] ++ wsX00)
def wsX0_stepsBetween : List Cond := .code yX0_stepsBetween cX0_stepsBetween 6 (some .int) :: ([.fieldLink RX0 15 "StatueSquare$Ground" "rowOf" "[I", .methodLink RX0 88 Lib.Math.abs.name, .static Lib.Math.abs.name, .initialized "java/lang/Math", .code Lib.Math.abs.name Lib.Math.abs.code 1 (some .int), .fieldLink RX0 18 "StatueSquare$Ground" "columnOf" "[I", .methodLink RX0 94 Lib.Math.max.name, .static Lib.Math.max.name, .code Lib.Math.max.name Lib.Math.max.code 2 (some .int)] ++ wsX00)
def wsX0_inTheWay_r1 : List Cond := [Cond.fieldLink RX0 21 "StatueSquare$Ground" "benchCell" "[I", Cond.fieldLink RX0 9 "StatueSquare$Ground" "has" "[I", Cond.methodLink RX0 98 yX0_stepsBetween, Cond.instanceMethod yX0_stepsBetween, Cond.selects RX0 yX0_stepsBetween yX0_stepsBetween, Cond.initialized RX0, Cond.code yX0_stepsBetween cX0_stepsBetween 6 (some .int), Cond.fieldLink RX0 15 "StatueSquare$Ground" "rowOf" "[I", Cond.methodLink RX0 88 Lib.Math.abs.name, Cond.static Lib.Math.abs.name, Cond.initialized "java/lang/Math", Cond.code Lib.Math.abs.name Lib.Math.abs.code 1 (some .int), Cond.fieldLink RX0 18 "StatueSquare$Ground" "columnOf" "[I", Cond.methodLink RX0 94 Lib.Math.max.name, Cond.static Lib.Math.max.name, Cond.code Lib.Math.max.name Lib.Math.max.code 2 (some .int), Cond.methodLink RX0 101 yX0_isThere, Cond.instanceMethod yX0_isThere, Cond.selects RX0 yX0_isThere yX0_isThere, Cond.code yX0_isThere cX0_isThere 2 (some .boolean), Cond.fieldLink RX0 68 "StatueSquare$Ground" "cutThings" "I", Cond.methodLink RX0 105 yX0_tallIn, Cond.instanceMethod yX0_tallIn, Cond.selects RX0 yX0_tallIn yX0_tallIn]
def wsX0_inTheWay_r2 : List Cond := [Cond.code yX0_tallIn cX0_tallIn 4 (some .int), Cond.fieldLink RX0 30 "StatueSquare$Ground" "tallAtFirst" "[I", Cond.fieldLink RX0 24 "StatueSquare$Ground" "kind" "[I", Cond.fieldLink RX0 74 "StatueSquare$Ground" "isWinter" "Z"]
def wsX0_inTheWay : List Cond := .code yX0_inTheWay cX0_inTheWay 12 (some .int) :: ((wsX0_inTheWay_r1 ++ wsX0_inTheWay_r2) ++ wsX00)
def wsX0_partsSeen_r1 : List Cond := [Cond.fieldLink RX0 78 "StatueSquare$Ground" "statueBlock" "I", Cond.fieldLink RX0 108 "StatueSquare$Ground" "PART_HEIGHTS" "[I", Cond.fieldLink RX0 71 "StatueSquare$Ground" "yearNow" "I", Cond.methodLink RX0 111 yX0_inTheWay, Cond.instanceMethod yX0_inTheWay, Cond.selects RX0 yX0_inTheWay yX0_inTheWay, Cond.initialized RX0, Cond.code yX0_inTheWay cX0_inTheWay 12 (some .int), Cond.fieldLink RX0 21 "StatueSquare$Ground" "benchCell" "[I", Cond.fieldLink RX0 9 "StatueSquare$Ground" "has" "[I", Cond.methodLink RX0 98 yX0_stepsBetween, Cond.instanceMethod yX0_stepsBetween, Cond.selects RX0 yX0_stepsBetween yX0_stepsBetween, Cond.code yX0_stepsBetween cX0_stepsBetween 6 (some .int), Cond.fieldLink RX0 15 "StatueSquare$Ground" "rowOf" "[I", Cond.methodLink RX0 88 Lib.Math.abs.name, Cond.static Lib.Math.abs.name, Cond.initialized "java/lang/Math", Cond.code Lib.Math.abs.name Lib.Math.abs.code 1 (some .int), Cond.fieldLink RX0 18 "StatueSquare$Ground" "columnOf" "[I", Cond.methodLink RX0 94 Lib.Math.max.name, Cond.static Lib.Math.max.name, Cond.code Lib.Math.max.name Lib.Math.max.code 2 (some .int), Cond.methodLink RX0 101 yX0_isThere]
def wsX0_partsSeen_r2 : List Cond := [Cond.instanceMethod yX0_isThere, Cond.selects RX0 yX0_isThere yX0_isThere, Cond.code yX0_isThere cX0_isThere 2 (some .boolean), Cond.fieldLink RX0 68 "StatueSquare$Ground" "cutThings" "I", Cond.methodLink RX0 105 yX0_tallIn, Cond.instanceMethod yX0_tallIn, Cond.selects RX0 yX0_tallIn yX0_tallIn, Cond.code yX0_tallIn cX0_tallIn 4 (some .int), Cond.fieldLink RX0 30 "StatueSquare$Ground" "tallAtFirst" "[I", Cond.fieldLink RX0 24 "StatueSquare$Ground" "kind" "[I", Cond.fieldLink RX0 74 "StatueSquare$Ground" "isWinter" "Z"]
def wsX0_partsSeen : List Cond := .code yX0_partsSeen cX0_partsSeen 5 (some .int) :: ((wsX0_partsSeen_r1 ++ wsX0_partsSeen_r2) ++ wsX00)
def wsJ6_bitCount_0f7a4 : List Cond := .code yJ6_bitCount_0f7a4 cJ6_bitCount_0f7a4 1 (some .int) :: ([.constant RJ6 265 (1431655765), .constant RJ6 266 (858993459), .constant RJ6 267 (252645135)])
def wsX0_partsSeenInAll_r1 : List Cond := [Cond.fieldLink RX0 49 "StatueSquare$Ground" "benchCount" "I", Cond.fieldLink RX0 36 "StatueSquare$Ground" "statueCell" "I", Cond.methodLink RX0 115 yX0_partsSeen, Cond.instanceMethod yX0_partsSeen, Cond.selects RX0 yX0_partsSeen yX0_partsSeen, Cond.initialized RX0, Cond.code yX0_partsSeen cX0_partsSeen 5 (some .int), Cond.fieldLink RX0 78 "StatueSquare$Ground" "statueBlock" "I", Cond.fieldLink RX0 108 "StatueSquare$Ground" "PART_HEIGHTS" "[I", Cond.fieldLink RX0 71 "StatueSquare$Ground" "yearNow" "I", Cond.methodLink RX0 111 yX0_inTheWay, Cond.instanceMethod yX0_inTheWay, Cond.selects RX0 yX0_inTheWay yX0_inTheWay, Cond.code yX0_inTheWay cX0_inTheWay 12 (some .int), Cond.fieldLink RX0 21 "StatueSquare$Ground" "benchCell" "[I", Cond.fieldLink RX0 9 "StatueSquare$Ground" "has" "[I", Cond.methodLink RX0 98 yX0_stepsBetween, Cond.instanceMethod yX0_stepsBetween, Cond.selects RX0 yX0_stepsBetween yX0_stepsBetween, Cond.code yX0_stepsBetween cX0_stepsBetween 6 (some .int), Cond.fieldLink RX0 15 "StatueSquare$Ground" "rowOf" "[I", Cond.methodLink RX0 88 Lib.Math.abs.name, Cond.static Lib.Math.abs.name, Cond.initialized "java/lang/Math"]
def wsX0_partsSeenInAll_r2 : List Cond := [Cond.code Lib.Math.abs.name Lib.Math.abs.code 1 (some .int), Cond.fieldLink RX0 18 "StatueSquare$Ground" "columnOf" "[I", Cond.methodLink RX0 94 Lib.Math.max.name, Cond.static Lib.Math.max.name, Cond.code Lib.Math.max.name Lib.Math.max.code 2 (some .int), Cond.methodLink RX0 101 yX0_isThere, Cond.instanceMethod yX0_isThere, Cond.selects RX0 yX0_isThere yX0_isThere, Cond.code yX0_isThere cX0_isThere 2 (some .boolean), Cond.fieldLink RX0 68 "StatueSquare$Ground" "cutThings" "I", Cond.methodLink RX0 105 yX0_tallIn, Cond.instanceMethod yX0_tallIn, Cond.selects RX0 yX0_tallIn yX0_tallIn, Cond.code yX0_tallIn cX0_tallIn 4 (some .int), Cond.fieldLink RX0 30 "StatueSquare$Ground" "tallAtFirst" "[I", Cond.fieldLink RX0 24 "StatueSquare$Ground" "kind" "[I", Cond.fieldLink RX0 74 "StatueSquare$Ground" "isWinter" "Z", Cond.methodLink RX0 118 yJ6_bitCount_0f7a4, Cond.static yJ6_bitCount_0f7a4, Cond.initialized RJ6, Cond.code yJ6_bitCount_0f7a4 cJ6_bitCount_0f7a4 1 (some .int), Cond.constant RJ6 265 (1431655765), Cond.constant RJ6 266 (858993459), Cond.constant RJ6 267 (252645135)]
def wsX0_partsSeenInAll : List Cond := .code yX0_partsSeenInAll cX0_partsSeenInAll 3 (some .int) :: ((wsX0_partsSeenInAll_r1 ++ wsX0_partsSeenInAll_r2) ++ wsX00)
def wsX0_hiders_r1 : List Cond := [Cond.fieldLink RX0 36 "StatueSquare$Ground" "statueCell" "I", Cond.fieldLink RX0 78 "StatueSquare$Ground" "statueBlock" "I", Cond.fieldLink RX0 71 "StatueSquare$Ground" "yearNow" "I", Cond.methodLink RX0 111 yX0_inTheWay, Cond.instanceMethod yX0_inTheWay, Cond.selects RX0 yX0_inTheWay yX0_inTheWay, Cond.initialized RX0, Cond.code yX0_inTheWay cX0_inTheWay 12 (some .int), Cond.fieldLink RX0 21 "StatueSquare$Ground" "benchCell" "[I", Cond.fieldLink RX0 9 "StatueSquare$Ground" "has" "[I", Cond.methodLink RX0 98 yX0_stepsBetween, Cond.instanceMethod yX0_stepsBetween, Cond.selects RX0 yX0_stepsBetween yX0_stepsBetween, Cond.code yX0_stepsBetween cX0_stepsBetween 6 (some .int), Cond.fieldLink RX0 15 "StatueSquare$Ground" "rowOf" "[I", Cond.methodLink RX0 88 Lib.Math.abs.name, Cond.static Lib.Math.abs.name, Cond.initialized "java/lang/Math", Cond.code Lib.Math.abs.name Lib.Math.abs.code 1 (some .int), Cond.fieldLink RX0 18 "StatueSquare$Ground" "columnOf" "[I", Cond.methodLink RX0 94 Lib.Math.max.name, Cond.static Lib.Math.max.name, Cond.code Lib.Math.max.name Lib.Math.max.code 2 (some .int), Cond.methodLink RX0 101 yX0_isThere]
def wsX0_hiders_r2 : List Cond := [Cond.instanceMethod yX0_isThere, Cond.selects RX0 yX0_isThere yX0_isThere, Cond.code yX0_isThere cX0_isThere 2 (some .boolean), Cond.fieldLink RX0 68 "StatueSquare$Ground" "cutThings" "I", Cond.methodLink RX0 105 yX0_tallIn, Cond.instanceMethod yX0_tallIn, Cond.selects RX0 yX0_tallIn yX0_tallIn, Cond.code yX0_tallIn cX0_tallIn 4 (some .int), Cond.fieldLink RX0 30 "StatueSquare$Ground" "tallAtFirst" "[I", Cond.fieldLink RX0 24 "StatueSquare$Ground" "kind" "[I", Cond.fieldLink RX0 74 "StatueSquare$Ground" "isWinter" "Z"]
def wsX0_hiders : List Cond := .code yX0_hiders cX0_hiders 2 (some .int) :: ((wsX0_hiders_r1 ++ wsX0_hiders_r2) ++ wsX00)
def wsX0_allHiders_r1 : List Cond := [Cond.fieldLink RX0 49 "StatueSquare$Ground" "benchCount" "I", Cond.methodLink RX0 123 yX0_hiders, Cond.instanceMethod yX0_hiders, Cond.selects RX0 yX0_hiders yX0_hiders, Cond.initialized RX0, Cond.code yX0_hiders cX0_hiders 2 (some .int), Cond.fieldLink RX0 36 "StatueSquare$Ground" "statueCell" "I", Cond.fieldLink RX0 78 "StatueSquare$Ground" "statueBlock" "I", Cond.fieldLink RX0 71 "StatueSquare$Ground" "yearNow" "I", Cond.methodLink RX0 111 yX0_inTheWay, Cond.instanceMethod yX0_inTheWay, Cond.selects RX0 yX0_inTheWay yX0_inTheWay, Cond.code yX0_inTheWay cX0_inTheWay 12 (some .int), Cond.fieldLink RX0 21 "StatueSquare$Ground" "benchCell" "[I", Cond.fieldLink RX0 9 "StatueSquare$Ground" "has" "[I", Cond.methodLink RX0 98 yX0_stepsBetween, Cond.instanceMethod yX0_stepsBetween, Cond.selects RX0 yX0_stepsBetween yX0_stepsBetween, Cond.code yX0_stepsBetween cX0_stepsBetween 6 (some .int), Cond.fieldLink RX0 15 "StatueSquare$Ground" "rowOf" "[I", Cond.methodLink RX0 88 Lib.Math.abs.name, Cond.static Lib.Math.abs.name, Cond.initialized "java/lang/Math", Cond.code Lib.Math.abs.name Lib.Math.abs.code 1 (some .int)]
def wsX0_allHiders_r2 : List Cond := [Cond.fieldLink RX0 18 "StatueSquare$Ground" "columnOf" "[I", Cond.methodLink RX0 94 Lib.Math.max.name, Cond.static Lib.Math.max.name, Cond.code Lib.Math.max.name Lib.Math.max.code 2 (some .int), Cond.methodLink RX0 101 yX0_isThere, Cond.instanceMethod yX0_isThere, Cond.selects RX0 yX0_isThere yX0_isThere, Cond.code yX0_isThere cX0_isThere 2 (some .boolean), Cond.fieldLink RX0 68 "StatueSquare$Ground" "cutThings" "I", Cond.methodLink RX0 105 yX0_tallIn, Cond.instanceMethod yX0_tallIn, Cond.selects RX0 yX0_tallIn yX0_tallIn, Cond.code yX0_tallIn cX0_tallIn 4 (some .int), Cond.fieldLink RX0 30 "StatueSquare$Ground" "tallAtFirst" "[I", Cond.fieldLink RX0 24 "StatueSquare$Ground" "kind" "[I", Cond.fieldLink RX0 74 "StatueSquare$Ground" "isWinter" "Z"]
def wsX0_allHiders : List Cond := .code yX0_allHiders cX0_allHiders 3 (some .int) :: ((wsX0_allHiders_r1 ++ wsX0_allHiders_r2) ++ wsX00)
def wsX0_costOf : List Cond := .code yX0_costOf cX0_costOf 4 (some .int) :: ([.fieldLink RX0 52 "StatueSquare$Ground" "thingCount" "I", .fieldLink RX0 33 "StatueSquare$Ground" "cost" "[I"] ++ wsX00)
def wsX0_complainers_r1 : List Cond := [Cond.fieldLink RX0 49 "StatueSquare$Ground" "benchCount" "I", Cond.fieldLink RX0 36 "StatueSquare$Ground" "statueCell" "I", Cond.fieldLink RX0 78 "StatueSquare$Ground" "statueBlock" "I", Cond.methodLink RX0 111 yX0_inTheWay, Cond.instanceMethod yX0_inTheWay, Cond.selects RX0 yX0_inTheWay yX0_inTheWay, Cond.initialized RX0, Cond.code yX0_inTheWay cX0_inTheWay 12 (some .int), Cond.fieldLink RX0 21 "StatueSquare$Ground" "benchCell" "[I", Cond.fieldLink RX0 9 "StatueSquare$Ground" "has" "[I", Cond.methodLink RX0 98 yX0_stepsBetween, Cond.instanceMethod yX0_stepsBetween, Cond.selects RX0 yX0_stepsBetween yX0_stepsBetween, Cond.code yX0_stepsBetween cX0_stepsBetween 6 (some .int), Cond.fieldLink RX0 15 "StatueSquare$Ground" "rowOf" "[I", Cond.methodLink RX0 88 Lib.Math.abs.name, Cond.static Lib.Math.abs.name, Cond.initialized "java/lang/Math", Cond.code Lib.Math.abs.name Lib.Math.abs.code 1 (some .int), Cond.fieldLink RX0 18 "StatueSquare$Ground" "columnOf" "[I", Cond.methodLink RX0 94 Lib.Math.max.name, Cond.static Lib.Math.max.name, Cond.code Lib.Math.max.name Lib.Math.max.code 2 (some .int), Cond.methodLink RX0 101 yX0_isThere]
def wsX0_complainers_r2 : List Cond := [Cond.instanceMethod yX0_isThere, Cond.selects RX0 yX0_isThere yX0_isThere, Cond.code yX0_isThere cX0_isThere 2 (some .boolean), Cond.fieldLink RX0 68 "StatueSquare$Ground" "cutThings" "I", Cond.methodLink RX0 105 yX0_tallIn, Cond.instanceMethod yX0_tallIn, Cond.selects RX0 yX0_tallIn yX0_tallIn, Cond.code yX0_tallIn cX0_tallIn 4 (some .int), Cond.fieldLink RX0 30 "StatueSquare$Ground" "tallAtFirst" "[I", Cond.fieldLink RX0 24 "StatueSquare$Ground" "kind" "[I", Cond.fieldLink RX0 74 "StatueSquare$Ground" "isWinter" "Z"]
def wsX0_complainers : List Cond := .code yX0_complainers cX0_complainers 5 (some .int) :: ((wsX0_complainers_r1 ++ wsX0_complainers_r2) ++ wsX00)
def wsX0_benchesThatSeeWhole_r1 : List Cond := [Cond.fieldLink RX0 49 "StatueSquare$Ground" "benchCount" "I", Cond.fieldLink RX0 71 "StatueSquare$Ground" "yearNow" "I", Cond.methodLink RX0 126 yX0_complainers, Cond.instanceMethod yX0_complainers, Cond.selects RX0 yX0_complainers yX0_complainers, Cond.initialized RX0, Cond.code yX0_complainers cX0_complainers 5 (some .int), Cond.fieldLink RX0 36 "StatueSquare$Ground" "statueCell" "I", Cond.fieldLink RX0 78 "StatueSquare$Ground" "statueBlock" "I", Cond.methodLink RX0 111 yX0_inTheWay, Cond.instanceMethod yX0_inTheWay, Cond.selects RX0 yX0_inTheWay yX0_inTheWay, Cond.code yX0_inTheWay cX0_inTheWay 12 (some .int), Cond.fieldLink RX0 21 "StatueSquare$Ground" "benchCell" "[I", Cond.fieldLink RX0 9 "StatueSquare$Ground" "has" "[I", Cond.methodLink RX0 98 yX0_stepsBetween, Cond.instanceMethod yX0_stepsBetween, Cond.selects RX0 yX0_stepsBetween yX0_stepsBetween, Cond.code yX0_stepsBetween cX0_stepsBetween 6 (some .int), Cond.fieldLink RX0 15 "StatueSquare$Ground" "rowOf" "[I", Cond.methodLink RX0 88 Lib.Math.abs.name, Cond.static Lib.Math.abs.name, Cond.initialized "java/lang/Math", Cond.code Lib.Math.abs.name Lib.Math.abs.code 1 (some .int)]
def wsX0_benchesThatSeeWhole_r2 : List Cond := [Cond.fieldLink RX0 18 "StatueSquare$Ground" "columnOf" "[I", Cond.methodLink RX0 94 Lib.Math.max.name, Cond.static Lib.Math.max.name, Cond.code Lib.Math.max.name Lib.Math.max.code 2 (some .int), Cond.methodLink RX0 101 yX0_isThere, Cond.instanceMethod yX0_isThere, Cond.selects RX0 yX0_isThere yX0_isThere, Cond.code yX0_isThere cX0_isThere 2 (some .boolean), Cond.fieldLink RX0 68 "StatueSquare$Ground" "cutThings" "I", Cond.methodLink RX0 105 yX0_tallIn, Cond.instanceMethod yX0_tallIn, Cond.selects RX0 yX0_tallIn yX0_tallIn, Cond.code yX0_tallIn cX0_tallIn 4 (some .int), Cond.fieldLink RX0 30 "StatueSquare$Ground" "tallAtFirst" "[I", Cond.fieldLink RX0 24 "StatueSquare$Ground" "kind" "[I", Cond.fieldLink RX0 74 "StatueSquare$Ground" "isWinter" "Z"]
def wsX0_benchesThatSeeWhole : List Cond := .code yX0_benchesThatSeeWhole cX0_benchesThatSeeWhole 1 (some .int) :: ((wsX0_benchesThatSeeWhole_r1 ++ wsX0_benchesThatSeeWhole_r2) ++ wsX00)
def wsX0_countWhole_r1 : List Cond := [Cond.fieldLink RX0 49 "StatueSquare$Ground" "benchCount" "I", Cond.fieldLink RX0 71 "StatueSquare$Ground" "yearNow" "I", Cond.methodLink RX0 111 yX0_inTheWay, Cond.instanceMethod yX0_inTheWay, Cond.selects RX0 yX0_inTheWay yX0_inTheWay, Cond.initialized RX0, Cond.code yX0_inTheWay cX0_inTheWay 12 (some .int), Cond.fieldLink RX0 21 "StatueSquare$Ground" "benchCell" "[I", Cond.fieldLink RX0 9 "StatueSquare$Ground" "has" "[I", Cond.methodLink RX0 98 yX0_stepsBetween, Cond.instanceMethod yX0_stepsBetween, Cond.selects RX0 yX0_stepsBetween yX0_stepsBetween, Cond.code yX0_stepsBetween cX0_stepsBetween 6 (some .int), Cond.fieldLink RX0 15 "StatueSquare$Ground" "rowOf" "[I", Cond.methodLink RX0 88 Lib.Math.abs.name, Cond.static Lib.Math.abs.name, Cond.initialized "java/lang/Math", Cond.code Lib.Math.abs.name Lib.Math.abs.code 1 (some .int), Cond.fieldLink RX0 18 "StatueSquare$Ground" "columnOf" "[I", Cond.methodLink RX0 94 Lib.Math.max.name, Cond.static Lib.Math.max.name, Cond.code Lib.Math.max.name Lib.Math.max.code 2 (some .int), Cond.methodLink RX0 101 yX0_isThere, Cond.instanceMethod yX0_isThere]
def wsX0_countWhole_r2 : List Cond := [Cond.selects RX0 yX0_isThere yX0_isThere, Cond.code yX0_isThere cX0_isThere 2 (some .boolean), Cond.fieldLink RX0 68 "StatueSquare$Ground" "cutThings" "I", Cond.methodLink RX0 105 yX0_tallIn, Cond.instanceMethod yX0_tallIn, Cond.selects RX0 yX0_tallIn yX0_tallIn, Cond.code yX0_tallIn cX0_tallIn 4 (some .int), Cond.fieldLink RX0 30 "StatueSquare$Ground" "tallAtFirst" "[I", Cond.fieldLink RX0 24 "StatueSquare$Ground" "kind" "[I", Cond.fieldLink RX0 74 "StatueSquare$Ground" "isWinter" "Z"]
def wsX0_countWhole : List Cond := .code yX0_countWhole cX0_countWhole 5 (some .int) :: ((wsX0_countWhole_r1 ++ wsX0_countWhole_r2) ++ wsX00)
def wsX0_bestCell_r1 : List Cond := [Cond.fieldLink RX0 46 "StatueSquare$Ground" "cellCount" "I", Cond.methodLink RX0 129 yX0_isFree, Cond.instanceMethod yX0_isFree, Cond.selects RX0 yX0_isFree yX0_isFree, Cond.initialized RX0, Cond.code yX0_isFree cX0_isFree 2 (some .boolean), Cond.fieldLink RX0 9 "StatueSquare$Ground" "has" "[I", Cond.methodLink RX0 132 yX0_countWhole, Cond.instanceMethod yX0_countWhole, Cond.selects RX0 yX0_countWhole yX0_countWhole, Cond.code yX0_countWhole cX0_countWhole 5 (some .int), Cond.fieldLink RX0 49 "StatueSquare$Ground" "benchCount" "I", Cond.fieldLink RX0 71 "StatueSquare$Ground" "yearNow" "I", Cond.methodLink RX0 111 yX0_inTheWay, Cond.instanceMethod yX0_inTheWay, Cond.selects RX0 yX0_inTheWay yX0_inTheWay, Cond.code yX0_inTheWay cX0_inTheWay 12 (some .int), Cond.fieldLink RX0 21 "StatueSquare$Ground" "benchCell" "[I", Cond.methodLink RX0 98 yX0_stepsBetween, Cond.instanceMethod yX0_stepsBetween, Cond.selects RX0 yX0_stepsBetween yX0_stepsBetween, Cond.code yX0_stepsBetween cX0_stepsBetween 6 (some .int), Cond.fieldLink RX0 15 "StatueSquare$Ground" "rowOf" "[I", Cond.methodLink RX0 88 Lib.Math.abs.name]
def wsX0_bestCell_r2 : List Cond := [Cond.static Lib.Math.abs.name, Cond.initialized "java/lang/Math", Cond.code Lib.Math.abs.name Lib.Math.abs.code 1 (some .int), Cond.fieldLink RX0 18 "StatueSquare$Ground" "columnOf" "[I", Cond.methodLink RX0 94 Lib.Math.max.name, Cond.static Lib.Math.max.name, Cond.code Lib.Math.max.name Lib.Math.max.code 2 (some .int), Cond.methodLink RX0 101 yX0_isThere, Cond.instanceMethod yX0_isThere, Cond.selects RX0 yX0_isThere yX0_isThere, Cond.code yX0_isThere cX0_isThere 2 (some .boolean), Cond.fieldLink RX0 68 "StatueSquare$Ground" "cutThings" "I", Cond.methodLink RX0 105 yX0_tallIn, Cond.instanceMethod yX0_tallIn, Cond.selects RX0 yX0_tallIn yX0_tallIn, Cond.code yX0_tallIn cX0_tallIn 4 (some .int), Cond.fieldLink RX0 30 "StatueSquare$Ground" "tallAtFirst" "[I", Cond.fieldLink RX0 24 "StatueSquare$Ground" "kind" "[I", Cond.fieldLink RX0 74 "StatueSquare$Ground" "isWinter" "Z"]
def wsX0_bestCell : List Cond := .code yX0_bestCell cX0_bestCell 6 (some .int) :: ((wsX0_bestCell_r1 ++ wsX0_bestCell_r2) ++ wsX00)
def wsX0_leastBlock_r1 : List Cond := [Cond.methodLink RX0 132 yX0_countWhole, Cond.instanceMethod yX0_countWhole, Cond.selects RX0 yX0_countWhole yX0_countWhole, Cond.initialized RX0, Cond.code yX0_countWhole cX0_countWhole 5 (some .int), Cond.fieldLink RX0 49 "StatueSquare$Ground" "benchCount" "I", Cond.fieldLink RX0 71 "StatueSquare$Ground" "yearNow" "I", Cond.methodLink RX0 111 yX0_inTheWay, Cond.instanceMethod yX0_inTheWay, Cond.selects RX0 yX0_inTheWay yX0_inTheWay, Cond.code yX0_inTheWay cX0_inTheWay 12 (some .int), Cond.fieldLink RX0 21 "StatueSquare$Ground" "benchCell" "[I", Cond.fieldLink RX0 9 "StatueSquare$Ground" "has" "[I", Cond.methodLink RX0 98 yX0_stepsBetween, Cond.instanceMethod yX0_stepsBetween, Cond.selects RX0 yX0_stepsBetween yX0_stepsBetween, Cond.code yX0_stepsBetween cX0_stepsBetween 6 (some .int), Cond.fieldLink RX0 15 "StatueSquare$Ground" "rowOf" "[I", Cond.methodLink RX0 88 Lib.Math.abs.name, Cond.static Lib.Math.abs.name, Cond.initialized "java/lang/Math", Cond.code Lib.Math.abs.name Lib.Math.abs.code 1 (some .int), Cond.fieldLink RX0 18 "StatueSquare$Ground" "columnOf" "[I", Cond.methodLink RX0 94 Lib.Math.max.name]
def wsX0_leastBlock_r2 : List Cond := [Cond.static Lib.Math.max.name, Cond.code Lib.Math.max.name Lib.Math.max.code 2 (some .int), Cond.methodLink RX0 101 yX0_isThere, Cond.instanceMethod yX0_isThere, Cond.selects RX0 yX0_isThere yX0_isThere, Cond.code yX0_isThere cX0_isThere 2 (some .boolean), Cond.fieldLink RX0 68 "StatueSquare$Ground" "cutThings" "I", Cond.methodLink RX0 105 yX0_tallIn, Cond.instanceMethod yX0_tallIn, Cond.selects RX0 yX0_tallIn yX0_tallIn, Cond.code yX0_tallIn cX0_tallIn 4 (some .int), Cond.fieldLink RX0 30 "StatueSquare$Ground" "tallAtFirst" "[I", Cond.fieldLink RX0 24 "StatueSquare$Ground" "kind" "[I", Cond.fieldLink RX0 74 "StatueSquare$Ground" "isWinter" "Z"]
def wsX0_leastBlock : List Cond := .code yX0_leastBlock cX0_leastBlock 6 (some .int) :: ((wsX0_leastBlock_r1 ++ wsX0_leastBlock_r2) ++ wsX00)
def wsX0_thingsThatLeave_r1 : List Cond := [Cond.fieldLink RX0 52 "StatueSquare$Ground" "thingCount" "I", Cond.fieldLink RX0 71 "StatueSquare$Ground" "yearNow" "I", Cond.methodLink RX0 101 yX0_isThere, Cond.instanceMethod yX0_isThere, Cond.selects RX0 yX0_isThere yX0_isThere, Cond.initialized RX0, Cond.code yX0_isThere cX0_isThere 2 (some .boolean), Cond.fieldLink RX0 68 "StatueSquare$Ground" "cutThings" "I", Cond.methodLink RX0 126 yX0_complainers, Cond.instanceMethod yX0_complainers, Cond.selects RX0 yX0_complainers yX0_complainers, Cond.code yX0_complainers cX0_complainers 5 (some .int), Cond.fieldLink RX0 49 "StatueSquare$Ground" "benchCount" "I", Cond.fieldLink RX0 36 "StatueSquare$Ground" "statueCell" "I", Cond.fieldLink RX0 78 "StatueSquare$Ground" "statueBlock" "I", Cond.methodLink RX0 111 yX0_inTheWay, Cond.instanceMethod yX0_inTheWay, Cond.selects RX0 yX0_inTheWay yX0_inTheWay, Cond.code yX0_inTheWay cX0_inTheWay 12 (some .int), Cond.fieldLink RX0 21 "StatueSquare$Ground" "benchCell" "[I", Cond.fieldLink RX0 9 "StatueSquare$Ground" "has" "[I", Cond.methodLink RX0 98 yX0_stepsBetween, Cond.instanceMethod yX0_stepsBetween, Cond.selects RX0 yX0_stepsBetween yX0_stepsBetween]
def wsX0_thingsThatLeave_r2 : List Cond := [Cond.code yX0_stepsBetween cX0_stepsBetween 6 (some .int), Cond.fieldLink RX0 15 "StatueSquare$Ground" "rowOf" "[I", Cond.methodLink RX0 88 Lib.Math.abs.name, Cond.static Lib.Math.abs.name, Cond.initialized "java/lang/Math", Cond.code Lib.Math.abs.name Lib.Math.abs.code 1 (some .int), Cond.fieldLink RX0 18 "StatueSquare$Ground" "columnOf" "[I", Cond.methodLink RX0 94 Lib.Math.max.name, Cond.static Lib.Math.max.name, Cond.code Lib.Math.max.name Lib.Math.max.code 2 (some .int), Cond.methodLink RX0 105 yX0_tallIn, Cond.instanceMethod yX0_tallIn, Cond.selects RX0 yX0_tallIn yX0_tallIn, Cond.code yX0_tallIn cX0_tallIn 4 (some .int), Cond.fieldLink RX0 30 "StatueSquare$Ground" "tallAtFirst" "[I", Cond.fieldLink RX0 24 "StatueSquare$Ground" "kind" "[I", Cond.fieldLink RX0 74 "StatueSquare$Ground" "isWinter" "Z"]
def wsX0_thingsThatLeave : List Cond := .code yX0_thingsThatLeave cX0_thingsThatLeave 4 (some .int) :: ((wsX0_thingsThatLeave_r1 ++ wsX0_thingsThatLeave_r2) ++ wsX00)
def wsX0_firstYearOfComplaint_r1 : List Cond := [Cond.fieldLink RX0 71 "StatueSquare$Ground" "yearNow" "I", Cond.methodLink RX0 126 yX0_complainers, Cond.instanceMethod yX0_complainers, Cond.selects RX0 yX0_complainers yX0_complainers, Cond.initialized RX0, Cond.code yX0_complainers cX0_complainers 5 (some .int), Cond.fieldLink RX0 49 "StatueSquare$Ground" "benchCount" "I", Cond.fieldLink RX0 36 "StatueSquare$Ground" "statueCell" "I", Cond.fieldLink RX0 78 "StatueSquare$Ground" "statueBlock" "I", Cond.methodLink RX0 111 yX0_inTheWay, Cond.instanceMethod yX0_inTheWay, Cond.selects RX0 yX0_inTheWay yX0_inTheWay, Cond.code yX0_inTheWay cX0_inTheWay 12 (some .int), Cond.fieldLink RX0 21 "StatueSquare$Ground" "benchCell" "[I", Cond.fieldLink RX0 9 "StatueSquare$Ground" "has" "[I", Cond.methodLink RX0 98 yX0_stepsBetween, Cond.instanceMethod yX0_stepsBetween, Cond.selects RX0 yX0_stepsBetween yX0_stepsBetween, Cond.code yX0_stepsBetween cX0_stepsBetween 6 (some .int), Cond.fieldLink RX0 15 "StatueSquare$Ground" "rowOf" "[I", Cond.methodLink RX0 88 Lib.Math.abs.name, Cond.static Lib.Math.abs.name, Cond.initialized "java/lang/Math", Cond.code Lib.Math.abs.name Lib.Math.abs.code 1 (some .int)]
def wsX0_firstYearOfComplaint_r2 : List Cond := [Cond.fieldLink RX0 18 "StatueSquare$Ground" "columnOf" "[I", Cond.methodLink RX0 94 Lib.Math.max.name, Cond.static Lib.Math.max.name, Cond.code Lib.Math.max.name Lib.Math.max.code 2 (some .int), Cond.methodLink RX0 101 yX0_isThere, Cond.instanceMethod yX0_isThere, Cond.selects RX0 yX0_isThere yX0_isThere, Cond.code yX0_isThere cX0_isThere 2 (some .boolean), Cond.fieldLink RX0 68 "StatueSquare$Ground" "cutThings" "I", Cond.methodLink RX0 105 yX0_tallIn, Cond.instanceMethod yX0_tallIn, Cond.selects RX0 yX0_tallIn yX0_tallIn, Cond.code yX0_tallIn cX0_tallIn 4 (some .int), Cond.fieldLink RX0 30 "StatueSquare$Ground" "tallAtFirst" "[I", Cond.fieldLink RX0 24 "StatueSquare$Ground" "kind" "[I", Cond.fieldLink RX0 74 "StatueSquare$Ground" "isWinter" "Z"]
def wsX0_firstYearOfComplaint : List Cond := .code yX0_firstYearOfComplaint cX0_firstYearOfComplaint 2 (some .int) :: ((wsX0_firstYearOfComplaint_r1 ++ wsX0_firstYearOfComplaint_r2) ++ wsX00)
def wsX0_isSeenFromAny_r1 : List Cond := [Cond.fieldLink RX0 49 "StatueSquare$Ground" "benchCount" "I", Cond.methodLink RX0 115 yX0_partsSeen, Cond.instanceMethod yX0_partsSeen, Cond.selects RX0 yX0_partsSeen yX0_partsSeen, Cond.initialized RX0, Cond.code yX0_partsSeen cX0_partsSeen 5 (some .int), Cond.fieldLink RX0 78 "StatueSquare$Ground" "statueBlock" "I", Cond.fieldLink RX0 108 "StatueSquare$Ground" "PART_HEIGHTS" "[I", Cond.fieldLink RX0 71 "StatueSquare$Ground" "yearNow" "I", Cond.methodLink RX0 111 yX0_inTheWay, Cond.instanceMethod yX0_inTheWay, Cond.selects RX0 yX0_inTheWay yX0_inTheWay, Cond.code yX0_inTheWay cX0_inTheWay 12 (some .int), Cond.fieldLink RX0 21 "StatueSquare$Ground" "benchCell" "[I", Cond.fieldLink RX0 9 "StatueSquare$Ground" "has" "[I", Cond.methodLink RX0 98 yX0_stepsBetween, Cond.instanceMethod yX0_stepsBetween, Cond.selects RX0 yX0_stepsBetween yX0_stepsBetween, Cond.code yX0_stepsBetween cX0_stepsBetween 6 (some .int), Cond.fieldLink RX0 15 "StatueSquare$Ground" "rowOf" "[I", Cond.methodLink RX0 88 Lib.Math.abs.name, Cond.static Lib.Math.abs.name, Cond.initialized "java/lang/Math", Cond.code Lib.Math.abs.name Lib.Math.abs.code 1 (some .int)]
def wsX0_isSeenFromAny_r2 : List Cond := [Cond.fieldLink RX0 18 "StatueSquare$Ground" "columnOf" "[I", Cond.methodLink RX0 94 Lib.Math.max.name, Cond.static Lib.Math.max.name, Cond.code Lib.Math.max.name Lib.Math.max.code 2 (some .int), Cond.methodLink RX0 101 yX0_isThere, Cond.instanceMethod yX0_isThere, Cond.selects RX0 yX0_isThere yX0_isThere, Cond.code yX0_isThere cX0_isThere 2 (some .boolean), Cond.fieldLink RX0 68 "StatueSquare$Ground" "cutThings" "I", Cond.methodLink RX0 105 yX0_tallIn, Cond.instanceMethod yX0_tallIn, Cond.selects RX0 yX0_tallIn yX0_tallIn, Cond.code yX0_tallIn cX0_tallIn 4 (some .int), Cond.fieldLink RX0 30 "StatueSquare$Ground" "tallAtFirst" "[I", Cond.fieldLink RX0 24 "StatueSquare$Ground" "kind" "[I", Cond.fieldLink RX0 74 "StatueSquare$Ground" "isWinter" "Z"]
def wsX0_isSeenFromAny : List Cond := .code yX0_isSeenFromAny cX0_isSeenFromAny 4 (some .boolean) :: ((wsX0_isSeenFromAny_r1 ++ wsX0_isSeenFromAny_r2) ++ wsX00)
def wsX0_unseenCells_r1 : List Cond := [Cond.fieldLink RX0 46 "StatueSquare$Ground" "cellCount" "I", Cond.fieldLink RX0 36 "StatueSquare$Ground" "statueCell" "I", Cond.methodLink RX0 135 yX0_benchesThatSeeWhole, Cond.instanceMethod yX0_benchesThatSeeWhole, Cond.selects RX0 yX0_benchesThatSeeWhole yX0_benchesThatSeeWhole, Cond.initialized RX0, Cond.code yX0_benchesThatSeeWhole cX0_benchesThatSeeWhole 1 (some .int), Cond.fieldLink RX0 49 "StatueSquare$Ground" "benchCount" "I", Cond.fieldLink RX0 71 "StatueSquare$Ground" "yearNow" "I", Cond.methodLink RX0 126 yX0_complainers, Cond.instanceMethod yX0_complainers, Cond.selects RX0 yX0_complainers yX0_complainers, Cond.code yX0_complainers cX0_complainers 5 (some .int), Cond.fieldLink RX0 78 "StatueSquare$Ground" "statueBlock" "I", Cond.methodLink RX0 111 yX0_inTheWay, Cond.instanceMethod yX0_inTheWay, Cond.selects RX0 yX0_inTheWay yX0_inTheWay, Cond.code yX0_inTheWay cX0_inTheWay 12 (some .int), Cond.fieldLink RX0 21 "StatueSquare$Ground" "benchCell" "[I", Cond.fieldLink RX0 9 "StatueSquare$Ground" "has" "[I", Cond.methodLink RX0 98 yX0_stepsBetween, Cond.instanceMethod yX0_stepsBetween, Cond.selects RX0 yX0_stepsBetween yX0_stepsBetween, Cond.code yX0_stepsBetween cX0_stepsBetween 6 (some .int)]
def wsX0_unseenCells_r2 : List Cond := [Cond.fieldLink RX0 15 "StatueSquare$Ground" "rowOf" "[I", Cond.methodLink RX0 88 Lib.Math.abs.name, Cond.static Lib.Math.abs.name, Cond.initialized "java/lang/Math", Cond.code Lib.Math.abs.name Lib.Math.abs.code 1 (some .int), Cond.fieldLink RX0 18 "StatueSquare$Ground" "columnOf" "[I", Cond.methodLink RX0 94 Lib.Math.max.name, Cond.static Lib.Math.max.name, Cond.code Lib.Math.max.name Lib.Math.max.code 2 (some .int), Cond.methodLink RX0 101 yX0_isThere, Cond.instanceMethod yX0_isThere, Cond.selects RX0 yX0_isThere yX0_isThere, Cond.code yX0_isThere cX0_isThere 2 (some .boolean), Cond.fieldLink RX0 68 "StatueSquare$Ground" "cutThings" "I", Cond.methodLink RX0 105 yX0_tallIn, Cond.instanceMethod yX0_tallIn, Cond.selects RX0 yX0_tallIn yX0_tallIn, Cond.code yX0_tallIn cX0_tallIn 4 (some .int), Cond.fieldLink RX0 30 "StatueSquare$Ground" "tallAtFirst" "[I", Cond.fieldLink RX0 24 "StatueSquare$Ground" "kind" "[I", Cond.fieldLink RX0 74 "StatueSquare$Ground" "isWinter" "Z", Cond.methodLink RX0 129 yX0_isFree, Cond.instanceMethod yX0_isFree, Cond.selects RX0 yX0_isFree yX0_isFree]
def wsX0_unseenCells_r3 : List Cond := [Cond.code yX0_isFree cX0_isFree 2 (some .boolean), Cond.methodLink RX0 139 yX0_isSeenFromAny, Cond.instanceMethod yX0_isSeenFromAny, Cond.selects RX0 yX0_isSeenFromAny yX0_isSeenFromAny, Cond.code yX0_isSeenFromAny cX0_isSeenFromAny 4 (some .boolean), Cond.methodLink RX0 115 yX0_partsSeen, Cond.instanceMethod yX0_partsSeen, Cond.selects RX0 yX0_partsSeen yX0_partsSeen, Cond.code yX0_partsSeen cX0_partsSeen 5 (some .int), Cond.fieldLink RX0 108 "StatueSquare$Ground" "PART_HEIGHTS" "[I"]
def wsX0_unseenCells : List Cond := .code yX0_unseenCells cX0_unseenCells 5 (some .long) :: ((wsX0_unseenCells_r1 ++ (wsX0_unseenCells_r2 ++ wsX0_unseenCells_r3)) ++ wsX00)
def wsX0_partsLitBy : List Cond := .code yX0_partsLitBy cX0_partsLitBy 7 (some .int) :: ([.fieldLink RX0 15 "StatueSquare$Ground" "rowOf" "[I", .fieldLink RX0 27 "StatueSquare$Ground" "thingCell" "[I", .fieldLink RX0 36 "StatueSquare$Ground" "statueCell" "I", .methodLink RX0 88 Lib.Math.abs.name, .static Lib.Math.abs.name, .initialized "java/lang/Math", .code Lib.Math.abs.name Lib.Math.abs.code 1 (some .int), .fieldLink RX0 18 "StatueSquare$Ground" "columnOf" "[I", .fieldLink RX0 24 "StatueSquare$Ground" "kind" "[I", .fieldLink RX0 78 "StatueSquare$Ground" "statueBlock" "I", .fieldLink RX0 108 "StatueSquare$Ground" "PART_HEIGHTS" "[I", .fieldLink RX0 71 "StatueSquare$Ground" "yearNow" "I", .methodLink RX0 101 yX0_isThere, .instanceMethod yX0_isThere, .selects RX0 yX0_isThere yX0_isThere, .initialized RX0, .code yX0_isThere cX0_isThere 2 (some .boolean), .fieldLink RX0 68 "StatueSquare$Ground" "cutThings" "I", .methodLink RX0 105 yX0_tallIn, .instanceMethod yX0_tallIn, .selects RX0 yX0_tallIn yX0_tallIn, .code yX0_tallIn cX0_tallIn 4 (some .int), .fieldLink RX0 30 "StatueSquare$Ground" "tallAtFirst" "[I", .fieldLink RX0 74 "StatueSquare$Ground" "isWinter" "Z"] ++ wsX00)
def wsX0_partsLitByAny_r1 : List Cond := [Cond.fieldLink RX0 52 "StatueSquare$Ground" "thingCount" "I", Cond.methodLink RX0 143 yX0_partsLitBy, Cond.instanceMethod yX0_partsLitBy, Cond.selects RX0 yX0_partsLitBy yX0_partsLitBy, Cond.initialized RX0, Cond.code yX0_partsLitBy cX0_partsLitBy 7 (some .int), Cond.fieldLink RX0 15 "StatueSquare$Ground" "rowOf" "[I", Cond.fieldLink RX0 27 "StatueSquare$Ground" "thingCell" "[I", Cond.fieldLink RX0 36 "StatueSquare$Ground" "statueCell" "I", Cond.methodLink RX0 88 Lib.Math.abs.name, Cond.static Lib.Math.abs.name, Cond.initialized "java/lang/Math", Cond.code Lib.Math.abs.name Lib.Math.abs.code 1 (some .int), Cond.fieldLink RX0 18 "StatueSquare$Ground" "columnOf" "[I", Cond.fieldLink RX0 24 "StatueSquare$Ground" "kind" "[I", Cond.fieldLink RX0 78 "StatueSquare$Ground" "statueBlock" "I", Cond.fieldLink RX0 108 "StatueSquare$Ground" "PART_HEIGHTS" "[I", Cond.fieldLink RX0 71 "StatueSquare$Ground" "yearNow" "I", Cond.methodLink RX0 101 yX0_isThere, Cond.instanceMethod yX0_isThere, Cond.selects RX0 yX0_isThere yX0_isThere, Cond.code yX0_isThere cX0_isThere 2 (some .boolean), Cond.fieldLink RX0 68 "StatueSquare$Ground" "cutThings" "I", Cond.methodLink RX0 105 yX0_tallIn]
def wsX0_partsLitByAny_r2 : List Cond := [Cond.instanceMethod yX0_tallIn, Cond.selects RX0 yX0_tallIn yX0_tallIn, Cond.code yX0_tallIn cX0_tallIn 4 (some .int), Cond.fieldLink RX0 30 "StatueSquare$Ground" "tallAtFirst" "[I", Cond.fieldLink RX0 74 "StatueSquare$Ground" "isWinter" "Z"]
def wsX0_partsLitByAny : List Cond := .code yX0_partsLitByAny cX0_partsLitByAny 3 (some .int) :: ((wsX0_partsLitByAny_r1 ++ wsX0_partsLitByAny_r2) ++ wsX00)
def wsX0_fewestLamps_r1 : List Cond := [Cond.fieldLink RX0 52 "StatueSquare$Ground" "thingCount" "I", Cond.methodLink RX0 146 yX0_partsLitByAny, Cond.instanceMethod yX0_partsLitByAny, Cond.selects RX0 yX0_partsLitByAny yX0_partsLitByAny, Cond.initialized RX0, Cond.code yX0_partsLitByAny cX0_partsLitByAny 3 (some .int), Cond.methodLink RX0 143 yX0_partsLitBy, Cond.instanceMethod yX0_partsLitBy, Cond.selects RX0 yX0_partsLitBy yX0_partsLitBy, Cond.code yX0_partsLitBy cX0_partsLitBy 7 (some .int), Cond.fieldLink RX0 15 "StatueSquare$Ground" "rowOf" "[I", Cond.fieldLink RX0 27 "StatueSquare$Ground" "thingCell" "[I", Cond.fieldLink RX0 36 "StatueSquare$Ground" "statueCell" "I", Cond.methodLink RX0 88 Lib.Math.abs.name, Cond.static Lib.Math.abs.name, Cond.initialized "java/lang/Math", Cond.code Lib.Math.abs.name Lib.Math.abs.code 1 (some .int), Cond.fieldLink RX0 18 "StatueSquare$Ground" "columnOf" "[I", Cond.fieldLink RX0 24 "StatueSquare$Ground" "kind" "[I", Cond.fieldLink RX0 78 "StatueSquare$Ground" "statueBlock" "I", Cond.fieldLink RX0 108 "StatueSquare$Ground" "PART_HEIGHTS" "[I", Cond.fieldLink RX0 71 "StatueSquare$Ground" "yearNow" "I", Cond.methodLink RX0 101 yX0_isThere, Cond.instanceMethod yX0_isThere]
def wsX0_fewestLamps_r2 : List Cond := [Cond.selects RX0 yX0_isThere yX0_isThere, Cond.code yX0_isThere cX0_isThere 2 (some .boolean), Cond.fieldLink RX0 68 "StatueSquare$Ground" "cutThings" "I", Cond.methodLink RX0 105 yX0_tallIn, Cond.instanceMethod yX0_tallIn, Cond.selects RX0 yX0_tallIn yX0_tallIn, Cond.code yX0_tallIn cX0_tallIn 4 (some .int), Cond.fieldLink RX0 30 "StatueSquare$Ground" "tallAtFirst" "[I", Cond.fieldLink RX0 74 "StatueSquare$Ground" "isWinter" "Z"]
def wsX0_fewestLamps : List Cond := .code yX0_fewestLamps cX0_fewestLamps 3 (some .int) :: ((wsX0_fewestLamps_r1 ++ wsX0_fewestLamps_r2) ++ wsX00)
def wsX1_init : List Cond := .code yX1_init cX1_init 1 none :: ([.methodLink RX1 3 objectInit, .instanceMethod objectInit, .code objectInit ⟨#[0xb1]⟩ 1 none, .arrayClass .int, .fieldLink RX1 9 "StatueSquare$Sheet" "row" "[I", .fieldLink RX1 15 "StatueSquare$Sheet" "hasRow" "Z", .fieldLink RX1 19 "StatueSquare$Sheet" "lane" "I", .fieldLink RX1 23 "StatueSquare$Sheet" "length" "I"] ++ wsX10)
def wsX1_renew : List Cond := .code yX1_renew cX1_renew 4 none :: ([.fieldLink RX1 15 "StatueSquare$Sheet" "hasRow" "Z", .fieldLink RX1 19 "StatueSquare$Sheet" "lane" "I", .fieldLink RX1 23 "StatueSquare$Sheet" "length" "I", .fieldLink RX1 9 "StatueSquare$Sheet" "row" "[I"] ++ wsX10)
def wsX1_write : List Cond := .code yX1_write cX1_write 3 none :: ([.fieldLink RX1 19 "StatueSquare$Sheet" "lane" "I", .fieldLink RX1 9 "StatueSquare$Sheet" "row" "[I"] ++ wsX10)
def wsX1_faultAsRow : List Cond := .code yX1_faultAsRow cX1_faultAsRow 2 (some .int) :: ([.fieldLink RX1 15 "StatueSquare$Sheet" "hasRow" "Z", .fieldLink RX1 19 "StatueSquare$Sheet" "lane" "I"] ++ wsX10)
def wsX1_hasSpan : List Cond := .code yX1_hasSpan cX1_hasSpan 3 (some .boolean) :: ([.fieldLink RX1 23 "StatueSquare$Sheet" "length" "I"] ++ wsX10)
def wsX2_init : List Cond := .code yX2_init cX2_init 1 none :: ([.methodLink RX2 3 objectInit, .instanceMethod objectInit, .code objectInit ⟨#[0xb1]⟩ 1 none, .arrayClass .int, .fieldLink RX2 9 "StatueSquare$TextReader" "signs" "[I", .fieldLink RX2 15 "StatueSquare$TextReader" "digits" "[I", .fieldLink RX2 18 "StatueSquare$TextReader" "codes" "[I"] ++ wsX20)
def wsX2_nextCode : List Cond := .code yX2_nextCode cX2_nextCode 1 (some .int) :: ([.fieldLink RX2 36 "StatueSquare$TextReader" "place" "I", .fieldLink RX2 32 "StatueSquare$TextReader" "length" "I", .fieldLink RX2 18 "StatueSquare$TextReader" "codes" "[I"] ++ wsX20)
def wsX2_takeSign : List Cond := .code yX2_takeSign cX2_takeSign 2 (some .boolean) :: ([.fieldLink RX2 36 "StatueSquare$TextReader" "place" "I", .methodLink RX2 66 yX2_nextCode, .instanceMethod yX2_nextCode, .selects RX2 yX2_nextCode yX2_nextCode, .initialized RX2, .code yX2_nextCode cX2_nextCode 1 (some .int), .fieldLink RX2 32 "StatueSquare$TextReader" "length" "I", .fieldLink RX2 18 "StatueSquare$TextReader" "codes" "[I"] ++ wsX20)
def wsX2_takeDigit : List Cond := .code yX2_takeDigit cX2_takeDigit 4 (some .int) :: ([.fieldLink RX2 36 "StatueSquare$TextReader" "place" "I", .methodLink RX2 66 yX2_nextCode, .instanceMethod yX2_nextCode, .selects RX2 yX2_nextCode yX2_nextCode, .initialized RX2, .code yX2_nextCode cX2_nextCode 1 (some .int), .fieldLink RX2 32 "StatueSquare$TextReader" "length" "I", .fieldLink RX2 18 "StatueSquare$TextReader" "codes" "[I"] ++ wsX20)
def wsX2_takeBench : List Cond := .code yX2_takeBench cX2_takeBench 1 (some .boolean) :: ([.fieldLink RX2 39 "StatueSquare$TextReader" "benches" "I", .fieldLink RX2 36 "StatueSquare$TextReader" "place" "I"] ++ wsX20)
def wsX2_takeThing : List Cond := .code yX2_takeThing cX2_takeThing 2 (some .boolean) :: ([.fieldLink RX2 42 "StatueSquare$TextReader" "things" "I", .fieldLink RX2 36 "StatueSquare$TextReader" "place" "I", .fieldLink RX2 15 "StatueSquare$TextReader" "digits" "[I", .methodLink RX2 49 yX2_takeDigit, .instanceMethod yX2_takeDigit, .selects RX2 yX2_takeDigit yX2_takeDigit, .initialized RX2, .code yX2_takeDigit cX2_takeDigit 4 (some .int), .methodLink RX2 66 yX2_nextCode, .instanceMethod yX2_nextCode, .selects RX2 yX2_nextCode yX2_nextCode, .code yX2_nextCode cX2_nextCode 1 (some .int), .fieldLink RX2 32 "StatueSquare$TextReader" "length" "I", .fieldLink RX2 18 "StatueSquare$TextReader" "codes" "[I"] ++ wsX20)
def wsX2_takeCell : List Cond := .code yX2_takeCell cX2_takeCell 3 (some .boolean) :: ([.fieldLink RX2 9 "StatueSquare$TextReader" "signs" "[I", .fieldLink RX2 36 "StatueSquare$TextReader" "place" "I", .methodLink RX2 66 yX2_nextCode, .instanceMethod yX2_nextCode, .selects RX2 yX2_nextCode yX2_nextCode, .initialized RX2, .code yX2_nextCode cX2_nextCode 1 (some .int), .fieldLink RX2 32 "StatueSquare$TextReader" "length" "I", .fieldLink RX2 18 "StatueSquare$TextReader" "codes" "[I", .methodLink RX2 70 yX2_takeBench, .instanceMethod yX2_takeBench, .selects RX2 yX2_takeBench yX2_takeBench, .code yX2_takeBench cX2_takeBench 1 (some .boolean), .fieldLink RX2 39 "StatueSquare$TextReader" "benches" "I", .methodLink RX2 73 yX2_takeThing, .instanceMethod yX2_takeThing, .selects RX2 yX2_takeThing yX2_takeThing, .code yX2_takeThing cX2_takeThing 2 (some .boolean), .fieldLink RX2 42 "StatueSquare$TextReader" "things" "I", .fieldLink RX2 15 "StatueSquare$TextReader" "digits" "[I", .methodLink RX2 49 yX2_takeDigit, .instanceMethod yX2_takeDigit, .selects RX2 yX2_takeDigit yX2_takeDigit, .code yX2_takeDigit cX2_takeDigit 4 (some .int)] ++ wsX20)
def wsX2_takeRows_r1 : List Cond := [Cond.fieldLink RX2 53 "StatueSquare$TextReader" "high" "I", Cond.fieldLink RX2 56 "StatueSquare$TextReader" "wide" "I", Cond.methodLink RX2 45 yX2_takeSign, Cond.instanceMethod yX2_takeSign, Cond.selects RX2 yX2_takeSign yX2_takeSign, Cond.initialized RX2, Cond.code yX2_takeSign cX2_takeSign 2 (some .boolean), Cond.fieldLink RX2 36 "StatueSquare$TextReader" "place" "I", Cond.methodLink RX2 66 yX2_nextCode, Cond.instanceMethod yX2_nextCode, Cond.selects RX2 yX2_nextCode yX2_nextCode, Cond.code yX2_nextCode cX2_nextCode 1 (some .int), Cond.fieldLink RX2 32 "StatueSquare$TextReader" "length" "I", Cond.fieldLink RX2 18 "StatueSquare$TextReader" "codes" "[I", Cond.methodLink RX2 63 yX2_takeCell, Cond.instanceMethod yX2_takeCell, Cond.selects RX2 yX2_takeCell yX2_takeCell, Cond.code yX2_takeCell cX2_takeCell 3 (some .boolean), Cond.fieldLink RX2 9 "StatueSquare$TextReader" "signs" "[I", Cond.methodLink RX2 70 yX2_takeBench, Cond.instanceMethod yX2_takeBench, Cond.selects RX2 yX2_takeBench yX2_takeBench, Cond.code yX2_takeBench cX2_takeBench 1 (some .boolean), Cond.fieldLink RX2 39 "StatueSquare$TextReader" "benches" "I"]
def wsX2_takeRows_r2 : List Cond := [Cond.methodLink RX2 73 yX2_takeThing, Cond.instanceMethod yX2_takeThing, Cond.selects RX2 yX2_takeThing yX2_takeThing, Cond.code yX2_takeThing cX2_takeThing 2 (some .boolean), Cond.fieldLink RX2 42 "StatueSquare$TextReader" "things" "I", Cond.fieldLink RX2 15 "StatueSquare$TextReader" "digits" "[I", Cond.methodLink RX2 49 yX2_takeDigit, Cond.instanceMethod yX2_takeDigit, Cond.selects RX2 yX2_takeDigit yX2_takeDigit, Cond.code yX2_takeDigit cX2_takeDigit 4 (some .int)]
def wsX2_takeRows : List Cond := .code yX2_takeRows cX2_takeRows 3 (some .boolean) :: ((wsX2_takeRows_r1 ++ wsX2_takeRows_r2) ++ wsX20)
def wsX2_read_r1 : List Cond := [Cond.fieldLink RX2 21 "StatueSquare$Sheet" "row" "[I", Cond.fieldLink RX2 18 "StatueSquare$TextReader" "codes" "[I", Cond.methodLink RX2 26 arraycopyName, Cond.native arraycopyName, Cond.static arraycopyName, Cond.initialized "java/lang/System", Cond.fieldLink RX2 32 "StatueSquare$TextReader" "length" "I", Cond.fieldLink RX2 36 "StatueSquare$TextReader" "place" "I", Cond.fieldLink RX2 39 "StatueSquare$TextReader" "benches" "I", Cond.fieldLink RX2 42 "StatueSquare$TextReader" "things" "I", Cond.fieldLink RX2 53 "StatueSquare$TextReader" "high" "I", Cond.fieldLink RX2 56 "StatueSquare$TextReader" "wide" "I", Cond.methodLink RX2 45 yX2_takeSign, Cond.instanceMethod yX2_takeSign, Cond.selects RX2 yX2_takeSign yX2_takeSign, Cond.initialized RX2, Cond.code yX2_takeSign cX2_takeSign 2 (some .boolean), Cond.methodLink RX2 66 yX2_nextCode, Cond.instanceMethod yX2_nextCode, Cond.selects RX2 yX2_nextCode yX2_nextCode, Cond.code yX2_nextCode cX2_nextCode 1 (some .int), Cond.methodLink RX2 49 yX2_takeDigit, Cond.instanceMethod yX2_takeDigit, Cond.selects RX2 yX2_takeDigit yX2_takeDigit]
def wsX2_read_r2 : List Cond := [Cond.code yX2_takeDigit cX2_takeDigit 4 (some .int), Cond.methodLink RX2 59 yX2_takeRows, Cond.instanceMethod yX2_takeRows, Cond.selects RX2 yX2_takeRows yX2_takeRows, Cond.code yX2_takeRows cX2_takeRows 3 (some .boolean), Cond.methodLink RX2 63 yX2_takeCell, Cond.instanceMethod yX2_takeCell, Cond.selects RX2 yX2_takeCell yX2_takeCell, Cond.code yX2_takeCell cX2_takeCell 3 (some .boolean), Cond.fieldLink RX2 9 "StatueSquare$TextReader" "signs" "[I", Cond.methodLink RX2 70 yX2_takeBench, Cond.instanceMethod yX2_takeBench, Cond.selects RX2 yX2_takeBench yX2_takeBench, Cond.code yX2_takeBench cX2_takeBench 1 (some .boolean), Cond.methodLink RX2 73 yX2_takeThing, Cond.instanceMethod yX2_takeThing, Cond.selects RX2 yX2_takeThing yX2_takeThing, Cond.code yX2_takeThing cX2_takeThing 2 (some .boolean), Cond.fieldLink RX2 15 "StatueSquare$TextReader" "digits" "[I"]
def wsX2_read : List Cond := .code yX2_read cX2_read 5 (some .int) :: ((wsX2_read_r1 ++ wsX2_read_r2) ++ wsX10 ++ wsX20)
def wsX3_init_r1 : List Cond := [Cond.methodLink RX3 3 objectInit, Cond.instanceMethod objectInit, Cond.code objectInit ⟨#[0xb1]⟩ 1 none, Cond.classLink RX3 11 RX1, Cond.fieldLink RX3 13 "StatueSquare" "sheets" "[LStatueSquare$Sheet;", Cond.instantiable RX1 4, Cond.initialized RX1, Cond.classLink RX3 18 RX2, Cond.instantiable RX2 9, Cond.initialized RX2, Cond.fieldLink RX3 21 "StatueSquare" "reader" "LStatueSquare$TextReader;", Cond.classLink RX3 25 RX0, Cond.instantiable RX0 17, Cond.initialized RX0, Cond.fieldLink RX3 28 "StatueSquare" "ground" "LStatueSquare$Ground;", Cond.fieldLink RX3 32 "StatueSquare" "traced" "I", Cond.fieldLink RX3 36 "StatueSquare" "latestFault" "I", Cond.methodLink RX3 17 yX1_init, Cond.instanceMethod yX1_init, Cond.code yX1_init cX1_init 1 none, Cond.methodLink RX1 3 objectInit, Cond.arrayClass .int, Cond.fieldLink RX1 9 "StatueSquare$Sheet" "row" "[I", Cond.fieldLink RX1 15 "StatueSquare$Sheet" "hasRow" "Z"]
def wsX3_init_r2 : List Cond := [Cond.fieldLink RX1 19 "StatueSquare$Sheet" "lane" "I", Cond.fieldLink RX1 23 "StatueSquare$Sheet" "length" "I", Cond.methodLink RX3 20 yX2_init, Cond.instanceMethod yX2_init, Cond.code yX2_init cX2_init 1 none, Cond.methodLink RX2 3 objectInit, Cond.fieldLink RX2 9 "StatueSquare$TextReader" "signs" "[I", Cond.fieldLink RX2 15 "StatueSquare$TextReader" "digits" "[I", Cond.fieldLink RX2 18 "StatueSquare$TextReader" "codes" "[I", Cond.methodLink RX3 27 yX0_init, Cond.instanceMethod yX0_init, Cond.code yX0_init cX0_init 1 none, Cond.methodLink RX0 3 objectInit, Cond.fieldLink RX0 9 "StatueSquare$Ground" "has" "[I", Cond.fieldLink RX0 15 "StatueSquare$Ground" "rowOf" "[I", Cond.fieldLink RX0 18 "StatueSquare$Ground" "columnOf" "[I", Cond.fieldLink RX0 21 "StatueSquare$Ground" "benchCell" "[I", Cond.fieldLink RX0 24 "StatueSquare$Ground" "kind" "[I", Cond.fieldLink RX0 27 "StatueSquare$Ground" "thingCell" "[I", Cond.fieldLink RX0 30 "StatueSquare$Ground" "tallAtFirst" "[I", Cond.fieldLink RX0 33 "StatueSquare$Ground" "cost" "[I", Cond.fieldLink RX0 36 "StatueSquare$Ground" "statueCell" "I"]
def wsX3_init : List Cond := .code yX3_init cX3_init 2 none :: ((wsX3_init_r1 ++ wsX3_init_r2) ++ wsX30 ++ wsX10 ++ wsX20 ++ wsX00)
def wsX3_isBelow : List Cond := .code yX3_isBelow cX3_isBelow 2 (some .boolean) :: ([])
def wsX3_failed : List Cond := .code yX3_failed cX3_failed 2 (some .int) :: ([.fieldLink RX3 36 "StatueSquare" "latestFault" "I"] ++ wsX30)
def wsX3_square_r1 : List Cond := [Cond.fieldLink RX3 36 "StatueSquare" "latestFault" "I", Cond.fieldLink RX3 13 "StatueSquare" "sheets" "[LStatueSquare$Sheet;", Cond.fieldLink RX3 21 "StatueSquare" "reader" "LStatueSquare$TextReader;", Cond.fieldLink RX3 28 "StatueSquare" "ground" "LStatueSquare$Ground;", Cond.fieldLink RX3 61 "StatueSquare$Ground" "cellCount" "I", Cond.methodLink RX3 39 yX3_isBelow, Cond.static yX3_isBelow, Cond.initialized RX3, Cond.code yX3_isBelow cX3_isBelow 2 (some .boolean), Cond.methodLink RX3 43 yX1_faultAsRow, Cond.instanceMethod yX1_faultAsRow, Cond.selects RX1 yX1_faultAsRow yX1_faultAsRow, Cond.initialized RX1, Cond.code yX1_faultAsRow cX1_faultAsRow 2 (some .int), Cond.fieldLink RX1 15 "StatueSquare$Sheet" "hasRow" "Z", Cond.fieldLink RX1 19 "StatueSquare$Sheet" "lane" "I", Cond.methodLink RX3 47 yX1_hasSpan, Cond.instanceMethod yX1_hasSpan, Cond.selects RX1 yX1_hasSpan yX1_hasSpan, Cond.code yX1_hasSpan cX1_hasSpan 3 (some .boolean), Cond.fieldLink RX1 23 "StatueSquare$Sheet" "length" "I", Cond.methodLink RX3 50 yX3_failed, Cond.instanceMethod yX3_failed, Cond.selects RX3 yX3_failed yX3_failed]
def wsX3_square_r2 : List Cond := [Cond.code yX3_failed cX3_failed 2 (some .int), Cond.methodLink RX3 53 yX2_read, Cond.instanceMethod yX2_read, Cond.selects RX2 yX2_read yX2_read, Cond.initialized RX2, Cond.code yX2_read cX2_read 5 (some .int), Cond.fieldLink RX2 21 "StatueSquare$Sheet" "row" "[I", Cond.fieldLink RX2 18 "StatueSquare$TextReader" "codes" "[I", Cond.methodLink RX2 26 arraycopyName, Cond.native arraycopyName, Cond.static arraycopyName, Cond.initialized "java/lang/System", Cond.fieldLink RX2 32 "StatueSquare$TextReader" "length" "I", Cond.fieldLink RX2 36 "StatueSquare$TextReader" "place" "I", Cond.fieldLink RX2 39 "StatueSquare$TextReader" "benches" "I", Cond.fieldLink RX2 42 "StatueSquare$TextReader" "things" "I", Cond.fieldLink RX2 53 "StatueSquare$TextReader" "high" "I", Cond.fieldLink RX2 56 "StatueSquare$TextReader" "wide" "I", Cond.methodLink RX2 45 yX2_takeSign, Cond.instanceMethod yX2_takeSign, Cond.selects RX2 yX2_takeSign yX2_takeSign, Cond.code yX2_takeSign cX2_takeSign 2 (some .boolean), Cond.methodLink RX2 66 yX2_nextCode, Cond.instanceMethod yX2_nextCode]
def wsX3_square_r3 : List Cond := [Cond.selects RX2 yX2_nextCode yX2_nextCode, Cond.code yX2_nextCode cX2_nextCode 1 (some .int), Cond.methodLink RX2 49 yX2_takeDigit, Cond.instanceMethod yX2_takeDigit, Cond.selects RX2 yX2_takeDigit yX2_takeDigit, Cond.code yX2_takeDigit cX2_takeDigit 4 (some .int), Cond.methodLink RX2 59 yX2_takeRows, Cond.instanceMethod yX2_takeRows, Cond.selects RX2 yX2_takeRows yX2_takeRows, Cond.code yX2_takeRows cX2_takeRows 3 (some .boolean), Cond.methodLink RX2 63 yX2_takeCell, Cond.instanceMethod yX2_takeCell, Cond.selects RX2 yX2_takeCell yX2_takeCell, Cond.code yX2_takeCell cX2_takeCell 3 (some .boolean), Cond.fieldLink RX2 9 "StatueSquare$TextReader" "signs" "[I", Cond.methodLink RX2 70 yX2_takeBench, Cond.instanceMethod yX2_takeBench, Cond.selects RX2 yX2_takeBench yX2_takeBench, Cond.code yX2_takeBench cX2_takeBench 1 (some .boolean), Cond.methodLink RX2 73 yX2_takeThing, Cond.instanceMethod yX2_takeThing, Cond.selects RX2 yX2_takeThing yX2_takeThing, Cond.code yX2_takeThing cX2_takeThing 2 (some .boolean), Cond.fieldLink RX2 15 "StatueSquare$TextReader" "digits" "[I"]
def wsX3_square_r4 : List Cond := [Cond.methodLink RX3 57 yX0_layOut, Cond.instanceMethod yX0_layOut, Cond.selects RX0 yX0_layOut yX0_layOut, Cond.initialized RX0, Cond.code yX0_layOut cX0_layOut 4 none, Cond.fieldLink RX0 40 "StatueSquare$TextReader" "wide" "I", Cond.fieldLink RX0 45 "StatueSquare$Ground" "wide" "I", Cond.fieldLink RX0 46 "StatueSquare$Ground" "cellCount" "I", Cond.fieldLink RX0 49 "StatueSquare$Ground" "benchCount" "I", Cond.fieldLink RX0 52 "StatueSquare$Ground" "thingCount" "I", Cond.fieldLink RX0 55 "StatueSquare$TextReader" "high" "I", Cond.fieldLink RX0 15 "StatueSquare$Ground" "rowOf" "[I", Cond.fieldLink RX0 18 "StatueSquare$Ground" "columnOf" "[I", Cond.fieldLink RX0 58 "StatueSquare$TextReader" "signs" "[I", Cond.fieldLink RX0 61 "StatueSquare$TextReader" "digits" "[I", Cond.fieldLink RX0 68 "StatueSquare$Ground" "cutThings" "I", Cond.fieldLink RX0 71 "StatueSquare$Ground" "yearNow" "I", Cond.fieldLink RX0 74 "StatueSquare$Ground" "isWinter" "Z", Cond.fieldLink RX0 36 "StatueSquare$Ground" "statueCell" "I", Cond.fieldLink RX0 78 "StatueSquare$Ground" "statueBlock" "I", Cond.methodLink RX0 64 yX0_layCell, Cond.instanceMethod yX0_layCell, Cond.selects RX0 yX0_layCell yX0_layCell, Cond.code yX0_layCell cX0_layCell 4 none]
def wsX3_square_r5 : List Cond := [Cond.fieldLink RX0 9 "StatueSquare$Ground" "has" "[I", Cond.methodLink RX0 81 yX0_layBench, Cond.instanceMethod yX0_layBench, Cond.selects RX0 yX0_layBench yX0_layBench, Cond.code yX0_layBench cX0_layBench 2 none, Cond.fieldLink RX0 21 "StatueSquare$Ground" "benchCell" "[I", Cond.methodLink RX0 85 yX0_layThing, Cond.instanceMethod yX0_layThing, Cond.selects RX0 yX0_layThing yX0_layThing, Cond.code yX0_layThing cX0_layThing 4 none, Cond.fieldLink RX0 24 "StatueSquare$Ground" "kind" "[I", Cond.fieldLink RX0 27 "StatueSquare$Ground" "thingCell" "[I", Cond.fieldLink RX0 30 "StatueSquare$Ground" "tallAtFirst" "[I", Cond.fieldLink RX0 33 "StatueSquare$Ground" "cost" "[I"]
def wsX3_square : List Cond := .code yX3_square cX3_square 8 (some .int) :: ((wsX3_square_r1 ++ (wsX3_square_r2 ++ (wsX3_square_r3 ++ (wsX3_square_r4 ++ wsX3_square_r5)))) ++ wsX30 ++ wsX00 ++ wsX10 ++ wsX20)
def wsX3_cellHas : List Cond := .code yX3_cellHas cX3_cellHas 2 (some .int) :: ([.fieldLink RX3 28 "StatueSquare" "ground" "LStatueSquare$Ground;", .fieldLink RX3 61 "StatueSquare$Ground" "cellCount" "I", .fieldLink RX3 64 "StatueSquare$Ground" "has" "[I", .methodLink RX3 39 yX3_isBelow, .static yX3_isBelow, .initialized RX3, .code yX3_isBelow cX3_isBelow 2 (some .boolean)] ++ wsX30 ++ wsX00)
def wsX3_ofThing : List Cond := .code yX3_ofThing cX3_ofThing 3 (some .int) :: ([.fieldLink RX3 28 "StatueSquare" "ground" "LStatueSquare$Ground;", .fieldLink RX3 68 "StatueSquare$Ground" "thingCount" "I", .fieldLink RX3 71 "StatueSquare$Ground" "kind" "[I", .fieldLink RX3 74 "StatueSquare$Ground" "thingCell" "[I", .fieldLink RX3 77 "StatueSquare$Ground" "tallAtFirst" "[I", .fieldLink RX3 80 "StatueSquare$Ground" "yearNow" "I", .fieldLink RX3 91 "StatueSquare$Ground" "cost" "[I", .methodLink RX3 39 yX3_isBelow, .static yX3_isBelow, .initialized RX3, .code yX3_isBelow cX3_isBelow 2 (some .boolean), .methodLink RX3 83 yX0_tallIn, .instanceMethod yX0_tallIn, .selects RX0 yX0_tallIn yX0_tallIn, .initialized RX0, .code yX0_tallIn cX0_tallIn 4 (some .int), .fieldLink RX0 30 "StatueSquare$Ground" "tallAtFirst" "[I", .fieldLink RX0 24 "StatueSquare$Ground" "kind" "[I", .fieldLink RX0 74 "StatueSquare$Ground" "isWinter" "Z", .methodLink RX3 87 yX0_isThere, .instanceMethod yX0_isThere, .selects RX0 yX0_isThere yX0_isThere, .code yX0_isThere cX0_isThere 2 (some .boolean), .fieldLink RX0 68 "StatueSquare$Ground" "cutThings" "I"] ++ wsX30 ++ wsX00)
def wsX3_bench : List Cond := .code yX3_bench cX3_bench 2 (some .int) :: ([.fieldLink RX3 28 "StatueSquare" "ground" "LStatueSquare$Ground;", .fieldLink RX3 94 "StatueSquare$Ground" "benchCount" "I", .fieldLink RX3 97 "StatueSquare$Ground" "benchCell" "[I", .methodLink RX3 39 yX3_isBelow, .static yX3_isBelow, .initialized RX3, .code yX3_isBelow cX3_isBelow 2 (some .boolean)] ++ wsX30 ++ wsX00)
def wsX3_year : List Cond := .code yX3_year cX3_year 4 (some .int) :: ([.fieldLink RX3 28 "StatueSquare" "ground" "LStatueSquare$Ground;", .fieldLink RX3 80 "StatueSquare$Ground" "yearNow" "I", .fieldLink RX3 104 "StatueSquare$Ground" "isWinter" "Z", .methodLink RX3 39 yX3_isBelow, .static yX3_isBelow, .initialized RX3, .code yX3_isBelow cX3_isBelow 2 (some .boolean), .methodLink RX3 100 yX0_isLaid, .instanceMethod yX0_isLaid, .selects RX0 yX0_isLaid yX0_isLaid, .initialized RX0, .code yX0_isLaid cX0_isLaid 1 (some .boolean), .fieldLink RX0 46 "StatueSquare$Ground" "cellCount" "I"] ++ wsX30 ++ wsX00)
def wsX3_cut : List Cond := .code yX3_cut cX3_cut 3 (some .int) :: ([.fieldLink RX3 28 "StatueSquare" "ground" "LStatueSquare$Ground;", .fieldLink RX3 68 "StatueSquare$Ground" "thingCount" "I", .fieldLink RX3 108 "StatueSquare$Ground" "cutThings" "I", .methodLink RX3 39 yX3_isBelow, .static yX3_isBelow, .initialized RX3, .code yX3_isBelow cX3_isBelow 2 (some .boolean), .methodLink RX3 87 yX0_isThere, .instanceMethod yX0_isThere, .selects RX0 yX0_isThere yX0_isThere, .initialized RX0, .code yX0_isThere cX0_isThere 2 (some .boolean), .fieldLink RX0 68 "StatueSquare$Ground" "cutThings" "I"] ++ wsX30 ++ wsX00)
def wsX3_price : List Cond := .code yX3_price cX3_price 4 (some .int) :: ([.fieldLink RX3 28 "StatueSquare" "ground" "LStatueSquare$Ground;", .fieldLink RX3 68 "StatueSquare$Ground" "thingCount" "I", .fieldLink RX3 91 "StatueSquare$Ground" "cost" "[I", .methodLink RX3 39 yX3_isBelow, .static yX3_isBelow, .initialized RX3, .code yX3_isBelow cX3_isBelow 2 (some .boolean)] ++ wsX30 ++ wsX00)
def wsX3_statue : List Cond := .code yX3_statue cX3_statue 4 (some .int) :: ([.fieldLink RX3 28 "StatueSquare" "ground" "LStatueSquare$Ground;", .fieldLink RX3 61 "StatueSquare$Ground" "cellCount" "I", .fieldLink RX3 114 "StatueSquare$Ground" "statueCell" "I", .fieldLink RX3 117 "StatueSquare$Ground" "statueBlock" "I", .methodLink RX3 39 yX3_isBelow, .static yX3_isBelow, .initialized RX3, .code yX3_isBelow cX3_isBelow 2 (some .boolean), .methodLink RX3 111 yX0_isFree, .instanceMethod yX0_isFree, .selects RX0 yX0_isFree yX0_isFree, .initialized RX0, .code yX0_isFree cX0_isFree 2 (some .boolean), .fieldLink RX0 9 "StatueSquare$Ground" "has" "[I"] ++ wsX30 ++ wsX00)
def wsX3_seen_r1 : List Cond := [Cond.fieldLink RX3 28 "StatueSquare" "ground" "LStatueSquare$Ground;", Cond.fieldLink RX3 94 "StatueSquare$Ground" "benchCount" "I", Cond.fieldLink RX3 114 "StatueSquare$Ground" "statueCell" "I", Cond.methodLink RX3 39 yX3_isBelow, Cond.static yX3_isBelow, Cond.initialized RX3, Cond.code yX3_isBelow cX3_isBelow 2 (some .boolean), Cond.methodLink RX3 120 yX0_hasStatue, Cond.instanceMethod yX0_hasStatue, Cond.selects RX0 yX0_hasStatue yX0_hasStatue, Cond.initialized RX0, Cond.code yX0_hasStatue cX0_hasStatue 1 (some .boolean), Cond.fieldLink RX0 36 "StatueSquare$Ground" "statueCell" "I", Cond.methodLink RX3 123 yX0_partsSeen, Cond.instanceMethod yX0_partsSeen, Cond.selects RX0 yX0_partsSeen yX0_partsSeen, Cond.code yX0_partsSeen cX0_partsSeen 5 (some .int), Cond.fieldLink RX0 78 "StatueSquare$Ground" "statueBlock" "I", Cond.fieldLink RX0 108 "StatueSquare$Ground" "PART_HEIGHTS" "[I", Cond.fieldLink RX0 71 "StatueSquare$Ground" "yearNow" "I", Cond.methodLink RX0 111 yX0_inTheWay, Cond.instanceMethod yX0_inTheWay, Cond.selects RX0 yX0_inTheWay yX0_inTheWay, Cond.code yX0_inTheWay cX0_inTheWay 12 (some .int)]
def wsX3_seen_r2 : List Cond := [Cond.fieldLink RX0 21 "StatueSquare$Ground" "benchCell" "[I", Cond.fieldLink RX0 9 "StatueSquare$Ground" "has" "[I", Cond.methodLink RX0 98 yX0_stepsBetween, Cond.instanceMethod yX0_stepsBetween, Cond.selects RX0 yX0_stepsBetween yX0_stepsBetween, Cond.code yX0_stepsBetween cX0_stepsBetween 6 (some .int), Cond.fieldLink RX0 15 "StatueSquare$Ground" "rowOf" "[I", Cond.methodLink RX0 88 Lib.Math.abs.name, Cond.static Lib.Math.abs.name, Cond.initialized "java/lang/Math", Cond.code Lib.Math.abs.name Lib.Math.abs.code 1 (some .int), Cond.fieldLink RX0 18 "StatueSquare$Ground" "columnOf" "[I", Cond.methodLink RX0 94 Lib.Math.max.name, Cond.static Lib.Math.max.name, Cond.code Lib.Math.max.name Lib.Math.max.code 2 (some .int), Cond.methodLink RX0 101 yX0_isThere, Cond.instanceMethod yX0_isThere, Cond.selects RX0 yX0_isThere yX0_isThere, Cond.code yX0_isThere cX0_isThere 2 (some .boolean), Cond.fieldLink RX0 68 "StatueSquare$Ground" "cutThings" "I", Cond.methodLink RX0 105 yX0_tallIn, Cond.instanceMethod yX0_tallIn, Cond.selects RX0 yX0_tallIn yX0_tallIn, Cond.code yX0_tallIn cX0_tallIn 4 (some .int)]
def wsX3_seen_r3 : List Cond := [Cond.fieldLink RX0 30 "StatueSquare$Ground" "tallAtFirst" "[I", Cond.fieldLink RX0 24 "StatueSquare$Ground" "kind" "[I", Cond.fieldLink RX0 74 "StatueSquare$Ground" "isWinter" "Z"]
def wsX3_seen : List Cond := .code yX3_seen cX3_seen 2 (some .int) :: ((wsX3_seen_r1 ++ (wsX3_seen_r2 ++ wsX3_seen_r3)) ++ wsX30 ++ wsX00)
def wsX3_whole_r1 : List Cond := [Cond.fieldLink RX3 28 "StatueSquare" "ground" "LStatueSquare$Ground;", Cond.methodLink RX3 120 yX0_hasStatue, Cond.instanceMethod yX0_hasStatue, Cond.selects RX0 yX0_hasStatue yX0_hasStatue, Cond.initialized RX0, Cond.code yX0_hasStatue cX0_hasStatue 1 (some .boolean), Cond.fieldLink RX0 36 "StatueSquare$Ground" "statueCell" "I", Cond.methodLink RX3 126 yX0_benchesThatSeeWhole, Cond.instanceMethod yX0_benchesThatSeeWhole, Cond.selects RX0 yX0_benchesThatSeeWhole yX0_benchesThatSeeWhole, Cond.code yX0_benchesThatSeeWhole cX0_benchesThatSeeWhole 1 (some .int), Cond.fieldLink RX0 49 "StatueSquare$Ground" "benchCount" "I", Cond.fieldLink RX0 71 "StatueSquare$Ground" "yearNow" "I", Cond.methodLink RX0 126 yX0_complainers, Cond.instanceMethod yX0_complainers, Cond.selects RX0 yX0_complainers yX0_complainers, Cond.code yX0_complainers cX0_complainers 5 (some .int), Cond.fieldLink RX0 78 "StatueSquare$Ground" "statueBlock" "I", Cond.methodLink RX0 111 yX0_inTheWay, Cond.instanceMethod yX0_inTheWay, Cond.selects RX0 yX0_inTheWay yX0_inTheWay, Cond.code yX0_inTheWay cX0_inTheWay 12 (some .int), Cond.fieldLink RX0 21 "StatueSquare$Ground" "benchCell" "[I", Cond.fieldLink RX0 9 "StatueSquare$Ground" "has" "[I"]
def wsX3_whole_r2 : List Cond := [Cond.methodLink RX0 98 yX0_stepsBetween, Cond.instanceMethod yX0_stepsBetween, Cond.selects RX0 yX0_stepsBetween yX0_stepsBetween, Cond.code yX0_stepsBetween cX0_stepsBetween 6 (some .int), Cond.fieldLink RX0 15 "StatueSquare$Ground" "rowOf" "[I", Cond.methodLink RX0 88 Lib.Math.abs.name, Cond.static Lib.Math.abs.name, Cond.initialized "java/lang/Math", Cond.code Lib.Math.abs.name Lib.Math.abs.code 1 (some .int), Cond.fieldLink RX0 18 "StatueSquare$Ground" "columnOf" "[I", Cond.methodLink RX0 94 Lib.Math.max.name, Cond.static Lib.Math.max.name, Cond.code Lib.Math.max.name Lib.Math.max.code 2 (some .int), Cond.methodLink RX0 101 yX0_isThere, Cond.instanceMethod yX0_isThere, Cond.selects RX0 yX0_isThere yX0_isThere, Cond.code yX0_isThere cX0_isThere 2 (some .boolean), Cond.fieldLink RX0 68 "StatueSquare$Ground" "cutThings" "I", Cond.methodLink RX0 105 yX0_tallIn, Cond.instanceMethod yX0_tallIn, Cond.selects RX0 yX0_tallIn yX0_tallIn, Cond.code yX0_tallIn cX0_tallIn 4 (some .int), Cond.fieldLink RX0 30 "StatueSquare$Ground" "tallAtFirst" "[I", Cond.fieldLink RX0 24 "StatueSquare$Ground" "kind" "[I"]
def wsX3_whole_r3 : List Cond := [Cond.fieldLink RX0 74 "StatueSquare$Ground" "isWinter" "Z"]
def wsX3_whole : List Cond := .code yX3_whole cX3_whole 1 (some .int) :: ((wsX3_whole_r1 ++ (wsX3_whole_r2 ++ wsX3_whole_r3)) ++ wsX30 ++ wsX00)
def wsX3_hidden_r1 : List Cond := [Cond.fieldLink RX3 28 "StatueSquare" "ground" "LStatueSquare$Ground;", Cond.fieldLink RX3 94 "StatueSquare$Ground" "benchCount" "I", Cond.methodLink RX3 39 yX3_isBelow, Cond.static yX3_isBelow, Cond.initialized RX3, Cond.code yX3_isBelow cX3_isBelow 2 (some .boolean), Cond.methodLink RX3 120 yX0_hasStatue, Cond.instanceMethod yX0_hasStatue, Cond.selects RX0 yX0_hasStatue yX0_hasStatue, Cond.initialized RX0, Cond.code yX0_hasStatue cX0_hasStatue 1 (some .boolean), Cond.fieldLink RX0 36 "StatueSquare$Ground" "statueCell" "I", Cond.methodLink RX3 130 yX0_hiders, Cond.instanceMethod yX0_hiders, Cond.selects RX0 yX0_hiders yX0_hiders, Cond.code yX0_hiders cX0_hiders 2 (some .int), Cond.fieldLink RX0 78 "StatueSquare$Ground" "statueBlock" "I", Cond.fieldLink RX0 71 "StatueSquare$Ground" "yearNow" "I", Cond.methodLink RX0 111 yX0_inTheWay, Cond.instanceMethod yX0_inTheWay, Cond.selects RX0 yX0_inTheWay yX0_inTheWay, Cond.code yX0_inTheWay cX0_inTheWay 12 (some .int), Cond.fieldLink RX0 21 "StatueSquare$Ground" "benchCell" "[I", Cond.fieldLink RX0 9 "StatueSquare$Ground" "has" "[I"]
def wsX3_hidden_r2 : List Cond := [Cond.methodLink RX0 98 yX0_stepsBetween, Cond.instanceMethod yX0_stepsBetween, Cond.selects RX0 yX0_stepsBetween yX0_stepsBetween, Cond.code yX0_stepsBetween cX0_stepsBetween 6 (some .int), Cond.fieldLink RX0 15 "StatueSquare$Ground" "rowOf" "[I", Cond.methodLink RX0 88 Lib.Math.abs.name, Cond.static Lib.Math.abs.name, Cond.initialized "java/lang/Math", Cond.code Lib.Math.abs.name Lib.Math.abs.code 1 (some .int), Cond.fieldLink RX0 18 "StatueSquare$Ground" "columnOf" "[I", Cond.methodLink RX0 94 Lib.Math.max.name, Cond.static Lib.Math.max.name, Cond.code Lib.Math.max.name Lib.Math.max.code 2 (some .int), Cond.methodLink RX0 101 yX0_isThere, Cond.instanceMethod yX0_isThere, Cond.selects RX0 yX0_isThere yX0_isThere, Cond.code yX0_isThere cX0_isThere 2 (some .boolean), Cond.fieldLink RX0 68 "StatueSquare$Ground" "cutThings" "I", Cond.methodLink RX0 105 yX0_tallIn, Cond.instanceMethod yX0_tallIn, Cond.selects RX0 yX0_tallIn yX0_tallIn, Cond.code yX0_tallIn cX0_tallIn 4 (some .int), Cond.fieldLink RX0 30 "StatueSquare$Ground" "tallAtFirst" "[I", Cond.fieldLink RX0 24 "StatueSquare$Ground" "kind" "[I"]
def wsX3_hidden_r3 : List Cond := [Cond.fieldLink RX0 74 "StatueSquare$Ground" "isWinter" "Z"]
def wsX3_hidden : List Cond := .code yX3_hidden cX3_hidden 2 (some .int) :: ((wsX3_hidden_r1 ++ (wsX3_hidden_r2 ++ wsX3_hidden_r3)) ++ wsX30 ++ wsX00)
def wsX3_greatestDivisor : List Cond := .code yX3_greatestDivisor cX3_greatestDivisor 3 (some .int) :: ([])
def wsX3_sight_r1 : List Cond := [Cond.fieldLink RX3 28 "StatueSquare" "ground" "LStatueSquare$Ground;", Cond.constantLong RX3 133 (-9223372036854775808), Cond.fieldLink RX3 94 "StatueSquare$Ground" "benchCount" "I", Cond.methodLink RX3 138 Lib.Math.max.name, Cond.static Lib.Math.max.name, Cond.initialized "java/lang/Math", Cond.code Lib.Math.max.name Lib.Math.max.code 2 (some .int), Cond.methodLink RX3 39 yX3_isBelow, Cond.static yX3_isBelow, Cond.initialized RX3, Cond.code yX3_isBelow cX3_isBelow 2 (some .boolean), Cond.methodLink RX3 120 yX0_hasStatue, Cond.instanceMethod yX0_hasStatue, Cond.selects RX0 yX0_hasStatue yX0_hasStatue, Cond.initialized RX0, Cond.code yX0_hasStatue cX0_hasStatue 1 (some .boolean), Cond.fieldLink RX0 36 "StatueSquare$Ground" "statueCell" "I", Cond.methodLink RX3 135 yX0_partsSeenInAll, Cond.instanceMethod yX0_partsSeenInAll, Cond.selects RX0 yX0_partsSeenInAll yX0_partsSeenInAll, Cond.code yX0_partsSeenInAll cX0_partsSeenInAll 3 (some .int), Cond.fieldLink RX0 49 "StatueSquare$Ground" "benchCount" "I", Cond.methodLink RX0 115 yX0_partsSeen, Cond.instanceMethod yX0_partsSeen]
def wsX3_sight_r2 : List Cond := [Cond.selects RX0 yX0_partsSeen yX0_partsSeen, Cond.code yX0_partsSeen cX0_partsSeen 5 (some .int), Cond.fieldLink RX0 78 "StatueSquare$Ground" "statueBlock" "I", Cond.fieldLink RX0 108 "StatueSquare$Ground" "PART_HEIGHTS" "[I", Cond.fieldLink RX0 71 "StatueSquare$Ground" "yearNow" "I", Cond.methodLink RX0 111 yX0_inTheWay, Cond.instanceMethod yX0_inTheWay, Cond.selects RX0 yX0_inTheWay yX0_inTheWay, Cond.code yX0_inTheWay cX0_inTheWay 12 (some .int), Cond.fieldLink RX0 21 "StatueSquare$Ground" "benchCell" "[I", Cond.fieldLink RX0 9 "StatueSquare$Ground" "has" "[I", Cond.methodLink RX0 98 yX0_stepsBetween, Cond.instanceMethod yX0_stepsBetween, Cond.selects RX0 yX0_stepsBetween yX0_stepsBetween, Cond.code yX0_stepsBetween cX0_stepsBetween 6 (some .int), Cond.fieldLink RX0 15 "StatueSquare$Ground" "rowOf" "[I", Cond.methodLink RX0 88 Lib.Math.abs.name, Cond.static Lib.Math.abs.name, Cond.code Lib.Math.abs.name Lib.Math.abs.code 1 (some .int), Cond.fieldLink RX0 18 "StatueSquare$Ground" "columnOf" "[I", Cond.methodLink RX0 94 Lib.Math.max.name, Cond.methodLink RX0 101 yX0_isThere, Cond.instanceMethod yX0_isThere, Cond.selects RX0 yX0_isThere yX0_isThere]
def wsX3_sight_r3 : List Cond := [Cond.code yX0_isThere cX0_isThere 2 (some .boolean), Cond.fieldLink RX0 68 "StatueSquare$Ground" "cutThings" "I", Cond.methodLink RX0 105 yX0_tallIn, Cond.instanceMethod yX0_tallIn, Cond.selects RX0 yX0_tallIn yX0_tallIn, Cond.code yX0_tallIn cX0_tallIn 4 (some .int), Cond.fieldLink RX0 30 "StatueSquare$Ground" "tallAtFirst" "[I", Cond.fieldLink RX0 24 "StatueSquare$Ground" "kind" "[I", Cond.fieldLink RX0 74 "StatueSquare$Ground" "isWinter" "Z", Cond.methodLink RX0 118 yJ6_bitCount_0f7a4, Cond.static yJ6_bitCount_0f7a4, Cond.initialized RJ6, Cond.code yJ6_bitCount_0f7a4 cJ6_bitCount_0f7a4 1 (some .int), Cond.constant RJ6 265 (1431655765), Cond.constant RJ6 266 (858993459), Cond.constant RJ6 267 (252645135), Cond.methodLink RX3 143 yX3_greatestDivisor, Cond.static yX3_greatestDivisor, Cond.code yX3_greatestDivisor cX3_greatestDivisor 3 (some .int)]
def wsX3_sight : List Cond := .code yX3_sight cX3_sight 4 (some .long) :: ((wsX3_sight_r1 ++ (wsX3_sight_r2 ++ wsX3_sight_r3)) ++ wsX30 ++ wsX00)
def wsX3_best_r1 : List Cond := [Cond.fieldLink RX3 28 "StatueSquare" "ground" "LStatueSquare$Ground;", Cond.methodLink RX3 39 yX3_isBelow, Cond.static yX3_isBelow, Cond.initialized RX3, Cond.code yX3_isBelow cX3_isBelow 2 (some .boolean), Cond.methodLink RX3 100 yX0_isLaid, Cond.instanceMethod yX0_isLaid, Cond.selects RX0 yX0_isLaid yX0_isLaid, Cond.initialized RX0, Cond.code yX0_isLaid cX0_isLaid 1 (some .boolean), Cond.fieldLink RX0 46 "StatueSquare$Ground" "cellCount" "I", Cond.methodLink RX3 146 yX0_bestCell, Cond.instanceMethod yX0_bestCell, Cond.selects RX0 yX0_bestCell yX0_bestCell, Cond.code yX0_bestCell cX0_bestCell 6 (some .int), Cond.methodLink RX0 129 yX0_isFree, Cond.instanceMethod yX0_isFree, Cond.selects RX0 yX0_isFree yX0_isFree, Cond.code yX0_isFree cX0_isFree 2 (some .boolean), Cond.fieldLink RX0 9 "StatueSquare$Ground" "has" "[I", Cond.methodLink RX0 132 yX0_countWhole, Cond.instanceMethod yX0_countWhole, Cond.selects RX0 yX0_countWhole yX0_countWhole, Cond.code yX0_countWhole cX0_countWhole 5 (some .int)]
def wsX3_best_r2 : List Cond := [Cond.fieldLink RX0 49 "StatueSquare$Ground" "benchCount" "I", Cond.fieldLink RX0 71 "StatueSquare$Ground" "yearNow" "I", Cond.methodLink RX0 111 yX0_inTheWay, Cond.instanceMethod yX0_inTheWay, Cond.selects RX0 yX0_inTheWay yX0_inTheWay, Cond.code yX0_inTheWay cX0_inTheWay 12 (some .int), Cond.fieldLink RX0 21 "StatueSquare$Ground" "benchCell" "[I", Cond.methodLink RX0 98 yX0_stepsBetween, Cond.instanceMethod yX0_stepsBetween, Cond.selects RX0 yX0_stepsBetween yX0_stepsBetween, Cond.code yX0_stepsBetween cX0_stepsBetween 6 (some .int), Cond.fieldLink RX0 15 "StatueSquare$Ground" "rowOf" "[I", Cond.methodLink RX0 88 Lib.Math.abs.name, Cond.static Lib.Math.abs.name, Cond.initialized "java/lang/Math", Cond.code Lib.Math.abs.name Lib.Math.abs.code 1 (some .int), Cond.fieldLink RX0 18 "StatueSquare$Ground" "columnOf" "[I", Cond.methodLink RX0 94 Lib.Math.max.name, Cond.static Lib.Math.max.name, Cond.code Lib.Math.max.name Lib.Math.max.code 2 (some .int), Cond.methodLink RX0 101 yX0_isThere, Cond.instanceMethod yX0_isThere, Cond.selects RX0 yX0_isThere yX0_isThere, Cond.code yX0_isThere cX0_isThere 2 (some .boolean)]
def wsX3_best_r3 : List Cond := [Cond.fieldLink RX0 68 "StatueSquare$Ground" "cutThings" "I", Cond.methodLink RX0 105 yX0_tallIn, Cond.instanceMethod yX0_tallIn, Cond.selects RX0 yX0_tallIn yX0_tallIn, Cond.code yX0_tallIn cX0_tallIn 4 (some .int), Cond.fieldLink RX0 30 "StatueSquare$Ground" "tallAtFirst" "[I", Cond.fieldLink RX0 24 "StatueSquare$Ground" "kind" "[I", Cond.fieldLink RX0 74 "StatueSquare$Ground" "isWinter" "Z", Cond.methodLink RX3 149 yX0_countWhole]
def wsX3_best : List Cond := .code yX3_best cX3_best 4 (some .int) :: ((wsX3_best_r1 ++ (wsX3_best_r2 ++ wsX3_best_r3)) ++ wsX30 ++ wsX00)
def wsX3_block_r1 : List Cond := [Cond.fieldLink RX3 28 "StatueSquare" "ground" "LStatueSquare$Ground;", Cond.fieldLink RX3 61 "StatueSquare$Ground" "cellCount" "I", Cond.methodLink RX3 39 yX3_isBelow, Cond.static yX3_isBelow, Cond.initialized RX3, Cond.code yX3_isBelow cX3_isBelow 2 (some .boolean), Cond.methodLink RX3 111 yX0_isFree, Cond.instanceMethod yX0_isFree, Cond.selects RX0 yX0_isFree yX0_isFree, Cond.initialized RX0, Cond.code yX0_isFree cX0_isFree 2 (some .boolean), Cond.fieldLink RX0 9 "StatueSquare$Ground" "has" "[I", Cond.methodLink RX3 152 yX0_leastBlock, Cond.instanceMethod yX0_leastBlock, Cond.selects RX0 yX0_leastBlock yX0_leastBlock, Cond.code yX0_leastBlock cX0_leastBlock 6 (some .int), Cond.methodLink RX0 132 yX0_countWhole, Cond.instanceMethod yX0_countWhole, Cond.selects RX0 yX0_countWhole yX0_countWhole, Cond.code yX0_countWhole cX0_countWhole 5 (some .int), Cond.fieldLink RX0 49 "StatueSquare$Ground" "benchCount" "I", Cond.fieldLink RX0 71 "StatueSquare$Ground" "yearNow" "I", Cond.methodLink RX0 111 yX0_inTheWay, Cond.instanceMethod yX0_inTheWay]
def wsX3_block_r2 : List Cond := [Cond.selects RX0 yX0_inTheWay yX0_inTheWay, Cond.code yX0_inTheWay cX0_inTheWay 12 (some .int), Cond.fieldLink RX0 21 "StatueSquare$Ground" "benchCell" "[I", Cond.methodLink RX0 98 yX0_stepsBetween, Cond.instanceMethod yX0_stepsBetween, Cond.selects RX0 yX0_stepsBetween yX0_stepsBetween, Cond.code yX0_stepsBetween cX0_stepsBetween 6 (some .int), Cond.fieldLink RX0 15 "StatueSquare$Ground" "rowOf" "[I", Cond.methodLink RX0 88 Lib.Math.abs.name, Cond.static Lib.Math.abs.name, Cond.initialized "java/lang/Math", Cond.code Lib.Math.abs.name Lib.Math.abs.code 1 (some .int), Cond.fieldLink RX0 18 "StatueSquare$Ground" "columnOf" "[I", Cond.methodLink RX0 94 Lib.Math.max.name, Cond.static Lib.Math.max.name, Cond.code Lib.Math.max.name Lib.Math.max.code 2 (some .int), Cond.methodLink RX0 101 yX0_isThere, Cond.instanceMethod yX0_isThere, Cond.selects RX0 yX0_isThere yX0_isThere, Cond.code yX0_isThere cX0_isThere 2 (some .boolean), Cond.fieldLink RX0 68 "StatueSquare$Ground" "cutThings" "I", Cond.methodLink RX0 105 yX0_tallIn, Cond.instanceMethod yX0_tallIn, Cond.selects RX0 yX0_tallIn yX0_tallIn]
def wsX3_block_r3 : List Cond := [Cond.code yX0_tallIn cX0_tallIn 4 (some .int), Cond.fieldLink RX0 30 "StatueSquare$Ground" "tallAtFirst" "[I", Cond.fieldLink RX0 24 "StatueSquare$Ground" "kind" "[I", Cond.fieldLink RX0 74 "StatueSquare$Ground" "isWinter" "Z", Cond.methodLink RX3 149 yX0_countWhole]
def wsX3_block : List Cond := .code yX3_block cX3_block 4 (some .int) :: ((wsX3_block_r1 ++ (wsX3_block_r2 ++ wsX3_block_r3)) ++ wsX30 ++ wsX00)
def wsX3_cuts_r1 : List Cond := [Cond.fieldLink RX3 28 "StatueSquare" "ground" "LStatueSquare$Ground;", Cond.methodLink RX3 39 yX3_isBelow, Cond.static yX3_isBelow, Cond.initialized RX3, Cond.code yX3_isBelow cX3_isBelow 2 (some .boolean), Cond.methodLink RX3 120 yX0_hasStatue, Cond.instanceMethod yX0_hasStatue, Cond.selects RX0 yX0_hasStatue yX0_hasStatue, Cond.initialized RX0, Cond.code yX0_hasStatue cX0_hasStatue 1 (some .boolean), Cond.fieldLink RX0 36 "StatueSquare$Ground" "statueCell" "I", Cond.methodLink RX3 155 yX0_allHiders, Cond.instanceMethod yX0_allHiders, Cond.selects RX0 yX0_allHiders yX0_allHiders, Cond.code yX0_allHiders cX0_allHiders 3 (some .int), Cond.fieldLink RX0 49 "StatueSquare$Ground" "benchCount" "I", Cond.methodLink RX0 123 yX0_hiders, Cond.instanceMethod yX0_hiders, Cond.selects RX0 yX0_hiders yX0_hiders, Cond.code yX0_hiders cX0_hiders 2 (some .int), Cond.fieldLink RX0 78 "StatueSquare$Ground" "statueBlock" "I", Cond.fieldLink RX0 71 "StatueSquare$Ground" "yearNow" "I", Cond.methodLink RX0 111 yX0_inTheWay, Cond.instanceMethod yX0_inTheWay]
def wsX3_cuts_r2 : List Cond := [Cond.selects RX0 yX0_inTheWay yX0_inTheWay, Cond.code yX0_inTheWay cX0_inTheWay 12 (some .int), Cond.fieldLink RX0 21 "StatueSquare$Ground" "benchCell" "[I", Cond.fieldLink RX0 9 "StatueSquare$Ground" "has" "[I", Cond.methodLink RX0 98 yX0_stepsBetween, Cond.instanceMethod yX0_stepsBetween, Cond.selects RX0 yX0_stepsBetween yX0_stepsBetween, Cond.code yX0_stepsBetween cX0_stepsBetween 6 (some .int), Cond.fieldLink RX0 15 "StatueSquare$Ground" "rowOf" "[I", Cond.methodLink RX0 88 Lib.Math.abs.name, Cond.static Lib.Math.abs.name, Cond.initialized "java/lang/Math", Cond.code Lib.Math.abs.name Lib.Math.abs.code 1 (some .int), Cond.fieldLink RX0 18 "StatueSquare$Ground" "columnOf" "[I", Cond.methodLink RX0 94 Lib.Math.max.name, Cond.static Lib.Math.max.name, Cond.code Lib.Math.max.name Lib.Math.max.code 2 (some .int), Cond.methodLink RX0 101 yX0_isThere, Cond.instanceMethod yX0_isThere, Cond.selects RX0 yX0_isThere yX0_isThere, Cond.code yX0_isThere cX0_isThere 2 (some .boolean), Cond.fieldLink RX0 68 "StatueSquare$Ground" "cutThings" "I", Cond.methodLink RX0 105 yX0_tallIn, Cond.instanceMethod yX0_tallIn]
def wsX3_cuts_r3 : List Cond := [Cond.selects RX0 yX0_tallIn yX0_tallIn, Cond.code yX0_tallIn cX0_tallIn 4 (some .int), Cond.fieldLink RX0 30 "StatueSquare$Ground" "tallAtFirst" "[I", Cond.fieldLink RX0 24 "StatueSquare$Ground" "kind" "[I", Cond.fieldLink RX0 74 "StatueSquare$Ground" "isWinter" "Z", Cond.methodLink RX3 158 yX0_costOf, Cond.instanceMethod yX0_costOf, Cond.selects RX0 yX0_costOf yX0_costOf, Cond.code yX0_costOf cX0_costOf 4 (some .int), Cond.fieldLink RX0 52 "StatueSquare$Ground" "thingCount" "I", Cond.fieldLink RX0 33 "StatueSquare$Ground" "cost" "[I"]
def wsX3_cuts : List Cond := .code yX3_cuts cX3_cuts 3 (some .int) :: ((wsX3_cuts_r1 ++ (wsX3_cuts_r2 ++ wsX3_cuts_r3)) ++ wsX30 ++ wsX00)
def wsX3_complaints_r1 : List Cond := [Cond.fieldLink RX3 28 "StatueSquare" "ground" "LStatueSquare$Ground;", Cond.fieldLink RX3 80 "StatueSquare$Ground" "yearNow" "I", Cond.methodLink RX3 120 yX0_hasStatue, Cond.instanceMethod yX0_hasStatue, Cond.selects RX0 yX0_hasStatue yX0_hasStatue, Cond.initialized RX0, Cond.code yX0_hasStatue cX0_hasStatue 1 (some .boolean), Cond.fieldLink RX0 36 "StatueSquare$Ground" "statueCell" "I", Cond.methodLink RX3 161 yX0_complainers, Cond.instanceMethod yX0_complainers, Cond.selects RX0 yX0_complainers yX0_complainers, Cond.code yX0_complainers cX0_complainers 5 (some .int), Cond.fieldLink RX0 49 "StatueSquare$Ground" "benchCount" "I", Cond.fieldLink RX0 78 "StatueSquare$Ground" "statueBlock" "I", Cond.methodLink RX0 111 yX0_inTheWay, Cond.instanceMethod yX0_inTheWay, Cond.selects RX0 yX0_inTheWay yX0_inTheWay, Cond.code yX0_inTheWay cX0_inTheWay 12 (some .int), Cond.fieldLink RX0 21 "StatueSquare$Ground" "benchCell" "[I", Cond.fieldLink RX0 9 "StatueSquare$Ground" "has" "[I", Cond.methodLink RX0 98 yX0_stepsBetween, Cond.instanceMethod yX0_stepsBetween, Cond.selects RX0 yX0_stepsBetween yX0_stepsBetween, Cond.code yX0_stepsBetween cX0_stepsBetween 6 (some .int)]
def wsX3_complaints_r2 : List Cond := [Cond.fieldLink RX0 15 "StatueSquare$Ground" "rowOf" "[I", Cond.methodLink RX0 88 Lib.Math.abs.name, Cond.static Lib.Math.abs.name, Cond.initialized "java/lang/Math", Cond.code Lib.Math.abs.name Lib.Math.abs.code 1 (some .int), Cond.fieldLink RX0 18 "StatueSquare$Ground" "columnOf" "[I", Cond.methodLink RX0 94 Lib.Math.max.name, Cond.static Lib.Math.max.name, Cond.code Lib.Math.max.name Lib.Math.max.code 2 (some .int), Cond.methodLink RX0 101 yX0_isThere, Cond.instanceMethod yX0_isThere, Cond.selects RX0 yX0_isThere yX0_isThere, Cond.code yX0_isThere cX0_isThere 2 (some .boolean), Cond.fieldLink RX0 68 "StatueSquare$Ground" "cutThings" "I", Cond.methodLink RX0 105 yX0_tallIn, Cond.instanceMethod yX0_tallIn, Cond.selects RX0 yX0_tallIn yX0_tallIn, Cond.code yX0_tallIn cX0_tallIn 4 (some .int), Cond.fieldLink RX0 30 "StatueSquare$Ground" "tallAtFirst" "[I", Cond.fieldLink RX0 24 "StatueSquare$Ground" "kind" "[I", Cond.fieldLink RX0 74 "StatueSquare$Ground" "isWinter" "Z"]
def wsX3_complaints : List Cond := .code yX3_complaints cX3_complaints 1 (some .int) :: ((wsX3_complaints_r1 ++ wsX3_complaints_r2) ++ wsX30 ++ wsX00)
def wsX3_moved_r1 : List Cond := [Cond.fieldLink RX3 28 "StatueSquare" "ground" "LStatueSquare$Ground;", Cond.fieldLink RX3 94 "StatueSquare$Ground" "benchCount" "I", Cond.methodLink RX3 120 yX0_hasStatue, Cond.instanceMethod yX0_hasStatue, Cond.selects RX0 yX0_hasStatue yX0_hasStatue, Cond.initialized RX0, Cond.code yX0_hasStatue cX0_hasStatue 1 (some .boolean), Cond.fieldLink RX0 36 "StatueSquare$Ground" "statueCell" "I", Cond.methodLink RX3 164 yX0_thingsThatLeave, Cond.instanceMethod yX0_thingsThatLeave, Cond.selects RX0 yX0_thingsThatLeave yX0_thingsThatLeave, Cond.code yX0_thingsThatLeave cX0_thingsThatLeave 4 (some .int), Cond.fieldLink RX0 52 "StatueSquare$Ground" "thingCount" "I", Cond.fieldLink RX0 71 "StatueSquare$Ground" "yearNow" "I", Cond.methodLink RX0 101 yX0_isThere, Cond.instanceMethod yX0_isThere, Cond.selects RX0 yX0_isThere yX0_isThere, Cond.code yX0_isThere cX0_isThere 2 (some .boolean), Cond.fieldLink RX0 68 "StatueSquare$Ground" "cutThings" "I", Cond.methodLink RX0 126 yX0_complainers, Cond.instanceMethod yX0_complainers, Cond.selects RX0 yX0_complainers yX0_complainers, Cond.code yX0_complainers cX0_complainers 5 (some .int), Cond.fieldLink RX0 49 "StatueSquare$Ground" "benchCount" "I"]
def wsX3_moved_r2 : List Cond := [Cond.fieldLink RX0 78 "StatueSquare$Ground" "statueBlock" "I", Cond.methodLink RX0 111 yX0_inTheWay, Cond.instanceMethod yX0_inTheWay, Cond.selects RX0 yX0_inTheWay yX0_inTheWay, Cond.code yX0_inTheWay cX0_inTheWay 12 (some .int), Cond.fieldLink RX0 21 "StatueSquare$Ground" "benchCell" "[I", Cond.fieldLink RX0 9 "StatueSquare$Ground" "has" "[I", Cond.methodLink RX0 98 yX0_stepsBetween, Cond.instanceMethod yX0_stepsBetween, Cond.selects RX0 yX0_stepsBetween yX0_stepsBetween, Cond.code yX0_stepsBetween cX0_stepsBetween 6 (some .int), Cond.fieldLink RX0 15 "StatueSquare$Ground" "rowOf" "[I", Cond.methodLink RX0 88 Lib.Math.abs.name, Cond.static Lib.Math.abs.name, Cond.initialized "java/lang/Math", Cond.code Lib.Math.abs.name Lib.Math.abs.code 1 (some .int), Cond.fieldLink RX0 18 "StatueSquare$Ground" "columnOf" "[I", Cond.methodLink RX0 94 Lib.Math.max.name, Cond.static Lib.Math.max.name, Cond.code Lib.Math.max.name Lib.Math.max.code 2 (some .int), Cond.methodLink RX0 105 yX0_tallIn, Cond.instanceMethod yX0_tallIn, Cond.selects RX0 yX0_tallIn yX0_tallIn, Cond.code yX0_tallIn cX0_tallIn 4 (some .int)]
def wsX3_moved_r3 : List Cond := [Cond.fieldLink RX0 30 "StatueSquare$Ground" "tallAtFirst" "[I", Cond.fieldLink RX0 24 "StatueSquare$Ground" "kind" "[I", Cond.fieldLink RX0 74 "StatueSquare$Ground" "isWinter" "Z"]
def wsX3_moved : List Cond := .code yX3_moved cX3_moved 2 (some .int) :: ((wsX3_moved_r1 ++ (wsX3_moved_r2 ++ wsX3_moved_r3)) ++ wsX30 ++ wsX00)
def wsX3_years_r1 : List Cond := [Cond.fieldLink RX3 28 "StatueSquare" "ground" "LStatueSquare$Ground;", Cond.methodLink RX3 120 yX0_hasStatue, Cond.instanceMethod yX0_hasStatue, Cond.selects RX0 yX0_hasStatue yX0_hasStatue, Cond.initialized RX0, Cond.code yX0_hasStatue cX0_hasStatue 1 (some .boolean), Cond.fieldLink RX0 36 "StatueSquare$Ground" "statueCell" "I", Cond.methodLink RX3 167 yX0_firstYearOfComplaint, Cond.instanceMethod yX0_firstYearOfComplaint, Cond.selects RX0 yX0_firstYearOfComplaint yX0_firstYearOfComplaint, Cond.code yX0_firstYearOfComplaint cX0_firstYearOfComplaint 2 (some .int), Cond.fieldLink RX0 71 "StatueSquare$Ground" "yearNow" "I", Cond.methodLink RX0 126 yX0_complainers, Cond.instanceMethod yX0_complainers, Cond.selects RX0 yX0_complainers yX0_complainers, Cond.code yX0_complainers cX0_complainers 5 (some .int), Cond.fieldLink RX0 49 "StatueSquare$Ground" "benchCount" "I", Cond.fieldLink RX0 78 "StatueSquare$Ground" "statueBlock" "I", Cond.methodLink RX0 111 yX0_inTheWay, Cond.instanceMethod yX0_inTheWay, Cond.selects RX0 yX0_inTheWay yX0_inTheWay, Cond.code yX0_inTheWay cX0_inTheWay 12 (some .int), Cond.fieldLink RX0 21 "StatueSquare$Ground" "benchCell" "[I", Cond.fieldLink RX0 9 "StatueSquare$Ground" "has" "[I"]
def wsX3_years_r2 : List Cond := [Cond.methodLink RX0 98 yX0_stepsBetween, Cond.instanceMethod yX0_stepsBetween, Cond.selects RX0 yX0_stepsBetween yX0_stepsBetween, Cond.code yX0_stepsBetween cX0_stepsBetween 6 (some .int), Cond.fieldLink RX0 15 "StatueSquare$Ground" "rowOf" "[I", Cond.methodLink RX0 88 Lib.Math.abs.name, Cond.static Lib.Math.abs.name, Cond.initialized "java/lang/Math", Cond.code Lib.Math.abs.name Lib.Math.abs.code 1 (some .int), Cond.fieldLink RX0 18 "StatueSquare$Ground" "columnOf" "[I", Cond.methodLink RX0 94 Lib.Math.max.name, Cond.static Lib.Math.max.name, Cond.code Lib.Math.max.name Lib.Math.max.code 2 (some .int), Cond.methodLink RX0 101 yX0_isThere, Cond.instanceMethod yX0_isThere, Cond.selects RX0 yX0_isThere yX0_isThere, Cond.code yX0_isThere cX0_isThere 2 (some .boolean), Cond.fieldLink RX0 68 "StatueSquare$Ground" "cutThings" "I", Cond.methodLink RX0 105 yX0_tallIn, Cond.instanceMethod yX0_tallIn, Cond.selects RX0 yX0_tallIn yX0_tallIn, Cond.code yX0_tallIn cX0_tallIn 4 (some .int), Cond.fieldLink RX0 30 "StatueSquare$Ground" "tallAtFirst" "[I", Cond.fieldLink RX0 24 "StatueSquare$Ground" "kind" "[I"]
def wsX3_years_r3 : List Cond := [Cond.fieldLink RX0 74 "StatueSquare$Ground" "isWinter" "Z"]
def wsX3_years : List Cond := .code yX3_years cX3_years 1 (some .int) :: ((wsX3_years_r1 ++ (wsX3_years_r2 ++ wsX3_years_r3)) ++ wsX30 ++ wsX00)
def wsX3_second_r1 : List Cond := [Cond.fieldLink RX3 28 "StatueSquare" "ground" "LStatueSquare$Ground;", Cond.constantLong RX3 133 (-9223372036854775808), Cond.methodLink RX3 120 yX0_hasStatue, Cond.instanceMethod yX0_hasStatue, Cond.selects RX0 yX0_hasStatue yX0_hasStatue, Cond.initialized RX0, Cond.code yX0_hasStatue cX0_hasStatue 1 (some .boolean), Cond.fieldLink RX0 36 "StatueSquare$Ground" "statueCell" "I", Cond.methodLink RX3 170 yX0_unseenCells, Cond.instanceMethod yX0_unseenCells, Cond.selects RX0 yX0_unseenCells yX0_unseenCells, Cond.code yX0_unseenCells cX0_unseenCells 5 (some .long), Cond.fieldLink RX0 46 "StatueSquare$Ground" "cellCount" "I", Cond.methodLink RX0 135 yX0_benchesThatSeeWhole, Cond.instanceMethod yX0_benchesThatSeeWhole, Cond.selects RX0 yX0_benchesThatSeeWhole yX0_benchesThatSeeWhole, Cond.code yX0_benchesThatSeeWhole cX0_benchesThatSeeWhole 1 (some .int), Cond.fieldLink RX0 49 "StatueSquare$Ground" "benchCount" "I", Cond.fieldLink RX0 71 "StatueSquare$Ground" "yearNow" "I", Cond.methodLink RX0 126 yX0_complainers, Cond.instanceMethod yX0_complainers, Cond.selects RX0 yX0_complainers yX0_complainers, Cond.code yX0_complainers cX0_complainers 5 (some .int), Cond.fieldLink RX0 78 "StatueSquare$Ground" "statueBlock" "I"]
def wsX3_second_r2 : List Cond := [Cond.methodLink RX0 111 yX0_inTheWay, Cond.instanceMethod yX0_inTheWay, Cond.selects RX0 yX0_inTheWay yX0_inTheWay, Cond.code yX0_inTheWay cX0_inTheWay 12 (some .int), Cond.fieldLink RX0 21 "StatueSquare$Ground" "benchCell" "[I", Cond.fieldLink RX0 9 "StatueSquare$Ground" "has" "[I", Cond.methodLink RX0 98 yX0_stepsBetween, Cond.instanceMethod yX0_stepsBetween, Cond.selects RX0 yX0_stepsBetween yX0_stepsBetween, Cond.code yX0_stepsBetween cX0_stepsBetween 6 (some .int), Cond.fieldLink RX0 15 "StatueSquare$Ground" "rowOf" "[I", Cond.methodLink RX0 88 Lib.Math.abs.name, Cond.static Lib.Math.abs.name, Cond.initialized "java/lang/Math", Cond.code Lib.Math.abs.name Lib.Math.abs.code 1 (some .int), Cond.fieldLink RX0 18 "StatueSquare$Ground" "columnOf" "[I", Cond.methodLink RX0 94 Lib.Math.max.name, Cond.static Lib.Math.max.name, Cond.code Lib.Math.max.name Lib.Math.max.code 2 (some .int), Cond.methodLink RX0 101 yX0_isThere, Cond.instanceMethod yX0_isThere, Cond.selects RX0 yX0_isThere yX0_isThere, Cond.code yX0_isThere cX0_isThere 2 (some .boolean), Cond.fieldLink RX0 68 "StatueSquare$Ground" "cutThings" "I"]
def wsX3_second_r3 : List Cond := [Cond.methodLink RX0 105 yX0_tallIn, Cond.instanceMethod yX0_tallIn, Cond.selects RX0 yX0_tallIn yX0_tallIn, Cond.code yX0_tallIn cX0_tallIn 4 (some .int), Cond.fieldLink RX0 30 "StatueSquare$Ground" "tallAtFirst" "[I", Cond.fieldLink RX0 24 "StatueSquare$Ground" "kind" "[I", Cond.fieldLink RX0 74 "StatueSquare$Ground" "isWinter" "Z", Cond.methodLink RX0 129 yX0_isFree, Cond.instanceMethod yX0_isFree, Cond.selects RX0 yX0_isFree yX0_isFree, Cond.code yX0_isFree cX0_isFree 2 (some .boolean), Cond.methodLink RX0 139 yX0_isSeenFromAny, Cond.instanceMethod yX0_isSeenFromAny, Cond.selects RX0 yX0_isSeenFromAny yX0_isSeenFromAny, Cond.code yX0_isSeenFromAny cX0_isSeenFromAny 4 (some .boolean), Cond.methodLink RX0 115 yX0_partsSeen, Cond.instanceMethod yX0_partsSeen, Cond.selects RX0 yX0_partsSeen yX0_partsSeen, Cond.code yX0_partsSeen cX0_partsSeen 5 (some .int), Cond.fieldLink RX0 108 "StatueSquare$Ground" "PART_HEIGHTS" "[I"]
def wsX3_second : List Cond := .code yX3_second cX3_second 1 (some .long) :: ((wsX3_second_r1 ++ (wsX3_second_r2 ++ wsX3_second_r3)) ++ wsX30 ++ wsX00)
def wsX3_lit_r1 : List Cond := [Cond.fieldLink RX3 28 "StatueSquare" "ground" "LStatueSquare$Ground;", Cond.methodLink RX3 39 yX3_isBelow, Cond.static yX3_isBelow, Cond.initialized RX3, Cond.code yX3_isBelow cX3_isBelow 2 (some .boolean), Cond.methodLink RX3 120 yX0_hasStatue, Cond.instanceMethod yX0_hasStatue, Cond.selects RX0 yX0_hasStatue yX0_hasStatue, Cond.initialized RX0, Cond.code yX0_hasStatue cX0_hasStatue 1 (some .boolean), Cond.fieldLink RX0 36 "StatueSquare$Ground" "statueCell" "I", Cond.methodLink RX3 174 yX0_fewestLamps, Cond.instanceMethod yX0_fewestLamps, Cond.selects RX0 yX0_fewestLamps yX0_fewestLamps, Cond.code yX0_fewestLamps cX0_fewestLamps 3 (some .int), Cond.fieldLink RX0 52 "StatueSquare$Ground" "thingCount" "I", Cond.methodLink RX0 146 yX0_partsLitByAny, Cond.instanceMethod yX0_partsLitByAny, Cond.selects RX0 yX0_partsLitByAny yX0_partsLitByAny, Cond.code yX0_partsLitByAny cX0_partsLitByAny 3 (some .int), Cond.methodLink RX0 143 yX0_partsLitBy, Cond.instanceMethod yX0_partsLitBy, Cond.selects RX0 yX0_partsLitBy yX0_partsLitBy, Cond.code yX0_partsLitBy cX0_partsLitBy 7 (some .int)]
def wsX3_lit_r2 : List Cond := [Cond.fieldLink RX0 15 "StatueSquare$Ground" "rowOf" "[I", Cond.fieldLink RX0 27 "StatueSquare$Ground" "thingCell" "[I", Cond.methodLink RX0 88 Lib.Math.abs.name, Cond.static Lib.Math.abs.name, Cond.initialized "java/lang/Math", Cond.code Lib.Math.abs.name Lib.Math.abs.code 1 (some .int), Cond.fieldLink RX0 18 "StatueSquare$Ground" "columnOf" "[I", Cond.fieldLink RX0 24 "StatueSquare$Ground" "kind" "[I", Cond.fieldLink RX0 78 "StatueSquare$Ground" "statueBlock" "I", Cond.fieldLink RX0 108 "StatueSquare$Ground" "PART_HEIGHTS" "[I", Cond.fieldLink RX0 71 "StatueSquare$Ground" "yearNow" "I", Cond.methodLink RX0 101 yX0_isThere, Cond.instanceMethod yX0_isThere, Cond.selects RX0 yX0_isThere yX0_isThere, Cond.code yX0_isThere cX0_isThere 2 (some .boolean), Cond.fieldLink RX0 68 "StatueSquare$Ground" "cutThings" "I", Cond.methodLink RX0 105 yX0_tallIn, Cond.instanceMethod yX0_tallIn, Cond.selects RX0 yX0_tallIn yX0_tallIn, Cond.code yX0_tallIn cX0_tallIn 4 (some .int), Cond.fieldLink RX0 30 "StatueSquare$Ground" "tallAtFirst" "[I", Cond.fieldLink RX0 74 "StatueSquare$Ground" "isWinter" "Z", Cond.methodLink RX3 177 yX0_partsLitByAny]
def wsX3_lit : List Cond := .code yX3_lit cX3_lit 2 (some .int) :: ((wsX3_lit_r1 ++ wsX3_lit_r2) ++ wsX30 ++ wsX00)
def wsX3_sheet : List Cond := .code yX3_sheet cX3_sheet 4 (some .int) :: ([.fieldLink RX3 36 "StatueSquare" "latestFault" "I", .fieldLink RX3 13 "StatueSquare" "sheets" "[LStatueSquare$Sheet;", .methodLink RX3 39 yX3_isBelow, .static yX3_isBelow, .initialized RX3, .code yX3_isBelow cX3_isBelow 2 (some .boolean), .methodLink RX3 50 yX3_failed, .instanceMethod yX3_failed, .selects RX3 yX3_failed yX3_failed, .code yX3_failed cX3_failed 2 (some .int), .methodLink RX3 180 yX1_renew, .instanceMethod yX1_renew, .selects RX1 yX1_renew yX1_renew, .initialized RX1, .code yX1_renew cX1_renew 4 none, .fieldLink RX1 15 "StatueSquare$Sheet" "hasRow" "Z", .fieldLink RX1 19 "StatueSquare$Sheet" "lane" "I", .fieldLink RX1 23 "StatueSquare$Sheet" "length" "I", .fieldLink RX1 9 "StatueSquare$Sheet" "row" "[I"] ++ wsX30 ++ wsX10)
def wsX3_lose : List Cond := .code yX3_lose cX3_lose 3 (some .int) :: ([.fieldLink RX3 13 "StatueSquare" "sheets" "[LStatueSquare$Sheet;", .fieldLink RX3 184 "StatueSquare$Sheet" "hasRow" "Z", .methodLink RX3 39 yX3_isBelow, .static yX3_isBelow, .initialized RX3, .code yX3_isBelow cX3_isBelow 2 (some .boolean)] ++ wsX30 ++ wsX10)
def wsX3_put : List Cond := .code yX3_put cX3_put 5 (some .int) :: ([.fieldLink RX3 36 "StatueSquare" "latestFault" "I", .fieldLink RX3 13 "StatueSquare" "sheets" "[LStatueSquare$Sheet;", .fieldLink RX3 184 "StatueSquare$Sheet" "hasRow" "Z", .fieldLink RX3 187 "StatueSquare$Sheet" "length" "I", .methodLink RX3 39 yX3_isBelow, .static yX3_isBelow, .initialized RX3, .code yX3_isBelow cX3_isBelow 2 (some .boolean), .methodLink RX3 50 yX3_failed, .instanceMethod yX3_failed, .selects RX3 yX3_failed yX3_failed, .code yX3_failed cX3_failed 2 (some .int), .methodLink RX3 190 yX1_write, .instanceMethod yX1_write, .selects RX1 yX1_write yX1_write, .initialized RX1, .code yX1_write cX1_write 3 none, .fieldLink RX1 19 "StatueSquare$Sheet" "lane" "I", .fieldLink RX1 9 "StatueSquare$Sheet" "row" "[I"] ++ wsX30 ++ wsX10)
def wsX3_cell : List Cond := .code yX3_cell cX3_cell 6 (some .long) :: ([.fieldLink RX3 36 "StatueSquare" "latestFault" "I", .constantLong RX3 133 (-9223372036854775808), .fieldLink RX3 13 "StatueSquare" "sheets" "[LStatueSquare$Sheet;", .fieldLink RX3 187 "StatueSquare$Sheet" "length" "I", .fieldLink RX3 193 "StatueSquare$Sheet" "row" "[I", .methodLink RX3 39 yX3_isBelow, .static yX3_isBelow, .initialized RX3, .code yX3_isBelow cX3_isBelow 2 (some .boolean), .methodLink RX3 43 yX1_faultAsRow, .instanceMethod yX1_faultAsRow, .selects RX1 yX1_faultAsRow yX1_faultAsRow, .initialized RX1, .code yX1_faultAsRow cX1_faultAsRow 2 (some .int), .fieldLink RX1 15 "StatueSquare$Sheet" "hasRow" "Z", .fieldLink RX1 19 "StatueSquare$Sheet" "lane" "I"] ++ wsX30 ++ wsX10)
def wsX3_copy : List Cond := .code yX3_copy cX3_copy 8 (some .int) :: ([.fieldLink RX3 36 "StatueSquare" "latestFault" "I", .fieldLink RX3 13 "StatueSquare" "sheets" "[LStatueSquare$Sheet;", .fieldLink RX3 184 "StatueSquare$Sheet" "hasRow" "Z", .fieldLink RX3 196 "StatueSquare$Sheet" "lane" "I", .fieldLink RX3 193 "StatueSquare$Sheet" "row" "[I", .methodLink RX3 199 arraycopyName, .native arraycopyName, .static arraycopyName, .initialized "java/lang/System", .methodLink RX3 39 yX3_isBelow, .static yX3_isBelow, .initialized RX3, .code yX3_isBelow cX3_isBelow 2 (some .boolean), .methodLink RX3 50 yX3_failed, .instanceMethod yX3_failed, .selects RX3 yX3_failed yX3_failed, .code yX3_failed cX3_failed 2 (some .int), .methodLink RX3 47 yX1_hasSpan, .instanceMethod yX1_hasSpan, .selects RX1 yX1_hasSpan yX1_hasSpan, .initialized RX1, .code yX1_hasSpan cX1_hasSpan 3 (some .boolean), .fieldLink RX1 23 "StatueSquare$Sheet" "length" "I"] ++ wsX30 ++ wsX10)
def wsX3_leaveInTrace : List Cond := .code yX3_leaveInTrace cX3_leaveInTrace 2 none :: ([.fieldLink RX3 32 "StatueSquare" "traced" "I"] ++ wsX30)
def wsX3_tellLamp : List Cond := .code yX3_tellLamp cX3_tellLamp 2 (some .int) :: ([.fieldLink RX3 28 "StatueSquare" "ground" "LStatueSquare$Ground;", .fieldLink RX3 77 "StatueSquare$Ground" "tallAtFirst" "[I", .methodLink RX3 223 yX3_leaveInTrace, .instanceMethod yX3_leaveInTrace, .selects RX3 yX3_leaveInTrace yX3_leaveInTrace, .initialized RX3, .code yX3_leaveInTrace cX3_leaveInTrace 2 none, .fieldLink RX3 32 "StatueSquare" "traced" "I"] ++ wsX30 ++ wsX00)
def wsX3_tellUrn : List Cond := .code yX3_tellUrn cX3_tellUrn 2 (some .int) :: ([.methodLink RX3 223 yX3_leaveInTrace, .instanceMethod yX3_leaveInTrace, .selects RX3 yX3_leaveInTrace yX3_leaveInTrace, .initialized RX3, .code yX3_leaveInTrace cX3_leaveInTrace 2 none, .fieldLink RX3 32 "StatueSquare" "traced" "I", .methodLink RX3 211 yX3_tellLamp, .instanceMethod yX3_tellLamp, .selects RX3 yX3_tellLamp yX3_tellLamp, .code yX3_tellLamp cX3_tellLamp 2 (some .int), .fieldLink RX3 28 "StatueSquare" "ground" "LStatueSquare$Ground;", .fieldLink RX3 77 "StatueSquare$Ground" "tallAtFirst" "[I"] ++ wsX30 ++ wsX00)
def wsX3_tellTree : List Cond := .code yX3_tellTree cX3_tellTree 3 (some .int) :: ([.methodLink RX3 223 yX3_leaveInTrace, .instanceMethod yX3_leaveInTrace, .selects RX3 yX3_leaveInTrace yX3_leaveInTrace, .initialized RX3, .code yX3_leaveInTrace cX3_leaveInTrace 2 none, .fieldLink RX3 32 "StatueSquare" "traced" "I", .methodLink RX3 208 yX3_tellUrn, .instanceMethod yX3_tellUrn, .selects RX3 yX3_tellUrn yX3_tellUrn, .code yX3_tellUrn cX3_tellUrn 2 (some .int), .methodLink RX3 211 yX3_tellLamp, .instanceMethod yX3_tellLamp, .selects RX3 yX3_tellLamp yX3_tellLamp, .code yX3_tellLamp cX3_tellLamp 2 (some .int), .fieldLink RX3 28 "StatueSquare" "ground" "LStatueSquare$Ground;", .fieldLink RX3 77 "StatueSquare$Ground" "tallAtFirst" "[I"] ++ wsX30 ++ wsX00)
def wsX3_tell_r1 : List Cond := [Cond.fieldLink RX3 28 "StatueSquare" "ground" "LStatueSquare$Ground;", Cond.fieldLink RX3 68 "StatueSquare$Ground" "thingCount" "I", Cond.fieldLink RX3 71 "StatueSquare$Ground" "kind" "[I", Cond.methodLink RX3 39 yX3_isBelow, Cond.static yX3_isBelow, Cond.initialized RX3, Cond.code yX3_isBelow cX3_isBelow 2 (some .boolean), Cond.methodLink RX3 205 yX3_tellTree, Cond.instanceMethod yX3_tellTree, Cond.selects RX3 yX3_tellTree yX3_tellTree, Cond.code yX3_tellTree cX3_tellTree 3 (some .int), Cond.methodLink RX3 223 yX3_leaveInTrace, Cond.instanceMethod yX3_leaveInTrace, Cond.selects RX3 yX3_leaveInTrace yX3_leaveInTrace, Cond.code yX3_leaveInTrace cX3_leaveInTrace 2 none, Cond.fieldLink RX3 32 "StatueSquare" "traced" "I", Cond.methodLink RX3 208 yX3_tellUrn, Cond.instanceMethod yX3_tellUrn, Cond.selects RX3 yX3_tellUrn yX3_tellUrn, Cond.code yX3_tellUrn cX3_tellUrn 2 (some .int), Cond.methodLink RX3 211 yX3_tellLamp, Cond.instanceMethod yX3_tellLamp, Cond.selects RX3 yX3_tellLamp yX3_tellLamp, Cond.code yX3_tellLamp cX3_tellLamp 2 (some .int)]
def wsX3_tell_r2 : List Cond := [Cond.fieldLink RX3 77 "StatueSquare$Ground" "tallAtFirst" "[I"]
def wsX3_tell : List Cond := .code yX3_tell cX3_tell 2 (some .int) :: ((wsX3_tell_r1 ++ wsX3_tell_r2) ++ wsX30 ++ wsX00)
def wsX3_tendTree : List Cond := .code yX3_tendTree cX3_tendTree 1 (some .int) :: ([.methodLink RX3 223 yX3_leaveInTrace, .instanceMethod yX3_leaveInTrace, .selects RX3 yX3_leaveInTrace yX3_leaveInTrace, .initialized RX3, .code yX3_leaveInTrace cX3_leaveInTrace 2 none, .fieldLink RX3 32 "StatueSquare" "traced" "I"] ++ wsX30)
def wsX3_tendLent : List Cond := .code yX3_tendLent cX3_tendLent 2 (some .int) :: ([.methodLink RX3 223 yX3_leaveInTrace, .instanceMethod yX3_leaveInTrace, .selects RX3 yX3_leaveInTrace yX3_leaveInTrace, .initialized RX3, .code yX3_leaveInTrace cX3_leaveInTrace 2 none, .fieldLink RX3 32 "StatueSquare" "traced" "I"] ++ wsX30)
def wsX3_tend : List Cond := .code yX3_tend cX3_tend 2 (some .int) :: ([.fieldLink RX3 28 "StatueSquare" "ground" "LStatueSquare$Ground;", .fieldLink RX3 68 "StatueSquare$Ground" "thingCount" "I", .fieldLink RX3 71 "StatueSquare$Ground" "kind" "[I", .methodLink RX3 39 yX3_isBelow, .static yX3_isBelow, .initialized RX3, .code yX3_isBelow cX3_isBelow 2 (some .boolean), .methodLink RX3 214 yX3_tendTree, .instanceMethod yX3_tendTree, .selects RX3 yX3_tendTree yX3_tendTree, .code yX3_tendTree cX3_tendTree 1 (some .int), .methodLink RX3 223 yX3_leaveInTrace, .instanceMethod yX3_leaveInTrace, .selects RX3 yX3_leaveInTrace yX3_leaveInTrace, .code yX3_leaveInTrace cX3_leaveInTrace 2 none, .fieldLink RX3 32 "StatueSquare" "traced" "I", .methodLink RX3 217 yX3_tendLent, .instanceMethod yX3_tendLent, .selects RX3 yX3_tendLent yX3_tendLent, .code yX3_tendLent cX3_tendLent 2 (some .int)] ++ wsX30 ++ wsX00)
def wsX3_as : List Cond := .code yX3_as cX3_as 3 (some .int) :: ([.fieldLink RX3 36 "StatueSquare" "latestFault" "I", .fieldLink RX3 28 "StatueSquare" "ground" "LStatueSquare$Ground;", .fieldLink RX3 68 "StatueSquare$Ground" "thingCount" "I", .fieldLink RX3 71 "StatueSquare$Ground" "kind" "[I", .methodLink RX3 39 yX3_isBelow, .static yX3_isBelow, .initialized RX3, .code yX3_isBelow cX3_isBelow 2 (some .boolean), .methodLink RX3 50 yX3_failed, .instanceMethod yX3_failed, .selects RX3 yX3_failed yX3_failed, .code yX3_failed cX3_failed 2 (some .int)] ++ wsX30 ++ wsX00)
def wsX3_trace : List Cond := .code yX3_trace cX3_trace 1 (some .int) :: ([.fieldLink RX3 32 "StatueSquare" "traced" "I"] ++ wsX30)
def wsX3_fault : List Cond := .code yX3_fault cX3_fault 1 (some .int) :: ([.fieldLink RX3 36 "StatueSquare" "latestFault" "I"] ++ wsX30)
def wsX3_many : List Cond := .code yX3_many cX3_many 2 (some .int) :: ([.fieldLink RX3 28 "StatueSquare" "ground" "LStatueSquare$Ground;", .fieldLink RX3 61 "StatueSquare$Ground" "cellCount" "I", .fieldLink RX3 220 "StatueSquare$Ground" "wide" "I", .fieldLink RX3 94 "StatueSquare$Ground" "benchCount" "I", .fieldLink RX3 68 "StatueSquare$Ground" "thingCount" "I", .fieldLink RX3 80 "StatueSquare$Ground" "yearNow" "I"] ++ wsX30 ++ wsX00)
def wsX4_init : List Cond := .code yX4_init cX4_init 2 none :: ([.methodLink RX4 1 objectInit, .instanceMethod objectInit, .code objectInit ⟨#[0xb1]⟩ 1 none, .arrayClass .int, .fieldLink RX4 7 "StatueSquareModel" "has" "[I", .fieldLink RX4 13 "StatueSquareModel" "benchAt" "[I", .fieldLink RX4 16 "StatueSquareModel" "kindOf" "[I", .fieldLink RX4 19 "StatueSquareModel" "thingAt" "[I", .fieldLink RX4 22 "StatueSquareModel" "tallOf" "[I", .arrayClass .boolean, .fieldLink RX4 25 "StatueSquareModel" "isCut" "[Z", .fieldLink RX4 29 "StatueSquareModel" "priceOf" "[I", .fieldLink RX4 32 "StatueSquareModel" "readHas" "[I", .fieldLink RX4 35 "StatueSquareModel" "readBench" "[I", .fieldLink RX4 38 "StatueSquareModel" "readKind" "[I", .fieldLink RX4 41 "StatueSquareModel" "readThing" "[I", .fieldLink RX4 44 "StatueSquareModel" "readTall" "[I", .fieldLink RX4 47 "StatueSquareModel" "statueAt" "I", .fieldLink RX4 51 "StatueSquareModel" "sheetSize" "[I", .fieldLink RX4 54 "StatueSquareModel" "sheetLane" "[I", .fieldLink RX4 57 "StatueSquareModel" "sheet" "[I", .fieldLink RX4 60 "StatueSquareModel" "hands" "[I"] ++ wsX40)
def wsX4_in : List Cond := .code yX4_in cX4_in 6 (some .boolean) :: ([])
def wsX4_lost : List Cond := .code yX4_lost cX4_lost 0 (some .long) :: ([.constantLong RX4 63 (-9223372036854775808)])
def wsX4_far : List Cond := .code yX4_far cX4_far 2 (some .int) :: ([])
def wsX4_common : List Cond := .code yX4_common cX4_common 5 (some .int) :: ([])
def wsX4_refused : List Cond := .code yX4_refused cX4_refused 2 (some .int) :: ([.fieldLink RX4 65 "StatueSquareModel" "fault" "I"] ++ wsX40)
def wsX4_failed : List Cond := .code yX4_failed cX4_failed 2 (some .int) :: ([.fieldLink RX4 65 "StatueSquareModel" "fault" "I"] ++ wsX40)
def wsX4_failedLong : List Cond := .code yX4_failedLong cX4_failedLong 2 (some .long) :: ([.fieldLink RX4 65 "StatueSquareModel" "fault" "I", .methodLink RX4 68 yX4_lost, .static yX4_lost, .initialized RX4, .code yX4_lost cX4_lost 0 (some .long), .constantLong RX4 63 (-9223372036854775808)] ++ wsX40)
def wsX4_cells : List Cond := .code yX4_cells cX4_cells 1 (some .int) :: ([.fieldLink RX4 72 "StatueSquareModel" "high" "I", .fieldLink RX4 75 "StatueSquareModel" "wide" "I"] ++ wsX40)
def wsX4_noCell : List Cond := .code yX4_noCell cX4_noCell 2 (some .boolean) :: ([.methodLink RX4 78 yX4_cells, .instanceMethod yX4_cells, .selects RX4 yX4_cells yX4_cells, .initialized RX4, .code yX4_cells cX4_cells 1 (some .int), .fieldLink RX4 72 "StatueSquareModel" "high" "I", .fieldLink RX4 75 "StatueSquareModel" "wide" "I", .methodLink RX4 82 yX4_in, .static yX4_in, .code yX4_in cX4_in 6 (some .boolean)] ++ wsX40)
def wsX4_noThing : List Cond := .code yX4_noThing cX4_noThing 2 (some .boolean) :: ([.fieldLink RX4 86 "StatueSquareModel" "things" "I", .methodLink RX4 82 yX4_in, .static yX4_in, .initialized RX4, .code yX4_in cX4_in 6 (some .boolean)] ++ wsX40)
def wsX4_noBench : List Cond := .code yX4_noBench cX4_noBench 2 (some .boolean) :: ([.fieldLink RX4 89 "StatueSquareModel" "benches" "I", .methodLink RX4 82 yX4_in, .static yX4_in, .initialized RX4, .code yX4_in cX4_in 6 (some .boolean)] ++ wsX40)
def wsX4_codeAt : List Cond := .code yX4_codeAt cX4_codeAt 3 (some .int) :: ([.fieldLink RX4 92 "StatueSquareModel" "readAt" "I", .fieldLink RX4 57 "StatueSquareModel" "sheet" "[I"] ++ wsX40)
def wsX4_figure : List Cond := .code yX4_figure cX4_figure 7 (some .int) :: ([.fieldLink RX4 92 "StatueSquareModel" "readAt" "I", .methodLink RX4 95 yX4_codeAt, .instanceMethod yX4_codeAt, .selects RX4 yX4_codeAt yX4_codeAt, .initialized RX4, .code yX4_codeAt cX4_codeAt 3 (some .int), .fieldLink RX4 57 "StatueSquareModel" "sheet" "[I", .methodLink RX4 82 yX4_in, .static yX4_in, .code yX4_in cX4_in 6 (some .boolean)] ++ wsX40)
def wsX4_readsCell : List Cond := .code yX4_readsCell cX4_readsCell 6 (some .boolean) :: ([.fieldLink RX4 32 "StatueSquareModel" "readHas" "[I", .fieldLink RX4 92 "StatueSquareModel" "readAt" "I", .fieldLink RX4 99 "StatueSquareModel" "readBenches" "I", .fieldLink RX4 35 "StatueSquareModel" "readBench" "[I", .fieldLink RX4 102 "StatueSquareModel" "readThings" "I", .fieldLink RX4 38 "StatueSquareModel" "readKind" "[I", .fieldLink RX4 41 "StatueSquareModel" "readThing" "[I", .fieldLink RX4 44 "StatueSquareModel" "readTall" "[I", .methodLink RX4 95 yX4_codeAt, .instanceMethod yX4_codeAt, .selects RX4 yX4_codeAt yX4_codeAt, .initialized RX4, .code yX4_codeAt cX4_codeAt 3 (some .int), .fieldLink RX4 57 "StatueSquareModel" "sheet" "[I", .methodLink RX4 105 yX4_figure, .instanceMethod yX4_figure, .selects RX4 yX4_figure yX4_figure, .code yX4_figure cX4_figure 7 (some .int), .methodLink RX4 82 yX4_in, .static yX4_in, .code yX4_in cX4_in 6 (some .boolean)] ++ wsX40)
def wsX4_readsSquare_r1 : List Cond := [Cond.fieldLink RX4 92 "StatueSquareModel" "readAt" "I", Cond.fieldLink RX4 99 "StatueSquareModel" "readBenches" "I", Cond.fieldLink RX4 102 "StatueSquareModel" "readThings" "I", Cond.fieldLink RX4 109 "StatueSquareModel" "readHigh" "I", Cond.fieldLink RX4 112 "StatueSquareModel" "readWide" "I", Cond.methodLink RX4 95 yX4_codeAt, Cond.instanceMethod yX4_codeAt, Cond.selects RX4 yX4_codeAt yX4_codeAt, Cond.initialized RX4, Cond.code yX4_codeAt cX4_codeAt 3 (some .int), Cond.fieldLink RX4 57 "StatueSquareModel" "sheet" "[I", Cond.methodLink RX4 105 yX4_figure, Cond.instanceMethod yX4_figure, Cond.selects RX4 yX4_figure yX4_figure, Cond.code yX4_figure cX4_figure 7 (some .int), Cond.methodLink RX4 82 yX4_in, Cond.static yX4_in, Cond.code yX4_in cX4_in 6 (some .boolean), Cond.methodLink RX4 115 yX4_readsCell, Cond.instanceMethod yX4_readsCell, Cond.selects RX4 yX4_readsCell yX4_readsCell, Cond.code yX4_readsCell cX4_readsCell 6 (some .boolean), Cond.fieldLink RX4 32 "StatueSquareModel" "readHas" "[I", Cond.fieldLink RX4 35 "StatueSquareModel" "readBench" "[I"]
def wsX4_readsSquare_r2 : List Cond := [Cond.fieldLink RX4 38 "StatueSquareModel" "readKind" "[I", Cond.fieldLink RX4 41 "StatueSquareModel" "readThing" "[I", Cond.fieldLink RX4 44 "StatueSquareModel" "readTall" "[I"]
def wsX4_readsSquare : List Cond := .code yX4_readsSquare cX4_readsSquare 5 (some .boolean) :: ((wsX4_readsSquare_r1 ++ wsX4_readsSquare_r2) ++ wsX40)
def wsX4_noSheet : List Cond := .code yX4_noSheet cX4_noSheet 1 (some .boolean) :: ([.constantLong RX4 200 (3), .methodLink RX4 82 yX4_in, .static yX4_in, .initialized RX4, .code yX4_in cX4_in 6 (some .boolean)])
def wsX4_isBeyond : List Cond := .code yX4_isBeyond cX4_isBeyond 4 (some .boolean) :: ([])
def wsX4_square_r1 : List Cond := [Cond.constantLong RX4 127 (2), Cond.fieldLink RX4 51 "StatueSquareModel" "sheetSize" "[I", Cond.fieldLink RX4 54 "StatueSquareModel" "sheetLane" "[I", Cond.fieldLink RX4 92 "StatueSquareModel" "readAt" "I", Cond.fieldLink RX4 109 "StatueSquareModel" "readHigh" "I", Cond.fieldLink RX4 72 "StatueSquareModel" "high" "I", Cond.fieldLink RX4 112 "StatueSquareModel" "readWide" "I", Cond.fieldLink RX4 75 "StatueSquareModel" "wide" "I", Cond.fieldLink RX4 99 "StatueSquareModel" "readBenches" "I", Cond.fieldLink RX4 89 "StatueSquareModel" "benches" "I", Cond.fieldLink RX4 102 "StatueSquareModel" "readThings" "I", Cond.fieldLink RX4 86 "StatueSquareModel" "things" "I", Cond.fieldLink RX4 7 "StatueSquareModel" "has" "[I", Cond.fieldLink RX4 32 "StatueSquareModel" "readHas" "[I", Cond.fieldLink RX4 13 "StatueSquareModel" "benchAt" "[I", Cond.fieldLink RX4 35 "StatueSquareModel" "readBench" "[I", Cond.fieldLink RX4 16 "StatueSquareModel" "kindOf" "[I", Cond.fieldLink RX4 38 "StatueSquareModel" "readKind" "[I", Cond.fieldLink RX4 19 "StatueSquareModel" "thingAt" "[I", Cond.fieldLink RX4 41 "StatueSquareModel" "readThing" "[I", Cond.fieldLink RX4 22 "StatueSquareModel" "tallOf" "[I", Cond.fieldLink RX4 44 "StatueSquareModel" "readTall" "[I", Cond.fieldLink RX4 25 "StatueSquareModel" "isCut" "[Z", Cond.fieldLink RX4 29 "StatueSquareModel" "priceOf" "[I"]
def wsX4_square_r2 : List Cond := [Cond.fieldLink RX4 140 "StatueSquareModel" "yearNow" "I", Cond.fieldLink RX4 143 "StatueSquareModel" "isWinter" "Z", Cond.fieldLink RX4 47 "StatueSquareModel" "statueAt" "I", Cond.methodLink RX4 119 yX4_noSheet, Cond.static yX4_noSheet, Cond.initialized RX4, Cond.code yX4_noSheet cX4_noSheet 1 (some .boolean), Cond.constantLong RX4 200 (3), Cond.methodLink RX4 82 yX4_in, Cond.static yX4_in, Cond.code yX4_in cX4_in 6 (some .boolean), Cond.methodLink RX4 123 yX4_refused, Cond.instanceMethod yX4_refused, Cond.selects RX4 yX4_refused yX4_refused, Cond.code yX4_refused cX4_refused 2 (some .int), Cond.fieldLink RX4 65 "StatueSquareModel" "fault" "I", Cond.methodLink RX4 129 yX4_failed, Cond.instanceMethod yX4_failed, Cond.selects RX4 yX4_failed yX4_failed, Cond.code yX4_failed cX4_failed 2 (some .int), Cond.methodLink RX4 132 yX4_isBeyond, Cond.static yX4_isBeyond, Cond.code yX4_isBeyond cX4_isBeyond 4 (some .boolean), Cond.methodLink RX4 136 yX4_readsSquare]
def wsX4_square_r3 : List Cond := [Cond.instanceMethod yX4_readsSquare, Cond.selects RX4 yX4_readsSquare yX4_readsSquare, Cond.code yX4_readsSquare cX4_readsSquare 5 (some .boolean), Cond.methodLink RX4 95 yX4_codeAt, Cond.instanceMethod yX4_codeAt, Cond.selects RX4 yX4_codeAt yX4_codeAt, Cond.code yX4_codeAt cX4_codeAt 3 (some .int), Cond.fieldLink RX4 57 "StatueSquareModel" "sheet" "[I", Cond.methodLink RX4 105 yX4_figure, Cond.instanceMethod yX4_figure, Cond.selects RX4 yX4_figure yX4_figure, Cond.code yX4_figure cX4_figure 7 (some .int), Cond.methodLink RX4 115 yX4_readsCell, Cond.instanceMethod yX4_readsCell, Cond.selects RX4 yX4_readsCell yX4_readsCell, Cond.code yX4_readsCell cX4_readsCell 6 (some .boolean), Cond.methodLink RX4 78 yX4_cells, Cond.instanceMethod yX4_cells, Cond.selects RX4 yX4_cells yX4_cells, Cond.code yX4_cells cX4_cells 1 (some .int)]
def wsX4_square : List Cond := .code yX4_square cX4_square 6 (some .int) :: ((wsX4_square_r1 ++ (wsX4_square_r2 ++ wsX4_square_r3)) ++ wsX40)
def wsX4_cellHas : List Cond := .code yX4_cellHas cX4_cellHas 2 (some .int) :: ([.fieldLink RX4 7 "StatueSquareModel" "has" "[I", .methodLink RX4 147 yX4_noCell, .instanceMethod yX4_noCell, .selects RX4 yX4_noCell yX4_noCell, .initialized RX4, .code yX4_noCell cX4_noCell 2 (some .boolean), .methodLink RX4 78 yX4_cells, .instanceMethod yX4_cells, .selects RX4 yX4_cells yX4_cells, .code yX4_cells cX4_cells 1 (some .int), .fieldLink RX4 72 "StatueSquareModel" "high" "I", .fieldLink RX4 75 "StatueSquareModel" "wide" "I", .methodLink RX4 82 yX4_in, .static yX4_in, .code yX4_in cX4_in 6 (some .boolean)] ++ wsX40)
def wsX4_tallNow : List Cond := .code yX4_tallNow cX4_tallNow 3 (some .int) :: ([.fieldLink RX4 16 "StatueSquareModel" "kindOf" "[I", .fieldLink RX4 22 "StatueSquareModel" "tallOf" "[I", .fieldLink RX4 143 "StatueSquareModel" "isWinter" "Z", .fieldLink RX4 140 "StatueSquareModel" "yearNow" "I"] ++ wsX40)
def wsX4_ofThing : List Cond := .code yX4_ofThing cX4_ofThing 3 (some .int) :: ([.fieldLink RX4 16 "StatueSquareModel" "kindOf" "[I", .fieldLink RX4 19 "StatueSquareModel" "thingAt" "[I", .fieldLink RX4 22 "StatueSquareModel" "tallOf" "[I", .fieldLink RX4 25 "StatueSquareModel" "isCut" "[Z", .fieldLink RX4 29 "StatueSquareModel" "priceOf" "[I", .methodLink RX4 150 yX4_noThing, .instanceMethod yX4_noThing, .selects RX4 yX4_noThing yX4_noThing, .initialized RX4, .code yX4_noThing cX4_noThing 2 (some .boolean), .fieldLink RX4 86 "StatueSquareModel" "things" "I", .methodLink RX4 82 yX4_in, .static yX4_in, .code yX4_in cX4_in 6 (some .boolean), .methodLink RX4 153 yX4_tallNow, .instanceMethod yX4_tallNow, .selects RX4 yX4_tallNow yX4_tallNow, .code yX4_tallNow cX4_tallNow 3 (some .int), .fieldLink RX4 143 "StatueSquareModel" "isWinter" "Z", .fieldLink RX4 140 "StatueSquareModel" "yearNow" "I"] ++ wsX40)
def wsX4_bench : List Cond := .code yX4_bench cX4_bench 2 (some .int) :: ([.fieldLink RX4 13 "StatueSquareModel" "benchAt" "[I", .methodLink RX4 156 yX4_noBench, .instanceMethod yX4_noBench, .selects RX4 yX4_noBench yX4_noBench, .initialized RX4, .code yX4_noBench cX4_noBench 2 (some .boolean), .fieldLink RX4 89 "StatueSquareModel" "benches" "I", .methodLink RX4 82 yX4_in, .static yX4_in, .code yX4_in cX4_in 6 (some .boolean)] ++ wsX40)
def wsX4_year : List Cond := .code yX4_year cX4_year 4 (some .int) :: ([.constantLong RX4 159 (30), .fieldLink RX4 72 "StatueSquareModel" "high" "I", .fieldLink RX4 140 "StatueSquareModel" "yearNow" "I", .fieldLink RX4 143 "StatueSquareModel" "isWinter" "Z", .methodLink RX4 82 yX4_in, .static yX4_in, .initialized RX4, .code yX4_in cX4_in 6 (some .boolean)] ++ wsX40)
def wsX4_cut : List Cond := .code yX4_cut cX4_cut 4 (some .int) :: ([.fieldLink RX4 25 "StatueSquareModel" "isCut" "[Z", .methodLink RX4 150 yX4_noThing, .instanceMethod yX4_noThing, .selects RX4 yX4_noThing yX4_noThing, .initialized RX4, .code yX4_noThing cX4_noThing 2 (some .boolean), .fieldLink RX4 86 "StatueSquareModel" "things" "I", .methodLink RX4 82 yX4_in, .static yX4_in, .code yX4_in cX4_in 6 (some .boolean)] ++ wsX40)
def wsX4_price : List Cond := .code yX4_price cX4_price 4 (some .int) :: ([.constantLong RX4 161 (9), .fieldLink RX4 29 "StatueSquareModel" "priceOf" "[I", .methodLink RX4 150 yX4_noThing, .instanceMethod yX4_noThing, .selects RX4 yX4_noThing yX4_noThing, .initialized RX4, .code yX4_noThing cX4_noThing 2 (some .boolean), .fieldLink RX4 86 "StatueSquareModel" "things" "I", .methodLink RX4 82 yX4_in, .static yX4_in, .code yX4_in cX4_in 6 (some .boolean)] ++ wsX40)
def wsX4_statue : List Cond := .code yX4_statue cX4_statue 4 (some .int) :: ([.constantLong RX4 161 (9), .fieldLink RX4 7 "StatueSquareModel" "has" "[I", .fieldLink RX4 47 "StatueSquareModel" "statueAt" "I", .fieldLink RX4 163 "StatueSquareModel" "blockNow" "I", .methodLink RX4 147 yX4_noCell, .instanceMethod yX4_noCell, .selects RX4 yX4_noCell yX4_noCell, .initialized RX4, .code yX4_noCell cX4_noCell 2 (some .boolean), .methodLink RX4 78 yX4_cells, .instanceMethod yX4_cells, .selects RX4 yX4_cells yX4_cells, .code yX4_cells cX4_cells 1 (some .int), .fieldLink RX4 72 "StatueSquareModel" "high" "I", .fieldLink RX4 75 "StatueSquareModel" "wide" "I", .methodLink RX4 82 yX4_in, .static yX4_in, .code yX4_in cX4_in 6 (some .boolean)] ++ wsX40)
def wsX4_inTheWay : List Cond := .code yX4_inTheWay cX4_inTheWay 14 (some .int) :: ([.fieldLink RX4 75 "StatueSquareModel" "wide" "I", .fieldLink RX4 13 "StatueSquareModel" "benchAt" "[I", .fieldLink RX4 7 "StatueSquareModel" "has" "[I", .fieldLink RX4 25 "StatueSquareModel" "isCut" "[Z", .methodLink RX4 166 yX4_far, .static yX4_far, .initialized RX4, .code yX4_far cX4_far 2 (some .int), .methodLink RX4 169 yX4_common, .static yX4_common, .code yX4_common cX4_common 5 (some .int), .methodLink RX4 153 yX4_tallNow, .instanceMethod yX4_tallNow, .selects RX4 yX4_tallNow yX4_tallNow, .code yX4_tallNow cX4_tallNow 3 (some .int), .fieldLink RX4 16 "StatueSquareModel" "kindOf" "[I", .fieldLink RX4 22 "StatueSquareModel" "tallOf" "[I", .fieldLink RX4 143 "StatueSquareModel" "isWinter" "Z", .fieldLink RX4 140 "StatueSquareModel" "yearNow" "I"] ++ wsX40)
def wsX4_seenAt : List Cond := .code yX4_seenAt cX4_seenAt 6 (some .int) :: ([.methodLink RX4 172 yX4_inTheWay, .instanceMethod yX4_inTheWay, .selects RX4 yX4_inTheWay yX4_inTheWay, .initialized RX4, .code yX4_inTheWay cX4_inTheWay 14 (some .int), .fieldLink RX4 75 "StatueSquareModel" "wide" "I", .fieldLink RX4 13 "StatueSquareModel" "benchAt" "[I", .fieldLink RX4 7 "StatueSquareModel" "has" "[I", .fieldLink RX4 25 "StatueSquareModel" "isCut" "[Z", .methodLink RX4 166 yX4_far, .static yX4_far, .code yX4_far cX4_far 2 (some .int), .methodLink RX4 169 yX4_common, .static yX4_common, .code yX4_common cX4_common 5 (some .int), .methodLink RX4 153 yX4_tallNow, .instanceMethod yX4_tallNow, .selects RX4 yX4_tallNow yX4_tallNow, .code yX4_tallNow cX4_tallNow 3 (some .int), .fieldLink RX4 16 "StatueSquareModel" "kindOf" "[I", .fieldLink RX4 22 "StatueSquareModel" "tallOf" "[I", .fieldLink RX4 143 "StatueSquareModel" "isWinter" "Z", .fieldLink RX4 140 "StatueSquareModel" "yearNow" "I"] ++ wsX40)
def wsX4_wholeAt_r1 : List Cond := [Cond.fieldLink RX4 89 "StatueSquareModel" "benches" "I", Cond.methodLink RX4 175 yX4_seenAt, Cond.instanceMethod yX4_seenAt, Cond.selects RX4 yX4_seenAt yX4_seenAt, Cond.initialized RX4, Cond.code yX4_seenAt cX4_seenAt 6 (some .int), Cond.methodLink RX4 172 yX4_inTheWay, Cond.instanceMethod yX4_inTheWay, Cond.selects RX4 yX4_inTheWay yX4_inTheWay, Cond.code yX4_inTheWay cX4_inTheWay 14 (some .int), Cond.fieldLink RX4 75 "StatueSquareModel" "wide" "I", Cond.fieldLink RX4 13 "StatueSquareModel" "benchAt" "[I", Cond.fieldLink RX4 7 "StatueSquareModel" "has" "[I", Cond.fieldLink RX4 25 "StatueSquareModel" "isCut" "[Z", Cond.methodLink RX4 166 yX4_far, Cond.static yX4_far, Cond.code yX4_far cX4_far 2 (some .int), Cond.methodLink RX4 169 yX4_common, Cond.static yX4_common, Cond.code yX4_common cX4_common 5 (some .int), Cond.methodLink RX4 153 yX4_tallNow, Cond.instanceMethod yX4_tallNow, Cond.selects RX4 yX4_tallNow yX4_tallNow, Cond.code yX4_tallNow cX4_tallNow 3 (some .int)]
def wsX4_wholeAt_r2 : List Cond := [Cond.fieldLink RX4 16 "StatueSquareModel" "kindOf" "[I", Cond.fieldLink RX4 22 "StatueSquareModel" "tallOf" "[I", Cond.fieldLink RX4 143 "StatueSquareModel" "isWinter" "Z", Cond.fieldLink RX4 140 "StatueSquareModel" "yearNow" "I"]
def wsX4_wholeAt : List Cond := .code yX4_wholeAt cX4_wholeAt 5 (some .int) :: ((wsX4_wholeAt_r1 ++ wsX4_wholeAt_r2) ++ wsX40)
def wsX4_bits : List Cond := .code yX4_bits cX4_bits 3 (some .int) :: ([])
def wsX4_seen_r1 : List Cond := [Cond.fieldLink RX4 47 "StatueSquareModel" "statueAt" "I", Cond.fieldLink RX4 163 "StatueSquareModel" "blockNow" "I", Cond.methodLink RX4 156 yX4_noBench, Cond.instanceMethod yX4_noBench, Cond.selects RX4 yX4_noBench yX4_noBench, Cond.initialized RX4, Cond.code yX4_noBench cX4_noBench 2 (some .boolean), Cond.fieldLink RX4 89 "StatueSquareModel" "benches" "I", Cond.methodLink RX4 82 yX4_in, Cond.static yX4_in, Cond.code yX4_in cX4_in 6 (some .boolean), Cond.methodLink RX4 175 yX4_seenAt, Cond.instanceMethod yX4_seenAt, Cond.selects RX4 yX4_seenAt yX4_seenAt, Cond.code yX4_seenAt cX4_seenAt 6 (some .int), Cond.methodLink RX4 172 yX4_inTheWay, Cond.instanceMethod yX4_inTheWay, Cond.selects RX4 yX4_inTheWay yX4_inTheWay, Cond.code yX4_inTheWay cX4_inTheWay 14 (some .int), Cond.fieldLink RX4 75 "StatueSquareModel" "wide" "I", Cond.fieldLink RX4 13 "StatueSquareModel" "benchAt" "[I", Cond.fieldLink RX4 7 "StatueSquareModel" "has" "[I", Cond.fieldLink RX4 25 "StatueSquareModel" "isCut" "[Z", Cond.methodLink RX4 166 yX4_far]
def wsX4_seen_r2 : List Cond := [Cond.static yX4_far, Cond.code yX4_far cX4_far 2 (some .int), Cond.methodLink RX4 169 yX4_common, Cond.static yX4_common, Cond.code yX4_common cX4_common 5 (some .int), Cond.methodLink RX4 153 yX4_tallNow, Cond.instanceMethod yX4_tallNow, Cond.selects RX4 yX4_tallNow yX4_tallNow, Cond.code yX4_tallNow cX4_tallNow 3 (some .int), Cond.fieldLink RX4 16 "StatueSquareModel" "kindOf" "[I", Cond.fieldLink RX4 22 "StatueSquareModel" "tallOf" "[I", Cond.fieldLink RX4 143 "StatueSquareModel" "isWinter" "Z", Cond.fieldLink RX4 140 "StatueSquareModel" "yearNow" "I"]
def wsX4_seen : List Cond := .code yX4_seen cX4_seen 2 (some .int) :: ((wsX4_seen_r1 ++ wsX4_seen_r2) ++ wsX40)
def wsX4_whole_r1 : List Cond := [Cond.fieldLink RX4 47 "StatueSquareModel" "statueAt" "I", Cond.fieldLink RX4 163 "StatueSquareModel" "blockNow" "I", Cond.methodLink RX4 179 yX4_wholeAt, Cond.instanceMethod yX4_wholeAt, Cond.selects RX4 yX4_wholeAt yX4_wholeAt, Cond.initialized RX4, Cond.code yX4_wholeAt cX4_wholeAt 5 (some .int), Cond.fieldLink RX4 89 "StatueSquareModel" "benches" "I", Cond.methodLink RX4 175 yX4_seenAt, Cond.instanceMethod yX4_seenAt, Cond.selects RX4 yX4_seenAt yX4_seenAt, Cond.code yX4_seenAt cX4_seenAt 6 (some .int), Cond.methodLink RX4 172 yX4_inTheWay, Cond.instanceMethod yX4_inTheWay, Cond.selects RX4 yX4_inTheWay yX4_inTheWay, Cond.code yX4_inTheWay cX4_inTheWay 14 (some .int), Cond.fieldLink RX4 75 "StatueSquareModel" "wide" "I", Cond.fieldLink RX4 13 "StatueSquareModel" "benchAt" "[I", Cond.fieldLink RX4 7 "StatueSquareModel" "has" "[I", Cond.fieldLink RX4 25 "StatueSquareModel" "isCut" "[Z", Cond.methodLink RX4 166 yX4_far, Cond.static yX4_far, Cond.code yX4_far cX4_far 2 (some .int), Cond.methodLink RX4 169 yX4_common]
def wsX4_whole_r2 : List Cond := [Cond.static yX4_common, Cond.code yX4_common cX4_common 5 (some .int), Cond.methodLink RX4 153 yX4_tallNow, Cond.instanceMethod yX4_tallNow, Cond.selects RX4 yX4_tallNow yX4_tallNow, Cond.code yX4_tallNow cX4_tallNow 3 (some .int), Cond.fieldLink RX4 16 "StatueSquareModel" "kindOf" "[I", Cond.fieldLink RX4 22 "StatueSquareModel" "tallOf" "[I", Cond.fieldLink RX4 143 "StatueSquareModel" "isWinter" "Z", Cond.fieldLink RX4 140 "StatueSquareModel" "yearNow" "I"]
def wsX4_whole : List Cond := .code yX4_whole cX4_whole 1 (some .int) :: ((wsX4_whole_r1 ++ wsX4_whole_r2) ++ wsX40)
def wsX4_hiddenAt_r1 : List Cond := [Cond.fieldLink RX4 47 "StatueSquareModel" "statueAt" "I", Cond.fieldLink RX4 163 "StatueSquareModel" "blockNow" "I", Cond.methodLink RX4 172 yX4_inTheWay, Cond.instanceMethod yX4_inTheWay, Cond.selects RX4 yX4_inTheWay yX4_inTheWay, Cond.initialized RX4, Cond.code yX4_inTheWay cX4_inTheWay 14 (some .int), Cond.fieldLink RX4 75 "StatueSquareModel" "wide" "I", Cond.fieldLink RX4 13 "StatueSquareModel" "benchAt" "[I", Cond.fieldLink RX4 7 "StatueSquareModel" "has" "[I", Cond.fieldLink RX4 25 "StatueSquareModel" "isCut" "[Z", Cond.methodLink RX4 166 yX4_far, Cond.static yX4_far, Cond.code yX4_far cX4_far 2 (some .int), Cond.methodLink RX4 169 yX4_common, Cond.static yX4_common, Cond.code yX4_common cX4_common 5 (some .int), Cond.methodLink RX4 153 yX4_tallNow, Cond.instanceMethod yX4_tallNow, Cond.selects RX4 yX4_tallNow yX4_tallNow, Cond.code yX4_tallNow cX4_tallNow 3 (some .int), Cond.fieldLink RX4 16 "StatueSquareModel" "kindOf" "[I", Cond.fieldLink RX4 22 "StatueSquareModel" "tallOf" "[I", Cond.fieldLink RX4 143 "StatueSquareModel" "isWinter" "Z"]
def wsX4_hiddenAt_r2 : List Cond := [Cond.fieldLink RX4 140 "StatueSquareModel" "yearNow" "I"]
def wsX4_hiddenAt : List Cond := .code yX4_hiddenAt cX4_hiddenAt 4 (some .int) :: ((wsX4_hiddenAt_r1 ++ wsX4_hiddenAt_r2) ++ wsX40)
def wsX4_hidden_r1 : List Cond := [Cond.fieldLink RX4 47 "StatueSquareModel" "statueAt" "I", Cond.methodLink RX4 156 yX4_noBench, Cond.instanceMethod yX4_noBench, Cond.selects RX4 yX4_noBench yX4_noBench, Cond.initialized RX4, Cond.code yX4_noBench cX4_noBench 2 (some .boolean), Cond.fieldLink RX4 89 "StatueSquareModel" "benches" "I", Cond.methodLink RX4 82 yX4_in, Cond.static yX4_in, Cond.code yX4_in cX4_in 6 (some .boolean), Cond.methodLink RX4 182 yX4_hiddenAt, Cond.instanceMethod yX4_hiddenAt, Cond.selects RX4 yX4_hiddenAt yX4_hiddenAt, Cond.code yX4_hiddenAt cX4_hiddenAt 4 (some .int), Cond.fieldLink RX4 163 "StatueSquareModel" "blockNow" "I", Cond.methodLink RX4 172 yX4_inTheWay, Cond.instanceMethod yX4_inTheWay, Cond.selects RX4 yX4_inTheWay yX4_inTheWay, Cond.code yX4_inTheWay cX4_inTheWay 14 (some .int), Cond.fieldLink RX4 75 "StatueSquareModel" "wide" "I", Cond.fieldLink RX4 13 "StatueSquareModel" "benchAt" "[I", Cond.fieldLink RX4 7 "StatueSquareModel" "has" "[I", Cond.fieldLink RX4 25 "StatueSquareModel" "isCut" "[Z", Cond.methodLink RX4 166 yX4_far]
def wsX4_hidden_r2 : List Cond := [Cond.static yX4_far, Cond.code yX4_far cX4_far 2 (some .int), Cond.methodLink RX4 169 yX4_common, Cond.static yX4_common, Cond.code yX4_common cX4_common 5 (some .int), Cond.methodLink RX4 153 yX4_tallNow, Cond.instanceMethod yX4_tallNow, Cond.selects RX4 yX4_tallNow yX4_tallNow, Cond.code yX4_tallNow cX4_tallNow 3 (some .int), Cond.fieldLink RX4 16 "StatueSquareModel" "kindOf" "[I", Cond.fieldLink RX4 22 "StatueSquareModel" "tallOf" "[I", Cond.fieldLink RX4 143 "StatueSquareModel" "isWinter" "Z", Cond.fieldLink RX4 140 "StatueSquareModel" "yearNow" "I"]
def wsX4_hidden : List Cond := .code yX4_hidden cX4_hidden 2 (some .int) :: ((wsX4_hidden_r1 ++ wsX4_hidden_r2) ++ wsX40)
def wsX4_sight_r1 : List Cond := [Cond.fieldLink RX4 47 "StatueSquareModel" "statueAt" "I", Cond.fieldLink RX4 89 "StatueSquareModel" "benches" "I", Cond.fieldLink RX4 163 "StatueSquareModel" "blockNow" "I", Cond.methodLink RX4 82 yX4_in, Cond.static yX4_in, Cond.initialized RX4, Cond.code yX4_in cX4_in 6 (some .boolean), Cond.methodLink RX4 68 yX4_lost, Cond.static yX4_lost, Cond.code yX4_lost cX4_lost 0 (some .long), Cond.constantLong RX4 63 (-9223372036854775808), Cond.methodLink RX4 175 yX4_seenAt, Cond.instanceMethod yX4_seenAt, Cond.selects RX4 yX4_seenAt yX4_seenAt, Cond.code yX4_seenAt cX4_seenAt 6 (some .int), Cond.methodLink RX4 172 yX4_inTheWay, Cond.instanceMethod yX4_inTheWay, Cond.selects RX4 yX4_inTheWay yX4_inTheWay, Cond.code yX4_inTheWay cX4_inTheWay 14 (some .int), Cond.fieldLink RX4 75 "StatueSquareModel" "wide" "I", Cond.fieldLink RX4 13 "StatueSquareModel" "benchAt" "[I", Cond.fieldLink RX4 7 "StatueSquareModel" "has" "[I", Cond.fieldLink RX4 25 "StatueSquareModel" "isCut" "[Z", Cond.methodLink RX4 166 yX4_far]
def wsX4_sight_r2 : List Cond := [Cond.static yX4_far, Cond.code yX4_far cX4_far 2 (some .int), Cond.methodLink RX4 169 yX4_common, Cond.static yX4_common, Cond.code yX4_common cX4_common 5 (some .int), Cond.methodLink RX4 153 yX4_tallNow, Cond.instanceMethod yX4_tallNow, Cond.selects RX4 yX4_tallNow yX4_tallNow, Cond.code yX4_tallNow cX4_tallNow 3 (some .int), Cond.fieldLink RX4 16 "StatueSquareModel" "kindOf" "[I", Cond.fieldLink RX4 22 "StatueSquareModel" "tallOf" "[I", Cond.fieldLink RX4 143 "StatueSquareModel" "isWinter" "Z", Cond.fieldLink RX4 140 "StatueSquareModel" "yearNow" "I", Cond.methodLink RX4 185 yX4_bits, Cond.static yX4_bits, Cond.code yX4_bits cX4_bits 3 (some .int)]
def wsX4_sight : List Cond := .code yX4_sight cX4_sight 4 (some .long) :: ((wsX4_sight_r1 ++ wsX4_sight_r2) ++ wsX40)
def wsX4_best_r1 : List Cond := [Cond.constantLong RX4 161 (9), Cond.fieldLink RX4 72 "StatueSquareModel" "high" "I", Cond.fieldLink RX4 7 "StatueSquareModel" "has" "[I", Cond.methodLink RX4 82 yX4_in, Cond.static yX4_in, Cond.initialized RX4, Cond.code yX4_in cX4_in 6 (some .boolean), Cond.methodLink RX4 78 yX4_cells, Cond.instanceMethod yX4_cells, Cond.selects RX4 yX4_cells yX4_cells, Cond.code yX4_cells cX4_cells 1 (some .int), Cond.fieldLink RX4 75 "StatueSquareModel" "wide" "I", Cond.methodLink RX4 179 yX4_wholeAt, Cond.instanceMethod yX4_wholeAt, Cond.selects RX4 yX4_wholeAt yX4_wholeAt, Cond.code yX4_wholeAt cX4_wholeAt 5 (some .int), Cond.fieldLink RX4 89 "StatueSquareModel" "benches" "I", Cond.methodLink RX4 175 yX4_seenAt, Cond.instanceMethod yX4_seenAt, Cond.selects RX4 yX4_seenAt yX4_seenAt, Cond.code yX4_seenAt cX4_seenAt 6 (some .int), Cond.methodLink RX4 172 yX4_inTheWay, Cond.instanceMethod yX4_inTheWay, Cond.selects RX4 yX4_inTheWay yX4_inTheWay]
def wsX4_best_r2 : List Cond := [Cond.code yX4_inTheWay cX4_inTheWay 14 (some .int), Cond.fieldLink RX4 13 "StatueSquareModel" "benchAt" "[I", Cond.fieldLink RX4 25 "StatueSquareModel" "isCut" "[Z", Cond.methodLink RX4 166 yX4_far, Cond.static yX4_far, Cond.code yX4_far cX4_far 2 (some .int), Cond.methodLink RX4 169 yX4_common, Cond.static yX4_common, Cond.code yX4_common cX4_common 5 (some .int), Cond.methodLink RX4 153 yX4_tallNow, Cond.instanceMethod yX4_tallNow, Cond.selects RX4 yX4_tallNow yX4_tallNow, Cond.code yX4_tallNow cX4_tallNow 3 (some .int), Cond.fieldLink RX4 16 "StatueSquareModel" "kindOf" "[I", Cond.fieldLink RX4 22 "StatueSquareModel" "tallOf" "[I", Cond.fieldLink RX4 143 "StatueSquareModel" "isWinter" "Z", Cond.fieldLink RX4 140 "StatueSquareModel" "yearNow" "I", Cond.methodLink RX4 185 yX4_bits, Cond.static yX4_bits, Cond.code yX4_bits cX4_bits 3 (some .int)]
def wsX4_best : List Cond := .code yX4_best cX4_best 7 (some .int) :: ((wsX4_best_r1 ++ wsX4_best_r2) ++ wsX40)
def wsX4_block_r1 : List Cond := [Cond.fieldLink RX4 7 "StatueSquareModel" "has" "[I", Cond.methodLink RX4 147 yX4_noCell, Cond.instanceMethod yX4_noCell, Cond.selects RX4 yX4_noCell yX4_noCell, Cond.initialized RX4, Cond.code yX4_noCell cX4_noCell 2 (some .boolean), Cond.methodLink RX4 78 yX4_cells, Cond.instanceMethod yX4_cells, Cond.selects RX4 yX4_cells yX4_cells, Cond.code yX4_cells cX4_cells 1 (some .int), Cond.fieldLink RX4 72 "StatueSquareModel" "high" "I", Cond.fieldLink RX4 75 "StatueSquareModel" "wide" "I", Cond.methodLink RX4 82 yX4_in, Cond.static yX4_in, Cond.code yX4_in cX4_in 6 (some .boolean), Cond.methodLink RX4 179 yX4_wholeAt, Cond.instanceMethod yX4_wholeAt, Cond.selects RX4 yX4_wholeAt yX4_wholeAt, Cond.code yX4_wholeAt cX4_wholeAt 5 (some .int), Cond.fieldLink RX4 89 "StatueSquareModel" "benches" "I", Cond.methodLink RX4 175 yX4_seenAt, Cond.instanceMethod yX4_seenAt, Cond.selects RX4 yX4_seenAt yX4_seenAt, Cond.code yX4_seenAt cX4_seenAt 6 (some .int)]
def wsX4_block_r2 : List Cond := [Cond.methodLink RX4 172 yX4_inTheWay, Cond.instanceMethod yX4_inTheWay, Cond.selects RX4 yX4_inTheWay yX4_inTheWay, Cond.code yX4_inTheWay cX4_inTheWay 14 (some .int), Cond.fieldLink RX4 13 "StatueSquareModel" "benchAt" "[I", Cond.fieldLink RX4 25 "StatueSquareModel" "isCut" "[Z", Cond.methodLink RX4 166 yX4_far, Cond.static yX4_far, Cond.code yX4_far cX4_far 2 (some .int), Cond.methodLink RX4 169 yX4_common, Cond.static yX4_common, Cond.code yX4_common cX4_common 5 (some .int), Cond.methodLink RX4 153 yX4_tallNow, Cond.instanceMethod yX4_tallNow, Cond.selects RX4 yX4_tallNow yX4_tallNow, Cond.code yX4_tallNow cX4_tallNow 3 (some .int), Cond.fieldLink RX4 16 "StatueSquareModel" "kindOf" "[I", Cond.fieldLink RX4 22 "StatueSquareModel" "tallOf" "[I", Cond.fieldLink RX4 143 "StatueSquareModel" "isWinter" "Z", Cond.fieldLink RX4 140 "StatueSquareModel" "yearNow" "I", Cond.methodLink RX4 185 yX4_bits, Cond.static yX4_bits, Cond.code yX4_bits cX4_bits 3 (some .int)]
def wsX4_block : List Cond := .code yX4_block cX4_block 7 (some .int) :: ((wsX4_block_r1 ++ wsX4_block_r2) ++ wsX40)
def wsX4_cuts_r1 : List Cond := [Cond.fieldLink RX4 47 "StatueSquareModel" "statueAt" "I", Cond.fieldLink RX4 89 "StatueSquareModel" "benches" "I", Cond.fieldLink RX4 86 "StatueSquareModel" "things" "I", Cond.fieldLink RX4 29 "StatueSquareModel" "priceOf" "[I", Cond.methodLink RX4 82 yX4_in, Cond.static yX4_in, Cond.initialized RX4, Cond.code yX4_in cX4_in 6 (some .boolean), Cond.methodLink RX4 182 yX4_hiddenAt, Cond.instanceMethod yX4_hiddenAt, Cond.selects RX4 yX4_hiddenAt yX4_hiddenAt, Cond.code yX4_hiddenAt cX4_hiddenAt 4 (some .int), Cond.fieldLink RX4 163 "StatueSquareModel" "blockNow" "I", Cond.methodLink RX4 172 yX4_inTheWay, Cond.instanceMethod yX4_inTheWay, Cond.selects RX4 yX4_inTheWay yX4_inTheWay, Cond.code yX4_inTheWay cX4_inTheWay 14 (some .int), Cond.fieldLink RX4 75 "StatueSquareModel" "wide" "I", Cond.fieldLink RX4 13 "StatueSquareModel" "benchAt" "[I", Cond.fieldLink RX4 7 "StatueSquareModel" "has" "[I", Cond.fieldLink RX4 25 "StatueSquareModel" "isCut" "[Z", Cond.methodLink RX4 166 yX4_far, Cond.static yX4_far, Cond.code yX4_far cX4_far 2 (some .int)]
def wsX4_cuts_r2 : List Cond := [Cond.methodLink RX4 169 yX4_common, Cond.static yX4_common, Cond.code yX4_common cX4_common 5 (some .int), Cond.methodLink RX4 153 yX4_tallNow, Cond.instanceMethod yX4_tallNow, Cond.selects RX4 yX4_tallNow yX4_tallNow, Cond.code yX4_tallNow cX4_tallNow 3 (some .int), Cond.fieldLink RX4 16 "StatueSquareModel" "kindOf" "[I", Cond.fieldLink RX4 22 "StatueSquareModel" "tallOf" "[I", Cond.fieldLink RX4 143 "StatueSquareModel" "isWinter" "Z", Cond.fieldLink RX4 140 "StatueSquareModel" "yearNow" "I"]
def wsX4_cuts : List Cond := .code yX4_cuts cX4_cuts 5 (some .int) :: ((wsX4_cuts_r1 ++ wsX4_cuts_r2) ++ wsX40)
def wsX4_complaintsNow_r1 : List Cond := [Cond.fieldLink RX4 89 "StatueSquareModel" "benches" "I", Cond.fieldLink RX4 47 "StatueSquareModel" "statueAt" "I", Cond.fieldLink RX4 163 "StatueSquareModel" "blockNow" "I", Cond.methodLink RX4 179 yX4_wholeAt, Cond.instanceMethod yX4_wholeAt, Cond.selects RX4 yX4_wholeAt yX4_wholeAt, Cond.initialized RX4, Cond.code yX4_wholeAt cX4_wholeAt 5 (some .int), Cond.methodLink RX4 175 yX4_seenAt, Cond.instanceMethod yX4_seenAt, Cond.selects RX4 yX4_seenAt yX4_seenAt, Cond.code yX4_seenAt cX4_seenAt 6 (some .int), Cond.methodLink RX4 172 yX4_inTheWay, Cond.instanceMethod yX4_inTheWay, Cond.selects RX4 yX4_inTheWay yX4_inTheWay, Cond.code yX4_inTheWay cX4_inTheWay 14 (some .int), Cond.fieldLink RX4 75 "StatueSquareModel" "wide" "I", Cond.fieldLink RX4 13 "StatueSquareModel" "benchAt" "[I", Cond.fieldLink RX4 7 "StatueSquareModel" "has" "[I", Cond.fieldLink RX4 25 "StatueSquareModel" "isCut" "[Z", Cond.methodLink RX4 166 yX4_far, Cond.static yX4_far, Cond.code yX4_far cX4_far 2 (some .int), Cond.methodLink RX4 169 yX4_common]
def wsX4_complaintsNow_r2 : List Cond := [Cond.static yX4_common, Cond.code yX4_common cX4_common 5 (some .int), Cond.methodLink RX4 153 yX4_tallNow, Cond.instanceMethod yX4_tallNow, Cond.selects RX4 yX4_tallNow yX4_tallNow, Cond.code yX4_tallNow cX4_tallNow 3 (some .int), Cond.fieldLink RX4 16 "StatueSquareModel" "kindOf" "[I", Cond.fieldLink RX4 22 "StatueSquareModel" "tallOf" "[I", Cond.fieldLink RX4 143 "StatueSquareModel" "isWinter" "Z", Cond.fieldLink RX4 140 "StatueSquareModel" "yearNow" "I"]
def wsX4_complaintsNow : List Cond := .code yX4_complaintsNow cX4_complaintsNow 1 (some .int) :: ((wsX4_complaintsNow_r1 ++ wsX4_complaintsNow_r2) ++ wsX40)
def wsX4_complaints_r1 : List Cond := [Cond.fieldLink RX4 47 "StatueSquareModel" "statueAt" "I", Cond.methodLink RX4 188 yX4_complaintsNow, Cond.instanceMethod yX4_complaintsNow, Cond.selects RX4 yX4_complaintsNow yX4_complaintsNow, Cond.initialized RX4, Cond.code yX4_complaintsNow cX4_complaintsNow 1 (some .int), Cond.fieldLink RX4 89 "StatueSquareModel" "benches" "I", Cond.fieldLink RX4 163 "StatueSquareModel" "blockNow" "I", Cond.methodLink RX4 179 yX4_wholeAt, Cond.instanceMethod yX4_wholeAt, Cond.selects RX4 yX4_wholeAt yX4_wholeAt, Cond.code yX4_wholeAt cX4_wholeAt 5 (some .int), Cond.methodLink RX4 175 yX4_seenAt, Cond.instanceMethod yX4_seenAt, Cond.selects RX4 yX4_seenAt yX4_seenAt, Cond.code yX4_seenAt cX4_seenAt 6 (some .int), Cond.methodLink RX4 172 yX4_inTheWay, Cond.instanceMethod yX4_inTheWay, Cond.selects RX4 yX4_inTheWay yX4_inTheWay, Cond.code yX4_inTheWay cX4_inTheWay 14 (some .int), Cond.fieldLink RX4 75 "StatueSquareModel" "wide" "I", Cond.fieldLink RX4 13 "StatueSquareModel" "benchAt" "[I", Cond.fieldLink RX4 7 "StatueSquareModel" "has" "[I", Cond.fieldLink RX4 25 "StatueSquareModel" "isCut" "[Z"]
def wsX4_complaints_r2 : List Cond := [Cond.methodLink RX4 166 yX4_far, Cond.static yX4_far, Cond.code yX4_far cX4_far 2 (some .int), Cond.methodLink RX4 169 yX4_common, Cond.static yX4_common, Cond.code yX4_common cX4_common 5 (some .int), Cond.methodLink RX4 153 yX4_tallNow, Cond.instanceMethod yX4_tallNow, Cond.selects RX4 yX4_tallNow yX4_tallNow, Cond.code yX4_tallNow cX4_tallNow 3 (some .int), Cond.fieldLink RX4 16 "StatueSquareModel" "kindOf" "[I", Cond.fieldLink RX4 22 "StatueSquareModel" "tallOf" "[I", Cond.fieldLink RX4 143 "StatueSquareModel" "isWinter" "Z", Cond.fieldLink RX4 140 "StatueSquareModel" "yearNow" "I"]
def wsX4_complaints : List Cond := .code yX4_complaints cX4_complaints 1 (some .int) :: ((wsX4_complaints_r1 ++ wsX4_complaints_r2) ++ wsX40)
def wsX4_moved_r1 : List Cond := [Cond.fieldLink RX4 89 "StatueSquareModel" "benches" "I", Cond.fieldLink RX4 47 "StatueSquareModel" "statueAt" "I", Cond.fieldLink RX4 86 "StatueSquareModel" "things" "I", Cond.fieldLink RX4 25 "StatueSquareModel" "isCut" "[Z", Cond.methodLink RX4 188 yX4_complaintsNow, Cond.instanceMethod yX4_complaintsNow, Cond.selects RX4 yX4_complaintsNow yX4_complaintsNow, Cond.initialized RX4, Cond.code yX4_complaintsNow cX4_complaintsNow 1 (some .int), Cond.fieldLink RX4 163 "StatueSquareModel" "blockNow" "I", Cond.methodLink RX4 179 yX4_wholeAt, Cond.instanceMethod yX4_wholeAt, Cond.selects RX4 yX4_wholeAt yX4_wholeAt, Cond.code yX4_wholeAt cX4_wholeAt 5 (some .int), Cond.methodLink RX4 175 yX4_seenAt, Cond.instanceMethod yX4_seenAt, Cond.selects RX4 yX4_seenAt yX4_seenAt, Cond.code yX4_seenAt cX4_seenAt 6 (some .int), Cond.methodLink RX4 172 yX4_inTheWay, Cond.instanceMethod yX4_inTheWay, Cond.selects RX4 yX4_inTheWay yX4_inTheWay, Cond.code yX4_inTheWay cX4_inTheWay 14 (some .int), Cond.fieldLink RX4 75 "StatueSquareModel" "wide" "I", Cond.fieldLink RX4 13 "StatueSquareModel" "benchAt" "[I"]
def wsX4_moved_r2 : List Cond := [Cond.fieldLink RX4 7 "StatueSquareModel" "has" "[I", Cond.methodLink RX4 166 yX4_far, Cond.static yX4_far, Cond.code yX4_far cX4_far 2 (some .int), Cond.methodLink RX4 169 yX4_common, Cond.static yX4_common, Cond.code yX4_common cX4_common 5 (some .int), Cond.methodLink RX4 153 yX4_tallNow, Cond.instanceMethod yX4_tallNow, Cond.selects RX4 yX4_tallNow yX4_tallNow, Cond.code yX4_tallNow cX4_tallNow 3 (some .int), Cond.fieldLink RX4 16 "StatueSquareModel" "kindOf" "[I", Cond.fieldLink RX4 22 "StatueSquareModel" "tallOf" "[I", Cond.fieldLink RX4 143 "StatueSquareModel" "isWinter" "Z", Cond.fieldLink RX4 140 "StatueSquareModel" "yearNow" "I"]
def wsX4_moved : List Cond := .code yX4_moved cX4_moved 4 (some .int) :: ((wsX4_moved_r1 ++ wsX4_moved_r2) ++ wsX40)
def wsX4_years_r1 : List Cond := [Cond.fieldLink RX4 47 "StatueSquareModel" "statueAt" "I", Cond.fieldLink RX4 140 "StatueSquareModel" "yearNow" "I", Cond.methodLink RX4 188 yX4_complaintsNow, Cond.instanceMethod yX4_complaintsNow, Cond.selects RX4 yX4_complaintsNow yX4_complaintsNow, Cond.initialized RX4, Cond.code yX4_complaintsNow cX4_complaintsNow 1 (some .int), Cond.fieldLink RX4 89 "StatueSquareModel" "benches" "I", Cond.fieldLink RX4 163 "StatueSquareModel" "blockNow" "I", Cond.methodLink RX4 179 yX4_wholeAt, Cond.instanceMethod yX4_wholeAt, Cond.selects RX4 yX4_wholeAt yX4_wholeAt, Cond.code yX4_wholeAt cX4_wholeAt 5 (some .int), Cond.methodLink RX4 175 yX4_seenAt, Cond.instanceMethod yX4_seenAt, Cond.selects RX4 yX4_seenAt yX4_seenAt, Cond.code yX4_seenAt cX4_seenAt 6 (some .int), Cond.methodLink RX4 172 yX4_inTheWay, Cond.instanceMethod yX4_inTheWay, Cond.selects RX4 yX4_inTheWay yX4_inTheWay, Cond.code yX4_inTheWay cX4_inTheWay 14 (some .int), Cond.fieldLink RX4 75 "StatueSquareModel" "wide" "I", Cond.fieldLink RX4 13 "StatueSquareModel" "benchAt" "[I", Cond.fieldLink RX4 7 "StatueSquareModel" "has" "[I"]
def wsX4_years_r2 : List Cond := [Cond.fieldLink RX4 25 "StatueSquareModel" "isCut" "[Z", Cond.methodLink RX4 166 yX4_far, Cond.static yX4_far, Cond.code yX4_far cX4_far 2 (some .int), Cond.methodLink RX4 169 yX4_common, Cond.static yX4_common, Cond.code yX4_common cX4_common 5 (some .int), Cond.methodLink RX4 153 yX4_tallNow, Cond.instanceMethod yX4_tallNow, Cond.selects RX4 yX4_tallNow yX4_tallNow, Cond.code yX4_tallNow cX4_tallNow 3 (some .int), Cond.fieldLink RX4 16 "StatueSquareModel" "kindOf" "[I", Cond.fieldLink RX4 22 "StatueSquareModel" "tallOf" "[I", Cond.fieldLink RX4 143 "StatueSquareModel" "isWinter" "Z"]
def wsX4_years : List Cond := .code yX4_years cX4_years 4 (some .int) :: ((wsX4_years_r1 ++ wsX4_years_r2) ++ wsX40)
def wsX4_isUnseen_r1 : List Cond := [Cond.fieldLink RX4 89 "StatueSquareModel" "benches" "I", Cond.fieldLink RX4 163 "StatueSquareModel" "blockNow" "I", Cond.methodLink RX4 175 yX4_seenAt, Cond.instanceMethod yX4_seenAt, Cond.selects RX4 yX4_seenAt yX4_seenAt, Cond.initialized RX4, Cond.code yX4_seenAt cX4_seenAt 6 (some .int), Cond.methodLink RX4 172 yX4_inTheWay, Cond.instanceMethod yX4_inTheWay, Cond.selects RX4 yX4_inTheWay yX4_inTheWay, Cond.code yX4_inTheWay cX4_inTheWay 14 (some .int), Cond.fieldLink RX4 75 "StatueSquareModel" "wide" "I", Cond.fieldLink RX4 13 "StatueSquareModel" "benchAt" "[I", Cond.fieldLink RX4 7 "StatueSquareModel" "has" "[I", Cond.fieldLink RX4 25 "StatueSquareModel" "isCut" "[Z", Cond.methodLink RX4 166 yX4_far, Cond.static yX4_far, Cond.code yX4_far cX4_far 2 (some .int), Cond.methodLink RX4 169 yX4_common, Cond.static yX4_common, Cond.code yX4_common cX4_common 5 (some .int), Cond.methodLink RX4 153 yX4_tallNow, Cond.instanceMethod yX4_tallNow, Cond.selects RX4 yX4_tallNow yX4_tallNow]
def wsX4_isUnseen_r2 : List Cond := [Cond.code yX4_tallNow cX4_tallNow 3 (some .int), Cond.fieldLink RX4 16 "StatueSquareModel" "kindOf" "[I", Cond.fieldLink RX4 22 "StatueSquareModel" "tallOf" "[I", Cond.fieldLink RX4 143 "StatueSquareModel" "isWinter" "Z", Cond.fieldLink RX4 140 "StatueSquareModel" "yearNow" "I"]
def wsX4_isUnseen : List Cond := .code yX4_isUnseen cX4_isUnseen 5 (some .boolean) :: ((wsX4_isUnseen_r1 ++ wsX4_isUnseen_r2) ++ wsX40)
def wsX4_second_r1 : List Cond := [Cond.fieldLink RX4 47 "StatueSquareModel" "statueAt" "I", Cond.fieldLink RX4 163 "StatueSquareModel" "blockNow" "I", Cond.fieldLink RX4 7 "StatueSquareModel" "has" "[I", Cond.methodLink RX4 68 yX4_lost, Cond.static yX4_lost, Cond.initialized RX4, Cond.code yX4_lost cX4_lost 0 (some .long), Cond.constantLong RX4 63 (-9223372036854775808), Cond.methodLink RX4 179 yX4_wholeAt, Cond.instanceMethod yX4_wholeAt, Cond.selects RX4 yX4_wholeAt yX4_wholeAt, Cond.code yX4_wholeAt cX4_wholeAt 5 (some .int), Cond.fieldLink RX4 89 "StatueSquareModel" "benches" "I", Cond.methodLink RX4 175 yX4_seenAt, Cond.instanceMethod yX4_seenAt, Cond.selects RX4 yX4_seenAt yX4_seenAt, Cond.code yX4_seenAt cX4_seenAt 6 (some .int), Cond.methodLink RX4 172 yX4_inTheWay, Cond.instanceMethod yX4_inTheWay, Cond.selects RX4 yX4_inTheWay yX4_inTheWay, Cond.code yX4_inTheWay cX4_inTheWay 14 (some .int), Cond.fieldLink RX4 75 "StatueSquareModel" "wide" "I", Cond.fieldLink RX4 13 "StatueSquareModel" "benchAt" "[I", Cond.fieldLink RX4 25 "StatueSquareModel" "isCut" "[Z"]
def wsX4_second_r2 : List Cond := [Cond.methodLink RX4 166 yX4_far, Cond.static yX4_far, Cond.code yX4_far cX4_far 2 (some .int), Cond.methodLink RX4 169 yX4_common, Cond.static yX4_common, Cond.code yX4_common cX4_common 5 (some .int), Cond.methodLink RX4 153 yX4_tallNow, Cond.instanceMethod yX4_tallNow, Cond.selects RX4 yX4_tallNow yX4_tallNow, Cond.code yX4_tallNow cX4_tallNow 3 (some .int), Cond.fieldLink RX4 16 "StatueSquareModel" "kindOf" "[I", Cond.fieldLink RX4 22 "StatueSquareModel" "tallOf" "[I", Cond.fieldLink RX4 143 "StatueSquareModel" "isWinter" "Z", Cond.fieldLink RX4 140 "StatueSquareModel" "yearNow" "I", Cond.methodLink RX4 78 yX4_cells, Cond.instanceMethod yX4_cells, Cond.selects RX4 yX4_cells yX4_cells, Cond.code yX4_cells cX4_cells 1 (some .int), Cond.fieldLink RX4 72 "StatueSquareModel" "high" "I", Cond.methodLink RX4 191 yX4_isUnseen, Cond.instanceMethod yX4_isUnseen, Cond.selects RX4 yX4_isUnseen yX4_isUnseen, Cond.code yX4_isUnseen cX4_isUnseen 5 (some .boolean)]
def wsX4_second : List Cond := .code yX4_second cX4_second 6 (some .long) :: ((wsX4_second_r1 ++ wsX4_second_r2) ++ wsX40)
def wsX4_litBy : List Cond := .code yX4_litBy cX4_litBy 5 (some .int) :: ([.fieldLink RX4 19 "StatueSquareModel" "thingAt" "[I", .fieldLink RX4 75 "StatueSquareModel" "wide" "I", .fieldLink RX4 47 "StatueSquareModel" "statueAt" "I", .fieldLink RX4 16 "StatueSquareModel" "kindOf" "[I", .fieldLink RX4 25 "StatueSquareModel" "isCut" "[Z", .fieldLink RX4 163 "StatueSquareModel" "blockNow" "I", .methodLink RX4 166 yX4_far, .static yX4_far, .initialized RX4, .code yX4_far cX4_far 2 (some .int), .methodLink RX4 153 yX4_tallNow, .instanceMethod yX4_tallNow, .selects RX4 yX4_tallNow yX4_tallNow, .code yX4_tallNow cX4_tallNow 3 (some .int), .fieldLink RX4 22 "StatueSquareModel" "tallOf" "[I", .fieldLink RX4 143 "StatueSquareModel" "isWinter" "Z", .fieldLink RX4 140 "StatueSquareModel" "yearNow" "I"] ++ wsX40)
def wsX4_litByAll : List Cond := .code yX4_litByAll cX4_litByAll 4 (some .int) :: ([.fieldLink RX4 86 "StatueSquareModel" "things" "I", .methodLink RX4 194 yX4_litBy, .instanceMethod yX4_litBy, .selects RX4 yX4_litBy yX4_litBy, .initialized RX4, .code yX4_litBy cX4_litBy 5 (some .int), .fieldLink RX4 19 "StatueSquareModel" "thingAt" "[I", .fieldLink RX4 75 "StatueSquareModel" "wide" "I", .fieldLink RX4 47 "StatueSquareModel" "statueAt" "I", .fieldLink RX4 16 "StatueSquareModel" "kindOf" "[I", .fieldLink RX4 25 "StatueSquareModel" "isCut" "[Z", .fieldLink RX4 163 "StatueSquareModel" "blockNow" "I", .methodLink RX4 166 yX4_far, .static yX4_far, .code yX4_far cX4_far 2 (some .int), .methodLink RX4 153 yX4_tallNow, .instanceMethod yX4_tallNow, .selects RX4 yX4_tallNow yX4_tallNow, .code yX4_tallNow cX4_tallNow 3 (some .int), .fieldLink RX4 22 "StatueSquareModel" "tallOf" "[I", .fieldLink RX4 143 "StatueSquareModel" "isWinter" "Z", .fieldLink RX4 140 "StatueSquareModel" "yearNow" "I"] ++ wsX40)
def wsX4_lit_r1 : List Cond := [Cond.fieldLink RX4 47 "StatueSquareModel" "statueAt" "I", Cond.fieldLink RX4 86 "StatueSquareModel" "things" "I", Cond.methodLink RX4 82 yX4_in, Cond.static yX4_in, Cond.initialized RX4, Cond.code yX4_in cX4_in 6 (some .boolean), Cond.methodLink RX4 197 yX4_litByAll, Cond.instanceMethod yX4_litByAll, Cond.selects RX4 yX4_litByAll yX4_litByAll, Cond.code yX4_litByAll cX4_litByAll 4 (some .int), Cond.methodLink RX4 194 yX4_litBy, Cond.instanceMethod yX4_litBy, Cond.selects RX4 yX4_litBy yX4_litBy, Cond.code yX4_litBy cX4_litBy 5 (some .int), Cond.fieldLink RX4 19 "StatueSquareModel" "thingAt" "[I", Cond.fieldLink RX4 75 "StatueSquareModel" "wide" "I", Cond.fieldLink RX4 16 "StatueSquareModel" "kindOf" "[I", Cond.fieldLink RX4 25 "StatueSquareModel" "isCut" "[Z", Cond.fieldLink RX4 163 "StatueSquareModel" "blockNow" "I", Cond.methodLink RX4 166 yX4_far, Cond.static yX4_far, Cond.code yX4_far cX4_far 2 (some .int), Cond.methodLink RX4 153 yX4_tallNow, Cond.instanceMethod yX4_tallNow]
def wsX4_lit_r2 : List Cond := [Cond.selects RX4 yX4_tallNow yX4_tallNow, Cond.code yX4_tallNow cX4_tallNow 3 (some .int), Cond.fieldLink RX4 22 "StatueSquareModel" "tallOf" "[I", Cond.fieldLink RX4 143 "StatueSquareModel" "isWinter" "Z", Cond.fieldLink RX4 140 "StatueSquareModel" "yearNow" "I", Cond.methodLink RX4 185 yX4_bits, Cond.static yX4_bits, Cond.code yX4_bits cX4_bits 3 (some .int)]
def wsX4_lit : List Cond := .code yX4_lit cX4_lit 5 (some .int) :: ((wsX4_lit_r1 ++ wsX4_lit_r2) ++ wsX40)
def wsX4_sheet : List Cond := .code yX4_sheet cX4_sheet 5 (some .int) :: ([.constantLong RX4 127 (2), .fieldLink RX4 51 "StatueSquareModel" "sheetSize" "[I", .fieldLink RX4 54 "StatueSquareModel" "sheetLane" "[I", .fieldLink RX4 57 "StatueSquareModel" "sheet" "[I", .methodLink RX4 119 yX4_noSheet, .static yX4_noSheet, .initialized RX4, .code yX4_noSheet cX4_noSheet 1 (some .boolean), .constantLong RX4 200 (3), .methodLink RX4 82 yX4_in, .static yX4_in, .code yX4_in cX4_in 6 (some .boolean), .methodLink RX4 123 yX4_refused, .instanceMethod yX4_refused, .selects RX4 yX4_refused yX4_refused, .code yX4_refused cX4_refused 2 (some .int), .fieldLink RX4 65 "StatueSquareModel" "fault" "I", .methodLink RX4 129 yX4_failed, .instanceMethod yX4_failed, .selects RX4 yX4_failed yX4_failed, .code yX4_failed cX4_failed 2 (some .int)] ++ wsX40)
def wsX4_lose : List Cond := .code yX4_lose cX4_lose 3 (some .int) :: ([.fieldLink RX4 51 "StatueSquareModel" "sheetSize" "[I", .methodLink RX4 119 yX4_noSheet, .static yX4_noSheet, .initialized RX4, .code yX4_noSheet cX4_noSheet 1 (some .boolean), .constantLong RX4 200 (3), .methodLink RX4 82 yX4_in, .static yX4_in, .code yX4_in cX4_in 6 (some .boolean)] ++ wsX40)
def wsX4_noCell_ : List Cond := .code yX4_noCell_ cX4_noCell_ 3 (some .int) :: ([.fieldLink RX4 51 "StatueSquareModel" "sheetSize" "[I", .methodLink RX4 82 yX4_in, .static yX4_in, .initialized RX4, .code yX4_in cX4_in 6 (some .boolean)] ++ wsX40)
def wsX4_put : List Cond := .code yX4_put cX4_put 4 (some .int) :: ([.fieldLink RX4 57 "StatueSquareModel" "sheet" "[I", .fieldLink RX4 54 "StatueSquareModel" "sheetLane" "[I", .methodLink RX4 119 yX4_noSheet, .static yX4_noSheet, .initialized RX4, .code yX4_noSheet cX4_noSheet 1 (some .boolean), .constantLong RX4 200 (3), .methodLink RX4 82 yX4_in, .static yX4_in, .code yX4_in cX4_in 6 (some .boolean), .methodLink RX4 123 yX4_refused, .instanceMethod yX4_refused, .selects RX4 yX4_refused yX4_refused, .code yX4_refused cX4_refused 2 (some .int), .fieldLink RX4 65 "StatueSquareModel" "fault" "I", .methodLink RX4 202 yX4_noCell_, .instanceMethod yX4_noCell_, .selects RX4 yX4_noCell_ yX4_noCell_, .code yX4_noCell_ cX4_noCell_ 3 (some .int), .fieldLink RX4 51 "StatueSquareModel" "sheetSize" "[I", .methodLink RX4 129 yX4_failed, .instanceMethod yX4_failed, .selects RX4 yX4_failed yX4_failed, .code yX4_failed cX4_failed 2 (some .int)] ++ wsX40)
def wsX4_cell_r1 : List Cond := [Cond.fieldLink RX4 65 "StatueSquareModel" "fault" "I", Cond.constantLong RX4 127 (2), Cond.fieldLink RX4 51 "StatueSquareModel" "sheetSize" "[I", Cond.fieldLink RX4 54 "StatueSquareModel" "sheetLane" "[I", Cond.fieldLink RX4 57 "StatueSquareModel" "sheet" "[I", Cond.methodLink RX4 119 yX4_noSheet, Cond.static yX4_noSheet, Cond.initialized RX4, Cond.code yX4_noSheet cX4_noSheet 1 (some .boolean), Cond.constantLong RX4 200 (3), Cond.methodLink RX4 82 yX4_in, Cond.static yX4_in, Cond.code yX4_in cX4_in 6 (some .boolean), Cond.methodLink RX4 68 yX4_lost, Cond.static yX4_lost, Cond.code yX4_lost cX4_lost 0 (some .long), Cond.constantLong RX4 63 (-9223372036854775808), Cond.methodLink RX4 204 yX4_failedLong, Cond.instanceMethod yX4_failedLong, Cond.selects RX4 yX4_failedLong yX4_failedLong, Cond.code yX4_failedLong cX4_failedLong 2 (some .long), Cond.methodLink RX4 202 yX4_noCell_, Cond.instanceMethod yX4_noCell_, Cond.selects RX4 yX4_noCell_ yX4_noCell_]
def wsX4_cell_r2 : List Cond := [Cond.code yX4_noCell_ cX4_noCell_ 3 (some .int)]
def wsX4_cell : List Cond := .code yX4_cell cX4_cell 4 (some .long) :: ((wsX4_cell_r1 ++ wsX4_cell_r2) ++ wsX40)
def wsX4_copy : List Cond := .code yX4_copy cX4_copy 7 (some .int) :: ([.fieldLink RX4 51 "StatueSquareModel" "sheetSize" "[I", .fieldLink RX4 54 "StatueSquareModel" "sheetLane" "[I", .fieldLink RX4 60 "StatueSquareModel" "hands" "[I", .fieldLink RX4 57 "StatueSquareModel" "sheet" "[I", .methodLink RX4 119 yX4_noSheet, .static yX4_noSheet, .initialized RX4, .code yX4_noSheet cX4_noSheet 1 (some .boolean), .constantLong RX4 200 (3), .methodLink RX4 82 yX4_in, .static yX4_in, .code yX4_in cX4_in 6 (some .boolean), .methodLink RX4 123 yX4_refused, .instanceMethod yX4_refused, .selects RX4 yX4_refused yX4_refused, .code yX4_refused cX4_refused 2 (some .int), .fieldLink RX4 65 "StatueSquareModel" "fault" "I", .methodLink RX4 129 yX4_failed, .instanceMethod yX4_failed, .selects RX4 yX4_failed yX4_failed, .code yX4_failed cX4_failed 2 (some .int), .methodLink RX4 132 yX4_isBeyond, .static yX4_isBeyond, .code yX4_isBeyond cX4_isBeyond 4 (some .boolean)] ++ wsX40)
def wsX4_traced : List Cond := .code yX4_traced cX4_traced 2 none :: ([.fieldLink RX4 208 "StatueSquareModel" "traceNow" "I"] ++ wsX40)
def wsX4_tell : List Cond := .code yX4_tell cX4_tell 4 (some .int) :: ([.fieldLink RX4 16 "StatueSquareModel" "kindOf" "[I", .fieldLink RX4 22 "StatueSquareModel" "tallOf" "[I", .methodLink RX4 150 yX4_noThing, .instanceMethod yX4_noThing, .selects RX4 yX4_noThing yX4_noThing, .initialized RX4, .code yX4_noThing cX4_noThing 2 (some .boolean), .fieldLink RX4 86 "StatueSquareModel" "things" "I", .methodLink RX4 82 yX4_in, .static yX4_in, .code yX4_in cX4_in 6 (some .boolean), .methodLink RX4 211 yX4_traced, .instanceMethod yX4_traced, .selects RX4 yX4_traced yX4_traced, .code yX4_traced cX4_traced 2 none, .fieldLink RX4 208 "StatueSquareModel" "traceNow" "I"] ++ wsX40)
def wsX4_tend : List Cond := .code yX4_tend cX4_tend 2 (some .int) :: ([.fieldLink RX4 16 "StatueSquareModel" "kindOf" "[I", .methodLink RX4 150 yX4_noThing, .instanceMethod yX4_noThing, .selects RX4 yX4_noThing yX4_noThing, .initialized RX4, .code yX4_noThing cX4_noThing 2 (some .boolean), .fieldLink RX4 86 "StatueSquareModel" "things" "I", .methodLink RX4 82 yX4_in, .static yX4_in, .code yX4_in cX4_in 6 (some .boolean), .methodLink RX4 211 yX4_traced, .instanceMethod yX4_traced, .selects RX4 yX4_traced yX4_traced, .code yX4_traced cX4_traced 2 none, .fieldLink RX4 208 "StatueSquareModel" "traceNow" "I"] ++ wsX40)
def wsX4_as : List Cond := .code yX4_as cX4_as 3 (some .int) :: ([.constantLong RX4 127 (2), .fieldLink RX4 16 "StatueSquareModel" "kindOf" "[I", .methodLink RX4 150 yX4_noThing, .instanceMethod yX4_noThing, .selects RX4 yX4_noThing yX4_noThing, .initialized RX4, .code yX4_noThing cX4_noThing 2 (some .boolean), .fieldLink RX4 86 "StatueSquareModel" "things" "I", .methodLink RX4 82 yX4_in, .static yX4_in, .code yX4_in cX4_in 6 (some .boolean), .methodLink RX4 123 yX4_refused, .instanceMethod yX4_refused, .selects RX4 yX4_refused yX4_refused, .code yX4_refused cX4_refused 2 (some .int), .fieldLink RX4 65 "StatueSquareModel" "fault" "I", .methodLink RX4 129 yX4_failed, .instanceMethod yX4_failed, .selects RX4 yX4_failed yX4_failed, .code yX4_failed cX4_failed 2 (some .int)] ++ wsX40)
def wsX4_trace : List Cond := .code yX4_trace cX4_trace 1 (some .int) :: ([.fieldLink RX4 208 "StatueSquareModel" "traceNow" "I"] ++ wsX40)
def wsX4_fault : List Cond := .code yX4_fault cX4_fault 1 (some .int) :: ([.fieldLink RX4 65 "StatueSquareModel" "fault" "I"] ++ wsX40)
def wsX4_many : List Cond := .code yX4_many cX4_many 2 (some .int) :: ([.fieldLink RX4 75 "StatueSquareModel" "wide" "I", .fieldLink RX4 89 "StatueSquareModel" "benches" "I", .fieldLink RX4 86 "StatueSquareModel" "things" "I", .fieldLink RX4 140 "StatueSquareModel" "yearNow" "I", .methodLink RX4 78 yX4_cells, .instanceMethod yX4_cells, .selects RX4 yX4_cells yX4_cells, .initialized RX4, .code yX4_cells cX4_cells 1 (some .int), .fieldLink RX4 72 "StatueSquareModel" "high" "I"] ++ wsX40)
def wsJ9_abs_0f7a4 : List Cond := .code yJ9_abs_0f7a4 cJ9_abs_0f7a4 1 (some .int) :: ([])
def wsJ9_max_7cf53 : List Cond := .code yJ9_max_7cf53 cJ9_max_7cf53 2 (some .int) :: ([])
abbrev vwCl : List vw_C := [(RX0, TX0, 17), (RX1, TX1, 4), (RX2, TX2, 9), (RX3, TX3, 5), (RX4, TX4, 31)]
end
section
theorem dX0_init_0 : decode cX0_init 0 = .ok (.aload_n 0, 1) := by decide +kernel
theorem dX0_init_1 : decode cX0_init 1 = .ok (.invokespecial 3, 3) := by decide +kernel
theorem dX0_init_4 : decode cX0_init 4 = .ok (.aload_n 0, 1) := by decide +kernel
theorem dX0_init_5 : decode cX0_init 5 = .ok (.bipush 42, 2) := by decide +kernel
theorem dX0_init_7 : decode cX0_init 7 = .ok (.newarray .int, 2) := by decide +kernel
theorem dX0_init_9 : decode cX0_init 9 = .ok (.putfield 9, 3) := by decide +kernel
theorem dX0_init_12 : decode cX0_init 12 = .ok (.aload_n 0, 1) := by decide +kernel
theorem dX0_init_13 : decode cX0_init 13 = .ok (.bipush 42, 2) := by decide +kernel
theorem dX0_init_15 : decode cX0_init 15 = .ok (.newarray .int, 2) := by decide +kernel
theorem dX0_init_17 : decode cX0_init 17 = .ok (.putfield 15, 3) := by decide +kernel
theorem dX0_init_20 : decode cX0_init 20 = .ok (.aload_n 0, 1) := by decide +kernel
theorem dX0_init_21 : decode cX0_init 21 = .ok (.bipush 42, 2) := by decide +kernel
theorem dX0_init_23 : decode cX0_init 23 = .ok (.newarray .int, 2) := by decide +kernel
theorem dX0_init_25 : decode cX0_init 25 = .ok (.putfield 18, 3) := by decide +kernel
theorem dX0_init_28 : decode cX0_init 28 = .ok (.aload_n 0, 1) := by decide +kernel
theorem dX0_init_29 : decode cX0_init 29 = .ok (.bipush 12, 2) := by decide +kernel
theorem dX0_init_31 : decode cX0_init 31 = .ok (.newarray .int, 2) := by decide +kernel
theorem dX0_init_33 : decode cX0_init 33 = .ok (.putfield 21, 3) := by decide +kernel
theorem dX0_init_36 : decode cX0_init 36 = .ok (.aload_n 0, 1) := by decide +kernel
theorem dX0_init_37 : decode cX0_init 37 = .ok (.bipush 10, 2) := by decide +kernel
theorem dX0_init_39 : decode cX0_init 39 = .ok (.newarray .int, 2) := by decide +kernel
theorem dX0_init_41 : decode cX0_init 41 = .ok (.putfield 24, 3) := by decide +kernel
theorem dX0_init_44 : decode cX0_init 44 = .ok (.aload_n 0, 1) := by decide +kernel
theorem dX0_init_45 : decode cX0_init 45 = .ok (.bipush 10, 2) := by decide +kernel
theorem dX0_init_47 : decode cX0_init 47 = .ok (.newarray .int, 2) := by decide +kernel
theorem dX0_init_49 : decode cX0_init 49 = .ok (.putfield 27, 3) := by decide +kernel
theorem dX0_init_52 : decode cX0_init 52 = .ok (.aload_n 0, 1) := by decide +kernel
theorem dX0_init_53 : decode cX0_init 53 = .ok (.bipush 10, 2) := by decide +kernel
theorem dX0_init_55 : decode cX0_init 55 = .ok (.newarray .int, 2) := by decide +kernel
theorem dX0_init_57 : decode cX0_init 57 = .ok (.putfield 30, 3) := by decide +kernel
theorem dX0_init_60 : decode cX0_init 60 = .ok (.aload_n 0, 1) := by decide +kernel
theorem dX0_init_61 : decode cX0_init 61 = .ok (.bipush 10, 2) := by decide +kernel
theorem dX0_init_63 : decode cX0_init 63 = .ok (.newarray .int, 2) := by decide +kernel
theorem dX0_init_65 : decode cX0_init 65 = .ok (.putfield 33, 3) := by decide +kernel
theorem dX0_init_68 : decode cX0_init 68 = .ok (.aload_n 0, 1) := by decide +kernel
theorem dX0_init_69 : decode cX0_init 69 = .ok (.bipush (-9), 2) := by decide +kernel
theorem dX0_init_71 : decode cX0_init 71 = .ok (.putfield 36, 3) := by decide +kernel
theorem dX0_init_74 : decode cX0_init 74 = .ok (.return_, 1) := by decide +kernel
theorem dX0_layOut_0 : decode cX0_layOut 0 = .ok (.aload_n 0, 1) := by decide +kernel
theorem dX0_layOut_1 : decode cX0_layOut 1 = .ok (.aload_n 1, 1) := by decide +kernel
theorem dX0_layOut_2 : decode cX0_layOut 2 = .ok (.getfield 40, 3) := by decide +kernel
theorem dX0_layOut_5 : decode cX0_layOut 5 = .ok (.putfield 45, 3) := by decide +kernel
theorem dX0_layOut_8 : decode cX0_layOut 8 = .ok (.aload_n 0, 1) := by decide +kernel
theorem dX0_layOut_9 : decode cX0_layOut 9 = .ok (.iconst 0, 1) := by decide +kernel
theorem dX0_layOut_10 : decode cX0_layOut 10 = .ok (.putfield 46, 3) := by decide +kernel
theorem dX0_layOut_13 : decode cX0_layOut 13 = .ok (.aload_n 0, 1) := by decide +kernel
theorem dX0_layOut_14 : decode cX0_layOut 14 = .ok (.iconst 0, 1) := by decide +kernel
theorem dX0_layOut_15 : decode cX0_layOut 15 = .ok (.putfield 49, 3) := by decide +kernel
theorem dX0_layOut_18 : decode cX0_layOut 18 = .ok (.aload_n 0, 1) := by decide +kernel
theorem dX0_layOut_19 : decode cX0_layOut 19 = .ok (.iconst 0, 1) := by decide +kernel
theorem dX0_layOut_20 : decode cX0_layOut 20 = .ok (.putfield 52, 3) := by decide +kernel
theorem dX0_layOut_23 : decode cX0_layOut 23 = .ok (.iconst 0, 1) := by decide +kernel
theorem dX0_layOut_24 : decode cX0_layOut 24 = .ok (.istore_n 2, 1) := by decide +kernel
theorem dX0_layOut_25 : decode cX0_layOut 25 = .ok (.iload_n 2, 1) := by decide +kernel
theorem dX0_layOut_26 : decode cX0_layOut 26 = .ok (.aload_n 1, 1) := by decide +kernel
theorem dX0_layOut_27 : decode cX0_layOut 27 = .ok (.getfield 55, 3) := by decide +kernel
theorem dX0_layOut_30 : decode cX0_layOut 30 = .ok (.if_icmp .ge 81, 3) := by decide +kernel
theorem dX0_layOut_33 : decode cX0_layOut 33 = .ok (.iconst 0, 1) := by decide +kernel
theorem dX0_layOut_34 : decode cX0_layOut 34 = .ok (.istore_n 3, 1) := by decide +kernel
theorem dX0_layOut_35 : decode cX0_layOut 35 = .ok (.iload_n 3, 1) := by decide +kernel
theorem dX0_layOut_36 : decode cX0_layOut 36 = .ok (.aload_n 1, 1) := by decide +kernel
theorem dX0_layOut_37 : decode cX0_layOut 37 = .ok (.getfield 40, 3) := by decide +kernel
theorem dX0_layOut_40 : decode cX0_layOut 40 = .ok (.if_icmp .ge 65, 3) := by decide +kernel
theorem dX0_layOut_43 : decode cX0_layOut 43 = .ok (.aload_n 0, 1) := by decide +kernel
theorem dX0_layOut_44 : decode cX0_layOut 44 = .ok (.getfield 15, 3) := by decide +kernel
theorem dX0_layOut_47 : decode cX0_layOut 47 = .ok (.aload_n 0, 1) := by decide +kernel
theorem dX0_layOut_48 : decode cX0_layOut 48 = .ok (.getfield 46, 3) := by decide +kernel
theorem dX0_layOut_51 : decode cX0_layOut 51 = .ok (.iload_n 2, 1) := by decide +kernel
theorem dX0_layOut_52 : decode cX0_layOut 52 = .ok (.iastore, 1) := by decide +kernel
theorem dX0_layOut_53 : decode cX0_layOut 53 = .ok (.aload_n 0, 1) := by decide +kernel
theorem dX0_layOut_54 : decode cX0_layOut 54 = .ok (.getfield 18, 3) := by decide +kernel
theorem dX0_layOut_57 : decode cX0_layOut 57 = .ok (.aload_n 0, 1) := by decide +kernel
theorem dX0_layOut_58 : decode cX0_layOut 58 = .ok (.getfield 46, 3) := by decide +kernel
theorem dX0_layOut_61 : decode cX0_layOut 61 = .ok (.iload_n 3, 1) := by decide +kernel
theorem dX0_layOut_62 : decode cX0_layOut 62 = .ok (.iastore, 1) := by decide +kernel
theorem dX0_layOut_63 : decode cX0_layOut 63 = .ok (.aload_n 0, 1) := by decide +kernel
theorem dX0_layOut_64 : decode cX0_layOut 64 = .ok (.aload_n 0, 1) := by decide +kernel
theorem dX0_layOut_65 : decode cX0_layOut 65 = .ok (.getfield 46, 3) := by decide +kernel
theorem dX0_layOut_68 : decode cX0_layOut 68 = .ok (.aload_n 1, 1) := by decide +kernel
theorem dX0_layOut_69 : decode cX0_layOut 69 = .ok (.getfield 58, 3) := by decide +kernel
theorem dX0_layOut_72 : decode cX0_layOut 72 = .ok (.aload_n 0, 1) := by decide +kernel
theorem dX0_layOut_73 : decode cX0_layOut 73 = .ok (.getfield 46, 3) := by decide +kernel
theorem dX0_layOut_76 : decode cX0_layOut 76 = .ok (.iaload, 1) := by decide +kernel
theorem dX0_layOut_77 : decode cX0_layOut 77 = .ok (.aload_n 1, 1) := by decide +kernel
theorem dX0_layOut_78 : decode cX0_layOut 78 = .ok (.getfield 61, 3) := by decide +kernel
theorem dX0_layOut_81 : decode cX0_layOut 81 = .ok (.aload_n 0, 1) := by decide +kernel
theorem dX0_layOut_82 : decode cX0_layOut 82 = .ok (.getfield 46, 3) := by decide +kernel
theorem dX0_layOut_85 : decode cX0_layOut 85 = .ok (.iaload, 1) := by decide +kernel
theorem dX0_layOut_86 : decode cX0_layOut 86 = .ok (.invokevirtual 64, 3) := by decide +kernel
theorem dX0_layOut_89 : decode cX0_layOut 89 = .ok (.aload_n 0, 1) := by decide +kernel
theorem dX0_layOut_90 : decode cX0_layOut 90 = .ok (.dup, 1) := by decide +kernel
theorem dX0_layOut_91 : decode cX0_layOut 91 = .ok (.getfield 46, 3) := by decide +kernel
theorem dX0_layOut_94 : decode cX0_layOut 94 = .ok (.iconst 1, 1) := by decide +kernel
theorem dX0_layOut_95 : decode cX0_layOut 95 = .ok (.iadd, 1) := by decide +kernel
theorem dX0_layOut_96 : decode cX0_layOut 96 = .ok (.putfield 46, 3) := by decide +kernel
theorem dX0_layOut_99 : decode cX0_layOut 99 = .ok (.iinc 3 1, 3) := by decide +kernel
theorem dX0_layOut_102 : decode cX0_layOut 102 = .ok (.goto (-67), 3) := by decide +kernel
theorem dX0_layOut_105 : decode cX0_layOut 105 = .ok (.iinc 2 1, 3) := by decide +kernel
theorem dX0_layOut_108 : decode cX0_layOut 108 = .ok (.goto (-83), 3) := by decide +kernel
theorem dX0_layOut_111 : decode cX0_layOut 111 = .ok (.aload_n 0, 1) := by decide +kernel
theorem dX0_layOut_112 : decode cX0_layOut 112 = .ok (.iconst 0, 1) := by decide +kernel
theorem dX0_layOut_113 : decode cX0_layOut 113 = .ok (.putfield 68, 3) := by decide +kernel
theorem dX0_layOut_116 : decode cX0_layOut 116 = .ok (.aload_n 0, 1) := by decide +kernel
theorem dX0_layOut_117 : decode cX0_layOut 117 = .ok (.iconst 0, 1) := by decide +kernel
theorem dX0_layOut_118 : decode cX0_layOut 118 = .ok (.putfield 71, 3) := by decide +kernel
theorem dX0_layOut_121 : decode cX0_layOut 121 = .ok (.aload_n 0, 1) := by decide +kernel
theorem dX0_layOut_122 : decode cX0_layOut 122 = .ok (.iconst 0, 1) := by decide +kernel
theorem dX0_layOut_123 : decode cX0_layOut 123 = .ok (.putfield 74, 3) := by decide +kernel
theorem dX0_layOut_126 : decode cX0_layOut 126 = .ok (.aload_n 0, 1) := by decide +kernel
theorem dX0_layOut_127 : decode cX0_layOut 127 = .ok (.bipush (-9), 2) := by decide +kernel
theorem dX0_layOut_129 : decode cX0_layOut 129 = .ok (.putfield 36, 3) := by decide +kernel
theorem dX0_layOut_132 : decode cX0_layOut 132 = .ok (.aload_n 0, 1) := by decide +kernel
theorem dX0_layOut_133 : decode cX0_layOut 133 = .ok (.iconst 0, 1) := by decide +kernel
theorem dX0_layOut_134 : decode cX0_layOut 134 = .ok (.putfield 78, 3) := by decide +kernel
theorem dX0_layOut_137 : decode cX0_layOut 137 = .ok (.return_, 1) := by decide +kernel
theorem dX0_layCell_0 : decode cX0_layCell 0 = .ok (.iload_n 2, 1) := by decide +kernel
theorem dX0_layCell_1 : decode cX0_layCell 1 = .ok (.lookupswitch 81 #[(98, 43), (108, 51), (116, 71), (117, 61)], 43) := by decide +kernel
theorem dX0_layCell_44 : decode cX0_layCell 44 = .ok (.aload_n 0, 1) := by decide +kernel
theorem dX0_layCell_45 : decode cX0_layCell 45 = .ok (.iload_n 1, 1) := by decide +kernel
theorem dX0_layCell_46 : decode cX0_layCell 46 = .ok (.invokevirtual 81, 3) := by decide +kernel
theorem dX0_layCell_49 : decode cX0_layCell 49 = .ok (.goto 40, 3) := by decide +kernel
theorem dX0_layCell_52 : decode cX0_layCell 52 = .ok (.aload_n 0, 1) := by decide +kernel
theorem dX0_layCell_53 : decode cX0_layCell 53 = .ok (.iload_n 1, 1) := by decide +kernel
theorem dX0_layCell_54 : decode cX0_layCell 54 = .ok (.iconst 0, 1) := by decide +kernel
theorem dX0_layCell_55 : decode cX0_layCell 55 = .ok (.iload_n 3, 1) := by decide +kernel
theorem dX0_layCell_56 : decode cX0_layCell 56 = .ok (.invokevirtual 85, 3) := by decide +kernel
theorem dX0_layCell_59 : decode cX0_layCell 59 = .ok (.goto 30, 3) := by decide +kernel
theorem dX0_layCell_62 : decode cX0_layCell 62 = .ok (.aload_n 0, 1) := by decide +kernel
theorem dX0_layCell_63 : decode cX0_layCell 63 = .ok (.iload_n 1, 1) := by decide +kernel
theorem dX0_layCell_64 : decode cX0_layCell 64 = .ok (.iconst 1, 1) := by decide +kernel
theorem dX0_layCell_65 : decode cX0_layCell 65 = .ok (.iload_n 3, 1) := by decide +kernel
theorem dX0_layCell_66 : decode cX0_layCell 66 = .ok (.invokevirtual 85, 3) := by decide +kernel
theorem dX0_layCell_69 : decode cX0_layCell 69 = .ok (.goto 20, 3) := by decide +kernel
theorem dX0_layCell_72 : decode cX0_layCell 72 = .ok (.aload_n 0, 1) := by decide +kernel
theorem dX0_layCell_73 : decode cX0_layCell 73 = .ok (.iload_n 1, 1) := by decide +kernel
theorem dX0_layCell_74 : decode cX0_layCell 74 = .ok (.iconst 2, 1) := by decide +kernel
theorem dX0_layCell_75 : decode cX0_layCell 75 = .ok (.iload_n 3, 1) := by decide +kernel
theorem dX0_layCell_76 : decode cX0_layCell 76 = .ok (.invokevirtual 85, 3) := by decide +kernel
theorem dX0_layCell_79 : decode cX0_layCell 79 = .ok (.goto 10, 3) := by decide +kernel
theorem dX0_layCell_82 : decode cX0_layCell 82 = .ok (.aload_n 0, 1) := by decide +kernel
theorem dX0_layCell_83 : decode cX0_layCell 83 = .ok (.getfield 9, 3) := by decide +kernel
theorem dX0_layCell_86 : decode cX0_layCell 86 = .ok (.iload_n 1, 1) := by decide +kernel
theorem dX0_layCell_87 : decode cX0_layCell 87 = .ok (.iconst 0, 1) := by decide +kernel
theorem dX0_layCell_88 : decode cX0_layCell 88 = .ok (.iastore, 1) := by decide +kernel
theorem dX0_layCell_89 : decode cX0_layCell 89 = .ok (.return_, 1) := by decide +kernel
theorem dX0_layBench_0 : decode cX0_layBench 0 = .ok (.aload_n 0, 1) := by decide +kernel
theorem dX0_layBench_1 : decode cX0_layBench 1 = .ok (.getfield 9, 3) := by decide +kernel
theorem dX0_layBench_4 : decode cX0_layBench 4 = .ok (.iload_n 1, 1) := by decide +kernel
theorem dX0_layBench_5 : decode cX0_layBench 5 = .ok (.iconst 1, 1) := by decide +kernel
theorem dX0_layBench_6 : decode cX0_layBench 6 = .ok (.iastore, 1) := by decide +kernel
theorem dX0_layBench_7 : decode cX0_layBench 7 = .ok (.aload_n 0, 1) := by decide +kernel
theorem dX0_layBench_8 : decode cX0_layBench 8 = .ok (.getfield 21, 3) := by decide +kernel
theorem dX0_layBench_11 : decode cX0_layBench 11 = .ok (.aload_n 0, 1) := by decide +kernel
theorem dX0_layBench_12 : decode cX0_layBench 12 = .ok (.getfield 49, 3) := by decide +kernel
theorem dX0_layBench_15 : decode cX0_layBench 15 = .ok (.iload_n 1, 1) := by decide +kernel
theorem dX0_layBench_16 : decode cX0_layBench 16 = .ok (.iastore, 1) := by decide +kernel
theorem dX0_layBench_17 : decode cX0_layBench 17 = .ok (.aload_n 0, 1) := by decide +kernel
theorem dX0_layBench_18 : decode cX0_layBench 18 = .ok (.dup, 1) := by decide +kernel
theorem dX0_layBench_19 : decode cX0_layBench 19 = .ok (.getfield 49, 3) := by decide +kernel
theorem dX0_layBench_22 : decode cX0_layBench 22 = .ok (.iconst 1, 1) := by decide +kernel
theorem dX0_layBench_23 : decode cX0_layBench 23 = .ok (.iadd, 1) := by decide +kernel
theorem dX0_layBench_24 : decode cX0_layBench 24 = .ok (.putfield 49, 3) := by decide +kernel
theorem dX0_layBench_27 : decode cX0_layBench 27 = .ok (.return_, 1) := by decide +kernel
theorem dX0_layThing_0 : decode cX0_layThing 0 = .ok (.aload_n 0, 1) := by decide +kernel
theorem dX0_layThing_1 : decode cX0_layThing 1 = .ok (.getfield 9, 3) := by decide +kernel
theorem dX0_layThing_4 : decode cX0_layThing 4 = .ok (.iload_n 1, 1) := by decide +kernel
theorem dX0_layThing_5 : decode cX0_layThing 5 = .ok (.bipush 10, 2) := by decide +kernel
theorem dX0_layThing_7 : decode cX0_layThing 7 = .ok (.aload_n 0, 1) := by decide +kernel
theorem dX0_layThing_8 : decode cX0_layThing 8 = .ok (.getfield 52, 3) := by decide +kernel
theorem dX0_layThing_11 : decode cX0_layThing 11 = .ok (.iadd, 1) := by decide +kernel
theorem dX0_layThing_12 : decode cX0_layThing 12 = .ok (.iastore, 1) := by decide +kernel
theorem dX0_layThing_13 : decode cX0_layThing 13 = .ok (.aload_n 0, 1) := by decide +kernel
theorem dX0_layThing_14 : decode cX0_layThing 14 = .ok (.getfield 24, 3) := by decide +kernel
theorem dX0_layThing_17 : decode cX0_layThing 17 = .ok (.aload_n 0, 1) := by decide +kernel
theorem dX0_layThing_18 : decode cX0_layThing 18 = .ok (.getfield 52, 3) := by decide +kernel
theorem dX0_layThing_21 : decode cX0_layThing 21 = .ok (.iload_n 2, 1) := by decide +kernel
theorem dX0_layThing_22 : decode cX0_layThing 22 = .ok (.iastore, 1) := by decide +kernel
theorem dX0_layThing_23 : decode cX0_layThing 23 = .ok (.aload_n 0, 1) := by decide +kernel
theorem dX0_layThing_24 : decode cX0_layThing 24 = .ok (.getfield 27, 3) := by decide +kernel
theorem dX0_layThing_27 : decode cX0_layThing 27 = .ok (.aload_n 0, 1) := by decide +kernel
theorem dX0_layThing_28 : decode cX0_layThing 28 = .ok (.getfield 52, 3) := by decide +kernel
theorem dX0_layThing_31 : decode cX0_layThing 31 = .ok (.iload_n 1, 1) := by decide +kernel
theorem dX0_layThing_32 : decode cX0_layThing 32 = .ok (.iastore, 1) := by decide +kernel
theorem dX0_layThing_33 : decode cX0_layThing 33 = .ok (.aload_n 0, 1) := by decide +kernel
theorem dX0_layThing_34 : decode cX0_layThing 34 = .ok (.getfield 30, 3) := by decide +kernel
theorem dX0_layThing_37 : decode cX0_layThing 37 = .ok (.aload_n 0, 1) := by decide +kernel
theorem dX0_layThing_38 : decode cX0_layThing 38 = .ok (.getfield 52, 3) := by decide +kernel
theorem dX0_layThing_41 : decode cX0_layThing 41 = .ok (.iload_n 3, 1) := by decide +kernel
theorem dX0_layThing_42 : decode cX0_layThing 42 = .ok (.iastore, 1) := by decide +kernel
theorem dX0_layThing_43 : decode cX0_layThing 43 = .ok (.aload_n 0, 1) := by decide +kernel
theorem dX0_layThing_44 : decode cX0_layThing 44 = .ok (.getfield 33, 3) := by decide +kernel
theorem dX0_layThing_47 : decode cX0_layThing 47 = .ok (.aload_n 0, 1) := by decide +kernel
theorem dX0_layThing_48 : decode cX0_layThing 48 = .ok (.getfield 52, 3) := by decide +kernel
theorem dX0_layThing_51 : decode cX0_layThing 51 = .ok (.iconst 1, 1) := by decide +kernel
theorem dX0_layThing_52 : decode cX0_layThing 52 = .ok (.iastore, 1) := by decide +kernel
theorem dX0_layThing_53 : decode cX0_layThing 53 = .ok (.aload_n 0, 1) := by decide +kernel
theorem dX0_layThing_54 : decode cX0_layThing 54 = .ok (.dup, 1) := by decide +kernel
theorem dX0_layThing_55 : decode cX0_layThing 55 = .ok (.getfield 52, 3) := by decide +kernel
theorem dX0_layThing_58 : decode cX0_layThing 58 = .ok (.iconst 1, 1) := by decide +kernel
theorem dX0_layThing_59 : decode cX0_layThing 59 = .ok (.iadd, 1) := by decide +kernel
theorem dX0_layThing_60 : decode cX0_layThing 60 = .ok (.putfield 52, 3) := by decide +kernel
theorem dX0_layThing_63 : decode cX0_layThing 63 = .ok (.return_, 1) := by decide +kernel
theorem dX0_isLaid_0 : decode cX0_isLaid 0 = .ok (.aload_n 0, 1) := by decide +kernel
theorem dX0_isLaid_1 : decode cX0_isLaid 1 = .ok (.getfield 46, 3) := by decide +kernel
theorem dX0_isLaid_4 : decode cX0_isLaid 4 = .ok (.ifCond .le 7, 3) := by decide +kernel
theorem dX0_isLaid_7 : decode cX0_isLaid 7 = .ok (.iconst 1, 1) := by decide +kernel
theorem dX0_isLaid_8 : decode cX0_isLaid 8 = .ok (.goto 4, 3) := by decide +kernel
theorem dX0_isLaid_11 : decode cX0_isLaid 11 = .ok (.iconst 0, 1) := by decide +kernel
theorem dX0_isLaid_12 : decode cX0_isLaid 12 = .ok (.ireturn, 1) := by decide +kernel
theorem dX0_hasStatue_0 : decode cX0_hasStatue 0 = .ok (.aload_n 0, 1) := by decide +kernel
theorem dX0_hasStatue_1 : decode cX0_hasStatue 1 = .ok (.getfield 36, 3) := by decide +kernel
theorem dX0_hasStatue_4 : decode cX0_hasStatue 4 = .ok (.bipush (-9), 2) := by decide +kernel
theorem dX0_hasStatue_6 : decode cX0_hasStatue 6 = .ok (.if_icmp .eq 7, 3) := by decide +kernel
theorem dX0_hasStatue_9 : decode cX0_hasStatue 9 = .ok (.iconst 1, 1) := by decide +kernel
theorem dX0_hasStatue_10 : decode cX0_hasStatue 10 = .ok (.goto 4, 3) := by decide +kernel
theorem dX0_hasStatue_13 : decode cX0_hasStatue 13 = .ok (.iconst 0, 1) := by decide +kernel
theorem dX0_hasStatue_14 : decode cX0_hasStatue 14 = .ok (.ireturn, 1) := by decide +kernel
theorem dX0_isFree_0 : decode cX0_isFree 0 = .ok (.aload_n 0, 1) := by decide +kernel
theorem dX0_isFree_1 : decode cX0_isFree 1 = .ok (.getfield 9, 3) := by decide +kernel
theorem dX0_isFree_4 : decode cX0_isFree 4 = .ok (.iload_n 1, 1) := by decide +kernel
theorem dX0_isFree_5 : decode cX0_isFree 5 = .ok (.iaload, 1) := by decide +kernel
theorem dX0_isFree_6 : decode cX0_isFree 6 = .ok (.ifCond .ne 7, 3) := by decide +kernel
theorem dX0_isFree_9 : decode cX0_isFree 9 = .ok (.iconst 1, 1) := by decide +kernel
theorem dX0_isFree_10 : decode cX0_isFree 10 = .ok (.goto 4, 3) := by decide +kernel
theorem dX0_isFree_13 : decode cX0_isFree 13 = .ok (.iconst 0, 1) := by decide +kernel
theorem dX0_isFree_14 : decode cX0_isFree 14 = .ok (.ireturn, 1) := by decide +kernel
theorem dX0_isThere_0 : decode cX0_isThere 0 = .ok (.aload_n 0, 1) := by decide +kernel
theorem dX0_isThere_1 : decode cX0_isThere 1 = .ok (.getfield 68, 3) := by decide +kernel
theorem dX0_isThere_4 : decode cX0_isThere 4 = .ok (.iload_n 1, 1) := by decide +kernel
theorem dX0_isThere_5 : decode cX0_isThere 5 = .ok (.ishr, 1) := by decide +kernel
theorem dX0_isThere_6 : decode cX0_isThere 6 = .ok (.iconst 1, 1) := by decide +kernel
theorem dX0_isThere_7 : decode cX0_isThere 7 = .ok (.iand, 1) := by decide +kernel
theorem dX0_isThere_8 : decode cX0_isThere 8 = .ok (.ifCond .ne 7, 3) := by decide +kernel
theorem dX0_isThere_11 : decode cX0_isThere 11 = .ok (.iconst 1, 1) := by decide +kernel
theorem dX0_isThere_12 : decode cX0_isThere 12 = .ok (.goto 4, 3) := by decide +kernel
theorem dX0_isThere_15 : decode cX0_isThere 15 = .ok (.iconst 0, 1) := by decide +kernel
theorem dX0_isThere_16 : decode cX0_isThere 16 = .ok (.ireturn, 1) := by decide +kernel
theorem dX0_tallIn_0 : decode cX0_tallIn 0 = .ok (.aload_n 0, 1) := by decide +kernel
theorem dX0_tallIn_1 : decode cX0_tallIn 1 = .ok (.getfield 30, 3) := by decide +kernel
theorem dX0_tallIn_4 : decode cX0_tallIn 4 = .ok (.iload_n 1, 1) := by decide +kernel
theorem dX0_tallIn_5 : decode cX0_tallIn 5 = .ok (.iaload, 1) := by decide +kernel
theorem dX0_tallIn_6 : decode cX0_tallIn 6 = .ok (.istore_n 3, 1) := by decide +kernel
theorem dX0_tallIn_7 : decode cX0_tallIn 7 = .ok (.aload_n 0, 1) := by decide +kernel
theorem dX0_tallIn_8 : decode cX0_tallIn 8 = .ok (.getfield 24, 3) := by decide +kernel
theorem dX0_tallIn_11 : decode cX0_tallIn 11 = .ok (.iload_n 1, 1) := by decide +kernel
theorem dX0_tallIn_12 : decode cX0_tallIn 12 = .ok (.iaload, 1) := by decide +kernel
theorem dX0_tallIn_13 : decode cX0_tallIn 13 = .ok (.ifCond .eq 13, 3) := by decide +kernel
theorem dX0_tallIn_16 : decode cX0_tallIn 16 = .ok (.aload_n 0, 1) := by decide +kernel
theorem dX0_tallIn_17 : decode cX0_tallIn 17 = .ok (.getfield 74, 3) := by decide +kernel
theorem dX0_tallIn_20 : decode cX0_tallIn 20 = .ok (.ifCond .ne 6, 3) := by decide +kernel
theorem dX0_tallIn_23 : decode cX0_tallIn 23 = .ok (.iinc 3 1, 3) := by decide +kernel
theorem dX0_tallIn_26 : decode cX0_tallIn 26 = .ok (.aload_n 0, 1) := by decide +kernel
theorem dX0_tallIn_27 : decode cX0_tallIn 27 = .ok (.getfield 24, 3) := by decide +kernel
theorem dX0_tallIn_30 : decode cX0_tallIn 30 = .ok (.iload_n 1, 1) := by decide +kernel
theorem dX0_tallIn_31 : decode cX0_tallIn 31 = .ok (.iaload, 1) := by decide +kernel
theorem dX0_tallIn_32 : decode cX0_tallIn 32 = .ok (.iconst 2, 1) := by decide +kernel
theorem dX0_tallIn_33 : decode cX0_tallIn 33 = .ok (.if_icmp .ne 20, 3) := by decide +kernel
theorem dX0_tallIn_36 : decode cX0_tallIn 36 = .ok (.iload_n 3, 1) := by decide +kernel
theorem dX0_tallIn_37 : decode cX0_tallIn 37 = .ok (.iload_n 2, 1) := by decide +kernel
theorem dX0_tallIn_38 : decode cX0_tallIn 38 = .ok (.iconst 3, 1) := by decide +kernel
theorem dX0_tallIn_39 : decode cX0_tallIn 39 = .ok (.idiv, 1) := by decide +kernel
theorem dX0_tallIn_40 : decode cX0_tallIn 40 = .ok (.iadd, 1) := by decide +kernel
theorem dX0_tallIn_41 : decode cX0_tallIn 41 = .ok (.istore_n 3, 1) := by decide +kernel
theorem dX0_tallIn_42 : decode cX0_tallIn 42 = .ok (.aload_n 0, 1) := by decide +kernel
theorem dX0_tallIn_43 : decode cX0_tallIn 43 = .ok (.getfield 74, 3) := by decide +kernel
theorem dX0_tallIn_46 : decode cX0_tallIn 46 = .ok (.ifCond .eq 7, 3) := by decide +kernel
theorem dX0_tallIn_49 : decode cX0_tallIn 49 = .ok (.iload_n 3, 1) := by decide +kernel
theorem dX0_tallIn_50 : decode cX0_tallIn 50 = .ok (.iconst 2, 1) := by decide +kernel
theorem dX0_tallIn_51 : decode cX0_tallIn 51 = .ok (.idiv, 1) := by decide +kernel
theorem dX0_tallIn_52 : decode cX0_tallIn 52 = .ok (.istore_n 3, 1) := by decide +kernel
theorem dX0_tallIn_53 : decode cX0_tallIn 53 = .ok (.iload_n 3, 1) := by decide +kernel
theorem dX0_tallIn_54 : decode cX0_tallIn 54 = .ok (.ireturn, 1) := by decide +kernel
theorem dX0_stepsBetween_0 : decode cX0_stepsBetween 0 = .ok (.aload_n 0, 1) := by decide +kernel
theorem dX0_stepsBetween_1 : decode cX0_stepsBetween 1 = .ok (.getfield 15, 3) := by decide +kernel
theorem dX0_stepsBetween_4 : decode cX0_stepsBetween 4 = .ok (.iload_n 1, 1) := by decide +kernel
theorem dX0_stepsBetween_5 : decode cX0_stepsBetween 5 = .ok (.iaload, 1) := by decide +kernel
theorem dX0_stepsBetween_6 : decode cX0_stepsBetween 6 = .ok (.aload_n 0, 1) := by decide +kernel
theorem dX0_stepsBetween_7 : decode cX0_stepsBetween 7 = .ok (.getfield 15, 3) := by decide +kernel
theorem dX0_stepsBetween_10 : decode cX0_stepsBetween 10 = .ok (.iload_n 2, 1) := by decide +kernel
theorem dX0_stepsBetween_11 : decode cX0_stepsBetween 11 = .ok (.iaload, 1) := by decide +kernel
theorem dX0_stepsBetween_12 : decode cX0_stepsBetween 12 = .ok (.isub, 1) := by decide +kernel
theorem dX0_stepsBetween_13 : decode cX0_stepsBetween 13 = .ok (.invokestatic 88, 3) := by decide +kernel
theorem dX0_stepsBetween_16 : decode cX0_stepsBetween 16 = .ok (.istore_n 3, 1) := by decide +kernel
theorem dX0_stepsBetween_17 : decode cX0_stepsBetween 17 = .ok (.aload_n 0, 1) := by decide +kernel
theorem dX0_stepsBetween_18 : decode cX0_stepsBetween 18 = .ok (.getfield 18, 3) := by decide +kernel
theorem dX0_stepsBetween_21 : decode cX0_stepsBetween 21 = .ok (.iload_n 1, 1) := by decide +kernel
theorem dX0_stepsBetween_22 : decode cX0_stepsBetween 22 = .ok (.iaload, 1) := by decide +kernel
theorem dX0_stepsBetween_23 : decode cX0_stepsBetween 23 = .ok (.aload_n 0, 1) := by decide +kernel
theorem dX0_stepsBetween_24 : decode cX0_stepsBetween 24 = .ok (.getfield 18, 3) := by decide +kernel
theorem dX0_stepsBetween_27 : decode cX0_stepsBetween 27 = .ok (.iload_n 2, 1) := by decide +kernel
theorem dX0_stepsBetween_28 : decode cX0_stepsBetween 28 = .ok (.iaload, 1) := by decide +kernel
theorem dX0_stepsBetween_29 : decode cX0_stepsBetween 29 = .ok (.isub, 1) := by decide +kernel
theorem dX0_stepsBetween_30 : decode cX0_stepsBetween 30 = .ok (.invokestatic 88, 3) := by decide +kernel
theorem dX0_stepsBetween_33 : decode cX0_stepsBetween 33 = .ok (.istore 4, 2) := by decide +kernel
theorem dX0_stepsBetween_35 : decode cX0_stepsBetween 35 = .ok (.iload_n 3, 1) := by decide +kernel
theorem dX0_stepsBetween_36 : decode cX0_stepsBetween 36 = .ok (.iload 4, 2) := by decide +kernel
theorem dX0_stepsBetween_38 : decode cX0_stepsBetween 38 = .ok (.invokestatic 94, 3) := by decide +kernel
theorem dX0_stepsBetween_41 : decode cX0_stepsBetween 41 = .ok (.istore 5, 2) := by decide +kernel
theorem dX0_stepsBetween_43 : decode cX0_stepsBetween 43 = .ok (.iload 5, 2) := by decide +kernel
theorem dX0_stepsBetween_45 : decode cX0_stepsBetween 45 = .ok (.iconst 1, 1) := by decide +kernel
theorem dX0_stepsBetween_46 : decode cX0_stepsBetween 46 = .ok (.if_icmp .le 27, 3) := by decide +kernel
theorem dX0_stepsBetween_49 : decode cX0_stepsBetween 49 = .ok (.iload_n 3, 1) := by decide +kernel
theorem dX0_stepsBetween_50 : decode cX0_stepsBetween 50 = .ok (.iload 5, 2) := by decide +kernel
theorem dX0_stepsBetween_52 : decode cX0_stepsBetween 52 = .ok (.irem, 1) := by decide +kernel
theorem dX0_stepsBetween_53 : decode cX0_stepsBetween 53 = .ok (.ifCond .ne 14, 3) := by decide +kernel
theorem dX0_stepsBetween_56 : decode cX0_stepsBetween 56 = .ok (.iload 4, 2) := by decide +kernel
theorem dX0_stepsBetween_58 : decode cX0_stepsBetween 58 = .ok (.iload 5, 2) := by decide +kernel
theorem dX0_stepsBetween_60 : decode cX0_stepsBetween 60 = .ok (.irem, 1) := by decide +kernel
theorem dX0_stepsBetween_61 : decode cX0_stepsBetween 61 = .ok (.ifCond .ne 6, 3) := by decide +kernel
theorem dX0_stepsBetween_64 : decode cX0_stepsBetween 64 = .ok (.iload 5, 2) := by decide +kernel
theorem dX0_stepsBetween_66 : decode cX0_stepsBetween 66 = .ok (.ireturn, 1) := by decide +kernel
theorem dX0_stepsBetween_67 : decode cX0_stepsBetween 67 = .ok (.iinc 5 (-1), 3) := by decide +kernel
theorem dX0_stepsBetween_70 : decode cX0_stepsBetween 70 = .ok (.goto (-27), 3) := by decide +kernel
theorem dX0_stepsBetween_73 : decode cX0_stepsBetween 73 = .ok (.iconst 1, 1) := by decide +kernel
theorem dX0_stepsBetween_74 : decode cX0_stepsBetween 74 = .ok (.ireturn, 1) := by decide +kernel
theorem dX0_inTheWay_0 : decode cX0_inTheWay 0 = .ok (.aload_n 0, 1) := by decide +kernel
theorem dX0_inTheWay_1 : decode cX0_inTheWay 1 = .ok (.getfield 21, 3) := by decide +kernel
theorem dX0_inTheWay_4 : decode cX0_inTheWay 4 = .ok (.iload_n 1, 1) := by decide +kernel
theorem dX0_inTheWay_5 : decode cX0_inTheWay 5 = .ok (.iaload, 1) := by decide +kernel
theorem dX0_inTheWay_6 : decode cX0_inTheWay 6 = .ok (.istore 5, 2) := by decide +kernel
theorem dX0_inTheWay_8 : decode cX0_inTheWay 8 = .ok (.aload_n 0, 1) := by decide +kernel
theorem dX0_inTheWay_9 : decode cX0_inTheWay 9 = .ok (.iload 5, 2) := by decide +kernel
theorem dX0_inTheWay_11 : decode cX0_inTheWay 11 = .ok (.iload_n 2, 1) := by decide +kernel
theorem dX0_inTheWay_12 : decode cX0_inTheWay 12 = .ok (.invokevirtual 98, 3) := by decide +kernel
theorem dX0_inTheWay_15 : decode cX0_inTheWay 15 = .ok (.istore 6, 2) := by decide +kernel
theorem dX0_inTheWay_17 : decode cX0_inTheWay 17 = .ok (.iload_n 2, 1) := by decide +kernel
theorem dX0_inTheWay_18 : decode cX0_inTheWay 18 = .ok (.iload 5, 2) := by decide +kernel
theorem dX0_inTheWay_20 : decode cX0_inTheWay 20 = .ok (.isub, 1) := by decide +kernel
theorem dX0_inTheWay_21 : decode cX0_inTheWay 21 = .ok (.iload 6, 2) := by decide +kernel
theorem dX0_inTheWay_23 : decode cX0_inTheWay 23 = .ok (.idiv, 1) := by decide +kernel
theorem dX0_inTheWay_24 : decode cX0_inTheWay 24 = .ok (.istore 7, 2) := by decide +kernel
theorem dX0_inTheWay_26 : decode cX0_inTheWay 26 = .ok (.iconst 0, 1) := by decide +kernel
theorem dX0_inTheWay_27 : decode cX0_inTheWay 27 = .ok (.istore 8, 2) := by decide +kernel
theorem dX0_inTheWay_29 : decode cX0_inTheWay 29 = .ok (.iconst 1, 1) := by decide +kernel
theorem dX0_inTheWay_30 : decode cX0_inTheWay 30 = .ok (.istore 9, 2) := by decide +kernel
theorem dX0_inTheWay_32 : decode cX0_inTheWay 32 = .ok (.iload 9, 2) := by decide +kernel
theorem dX0_inTheWay_34 : decode cX0_inTheWay 34 = .ok (.iload 6, 2) := by decide +kernel
theorem dX0_inTheWay_36 : decode cX0_inTheWay 36 = .ok (.if_icmp .ge 79, 3) := by decide +kernel
theorem dX0_inTheWay_39 : decode cX0_inTheWay 39 = .ok (.aload_n 0, 1) := by decide +kernel
theorem dX0_inTheWay_40 : decode cX0_inTheWay 40 = .ok (.getfield 9, 3) := by decide +kernel
theorem dX0_inTheWay_43 : decode cX0_inTheWay 43 = .ok (.iload 5, 2) := by decide +kernel
theorem dX0_inTheWay_45 : decode cX0_inTheWay 45 = .ok (.iload 9, 2) := by decide +kernel
theorem dX0_inTheWay_47 : decode cX0_inTheWay 47 = .ok (.iload 7, 2) := by decide +kernel
theorem dX0_inTheWay_49 : decode cX0_inTheWay 49 = .ok (.imul, 1) := by decide +kernel
theorem dX0_inTheWay_50 : decode cX0_inTheWay 50 = .ok (.iadd, 1) := by decide +kernel
theorem dX0_inTheWay_51 : decode cX0_inTheWay 51 = .ok (.iaload, 1) := by decide +kernel
theorem dX0_inTheWay_52 : decode cX0_inTheWay 52 = .ok (.bipush 10, 2) := by decide +kernel
theorem dX0_inTheWay_54 : decode cX0_inTheWay 54 = .ok (.isub, 1) := by decide +kernel
theorem dX0_inTheWay_55 : decode cX0_inTheWay 55 = .ok (.istore 10, 2) := by decide +kernel
theorem dX0_inTheWay_57 : decode cX0_inTheWay 57 = .ok (.iload 10, 2) := by decide +kernel
theorem dX0_inTheWay_59 : decode cX0_inTheWay 59 = .ok (.ifCond .lt 50, 3) := by decide +kernel
theorem dX0_inTheWay_62 : decode cX0_inTheWay 62 = .ok (.aload_n 0, 1) := by decide +kernel
theorem dX0_inTheWay_63 : decode cX0_inTheWay 63 = .ok (.iload 10, 2) := by decide +kernel
theorem dX0_inTheWay_65 : decode cX0_inTheWay 65 = .ok (.invokevirtual 101, 3) := by decide +kernel
theorem dX0_inTheWay_68 : decode cX0_inTheWay 68 = .ok (.ifCond .eq 41, 3) := by decide +kernel
theorem dX0_inTheWay_71 : decode cX0_inTheWay 71 = .ok (.iconst 2, 1) := by decide +kernel
theorem dX0_inTheWay_72 : decode cX0_inTheWay 72 = .ok (.iload 6, 2) := by decide +kernel
theorem dX0_inTheWay_74 : decode cX0_inTheWay 74 = .ok (.imul, 1) := by decide +kernel
theorem dX0_inTheWay_75 : decode cX0_inTheWay 75 = .ok (.iload 9, 2) := by decide +kernel
theorem dX0_inTheWay_77 : decode cX0_inTheWay 77 = .ok (.iload_n 3, 1) := by decide +kernel
theorem dX0_inTheWay_78 : decode cX0_inTheWay 78 = .ok (.iconst 2, 1) := by decide +kernel
theorem dX0_inTheWay_79 : decode cX0_inTheWay 79 = .ok (.isub, 1) := by decide +kernel
theorem dX0_inTheWay_80 : decode cX0_inTheWay 80 = .ok (.imul, 1) := by decide +kernel
theorem dX0_inTheWay_81 : decode cX0_inTheWay 81 = .ok (.iadd, 1) := by decide +kernel
theorem dX0_inTheWay_82 : decode cX0_inTheWay 82 = .ok (.istore 11, 2) := by decide +kernel
theorem dX0_inTheWay_84 : decode cX0_inTheWay 84 = .ok (.aload_n 0, 1) := by decide +kernel
theorem dX0_inTheWay_85 : decode cX0_inTheWay 85 = .ok (.iload 10, 2) := by decide +kernel
theorem dX0_inTheWay_87 : decode cX0_inTheWay 87 = .ok (.iload 4, 2) := by decide +kernel
theorem dX0_inTheWay_89 : decode cX0_inTheWay 89 = .ok (.invokevirtual 105, 3) := by decide +kernel
theorem dX0_inTheWay_92 : decode cX0_inTheWay 92 = .ok (.iload 6, 2) := by decide +kernel
theorem dX0_inTheWay_94 : decode cX0_inTheWay 94 = .ok (.imul, 1) := by decide +kernel
theorem dX0_inTheWay_95 : decode cX0_inTheWay 95 = .ok (.iload 11, 2) := by decide +kernel
theorem dX0_inTheWay_97 : decode cX0_inTheWay 97 = .ok (.if_icmp .lt 12, 3) := by decide +kernel
theorem dX0_inTheWay_100 : decode cX0_inTheWay 100 = .ok (.iload 8, 2) := by decide +kernel
theorem dX0_inTheWay_102 : decode cX0_inTheWay 102 = .ok (.iconst 1, 1) := by decide +kernel
theorem dX0_inTheWay_103 : decode cX0_inTheWay 103 = .ok (.iload 10, 2) := by decide +kernel
theorem dX0_inTheWay_105 : decode cX0_inTheWay 105 = .ok (.ishl, 1) := by decide +kernel
theorem dX0_inTheWay_106 : decode cX0_inTheWay 106 = .ok (.ior, 1) := by decide +kernel
theorem dX0_inTheWay_107 : decode cX0_inTheWay 107 = .ok (.istore 8, 2) := by decide +kernel
theorem dX0_inTheWay_109 : decode cX0_inTheWay 109 = .ok (.iinc 9 1, 3) := by decide +kernel
theorem dX0_inTheWay_112 : decode cX0_inTheWay 112 = .ok (.goto (-80), 3) := by decide +kernel
theorem dX0_inTheWay_115 : decode cX0_inTheWay 115 = .ok (.iload 8, 2) := by decide +kernel
theorem dX0_inTheWay_117 : decode cX0_inTheWay 117 = .ok (.ireturn, 1) := by decide +kernel
theorem dX0_partsSeen_0 : decode cX0_partsSeen 0 = .ok (.iconst 0, 1) := by decide +kernel
theorem dX0_partsSeen_1 : decode cX0_partsSeen 1 = .ok (.istore_n 3, 1) := by decide +kernel
theorem dX0_partsSeen_2 : decode cX0_partsSeen 2 = .ok (.iconst 0, 1) := by decide +kernel
theorem dX0_partsSeen_3 : decode cX0_partsSeen 3 = .ok (.istore 4, 2) := by decide +kernel
theorem dX0_partsSeen_5 : decode cX0_partsSeen 5 = .ok (.iload 4, 2) := by decide +kernel
theorem dX0_partsSeen_7 : decode cX0_partsSeen 7 = .ok (.iconst 4, 1) := by decide +kernel
theorem dX0_partsSeen_8 : decode cX0_partsSeen 8 = .ok (.if_icmp .ge 40, 3) := by decide +kernel
theorem dX0_partsSeen_11 : decode cX0_partsSeen 11 = .ok (.aload_n 0, 1) := by decide +kernel
theorem dX0_partsSeen_12 : decode cX0_partsSeen 12 = .ok (.iload_n 1, 1) := by decide +kernel
theorem dX0_partsSeen_13 : decode cX0_partsSeen 13 = .ok (.iload_n 2, 1) := by decide +kernel
theorem dX0_partsSeen_14 : decode cX0_partsSeen 14 = .ok (.aload_n 0, 1) := by decide +kernel
theorem dX0_partsSeen_15 : decode cX0_partsSeen 15 = .ok (.getfield 78, 3) := by decide +kernel
theorem dX0_partsSeen_18 : decode cX0_partsSeen 18 = .ok (.getstatic 108, 3) := by decide +kernel
theorem dX0_partsSeen_21 : decode cX0_partsSeen 21 = .ok (.iload 4, 2) := by decide +kernel
theorem dX0_partsSeen_23 : decode cX0_partsSeen 23 = .ok (.iaload, 1) := by decide +kernel
theorem dX0_partsSeen_24 : decode cX0_partsSeen 24 = .ok (.iadd, 1) := by decide +kernel
theorem dX0_partsSeen_25 : decode cX0_partsSeen 25 = .ok (.aload_n 0, 1) := by decide +kernel
theorem dX0_partsSeen_26 : decode cX0_partsSeen 26 = .ok (.getfield 71, 3) := by decide +kernel
theorem dX0_partsSeen_29 : decode cX0_partsSeen 29 = .ok (.invokevirtual 111, 3) := by decide +kernel
theorem dX0_partsSeen_32 : decode cX0_partsSeen 32 = .ok (.ifCond .ne 10, 3) := by decide +kernel
theorem dX0_partsSeen_35 : decode cX0_partsSeen 35 = .ok (.iload_n 3, 1) := by decide +kernel
theorem dX0_partsSeen_36 : decode cX0_partsSeen 36 = .ok (.iconst 1, 1) := by decide +kernel
theorem dX0_partsSeen_37 : decode cX0_partsSeen 37 = .ok (.iload 4, 2) := by decide +kernel
theorem dX0_partsSeen_39 : decode cX0_partsSeen 39 = .ok (.ishl, 1) := by decide +kernel
theorem dX0_partsSeen_40 : decode cX0_partsSeen 40 = .ok (.ior, 1) := by decide +kernel
theorem dX0_partsSeen_41 : decode cX0_partsSeen 41 = .ok (.istore_n 3, 1) := by decide +kernel
theorem dX0_partsSeen_42 : decode cX0_partsSeen 42 = .ok (.iinc 4 1, 3) := by decide +kernel
theorem dX0_partsSeen_45 : decode cX0_partsSeen 45 = .ok (.goto (-40), 3) := by decide +kernel
theorem dX0_partsSeen_48 : decode cX0_partsSeen 48 = .ok (.iload_n 3, 1) := by decide +kernel
theorem dX0_partsSeen_49 : decode cX0_partsSeen 49 = .ok (.ireturn, 1) := by decide +kernel
theorem dX0_partsSeenInAll_0 : decode cX0_partsSeenInAll 0 = .ok (.iconst 0, 1) := by decide +kernel
theorem dX0_partsSeenInAll_1 : decode cX0_partsSeenInAll 1 = .ok (.istore_n 1, 1) := by decide +kernel
theorem dX0_partsSeenInAll_2 : decode cX0_partsSeenInAll 2 = .ok (.iconst 0, 1) := by decide +kernel
theorem dX0_partsSeenInAll_3 : decode cX0_partsSeenInAll 3 = .ok (.istore_n 2, 1) := by decide +kernel
theorem dX0_partsSeenInAll_4 : decode cX0_partsSeenInAll 4 = .ok (.iload_n 2, 1) := by decide +kernel
theorem dX0_partsSeenInAll_5 : decode cX0_partsSeenInAll 5 = .ok (.aload_n 0, 1) := by decide +kernel
theorem dX0_partsSeenInAll_6 : decode cX0_partsSeenInAll 6 = .ok (.getfield 49, 3) := by decide +kernel
theorem dX0_partsSeenInAll_9 : decode cX0_partsSeenInAll 9 = .ok (.if_icmp .ge 24, 3) := by decide +kernel
theorem dX0_partsSeenInAll_12 : decode cX0_partsSeenInAll 12 = .ok (.iload_n 1, 1) := by decide +kernel
theorem dX0_partsSeenInAll_13 : decode cX0_partsSeenInAll 13 = .ok (.aload_n 0, 1) := by decide +kernel
theorem dX0_partsSeenInAll_14 : decode cX0_partsSeenInAll 14 = .ok (.iload_n 2, 1) := by decide +kernel
theorem dX0_partsSeenInAll_15 : decode cX0_partsSeenInAll 15 = .ok (.aload_n 0, 1) := by decide +kernel
theorem dX0_partsSeenInAll_16 : decode cX0_partsSeenInAll 16 = .ok (.getfield 36, 3) := by decide +kernel
theorem dX0_partsSeenInAll_19 : decode cX0_partsSeenInAll 19 = .ok (.invokevirtual 115, 3) := by decide +kernel
theorem dX0_partsSeenInAll_22 : decode cX0_partsSeenInAll 22 = .ok (.invokestatic 118, 3) := by decide +kernel
theorem dX0_partsSeenInAll_25 : decode cX0_partsSeenInAll 25 = .ok (.iadd, 1) := by decide +kernel
theorem dX0_partsSeenInAll_26 : decode cX0_partsSeenInAll 26 = .ok (.istore_n 1, 1) := by decide +kernel
theorem dX0_partsSeenInAll_27 : decode cX0_partsSeenInAll 27 = .ok (.iinc 2 1, 3) := by decide +kernel
theorem dX0_partsSeenInAll_30 : decode cX0_partsSeenInAll 30 = .ok (.goto (-26), 3) := by decide +kernel
theorem dX0_partsSeenInAll_33 : decode cX0_partsSeenInAll 33 = .ok (.iload_n 1, 1) := by decide +kernel
theorem dX0_partsSeenInAll_34 : decode cX0_partsSeenInAll 34 = .ok (.ireturn, 1) := by decide +kernel
theorem dX0_hiders_0 : decode cX0_hiders 0 = .ok (.aload_n 0, 1) := by decide +kernel
theorem dX0_hiders_1 : decode cX0_hiders 1 = .ok (.iload_n 1, 1) := by decide +kernel
theorem dX0_hiders_2 : decode cX0_hiders 2 = .ok (.aload_n 0, 1) := by decide +kernel
theorem dX0_hiders_3 : decode cX0_hiders 3 = .ok (.getfield 36, 3) := by decide +kernel
theorem dX0_hiders_6 : decode cX0_hiders 6 = .ok (.aload_n 0, 1) := by decide +kernel
theorem dX0_hiders_7 : decode cX0_hiders 7 = .ok (.getfield 78, 3) := by decide +kernel
theorem dX0_hiders_10 : decode cX0_hiders 10 = .ok (.iconst 1, 1) := by decide +kernel
theorem dX0_hiders_11 : decode cX0_hiders 11 = .ok (.iadd, 1) := by decide +kernel
theorem dX0_hiders_12 : decode cX0_hiders 12 = .ok (.aload_n 0, 1) := by decide +kernel
theorem dX0_hiders_13 : decode cX0_hiders 13 = .ok (.getfield 71, 3) := by decide +kernel
theorem dX0_hiders_16 : decode cX0_hiders 16 = .ok (.invokevirtual 111, 3) := by decide +kernel
theorem dX0_hiders_19 : decode cX0_hiders 19 = .ok (.ireturn, 1) := by decide +kernel
theorem dX0_allHiders_0 : decode cX0_allHiders 0 = .ok (.iconst 0, 1) := by decide +kernel
theorem dX0_allHiders_1 : decode cX0_allHiders 1 = .ok (.istore_n 1, 1) := by decide +kernel
theorem dX0_allHiders_2 : decode cX0_allHiders 2 = .ok (.iconst 0, 1) := by decide +kernel
theorem dX0_allHiders_3 : decode cX0_allHiders 3 = .ok (.istore_n 2, 1) := by decide +kernel
theorem dX0_allHiders_4 : decode cX0_allHiders 4 = .ok (.iload_n 2, 1) := by decide +kernel
theorem dX0_allHiders_5 : decode cX0_allHiders 5 = .ok (.aload_n 0, 1) := by decide +kernel
theorem dX0_allHiders_6 : decode cX0_allHiders 6 = .ok (.getfield 49, 3) := by decide +kernel
theorem dX0_allHiders_9 : decode cX0_allHiders 9 = .ok (.if_icmp .ge 17, 3) := by decide +kernel
theorem dX0_allHiders_12 : decode cX0_allHiders 12 = .ok (.iload_n 1, 1) := by decide +kernel
theorem dX0_allHiders_13 : decode cX0_allHiders 13 = .ok (.aload_n 0, 1) := by decide +kernel
theorem dX0_allHiders_14 : decode cX0_allHiders 14 = .ok (.iload_n 2, 1) := by decide +kernel
theorem dX0_allHiders_15 : decode cX0_allHiders 15 = .ok (.invokevirtual 123, 3) := by decide +kernel
theorem dX0_allHiders_18 : decode cX0_allHiders 18 = .ok (.ior, 1) := by decide +kernel
theorem dX0_allHiders_19 : decode cX0_allHiders 19 = .ok (.istore_n 1, 1) := by decide +kernel
theorem dX0_allHiders_20 : decode cX0_allHiders 20 = .ok (.iinc 2 1, 3) := by decide +kernel
theorem dX0_allHiders_23 : decode cX0_allHiders 23 = .ok (.goto (-19), 3) := by decide +kernel
theorem dX0_allHiders_26 : decode cX0_allHiders 26 = .ok (.iload_n 1, 1) := by decide +kernel
theorem dX0_allHiders_27 : decode cX0_allHiders 27 = .ok (.ireturn, 1) := by decide +kernel
theorem dX0_costOf_0 : decode cX0_costOf 0 = .ok (.iconst 0, 1) := by decide +kernel
theorem dX0_costOf_1 : decode cX0_costOf 1 = .ok (.istore_n 2, 1) := by decide +kernel
theorem dX0_costOf_2 : decode cX0_costOf 2 = .ok (.iconst 0, 1) := by decide +kernel
theorem dX0_costOf_3 : decode cX0_costOf 3 = .ok (.istore_n 3, 1) := by decide +kernel
theorem dX0_costOf_4 : decode cX0_costOf 4 = .ok (.iload_n 3, 1) := by decide +kernel
theorem dX0_costOf_5 : decode cX0_costOf 5 = .ok (.aload_n 0, 1) := by decide +kernel
theorem dX0_costOf_6 : decode cX0_costOf 6 = .ok (.getfield 52, 3) := by decide +kernel
theorem dX0_costOf_9 : decode cX0_costOf 9 = .ok (.if_icmp .ge 26, 3) := by decide +kernel
theorem dX0_costOf_12 : decode cX0_costOf 12 = .ok (.iload_n 1, 1) := by decide +kernel
theorem dX0_costOf_13 : decode cX0_costOf 13 = .ok (.iload_n 3, 1) := by decide +kernel
theorem dX0_costOf_14 : decode cX0_costOf 14 = .ok (.ishr, 1) := by decide +kernel
theorem dX0_costOf_15 : decode cX0_costOf 15 = .ok (.iconst 1, 1) := by decide +kernel
theorem dX0_costOf_16 : decode cX0_costOf 16 = .ok (.iand, 1) := by decide +kernel
theorem dX0_costOf_17 : decode cX0_costOf 17 = .ok (.ifCond .eq 12, 3) := by decide +kernel
theorem dX0_costOf_20 : decode cX0_costOf 20 = .ok (.iload_n 2, 1) := by decide +kernel
theorem dX0_costOf_21 : decode cX0_costOf 21 = .ok (.aload_n 0, 1) := by decide +kernel
theorem dX0_costOf_22 : decode cX0_costOf 22 = .ok (.getfield 33, 3) := by decide +kernel
theorem dX0_costOf_25 : decode cX0_costOf 25 = .ok (.iload_n 3, 1) := by decide +kernel
theorem dX0_costOf_26 : decode cX0_costOf 26 = .ok (.iaload, 1) := by decide +kernel
theorem dX0_costOf_27 : decode cX0_costOf 27 = .ok (.iadd, 1) := by decide +kernel
theorem dX0_costOf_28 : decode cX0_costOf 28 = .ok (.istore_n 2, 1) := by decide +kernel
theorem dX0_costOf_29 : decode cX0_costOf 29 = .ok (.iinc 3 1, 3) := by decide +kernel
theorem dX0_costOf_32 : decode cX0_costOf 32 = .ok (.goto (-28), 3) := by decide +kernel
theorem dX0_costOf_35 : decode cX0_costOf 35 = .ok (.iload_n 2, 1) := by decide +kernel
theorem dX0_costOf_36 : decode cX0_costOf 36 = .ok (.ireturn, 1) := by decide +kernel
theorem dX0_complainers_0 : decode cX0_complainers 0 = .ok (.iconst 0, 1) := by decide +kernel
theorem dX0_complainers_1 : decode cX0_complainers 1 = .ok (.istore_n 3, 1) := by decide +kernel
theorem dX0_complainers_2 : decode cX0_complainers 2 = .ok (.iconst 0, 1) := by decide +kernel
theorem dX0_complainers_3 : decode cX0_complainers 3 = .ok (.istore 4, 2) := by decide +kernel
theorem dX0_complainers_5 : decode cX0_complainers 5 = .ok (.iload 4, 2) := by decide +kernel
theorem dX0_complainers_7 : decode cX0_complainers 7 = .ok (.aload_n 0, 1) := by decide +kernel
theorem dX0_complainers_8 : decode cX0_complainers 8 = .ok (.getfield 49, 3) := by decide +kernel
theorem dX0_complainers_11 : decode cX0_complainers 11 = .ok (.if_icmp .ge 40, 3) := by decide +kernel
theorem dX0_complainers_14 : decode cX0_complainers 14 = .ok (.aload_n 0, 1) := by decide +kernel
theorem dX0_complainers_15 : decode cX0_complainers 15 = .ok (.iload 4, 2) := by decide +kernel
theorem dX0_complainers_17 : decode cX0_complainers 17 = .ok (.aload_n 0, 1) := by decide +kernel
theorem dX0_complainers_18 : decode cX0_complainers 18 = .ok (.getfield 36, 3) := by decide +kernel
theorem dX0_complainers_21 : decode cX0_complainers 21 = .ok (.aload_n 0, 1) := by decide +kernel
theorem dX0_complainers_22 : decode cX0_complainers 22 = .ok (.getfield 78, 3) := by decide +kernel
theorem dX0_complainers_25 : decode cX0_complainers 25 = .ok (.iconst 1, 1) := by decide +kernel
theorem dX0_complainers_26 : decode cX0_complainers 26 = .ok (.iadd, 1) := by decide +kernel
theorem dX0_complainers_27 : decode cX0_complainers 27 = .ok (.iload_n 2, 1) := by decide +kernel
theorem dX0_complainers_28 : decode cX0_complainers 28 = .ok (.invokevirtual 111, 3) := by decide +kernel
theorem dX0_complainers_31 : decode cX0_complainers 31 = .ok (.iload_n 1, 1) := by decide +kernel
theorem dX0_complainers_32 : decode cX0_complainers 32 = .ok (.iconst (-1), 1) := by decide +kernel
theorem dX0_complainers_33 : decode cX0_complainers 33 = .ok (.ixor, 1) := by decide +kernel
theorem dX0_complainers_34 : decode cX0_complainers 34 = .ok (.iand, 1) := by decide +kernel
theorem dX0_complainers_35 : decode cX0_complainers 35 = .ok (.ifCond .eq 10, 3) := by decide +kernel
theorem dX0_complainers_38 : decode cX0_complainers 38 = .ok (.iload_n 3, 1) := by decide +kernel
theorem dX0_complainers_39 : decode cX0_complainers 39 = .ok (.iconst 1, 1) := by decide +kernel
theorem dX0_complainers_40 : decode cX0_complainers 40 = .ok (.iload 4, 2) := by decide +kernel
theorem dX0_complainers_42 : decode cX0_complainers 42 = .ok (.ishl, 1) := by decide +kernel
theorem dX0_complainers_43 : decode cX0_complainers 43 = .ok (.ior, 1) := by decide +kernel
theorem dX0_complainers_44 : decode cX0_complainers 44 = .ok (.istore_n 3, 1) := by decide +kernel
theorem dX0_complainers_45 : decode cX0_complainers 45 = .ok (.iinc 4 1, 3) := by decide +kernel
theorem dX0_complainers_48 : decode cX0_complainers 48 = .ok (.goto (-43), 3) := by decide +kernel
theorem dX0_complainers_51 : decode cX0_complainers 51 = .ok (.iload_n 3, 1) := by decide +kernel
theorem dX0_complainers_52 : decode cX0_complainers 52 = .ok (.ireturn, 1) := by decide +kernel
theorem dX0_benchesThatSeeWhole_0 : decode cX0_benchesThatSeeWhole 0 = .ok (.iconst 1, 1) := by decide +kernel
theorem dX0_benchesThatSeeWhole_1 : decode cX0_benchesThatSeeWhole 1 = .ok (.aload_n 0, 1) := by decide +kernel
theorem dX0_benchesThatSeeWhole_2 : decode cX0_benchesThatSeeWhole 2 = .ok (.getfield 49, 3) := by decide +kernel
theorem dX0_benchesThatSeeWhole_5 : decode cX0_benchesThatSeeWhole 5 = .ok (.ishl, 1) := by decide +kernel
theorem dX0_benchesThatSeeWhole_6 : decode cX0_benchesThatSeeWhole 6 = .ok (.iconst 1, 1) := by decide +kernel
theorem dX0_benchesThatSeeWhole_7 : decode cX0_benchesThatSeeWhole 7 = .ok (.isub, 1) := by decide +kernel
theorem dX0_benchesThatSeeWhole_8 : decode cX0_benchesThatSeeWhole 8 = .ok (.aload_n 0, 1) := by decide +kernel
theorem dX0_benchesThatSeeWhole_9 : decode cX0_benchesThatSeeWhole 9 = .ok (.iconst 0, 1) := by decide +kernel
theorem dX0_benchesThatSeeWhole_10 : decode cX0_benchesThatSeeWhole 10 = .ok (.aload_n 0, 1) := by decide +kernel
theorem dX0_benchesThatSeeWhole_11 : decode cX0_benchesThatSeeWhole 11 = .ok (.getfield 71, 3) := by decide +kernel
theorem dX0_benchesThatSeeWhole_14 : decode cX0_benchesThatSeeWhole 14 = .ok (.invokevirtual 126, 3) := by decide +kernel
theorem dX0_benchesThatSeeWhole_17 : decode cX0_benchesThatSeeWhole 17 = .ok (.iconst (-1), 1) := by decide +kernel
theorem dX0_benchesThatSeeWhole_18 : decode cX0_benchesThatSeeWhole 18 = .ok (.ixor, 1) := by decide +kernel
theorem dX0_benchesThatSeeWhole_19 : decode cX0_benchesThatSeeWhole 19 = .ok (.iand, 1) := by decide +kernel
theorem dX0_benchesThatSeeWhole_20 : decode cX0_benchesThatSeeWhole 20 = .ok (.ireturn, 1) := by decide +kernel
theorem dX0_countWhole_0 : decode cX0_countWhole 0 = .ok (.iconst 0, 1) := by decide +kernel
theorem dX0_countWhole_1 : decode cX0_countWhole 1 = .ok (.istore_n 3, 1) := by decide +kernel
theorem dX0_countWhole_2 : decode cX0_countWhole 2 = .ok (.iconst 0, 1) := by decide +kernel
theorem dX0_countWhole_3 : decode cX0_countWhole 3 = .ok (.istore 4, 2) := by decide +kernel
theorem dX0_countWhole_5 : decode cX0_countWhole 5 = .ok (.iload 4, 2) := by decide +kernel
theorem dX0_countWhole_7 : decode cX0_countWhole 7 = .ok (.aload_n 0, 1) := by decide +kernel
theorem dX0_countWhole_8 : decode cX0_countWhole 8 = .ok (.getfield 49, 3) := by decide +kernel
theorem dX0_countWhole_11 : decode cX0_countWhole 11 = .ok (.if_icmp .ge 29, 3) := by decide +kernel
theorem dX0_countWhole_14 : decode cX0_countWhole 14 = .ok (.aload_n 0, 1) := by decide +kernel
theorem dX0_countWhole_15 : decode cX0_countWhole 15 = .ok (.iload 4, 2) := by decide +kernel
theorem dX0_countWhole_17 : decode cX0_countWhole 17 = .ok (.iload_n 1, 1) := by decide +kernel
theorem dX0_countWhole_18 : decode cX0_countWhole 18 = .ok (.iload_n 2, 1) := by decide +kernel
theorem dX0_countWhole_19 : decode cX0_countWhole 19 = .ok (.iconst 1, 1) := by decide +kernel
theorem dX0_countWhole_20 : decode cX0_countWhole 20 = .ok (.iadd, 1) := by decide +kernel
theorem dX0_countWhole_21 : decode cX0_countWhole 21 = .ok (.aload_n 0, 1) := by decide +kernel
theorem dX0_countWhole_22 : decode cX0_countWhole 22 = .ok (.getfield 71, 3) := by decide +kernel
theorem dX0_countWhole_25 : decode cX0_countWhole 25 = .ok (.invokevirtual 111, 3) := by decide +kernel
theorem dX0_countWhole_28 : decode cX0_countWhole 28 = .ok (.ifCond .ne 6, 3) := by decide +kernel
theorem dX0_countWhole_31 : decode cX0_countWhole 31 = .ok (.iinc 3 1, 3) := by decide +kernel
theorem dX0_countWhole_34 : decode cX0_countWhole 34 = .ok (.iinc 4 1, 3) := by decide +kernel
theorem dX0_countWhole_37 : decode cX0_countWhole 37 = .ok (.goto (-32), 3) := by decide +kernel
theorem dX0_countWhole_40 : decode cX0_countWhole 40 = .ok (.iload_n 3, 1) := by decide +kernel
theorem dX0_countWhole_41 : decode cX0_countWhole 41 = .ok (.ireturn, 1) := by decide +kernel
theorem dX0_bestCell_0 : decode cX0_bestCell 0 = .ok (.bipush (-9), 2) := by decide +kernel
theorem dX0_bestCell_2 : decode cX0_bestCell 2 = .ok (.istore_n 2, 1) := by decide +kernel
theorem dX0_bestCell_3 : decode cX0_bestCell 3 = .ok (.iconst (-1), 1) := by decide +kernel
theorem dX0_bestCell_4 : decode cX0_bestCell 4 = .ok (.istore_n 3, 1) := by decide +kernel
theorem dX0_bestCell_5 : decode cX0_bestCell 5 = .ok (.iconst 0, 1) := by decide +kernel
theorem dX0_bestCell_6 : decode cX0_bestCell 6 = .ok (.istore 4, 2) := by decide +kernel
theorem dX0_bestCell_8 : decode cX0_bestCell 8 = .ok (.iload 4, 2) := by decide +kernel
theorem dX0_bestCell_10 : decode cX0_bestCell 10 = .ok (.aload_n 0, 1) := by decide +kernel
theorem dX0_bestCell_11 : decode cX0_bestCell 11 = .ok (.getfield 46, 3) := by decide +kernel
theorem dX0_bestCell_14 : decode cX0_bestCell 14 = .ok (.if_icmp .ge 43, 3) := by decide +kernel
theorem dX0_bestCell_17 : decode cX0_bestCell 17 = .ok (.aload_n 0, 1) := by decide +kernel
theorem dX0_bestCell_18 : decode cX0_bestCell 18 = .ok (.iload 4, 2) := by decide +kernel
theorem dX0_bestCell_20 : decode cX0_bestCell 20 = .ok (.invokevirtual 129, 3) := by decide +kernel
theorem dX0_bestCell_23 : decode cX0_bestCell 23 = .ok (.ifCond .eq 13, 3) := by decide +kernel
theorem dX0_bestCell_26 : decode cX0_bestCell 26 = .ok (.aload_n 0, 1) := by decide +kernel
theorem dX0_bestCell_27 : decode cX0_bestCell 27 = .ok (.iload 4, 2) := by decide +kernel
theorem dX0_bestCell_29 : decode cX0_bestCell 29 = .ok (.iload_n 1, 1) := by decide +kernel
theorem dX0_bestCell_30 : decode cX0_bestCell 30 = .ok (.invokevirtual 132, 3) := by decide +kernel
theorem dX0_bestCell_33 : decode cX0_bestCell 33 = .ok (.goto 4, 3) := by decide +kernel
theorem dX0_bestCell_36 : decode cX0_bestCell 36 = .ok (.iconst (-1), 1) := by decide +kernel
theorem dX0_bestCell_37 : decode cX0_bestCell 37 = .ok (.istore 5, 2) := by decide +kernel
theorem dX0_bestCell_39 : decode cX0_bestCell 39 = .ok (.iload 5, 2) := by decide +kernel
theorem dX0_bestCell_41 : decode cX0_bestCell 41 = .ok (.iload_n 3, 1) := by decide +kernel
theorem dX0_bestCell_42 : decode cX0_bestCell 42 = .ok (.if_icmp .le 9, 3) := by decide +kernel
theorem dX0_bestCell_45 : decode cX0_bestCell 45 = .ok (.iload 4, 2) := by decide +kernel
theorem dX0_bestCell_47 : decode cX0_bestCell 47 = .ok (.istore_n 2, 1) := by decide +kernel
theorem dX0_bestCell_48 : decode cX0_bestCell 48 = .ok (.iload 5, 2) := by decide +kernel
theorem dX0_bestCell_50 : decode cX0_bestCell 50 = .ok (.istore_n 3, 1) := by decide +kernel
theorem dX0_bestCell_51 : decode cX0_bestCell 51 = .ok (.iinc 4 1, 3) := by decide +kernel
theorem dX0_bestCell_54 : decode cX0_bestCell 54 = .ok (.goto (-46), 3) := by decide +kernel
theorem dX0_bestCell_57 : decode cX0_bestCell 57 = .ok (.iload_n 2, 1) := by decide +kernel
theorem dX0_bestCell_58 : decode cX0_bestCell 58 = .ok (.ireturn, 1) := by decide +kernel
theorem dX0_leastBlock_0 : decode cX0_leastBlock 0 = .ok (.iconst 0, 1) := by decide +kernel
theorem dX0_leastBlock_1 : decode cX0_leastBlock 1 = .ok (.istore_n 2, 1) := by decide +kernel
theorem dX0_leastBlock_2 : decode cX0_leastBlock 2 = .ok (.iconst (-1), 1) := by decide +kernel
theorem dX0_leastBlock_3 : decode cX0_leastBlock 3 = .ok (.istore_n 3, 1) := by decide +kernel
theorem dX0_leastBlock_4 : decode cX0_leastBlock 4 = .ok (.iconst 0, 1) := by decide +kernel
theorem dX0_leastBlock_5 : decode cX0_leastBlock 5 = .ok (.istore 4, 2) := by decide +kernel
theorem dX0_leastBlock_7 : decode cX0_leastBlock 7 = .ok (.iload 4, 2) := by decide +kernel
theorem dX0_leastBlock_9 : decode cX0_leastBlock 9 = .ok (.bipush 9, 2) := by decide +kernel
theorem dX0_leastBlock_11 : decode cX0_leastBlock 11 = .ok (.if_icmp .gt 30, 3) := by decide +kernel
theorem dX0_leastBlock_14 : decode cX0_leastBlock 14 = .ok (.aload_n 0, 1) := by decide +kernel
theorem dX0_leastBlock_15 : decode cX0_leastBlock 15 = .ok (.iload_n 1, 1) := by decide +kernel
theorem dX0_leastBlock_16 : decode cX0_leastBlock 16 = .ok (.iload 4, 2) := by decide +kernel
theorem dX0_leastBlock_18 : decode cX0_leastBlock 18 = .ok (.invokevirtual 132, 3) := by decide +kernel
theorem dX0_leastBlock_21 : decode cX0_leastBlock 21 = .ok (.istore 5, 2) := by decide +kernel
theorem dX0_leastBlock_23 : decode cX0_leastBlock 23 = .ok (.iload 5, 2) := by decide +kernel
theorem dX0_leastBlock_25 : decode cX0_leastBlock 25 = .ok (.iload_n 3, 1) := by decide +kernel
theorem dX0_leastBlock_26 : decode cX0_leastBlock 26 = .ok (.if_icmp .le 9, 3) := by decide +kernel
theorem dX0_leastBlock_29 : decode cX0_leastBlock 29 = .ok (.iload 4, 2) := by decide +kernel
theorem dX0_leastBlock_31 : decode cX0_leastBlock 31 = .ok (.istore_n 2, 1) := by decide +kernel
theorem dX0_leastBlock_32 : decode cX0_leastBlock 32 = .ok (.iload 5, 2) := by decide +kernel
theorem dX0_leastBlock_34 : decode cX0_leastBlock 34 = .ok (.istore_n 3, 1) := by decide +kernel
theorem dX0_leastBlock_35 : decode cX0_leastBlock 35 = .ok (.iinc 4 1, 3) := by decide +kernel
theorem dX0_leastBlock_38 : decode cX0_leastBlock 38 = .ok (.goto (-31), 3) := by decide +kernel
theorem dX0_leastBlock_41 : decode cX0_leastBlock 41 = .ok (.iload_n 2, 1) := by decide +kernel
theorem dX0_leastBlock_42 : decode cX0_leastBlock 42 = .ok (.ireturn, 1) := by decide +kernel
theorem dX0_thingsThatLeave_0 : decode cX0_thingsThatLeave 0 = .ok (.iconst 0, 1) := by decide +kernel
theorem dX0_thingsThatLeave_1 : decode cX0_thingsThatLeave 1 = .ok (.istore_n 2, 1) := by decide +kernel
theorem dX0_thingsThatLeave_2 : decode cX0_thingsThatLeave 2 = .ok (.iconst 0, 1) := by decide +kernel
theorem dX0_thingsThatLeave_3 : decode cX0_thingsThatLeave 3 = .ok (.istore_n 3, 1) := by decide +kernel
theorem dX0_thingsThatLeave_4 : decode cX0_thingsThatLeave 4 = .ok (.iload_n 3, 1) := by decide +kernel
theorem dX0_thingsThatLeave_5 : decode cX0_thingsThatLeave 5 = .ok (.aload_n 0, 1) := by decide +kernel
theorem dX0_thingsThatLeave_6 : decode cX0_thingsThatLeave 6 = .ok (.getfield 52, 3) := by decide +kernel
theorem dX0_thingsThatLeave_9 : decode cX0_thingsThatLeave 9 = .ok (.if_icmp .ge 38, 3) := by decide +kernel
theorem dX0_thingsThatLeave_12 : decode cX0_thingsThatLeave 12 = .ok (.aload_n 0, 1) := by decide +kernel
theorem dX0_thingsThatLeave_13 : decode cX0_thingsThatLeave 13 = .ok (.iload_n 3, 1) := by decide +kernel
theorem dX0_thingsThatLeave_14 : decode cX0_thingsThatLeave 14 = .ok (.invokevirtual 101, 3) := by decide +kernel
theorem dX0_thingsThatLeave_17 : decode cX0_thingsThatLeave 17 = .ok (.ifCond .eq 24, 3) := by decide +kernel
theorem dX0_thingsThatLeave_20 : decode cX0_thingsThatLeave 20 = .ok (.aload_n 0, 1) := by decide +kernel
theorem dX0_thingsThatLeave_21 : decode cX0_thingsThatLeave 21 = .ok (.iconst 1, 1) := by decide +kernel
theorem dX0_thingsThatLeave_22 : decode cX0_thingsThatLeave 22 = .ok (.iload_n 3, 1) := by decide +kernel
theorem dX0_thingsThatLeave_23 : decode cX0_thingsThatLeave 23 = .ok (.ishl, 1) := by decide +kernel
theorem dX0_thingsThatLeave_24 : decode cX0_thingsThatLeave 24 = .ok (.aload_n 0, 1) := by decide +kernel
theorem dX0_thingsThatLeave_25 : decode cX0_thingsThatLeave 25 = .ok (.getfield 71, 3) := by decide +kernel
theorem dX0_thingsThatLeave_28 : decode cX0_thingsThatLeave 28 = .ok (.invokevirtual 126, 3) := by decide +kernel
theorem dX0_thingsThatLeave_31 : decode cX0_thingsThatLeave 31 = .ok (.iload_n 1, 1) := by decide +kernel
theorem dX0_thingsThatLeave_32 : decode cX0_thingsThatLeave 32 = .ok (.if_icmp .ne 9, 3) := by decide +kernel
theorem dX0_thingsThatLeave_35 : decode cX0_thingsThatLeave 35 = .ok (.iload_n 2, 1) := by decide +kernel
theorem dX0_thingsThatLeave_36 : decode cX0_thingsThatLeave 36 = .ok (.iconst 1, 1) := by decide +kernel
theorem dX0_thingsThatLeave_37 : decode cX0_thingsThatLeave 37 = .ok (.iload_n 3, 1) := by decide +kernel
theorem dX0_thingsThatLeave_38 : decode cX0_thingsThatLeave 38 = .ok (.ishl, 1) := by decide +kernel
theorem dX0_thingsThatLeave_39 : decode cX0_thingsThatLeave 39 = .ok (.ior, 1) := by decide +kernel
theorem dX0_thingsThatLeave_40 : decode cX0_thingsThatLeave 40 = .ok (.istore_n 2, 1) := by decide +kernel
theorem dX0_thingsThatLeave_41 : decode cX0_thingsThatLeave 41 = .ok (.iinc 3 1, 3) := by decide +kernel
theorem dX0_thingsThatLeave_44 : decode cX0_thingsThatLeave 44 = .ok (.goto (-40), 3) := by decide +kernel
theorem dX0_thingsThatLeave_47 : decode cX0_thingsThatLeave 47 = .ok (.iload_n 2, 1) := by decide +kernel
theorem dX0_thingsThatLeave_48 : decode cX0_thingsThatLeave 48 = .ok (.ireturn, 1) := by decide +kernel
theorem dX0_firstYearOfComplaint_0 : decode cX0_firstYearOfComplaint 0 = .ok (.aload_n 0, 1) := by decide +kernel
theorem dX0_firstYearOfComplaint_1 : decode cX0_firstYearOfComplaint 1 = .ok (.getfield 71, 3) := by decide +kernel
theorem dX0_firstYearOfComplaint_4 : decode cX0_firstYearOfComplaint 4 = .ok (.istore_n 1, 1) := by decide +kernel
theorem dX0_firstYearOfComplaint_5 : decode cX0_firstYearOfComplaint 5 = .ok (.iload_n 1, 1) := by decide +kernel
theorem dX0_firstYearOfComplaint_6 : decode cX0_firstYearOfComplaint 6 = .ok (.bipush 30, 2) := by decide +kernel
theorem dX0_firstYearOfComplaint_8 : decode cX0_firstYearOfComplaint 8 = .ok (.if_icmp .gt 20, 3) := by decide +kernel
theorem dX0_firstYearOfComplaint_11 : decode cX0_firstYearOfComplaint 11 = .ok (.aload_n 0, 1) := by decide +kernel
theorem dX0_firstYearOfComplaint_12 : decode cX0_firstYearOfComplaint 12 = .ok (.iconst 0, 1) := by decide +kernel
theorem dX0_firstYearOfComplaint_13 : decode cX0_firstYearOfComplaint 13 = .ok (.iload_n 1, 1) := by decide +kernel
theorem dX0_firstYearOfComplaint_14 : decode cX0_firstYearOfComplaint 14 = .ok (.invokevirtual 126, 3) := by decide +kernel
theorem dX0_firstYearOfComplaint_17 : decode cX0_firstYearOfComplaint 17 = .ok (.ifCond .eq 5, 3) := by decide +kernel
theorem dX0_firstYearOfComplaint_20 : decode cX0_firstYearOfComplaint 20 = .ok (.iload_n 1, 1) := by decide +kernel
theorem dX0_firstYearOfComplaint_21 : decode cX0_firstYearOfComplaint 21 = .ok (.ireturn, 1) := by decide +kernel
theorem dX0_firstYearOfComplaint_22 : decode cX0_firstYearOfComplaint 22 = .ok (.iinc 1 1, 3) := by decide +kernel
theorem dX0_firstYearOfComplaint_25 : decode cX0_firstYearOfComplaint 25 = .ok (.goto (-20), 3) := by decide +kernel
theorem dX0_firstYearOfComplaint_28 : decode cX0_firstYearOfComplaint 28 = .ok (.bipush (-9), 2) := by decide +kernel
theorem dX0_firstYearOfComplaint_30 : decode cX0_firstYearOfComplaint 30 = .ok (.ireturn, 1) := by decide +kernel
theorem dX0_unseenCells_0 : decode cX0_unseenCells 0 = .ok (.aload_n 0, 1) := by decide +kernel
theorem dX0_unseenCells_1 : decode cX0_unseenCells 1 = .ok (.invokevirtual 135, 3) := by decide +kernel
theorem dX0_unseenCells_4 : decode cX0_unseenCells 4 = .ok (.istore_n 1, 1) := by decide +kernel
theorem dX0_unseenCells_5 : decode cX0_unseenCells 5 = .ok (.lconst 0, 1) := by decide +kernel
theorem dX0_unseenCells_6 : decode cX0_unseenCells 6 = .ok (.lstore_n 2, 1) := by decide +kernel
theorem dX0_unseenCells_7 : decode cX0_unseenCells 7 = .ok (.iconst 0, 1) := by decide +kernel
theorem dX0_unseenCells_8 : decode cX0_unseenCells 8 = .ok (.istore 4, 2) := by decide +kernel
theorem dX0_unseenCells_10 : decode cX0_unseenCells 10 = .ok (.iload 4, 2) := by decide +kernel
theorem dX0_unseenCells_12 : decode cX0_unseenCells 12 = .ok (.aload_n 0, 1) := by decide +kernel
theorem dX0_unseenCells_13 : decode cX0_unseenCells 13 = .ok (.getfield 46, 3) := by decide +kernel
theorem dX0_unseenCells_16 : decode cX0_unseenCells 16 = .ok (.if_icmp .ge 44, 3) := by decide +kernel
theorem dX0_unseenCells_19 : decode cX0_unseenCells 19 = .ok (.aload_n 0, 1) := by decide +kernel
theorem dX0_unseenCells_20 : decode cX0_unseenCells 20 = .ok (.iload 4, 2) := by decide +kernel
theorem dX0_unseenCells_22 : decode cX0_unseenCells 22 = .ok (.invokevirtual 129, 3) := by decide +kernel
theorem dX0_unseenCells_25 : decode cX0_unseenCells 25 = .ok (.ifCond .eq 29, 3) := by decide +kernel
theorem dX0_unseenCells_28 : decode cX0_unseenCells 28 = .ok (.iload 4, 2) := by decide +kernel
theorem dX0_unseenCells_30 : decode cX0_unseenCells 30 = .ok (.aload_n 0, 1) := by decide +kernel
theorem dX0_unseenCells_31 : decode cX0_unseenCells 31 = .ok (.getfield 36, 3) := by decide +kernel
theorem dX0_unseenCells_34 : decode cX0_unseenCells 34 = .ok (.if_icmp .eq 20, 3) := by decide +kernel
theorem dX0_unseenCells_37 : decode cX0_unseenCells 37 = .ok (.aload_n 0, 1) := by decide +kernel
theorem dX0_unseenCells_38 : decode cX0_unseenCells 38 = .ok (.iload_n 1, 1) := by decide +kernel
theorem dX0_unseenCells_39 : decode cX0_unseenCells 39 = .ok (.iload 4, 2) := by decide +kernel
theorem dX0_unseenCells_41 : decode cX0_unseenCells 41 = .ok (.invokevirtual 139, 3) := by decide +kernel
theorem dX0_unseenCells_44 : decode cX0_unseenCells 44 = .ok (.ifCond .ne 10, 3) := by decide +kernel
theorem dX0_unseenCells_47 : decode cX0_unseenCells 47 = .ok (.lload_n 2, 1) := by decide +kernel
theorem dX0_unseenCells_48 : decode cX0_unseenCells 48 = .ok (.lconst 1, 1) := by decide +kernel
theorem dX0_unseenCells_49 : decode cX0_unseenCells 49 = .ok (.iload 4, 2) := by decide +kernel
theorem dX0_unseenCells_51 : decode cX0_unseenCells 51 = .ok (.lshl, 1) := by decide +kernel
theorem dX0_unseenCells_52 : decode cX0_unseenCells 52 = .ok (.lor, 1) := by decide +kernel
theorem dX0_unseenCells_53 : decode cX0_unseenCells 53 = .ok (.lstore_n 2, 1) := by decide +kernel
theorem dX0_unseenCells_54 : decode cX0_unseenCells 54 = .ok (.iinc 4 1, 3) := by decide +kernel
theorem dX0_unseenCells_57 : decode cX0_unseenCells 57 = .ok (.goto (-47), 3) := by decide +kernel
theorem dX0_unseenCells_60 : decode cX0_unseenCells 60 = .ok (.lload_n 2, 1) := by decide +kernel
theorem dX0_unseenCells_61 : decode cX0_unseenCells 61 = .ok (.lreturn, 1) := by decide +kernel
theorem dX0_isSeenFromAny_0 : decode cX0_isSeenFromAny 0 = .ok (.iconst 0, 1) := by decide +kernel
theorem dX0_isSeenFromAny_1 : decode cX0_isSeenFromAny 1 = .ok (.istore_n 3, 1) := by decide +kernel
theorem dX0_isSeenFromAny_2 : decode cX0_isSeenFromAny 2 = .ok (.iload_n 3, 1) := by decide +kernel
theorem dX0_isSeenFromAny_3 : decode cX0_isSeenFromAny 3 = .ok (.aload_n 0, 1) := by decide +kernel
theorem dX0_isSeenFromAny_4 : decode cX0_isSeenFromAny 4 = .ok (.getfield 49, 3) := by decide +kernel
theorem dX0_isSeenFromAny_7 : decode cX0_isSeenFromAny 7 = .ok (.if_icmp .ge 28, 3) := by decide +kernel
theorem dX0_isSeenFromAny_10 : decode cX0_isSeenFromAny 10 = .ok (.iload_n 1, 1) := by decide +kernel
theorem dX0_isSeenFromAny_11 : decode cX0_isSeenFromAny 11 = .ok (.iload_n 3, 1) := by decide +kernel
theorem dX0_isSeenFromAny_12 : decode cX0_isSeenFromAny 12 = .ok (.ishr, 1) := by decide +kernel
theorem dX0_isSeenFromAny_13 : decode cX0_isSeenFromAny 13 = .ok (.iconst 1, 1) := by decide +kernel
theorem dX0_isSeenFromAny_14 : decode cX0_isSeenFromAny 14 = .ok (.iand, 1) := by decide +kernel
theorem dX0_isSeenFromAny_15 : decode cX0_isSeenFromAny 15 = .ok (.ifCond .eq 14, 3) := by decide +kernel
theorem dX0_isSeenFromAny_18 : decode cX0_isSeenFromAny 18 = .ok (.aload_n 0, 1) := by decide +kernel
theorem dX0_isSeenFromAny_19 : decode cX0_isSeenFromAny 19 = .ok (.iload_n 3, 1) := by decide +kernel
theorem dX0_isSeenFromAny_20 : decode cX0_isSeenFromAny 20 = .ok (.iload_n 2, 1) := by decide +kernel
theorem dX0_isSeenFromAny_21 : decode cX0_isSeenFromAny 21 = .ok (.invokevirtual 115, 3) := by decide +kernel
theorem dX0_isSeenFromAny_24 : decode cX0_isSeenFromAny 24 = .ok (.ifCond .eq 5, 3) := by decide +kernel
theorem dX0_isSeenFromAny_27 : decode cX0_isSeenFromAny 27 = .ok (.iconst 1, 1) := by decide +kernel
theorem dX0_isSeenFromAny_28 : decode cX0_isSeenFromAny 28 = .ok (.ireturn, 1) := by decide +kernel
theorem dX0_isSeenFromAny_29 : decode cX0_isSeenFromAny 29 = .ok (.iinc 3 1, 3) := by decide +kernel
theorem dX0_isSeenFromAny_32 : decode cX0_isSeenFromAny 32 = .ok (.goto (-30), 3) := by decide +kernel
theorem dX0_isSeenFromAny_35 : decode cX0_isSeenFromAny 35 = .ok (.iconst 0, 1) := by decide +kernel
theorem dX0_isSeenFromAny_36 : decode cX0_isSeenFromAny 36 = .ok (.ireturn, 1) := by decide +kernel
theorem dX0_partsLitBy_0 : decode cX0_partsLitBy 0 = .ok (.aload_n 0, 1) := by decide +kernel
theorem dX0_partsLitBy_1 : decode cX0_partsLitBy 1 = .ok (.getfield 15, 3) := by decide +kernel
theorem dX0_partsLitBy_4 : decode cX0_partsLitBy 4 = .ok (.aload_n 0, 1) := by decide +kernel
theorem dX0_partsLitBy_5 : decode cX0_partsLitBy 5 = .ok (.getfield 27, 3) := by decide +kernel
theorem dX0_partsLitBy_8 : decode cX0_partsLitBy 8 = .ok (.iload_n 1, 1) := by decide +kernel
theorem dX0_partsLitBy_9 : decode cX0_partsLitBy 9 = .ok (.iaload, 1) := by decide +kernel
theorem dX0_partsLitBy_10 : decode cX0_partsLitBy 10 = .ok (.iaload, 1) := by decide +kernel
theorem dX0_partsLitBy_11 : decode cX0_partsLitBy 11 = .ok (.aload_n 0, 1) := by decide +kernel
theorem dX0_partsLitBy_12 : decode cX0_partsLitBy 12 = .ok (.getfield 15, 3) := by decide +kernel
theorem dX0_partsLitBy_15 : decode cX0_partsLitBy 15 = .ok (.aload_n 0, 1) := by decide +kernel
theorem dX0_partsLitBy_16 : decode cX0_partsLitBy 16 = .ok (.getfield 36, 3) := by decide +kernel
theorem dX0_partsLitBy_19 : decode cX0_partsLitBy 19 = .ok (.iaload, 1) := by decide +kernel
theorem dX0_partsLitBy_20 : decode cX0_partsLitBy 20 = .ok (.isub, 1) := by decide +kernel
theorem dX0_partsLitBy_21 : decode cX0_partsLitBy 21 = .ok (.invokestatic 88, 3) := by decide +kernel
theorem dX0_partsLitBy_24 : decode cX0_partsLitBy 24 = .ok (.istore_n 2, 1) := by decide +kernel
theorem dX0_partsLitBy_25 : decode cX0_partsLitBy 25 = .ok (.aload_n 0, 1) := by decide +kernel
theorem dX0_partsLitBy_26 : decode cX0_partsLitBy 26 = .ok (.getfield 18, 3) := by decide +kernel
theorem dX0_partsLitBy_29 : decode cX0_partsLitBy 29 = .ok (.aload_n 0, 1) := by decide +kernel
theorem dX0_partsLitBy_30 : decode cX0_partsLitBy 30 = .ok (.getfield 27, 3) := by decide +kernel
theorem dX0_partsLitBy_33 : decode cX0_partsLitBy 33 = .ok (.iload_n 1, 1) := by decide +kernel
theorem dX0_partsLitBy_34 : decode cX0_partsLitBy 34 = .ok (.iaload, 1) := by decide +kernel
theorem dX0_partsLitBy_35 : decode cX0_partsLitBy 35 = .ok (.iaload, 1) := by decide +kernel
theorem dX0_partsLitBy_36 : decode cX0_partsLitBy 36 = .ok (.aload_n 0, 1) := by decide +kernel
theorem dX0_partsLitBy_37 : decode cX0_partsLitBy 37 = .ok (.getfield 18, 3) := by decide +kernel
theorem dX0_partsLitBy_40 : decode cX0_partsLitBy 40 = .ok (.aload_n 0, 1) := by decide +kernel
theorem dX0_partsLitBy_41 : decode cX0_partsLitBy 41 = .ok (.getfield 36, 3) := by decide +kernel
theorem dX0_partsLitBy_44 : decode cX0_partsLitBy 44 = .ok (.iaload, 1) := by decide +kernel
theorem dX0_partsLitBy_45 : decode cX0_partsLitBy 45 = .ok (.isub, 1) := by decide +kernel
theorem dX0_partsLitBy_46 : decode cX0_partsLitBy 46 = .ok (.invokestatic 88, 3) := by decide +kernel
theorem dX0_partsLitBy_49 : decode cX0_partsLitBy 49 = .ok (.istore_n 3, 1) := by decide +kernel
theorem dX0_partsLitBy_50 : decode cX0_partsLitBy 50 = .ok (.iload_n 2, 1) := by decide +kernel
theorem dX0_partsLitBy_51 : decode cX0_partsLitBy 51 = .ok (.iconst 3, 1) := by decide +kernel
theorem dX0_partsLitBy_52 : decode cX0_partsLitBy 52 = .ok (.if_icmp .gt 12, 3) := by decide +kernel
theorem dX0_partsLitBy_55 : decode cX0_partsLitBy 55 = .ok (.iload_n 3, 1) := by decide +kernel
theorem dX0_partsLitBy_56 : decode cX0_partsLitBy 56 = .ok (.iconst 3, 1) := by decide +kernel
theorem dX0_partsLitBy_57 : decode cX0_partsLitBy 57 = .ok (.if_icmp .gt 7, 3) := by decide +kernel
theorem dX0_partsLitBy_60 : decode cX0_partsLitBy 60 = .ok (.iconst 1, 1) := by decide +kernel
theorem dX0_partsLitBy_61 : decode cX0_partsLitBy 61 = .ok (.goto 4, 3) := by decide +kernel
theorem dX0_partsLitBy_64 : decode cX0_partsLitBy 64 = .ok (.iconst 0, 1) := by decide +kernel
theorem dX0_partsLitBy_65 : decode cX0_partsLitBy 65 = .ok (.istore 4, 2) := by decide +kernel
theorem dX0_partsLitBy_67 : decode cX0_partsLitBy 67 = .ok (.aload_n 0, 1) := by decide +kernel
theorem dX0_partsLitBy_68 : decode cX0_partsLitBy 68 = .ok (.getfield 24, 3) := by decide +kernel
theorem dX0_partsLitBy_71 : decode cX0_partsLitBy 71 = .ok (.iload_n 1, 1) := by decide +kernel
theorem dX0_partsLitBy_72 : decode cX0_partsLitBy 72 = .ok (.iaload, 1) := by decide +kernel
theorem dX0_partsLitBy_73 : decode cX0_partsLitBy 73 = .ok (.ifCond .ne 16, 3) := by decide +kernel
theorem dX0_partsLitBy_76 : decode cX0_partsLitBy 76 = .ok (.aload_n 0, 1) := by decide +kernel
theorem dX0_partsLitBy_77 : decode cX0_partsLitBy 77 = .ok (.iload_n 1, 1) := by decide +kernel
theorem dX0_partsLitBy_78 : decode cX0_partsLitBy 78 = .ok (.invokevirtual 101, 3) := by decide +kernel
theorem dX0_partsLitBy_81 : decode cX0_partsLitBy 81 = .ok (.ifCond .eq 8, 3) := by decide +kernel
theorem dX0_partsLitBy_84 : decode cX0_partsLitBy 84 = .ok (.iload 4, 2) := by decide +kernel
theorem dX0_partsLitBy_86 : decode cX0_partsLitBy 86 = .ok (.ifCond .ne 5, 3) := by decide +kernel
theorem dX0_partsLitBy_89 : decode cX0_partsLitBy 89 = .ok (.iconst 0, 1) := by decide +kernel
theorem dX0_partsLitBy_90 : decode cX0_partsLitBy 90 = .ok (.ireturn, 1) := by decide +kernel
theorem dX0_partsLitBy_91 : decode cX0_partsLitBy 91 = .ok (.iconst 0, 1) := by decide +kernel
theorem dX0_partsLitBy_92 : decode cX0_partsLitBy 92 = .ok (.istore 5, 2) := by decide +kernel
theorem dX0_partsLitBy_94 : decode cX0_partsLitBy 94 = .ok (.iconst 0, 1) := by decide +kernel
theorem dX0_partsLitBy_95 : decode cX0_partsLitBy 95 = .ok (.istore 6, 2) := by decide +kernel
theorem dX0_partsLitBy_97 : decode cX0_partsLitBy 97 = .ok (.iload 6, 2) := by decide +kernel
theorem dX0_partsLitBy_99 : decode cX0_partsLitBy 99 = .ok (.iconst 4, 1) := by decide +kernel
theorem dX0_partsLitBy_100 : decode cX0_partsLitBy 100 = .ok (.if_icmp .ge 41, 3) := by decide +kernel
theorem dX0_partsLitBy_103 : decode cX0_partsLitBy 103 = .ok (.aload_n 0, 1) := by decide +kernel
theorem dX0_partsLitBy_104 : decode cX0_partsLitBy 104 = .ok (.getfield 78, 3) := by decide +kernel
theorem dX0_partsLitBy_107 : decode cX0_partsLitBy 107 = .ok (.getstatic 108, 3) := by decide +kernel
theorem dX0_partsLitBy_110 : decode cX0_partsLitBy 110 = .ok (.iload 6, 2) := by decide +kernel
theorem dX0_partsLitBy_112 : decode cX0_partsLitBy 112 = .ok (.iaload, 1) := by decide +kernel
theorem dX0_partsLitBy_113 : decode cX0_partsLitBy 113 = .ok (.iadd, 1) := by decide +kernel
theorem dX0_partsLitBy_114 : decode cX0_partsLitBy 114 = .ok (.aload_n 0, 1) := by decide +kernel
theorem dX0_partsLitBy_115 : decode cX0_partsLitBy 115 = .ok (.iload_n 1, 1) := by decide +kernel
theorem dX0_partsLitBy_116 : decode cX0_partsLitBy 116 = .ok (.aload_n 0, 1) := by decide +kernel
theorem dX0_partsLitBy_117 : decode cX0_partsLitBy 117 = .ok (.getfield 71, 3) := by decide +kernel
theorem dX0_partsLitBy_120 : decode cX0_partsLitBy 120 = .ok (.invokevirtual 105, 3) := by decide +kernel
theorem dX0_partsLitBy_123 : decode cX0_partsLitBy 123 = .ok (.if_icmp .gt 12, 3) := by decide +kernel
theorem dX0_partsLitBy_126 : decode cX0_partsLitBy 126 = .ok (.iload 5, 2) := by decide +kernel
theorem dX0_partsLitBy_128 : decode cX0_partsLitBy 128 = .ok (.iconst 1, 1) := by decide +kernel
theorem dX0_partsLitBy_129 : decode cX0_partsLitBy 129 = .ok (.iload 6, 2) := by decide +kernel
theorem dX0_partsLitBy_131 : decode cX0_partsLitBy 131 = .ok (.ishl, 1) := by decide +kernel
theorem dX0_partsLitBy_132 : decode cX0_partsLitBy 132 = .ok (.ior, 1) := by decide +kernel
theorem dX0_partsLitBy_133 : decode cX0_partsLitBy 133 = .ok (.istore 5, 2) := by decide +kernel
theorem dX0_partsLitBy_135 : decode cX0_partsLitBy 135 = .ok (.iinc 6 1, 3) := by decide +kernel
theorem dX0_partsLitBy_138 : decode cX0_partsLitBy 138 = .ok (.goto (-41), 3) := by decide +kernel
theorem dX0_partsLitBy_141 : decode cX0_partsLitBy 141 = .ok (.iload 5, 2) := by decide +kernel
theorem dX0_partsLitBy_143 : decode cX0_partsLitBy 143 = .ok (.ireturn, 1) := by decide +kernel
theorem dX0_partsLitByAny_0 : decode cX0_partsLitByAny 0 = .ok (.iconst 0, 1) := by decide +kernel
theorem dX0_partsLitByAny_1 : decode cX0_partsLitByAny 1 = .ok (.istore_n 1, 1) := by decide +kernel
theorem dX0_partsLitByAny_2 : decode cX0_partsLitByAny 2 = .ok (.iconst 0, 1) := by decide +kernel
theorem dX0_partsLitByAny_3 : decode cX0_partsLitByAny 3 = .ok (.istore_n 2, 1) := by decide +kernel
theorem dX0_partsLitByAny_4 : decode cX0_partsLitByAny 4 = .ok (.iload_n 2, 1) := by decide +kernel
theorem dX0_partsLitByAny_5 : decode cX0_partsLitByAny 5 = .ok (.aload_n 0, 1) := by decide +kernel
theorem dX0_partsLitByAny_6 : decode cX0_partsLitByAny 6 = .ok (.getfield 52, 3) := by decide +kernel
theorem dX0_partsLitByAny_9 : decode cX0_partsLitByAny 9 = .ok (.if_icmp .ge 17, 3) := by decide +kernel
theorem dX0_partsLitByAny_12 : decode cX0_partsLitByAny 12 = .ok (.iload_n 1, 1) := by decide +kernel
theorem dX0_partsLitByAny_13 : decode cX0_partsLitByAny 13 = .ok (.aload_n 0, 1) := by decide +kernel
theorem dX0_partsLitByAny_14 : decode cX0_partsLitByAny 14 = .ok (.iload_n 2, 1) := by decide +kernel
theorem dX0_partsLitByAny_15 : decode cX0_partsLitByAny 15 = .ok (.invokevirtual 143, 3) := by decide +kernel
theorem dX0_partsLitByAny_18 : decode cX0_partsLitByAny 18 = .ok (.ior, 1) := by decide +kernel
theorem dX0_partsLitByAny_19 : decode cX0_partsLitByAny 19 = .ok (.istore_n 1, 1) := by decide +kernel
theorem dX0_partsLitByAny_20 : decode cX0_partsLitByAny 20 = .ok (.iinc 2 1, 3) := by decide +kernel
theorem dX0_partsLitByAny_23 : decode cX0_partsLitByAny 23 = .ok (.goto (-19), 3) := by decide +kernel
theorem dX0_partsLitByAny_26 : decode cX0_partsLitByAny 26 = .ok (.iload_n 1, 1) := by decide +kernel
theorem dX0_partsLitByAny_27 : decode cX0_partsLitByAny 27 = .ok (.ireturn, 1) := by decide +kernel
theorem dX0_fewestLamps_0 : decode cX0_fewestLamps 0 = .ok (.aload_n 0, 1) := by decide +kernel
theorem dX0_fewestLamps_1 : decode cX0_fewestLamps 1 = .ok (.invokevirtual 146, 3) := by decide +kernel
theorem dX0_fewestLamps_4 : decode cX0_fewestLamps 4 = .ok (.istore_n 1, 1) := by decide +kernel
theorem dX0_fewestLamps_5 : decode cX0_fewestLamps 5 = .ok (.iload_n 1, 1) := by decide +kernel
theorem dX0_fewestLamps_6 : decode cX0_fewestLamps 6 = .ok (.ifCond .ne 5, 3) := by decide +kernel
theorem dX0_fewestLamps_9 : decode cX0_fewestLamps 9 = .ok (.iconst 0, 1) := by decide +kernel
theorem dX0_fewestLamps_10 : decode cX0_fewestLamps 10 = .ok (.ireturn, 1) := by decide +kernel
theorem dX0_fewestLamps_11 : decode cX0_fewestLamps 11 = .ok (.iconst 0, 1) := by decide +kernel
theorem dX0_fewestLamps_12 : decode cX0_fewestLamps 12 = .ok (.istore_n 2, 1) := by decide +kernel
theorem dX0_fewestLamps_13 : decode cX0_fewestLamps 13 = .ok (.iload_n 2, 1) := by decide +kernel
theorem dX0_fewestLamps_14 : decode cX0_fewestLamps 14 = .ok (.aload_n 0, 1) := by decide +kernel
theorem dX0_fewestLamps_15 : decode cX0_fewestLamps 15 = .ok (.getfield 52, 3) := by decide +kernel
theorem dX0_fewestLamps_18 : decode cX0_fewestLamps 18 = .ok (.if_icmp .ge 22, 3) := by decide +kernel
theorem dX0_fewestLamps_21 : decode cX0_fewestLamps 21 = .ok (.aload_n 0, 1) := by decide +kernel
theorem dX0_fewestLamps_22 : decode cX0_fewestLamps 22 = .ok (.iload_n 2, 1) := by decide +kernel
theorem dX0_fewestLamps_23 : decode cX0_fewestLamps 23 = .ok (.invokevirtual 143, 3) := by decide +kernel
theorem dX0_fewestLamps_26 : decode cX0_fewestLamps 26 = .ok (.iload_n 1, 1) := by decide +kernel
theorem dX0_fewestLamps_27 : decode cX0_fewestLamps 27 = .ok (.if_icmp .ne 7, 3) := by decide +kernel
theorem dX0_fewestLamps_30 : decode cX0_fewestLamps 30 = .ok (.iconst 1, 1) := by decide +kernel
theorem dX0_fewestLamps_31 : decode cX0_fewestLamps 31 = .ok (.iload_n 2, 1) := by decide +kernel
theorem dX0_fewestLamps_32 : decode cX0_fewestLamps 32 = .ok (.ishl, 1) := by decide +kernel
theorem dX0_fewestLamps_33 : decode cX0_fewestLamps 33 = .ok (.ireturn, 1) := by decide +kernel
theorem dX0_fewestLamps_34 : decode cX0_fewestLamps 34 = .ok (.iinc 2 1, 3) := by decide +kernel
theorem dX0_fewestLamps_37 : decode cX0_fewestLamps 37 = .ok (.goto (-24), 3) := by decide +kernel
theorem dX0_fewestLamps_40 : decode cX0_fewestLamps 40 = .ok (.iconst 0, 1) := by decide +kernel
theorem dX0_fewestLamps_41 : decode cX0_fewestLamps 41 = .ok (.ireturn, 1) := by decide +kernel
theorem dX1_init_0 : decode cX1_init 0 = .ok (.aload_n 0, 1) := by decide +kernel
theorem dX1_init_1 : decode cX1_init 1 = .ok (.invokespecial 3, 3) := by decide +kernel
theorem dX1_init_4 : decode cX1_init 4 = .ok (.aload_n 0, 1) := by decide +kernel
theorem dX1_init_5 : decode cX1_init 5 = .ok (.bipush 100, 2) := by decide +kernel
theorem dX1_init_7 : decode cX1_init 7 = .ok (.newarray .int, 2) := by decide +kernel
theorem dX1_init_9 : decode cX1_init 9 = .ok (.putfield 9, 3) := by decide +kernel
theorem dX1_init_12 : decode cX1_init 12 = .ok (.aload_n 0, 1) := by decide +kernel
theorem dX1_init_13 : decode cX1_init 13 = .ok (.iconst 0, 1) := by decide +kernel
theorem dX1_init_14 : decode cX1_init 14 = .ok (.putfield 15, 3) := by decide +kernel
theorem dX1_init_17 : decode cX1_init 17 = .ok (.aload_n 0, 1) := by decide +kernel
theorem dX1_init_18 : decode cX1_init 18 = .ok (.iconst 0, 1) := by decide +kernel
theorem dX1_init_19 : decode cX1_init 19 = .ok (.putfield 19, 3) := by decide +kernel
theorem dX1_init_22 : decode cX1_init 22 = .ok (.aload_n 0, 1) := by decide +kernel
theorem dX1_init_23 : decode cX1_init 23 = .ok (.iconst 0, 1) := by decide +kernel
theorem dX1_init_24 : decode cX1_init 24 = .ok (.putfield 23, 3) := by decide +kernel
theorem dX1_init_27 : decode cX1_init 27 = .ok (.return_, 1) := by decide +kernel
theorem dX1_renew_0 : decode cX1_renew 0 = .ok (.aload_n 0, 1) := by decide +kernel
theorem dX1_renew_1 : decode cX1_renew 1 = .ok (.iconst 1, 1) := by decide +kernel
theorem dX1_renew_2 : decode cX1_renew 2 = .ok (.putfield 15, 3) := by decide +kernel
theorem dX1_renew_5 : decode cX1_renew 5 = .ok (.aload_n 0, 1) := by decide +kernel
theorem dX1_renew_6 : decode cX1_renew 6 = .ok (.iload_n 1, 1) := by decide +kernel
theorem dX1_renew_7 : decode cX1_renew 7 = .ok (.putfield 19, 3) := by decide +kernel
theorem dX1_renew_10 : decode cX1_renew 10 = .ok (.aload_n 0, 1) := by decide +kernel
theorem dX1_renew_11 : decode cX1_renew 11 = .ok (.iload_n 2, 1) := by decide +kernel
theorem dX1_renew_12 : decode cX1_renew 12 = .ok (.putfield 23, 3) := by decide +kernel
theorem dX1_renew_15 : decode cX1_renew 15 = .ok (.iconst 0, 1) := by decide +kernel
theorem dX1_renew_16 : decode cX1_renew 16 = .ok (.istore_n 3, 1) := by decide +kernel
theorem dX1_renew_17 : decode cX1_renew 17 = .ok (.iload_n 3, 1) := by decide +kernel
theorem dX1_renew_18 : decode cX1_renew 18 = .ok (.iload_n 2, 1) := by decide +kernel
theorem dX1_renew_19 : decode cX1_renew 19 = .ok (.if_icmp .ge 16, 3) := by decide +kernel
theorem dX1_renew_22 : decode cX1_renew 22 = .ok (.aload_n 0, 1) := by decide +kernel
theorem dX1_renew_23 : decode cX1_renew 23 = .ok (.getfield 9, 3) := by decide +kernel
theorem dX1_renew_26 : decode cX1_renew 26 = .ok (.iload_n 3, 1) := by decide +kernel
theorem dX1_renew_27 : decode cX1_renew 27 = .ok (.iconst 0, 1) := by decide +kernel
theorem dX1_renew_28 : decode cX1_renew 28 = .ok (.iastore, 1) := by decide +kernel
theorem dX1_renew_29 : decode cX1_renew 29 = .ok (.iinc 3 1, 3) := by decide +kernel
theorem dX1_renew_32 : decode cX1_renew 32 = .ok (.goto (-15), 3) := by decide +kernel
theorem dX1_renew_35 : decode cX1_renew 35 = .ok (.return_, 1) := by decide +kernel
theorem dX1_write_0 : decode cX1_write 0 = .ok (.aload_n 0, 1) := by decide +kernel
theorem dX1_write_1 : decode cX1_write 1 = .ok (.getfield 19, 3) := by decide +kernel
theorem dX1_write_4 : decode cX1_write 4 = .ok (.lookupswitch 50 #[(0, 28), (1, 39)], 28) := by decide +kernel
theorem dX1_write_32 : decode cX1_write 32 = .ok (.aload_n 0, 1) := by decide +kernel
theorem dX1_write_33 : decode cX1_write 33 = .ok (.getfield 9, 3) := by decide +kernel
theorem dX1_write_36 : decode cX1_write 36 = .ok (.iload_n 1, 1) := by decide +kernel
theorem dX1_write_37 : decode cX1_write 37 = .ok (.iload_n 2, 1) := by decide +kernel
theorem dX1_write_38 : decode cX1_write 38 = .ok (.i2b, 1) := by decide +kernel
theorem dX1_write_39 : decode cX1_write 39 = .ok (.iastore, 1) := by decide +kernel
theorem dX1_write_40 : decode cX1_write 40 = .ok (.goto 21, 3) := by decide +kernel
theorem dX1_write_43 : decode cX1_write 43 = .ok (.aload_n 0, 1) := by decide +kernel
theorem dX1_write_44 : decode cX1_write 44 = .ok (.getfield 9, 3) := by decide +kernel
theorem dX1_write_47 : decode cX1_write 47 = .ok (.iload_n 1, 1) := by decide +kernel
theorem dX1_write_48 : decode cX1_write 48 = .ok (.iload_n 2, 1) := by decide +kernel
theorem dX1_write_49 : decode cX1_write 49 = .ok (.i2s, 1) := by decide +kernel
theorem dX1_write_50 : decode cX1_write 50 = .ok (.iastore, 1) := by decide +kernel
theorem dX1_write_51 : decode cX1_write 51 = .ok (.goto 10, 3) := by decide +kernel
theorem dX1_write_54 : decode cX1_write 54 = .ok (.aload_n 0, 1) := by decide +kernel
theorem dX1_write_55 : decode cX1_write 55 = .ok (.getfield 9, 3) := by decide +kernel
theorem dX1_write_58 : decode cX1_write 58 = .ok (.iload_n 1, 1) := by decide +kernel
theorem dX1_write_59 : decode cX1_write 59 = .ok (.iload_n 2, 1) := by decide +kernel
theorem dX1_write_60 : decode cX1_write 60 = .ok (.iastore, 1) := by decide +kernel
theorem dX1_write_61 : decode cX1_write 61 = .ok (.return_, 1) := by decide +kernel
theorem dX1_faultAsRow_0 : decode cX1_faultAsRow 0 = .ok (.aload_n 0, 1) := by decide +kernel
theorem dX1_faultAsRow_1 : decode cX1_faultAsRow 1 = .ok (.getfield 15, 3) := by decide +kernel
theorem dX1_faultAsRow_4 : decode cX1_faultAsRow 4 = .ok (.ifCond .ne 5, 3) := by decide +kernel
theorem dX1_faultAsRow_7 : decode cX1_faultAsRow 7 = .ok (.iconst 1, 1) := by decide +kernel
theorem dX1_faultAsRow_8 : decode cX1_faultAsRow 8 = .ok (.ireturn, 1) := by decide +kernel
theorem dX1_faultAsRow_9 : decode cX1_faultAsRow 9 = .ok (.aload_n 0, 1) := by decide +kernel
theorem dX1_faultAsRow_10 : decode cX1_faultAsRow 10 = .ok (.getfield 19, 3) := by decide +kernel
theorem dX1_faultAsRow_13 : decode cX1_faultAsRow 13 = .ok (.iload_n 1, 1) := by decide +kernel
theorem dX1_faultAsRow_14 : decode cX1_faultAsRow 14 = .ok (.if_icmp .ne 7, 3) := by decide +kernel
theorem dX1_faultAsRow_17 : decode cX1_faultAsRow 17 = .ok (.iconst 0, 1) := by decide +kernel
theorem dX1_faultAsRow_18 : decode cX1_faultAsRow 18 = .ok (.goto 4, 3) := by decide +kernel
theorem dX1_faultAsRow_21 : decode cX1_faultAsRow 21 = .ok (.iconst 2, 1) := by decide +kernel
theorem dX1_faultAsRow_22 : decode cX1_faultAsRow 22 = .ok (.ireturn, 1) := by decide +kernel
theorem dX1_hasSpan_0 : decode cX1_hasSpan 0 = .ok (.iload_n 1, 1) := by decide +kernel
theorem dX1_hasSpan_1 : decode cX1_hasSpan 1 = .ok (.ifCond .lt 29, 3) := by decide +kernel
theorem dX1_hasSpan_4 : decode cX1_hasSpan 4 = .ok (.iload_n 1, 1) := by decide +kernel
theorem dX1_hasSpan_5 : decode cX1_hasSpan 5 = .ok (.aload_n 0, 1) := by decide +kernel
theorem dX1_hasSpan_6 : decode cX1_hasSpan 6 = .ok (.getfield 23, 3) := by decide +kernel
theorem dX1_hasSpan_9 : decode cX1_hasSpan 9 = .ok (.if_icmp .gt 21, 3) := by decide +kernel
theorem dX1_hasSpan_12 : decode cX1_hasSpan 12 = .ok (.iload_n 2, 1) := by decide +kernel
theorem dX1_hasSpan_13 : decode cX1_hasSpan 13 = .ok (.ifCond .lt 17, 3) := by decide +kernel
theorem dX1_hasSpan_16 : decode cX1_hasSpan 16 = .ok (.iload_n 2, 1) := by decide +kernel
theorem dX1_hasSpan_17 : decode cX1_hasSpan 17 = .ok (.aload_n 0, 1) := by decide +kernel
theorem dX1_hasSpan_18 : decode cX1_hasSpan 18 = .ok (.getfield 23, 3) := by decide +kernel
theorem dX1_hasSpan_21 : decode cX1_hasSpan 21 = .ok (.iload_n 1, 1) := by decide +kernel
theorem dX1_hasSpan_22 : decode cX1_hasSpan 22 = .ok (.isub, 1) := by decide +kernel
theorem dX1_hasSpan_23 : decode cX1_hasSpan 23 = .ok (.if_icmp .gt 7, 3) := by decide +kernel
theorem dX1_hasSpan_26 : decode cX1_hasSpan 26 = .ok (.iconst 1, 1) := by decide +kernel
theorem dX1_hasSpan_27 : decode cX1_hasSpan 27 = .ok (.goto 4, 3) := by decide +kernel
theorem dX1_hasSpan_30 : decode cX1_hasSpan 30 = .ok (.iconst 0, 1) := by decide +kernel
theorem dX1_hasSpan_31 : decode cX1_hasSpan 31 = .ok (.ireturn, 1) := by decide +kernel
theorem dX2_init_0 : decode cX2_init 0 = .ok (.aload_n 0, 1) := by decide +kernel
theorem dX2_init_1 : decode cX2_init 1 = .ok (.invokespecial 3, 3) := by decide +kernel
theorem dX2_init_4 : decode cX2_init 4 = .ok (.aload_n 0, 1) := by decide +kernel
theorem dX2_init_5 : decode cX2_init 5 = .ok (.bipush 42, 2) := by decide +kernel
theorem dX2_init_7 : decode cX2_init 7 = .ok (.newarray .int, 2) := by decide +kernel
theorem dX2_init_9 : decode cX2_init 9 = .ok (.putfield 9, 3) := by decide +kernel
theorem dX2_init_12 : decode cX2_init 12 = .ok (.aload_n 0, 1) := by decide +kernel
theorem dX2_init_13 : decode cX2_init 13 = .ok (.bipush 42, 2) := by decide +kernel
theorem dX2_init_15 : decode cX2_init 15 = .ok (.newarray .int, 2) := by decide +kernel
theorem dX2_init_17 : decode cX2_init 17 = .ok (.putfield 15, 3) := by decide +kernel
theorem dX2_init_20 : decode cX2_init 20 = .ok (.aload_n 0, 1) := by decide +kernel
theorem dX2_init_21 : decode cX2_init 21 = .ok (.bipush 100, 2) := by decide +kernel
theorem dX2_init_23 : decode cX2_init 23 = .ok (.newarray .int, 2) := by decide +kernel
theorem dX2_init_25 : decode cX2_init 25 = .ok (.putfield 18, 3) := by decide +kernel
theorem dX2_init_28 : decode cX2_init 28 = .ok (.return_, 1) := by decide +kernel
theorem dX2_read_0 : decode cX2_read 0 = .ok (.aload_n 1, 1) := by decide +kernel
theorem dX2_read_1 : decode cX2_read 1 = .ok (.getfield 21, 3) := by decide +kernel
theorem dX2_read_4 : decode cX2_read 4 = .ok (.iload_n 2, 1) := by decide +kernel
theorem dX2_read_5 : decode cX2_read 5 = .ok (.aload_n 0, 1) := by decide +kernel
theorem dX2_read_6 : decode cX2_read 6 = .ok (.getfield 18, 3) := by decide +kernel
theorem dX2_read_9 : decode cX2_read 9 = .ok (.iconst 0, 1) := by decide +kernel
theorem dX2_read_10 : decode cX2_read 10 = .ok (.iload_n 3, 1) := by decide +kernel
theorem dX2_read_11 : decode cX2_read 11 = .ok (.invokestatic 26, 3) := by decide +kernel
theorem dX2_read_14 : decode cX2_read 14 = .ok (.aload_n 0, 1) := by decide +kernel
theorem dX2_read_15 : decode cX2_read 15 = .ok (.iload_n 3, 1) := by decide +kernel
theorem dX2_read_16 : decode cX2_read 16 = .ok (.putfield 32, 3) := by decide +kernel
theorem dX2_read_19 : decode cX2_read 19 = .ok (.aload_n 0, 1) := by decide +kernel
theorem dX2_read_20 : decode cX2_read 20 = .ok (.iconst 0, 1) := by decide +kernel
theorem dX2_read_21 : decode cX2_read 21 = .ok (.putfield 36, 3) := by decide +kernel
theorem dX2_read_24 : decode cX2_read 24 = .ok (.aload_n 0, 1) := by decide +kernel
theorem dX2_read_25 : decode cX2_read 25 = .ok (.iconst 0, 1) := by decide +kernel
theorem dX2_read_26 : decode cX2_read 26 = .ok (.putfield 39, 3) := by decide +kernel
theorem dX2_read_29 : decode cX2_read 29 = .ok (.aload_n 0, 1) := by decide +kernel
theorem dX2_read_30 : decode cX2_read 30 = .ok (.iconst 0, 1) := by decide +kernel
theorem dX2_read_31 : decode cX2_read 31 = .ok (.putfield 42, 3) := by decide +kernel
theorem dX2_read_34 : decode cX2_read 34 = .ok (.aload_n 0, 1) := by decide +kernel
theorem dX2_read_35 : decode cX2_read 35 = .ok (.bipush 113, 2) := by decide +kernel
theorem dX2_read_37 : decode cX2_read 37 = .ok (.invokevirtual 45, 3) := by decide +kernel
theorem dX2_read_40 : decode cX2_read 40 = .ok (.ifCond .ne 8, 3) := by decide +kernel
theorem dX2_read_43 : decode cX2_read 43 = .ok (.aload_n 0, 1) := by decide +kernel
theorem dX2_read_44 : decode cX2_read 44 = .ok (.getfield 36, 3) := by decide +kernel
theorem dX2_read_47 : decode cX2_read 47 = .ok (.ireturn, 1) := by decide +kernel
theorem dX2_read_48 : decode cX2_read 48 = .ok (.aload_n 0, 1) := by decide +kernel
theorem dX2_read_49 : decode cX2_read 49 = .ok (.aload_n 0, 1) := by decide +kernel
theorem dX2_read_50 : decode cX2_read 50 = .ok (.iconst 1, 1) := by decide +kernel
theorem dX2_read_51 : decode cX2_read 51 = .ok (.bipush 6, 2) := by decide +kernel
theorem dX2_read_53 : decode cX2_read 53 = .ok (.invokevirtual 49, 3) := by decide +kernel
theorem dX2_read_56 : decode cX2_read 56 = .ok (.putfield 53, 3) := by decide +kernel
theorem dX2_read_59 : decode cX2_read 59 = .ok (.aload_n 0, 1) := by decide +kernel
theorem dX2_read_60 : decode cX2_read 60 = .ok (.getfield 53, 3) := by decide +kernel
theorem dX2_read_63 : decode cX2_read 63 = .ok (.bipush (-9), 2) := by decide +kernel
theorem dX2_read_65 : decode cX2_read 65 = .ok (.if_icmp .ne 8, 3) := by decide +kernel
theorem dX2_read_68 : decode cX2_read 68 = .ok (.aload_n 0, 1) := by decide +kernel
theorem dX2_read_69 : decode cX2_read 69 = .ok (.getfield 36, 3) := by decide +kernel
theorem dX2_read_72 : decode cX2_read 72 = .ok (.ireturn, 1) := by decide +kernel
theorem dX2_read_73 : decode cX2_read 73 = .ok (.aload_n 0, 1) := by decide +kernel
theorem dX2_read_74 : decode cX2_read 74 = .ok (.aload_n 0, 1) := by decide +kernel
theorem dX2_read_75 : decode cX2_read 75 = .ok (.iconst 2, 1) := by decide +kernel
theorem dX2_read_76 : decode cX2_read 76 = .ok (.bipush 7, 2) := by decide +kernel
theorem dX2_read_78 : decode cX2_read 78 = .ok (.invokevirtual 49, 3) := by decide +kernel
theorem dX2_read_81 : decode cX2_read 81 = .ok (.putfield 56, 3) := by decide +kernel
theorem dX2_read_84 : decode cX2_read 84 = .ok (.aload_n 0, 1) := by decide +kernel
theorem dX2_read_85 : decode cX2_read 85 = .ok (.getfield 56, 3) := by decide +kernel
theorem dX2_read_88 : decode cX2_read 88 = .ok (.bipush (-9), 2) := by decide +kernel
theorem dX2_read_90 : decode cX2_read 90 = .ok (.if_icmp .ne 8, 3) := by decide +kernel
theorem dX2_read_93 : decode cX2_read 93 = .ok (.aload_n 0, 1) := by decide +kernel
theorem dX2_read_94 : decode cX2_read 94 = .ok (.getfield 36, 3) := by decide +kernel
theorem dX2_read_97 : decode cX2_read 97 = .ok (.ireturn, 1) := by decide +kernel
theorem dX2_read_98 : decode cX2_read 98 = .ok (.aload_n 0, 1) := by decide +kernel
theorem dX2_read_99 : decode cX2_read 99 = .ok (.invokevirtual 59, 3) := by decide +kernel
theorem dX2_read_102 : decode cX2_read 102 = .ok (.istore 4, 2) := by decide +kernel
theorem dX2_read_104 : decode cX2_read 104 = .ok (.iload 4, 2) := by decide +kernel
theorem dX2_read_106 : decode cX2_read 106 = .ok (.ifCond .eq 18, 3) := by decide +kernel
theorem dX2_read_109 : decode cX2_read 109 = .ok (.aload_n 0, 1) := by decide +kernel
theorem dX2_read_110 : decode cX2_read 110 = .ok (.getfield 36, 3) := by decide +kernel
theorem dX2_read_113 : decode cX2_read 113 = .ok (.aload_n 0, 1) := by decide +kernel
theorem dX2_read_114 : decode cX2_read 114 = .ok (.getfield 32, 3) := by decide +kernel
theorem dX2_read_117 : decode cX2_read 117 = .ok (.if_icmp .ne 7, 3) := by decide +kernel
theorem dX2_read_120 : decode cX2_read 120 = .ok (.iconst (-1), 1) := by decide +kernel
theorem dX2_read_121 : decode cX2_read 121 = .ok (.goto 7, 3) := by decide +kernel
theorem dX2_read_124 : decode cX2_read 124 = .ok (.aload_n 0, 1) := by decide +kernel
theorem dX2_read_125 : decode cX2_read 125 = .ok (.getfield 36, 3) := by decide +kernel
theorem dX2_read_128 : decode cX2_read 128 = .ok (.ireturn, 1) := by decide +kernel
theorem dX2_takeRows_0 : decode cX2_takeRows 0 = .ok (.iconst 0, 1) := by decide +kernel
theorem dX2_takeRows_1 : decode cX2_takeRows 1 = .ok (.istore_n 1, 1) := by decide +kernel
theorem dX2_takeRows_2 : decode cX2_takeRows 2 = .ok (.iload_n 1, 1) := by decide +kernel
theorem dX2_takeRows_3 : decode cX2_takeRows 3 = .ok (.aload_n 0, 1) := by decide +kernel
theorem dX2_takeRows_4 : decode cX2_takeRows 4 = .ok (.getfield 53, 3) := by decide +kernel
theorem dX2_takeRows_7 : decode cX2_takeRows 7 = .ok (.if_icmp .ge 53, 3) := by decide +kernel
theorem dX2_takeRows_10 : decode cX2_takeRows 10 = .ok (.aload_n 0, 1) := by decide +kernel
theorem dX2_takeRows_11 : decode cX2_takeRows 11 = .ok (.bipush 59, 2) := by decide +kernel
theorem dX2_takeRows_13 : decode cX2_takeRows 13 = .ok (.invokevirtual 45, 3) := by decide +kernel
theorem dX2_takeRows_16 : decode cX2_takeRows 16 = .ok (.ifCond .ne 5, 3) := by decide +kernel
theorem dX2_takeRows_19 : decode cX2_takeRows 19 = .ok (.iconst 0, 1) := by decide +kernel
theorem dX2_takeRows_20 : decode cX2_takeRows 20 = .ok (.ireturn, 1) := by decide +kernel
theorem dX2_takeRows_21 : decode cX2_takeRows 21 = .ok (.iconst 0, 1) := by decide +kernel
theorem dX2_takeRows_22 : decode cX2_takeRows 22 = .ok (.istore_n 2, 1) := by decide +kernel
theorem dX2_takeRows_23 : decode cX2_takeRows 23 = .ok (.iload_n 2, 1) := by decide +kernel
theorem dX2_takeRows_24 : decode cX2_takeRows 24 = .ok (.aload_n 0, 1) := by decide +kernel
theorem dX2_takeRows_25 : decode cX2_takeRows 25 = .ok (.getfield 56, 3) := by decide +kernel
theorem dX2_takeRows_28 : decode cX2_takeRows 28 = .ok (.if_icmp .ge 26, 3) := by decide +kernel
theorem dX2_takeRows_31 : decode cX2_takeRows 31 = .ok (.aload_n 0, 1) := by decide +kernel
theorem dX2_takeRows_32 : decode cX2_takeRows 32 = .ok (.iload_n 1, 1) := by decide +kernel
theorem dX2_takeRows_33 : decode cX2_takeRows 33 = .ok (.aload_n 0, 1) := by decide +kernel
theorem dX2_takeRows_34 : decode cX2_takeRows 34 = .ok (.getfield 56, 3) := by decide +kernel
theorem dX2_takeRows_37 : decode cX2_takeRows 37 = .ok (.imul, 1) := by decide +kernel
theorem dX2_takeRows_38 : decode cX2_takeRows 38 = .ok (.iload_n 2, 1) := by decide +kernel
theorem dX2_takeRows_39 : decode cX2_takeRows 39 = .ok (.iadd, 1) := by decide +kernel
theorem dX2_takeRows_40 : decode cX2_takeRows 40 = .ok (.invokevirtual 63, 3) := by decide +kernel
theorem dX2_takeRows_43 : decode cX2_takeRows 43 = .ok (.ifCond .ne 5, 3) := by decide +kernel
theorem dX2_takeRows_46 : decode cX2_takeRows 46 = .ok (.iconst 0, 1) := by decide +kernel
theorem dX2_takeRows_47 : decode cX2_takeRows 47 = .ok (.ireturn, 1) := by decide +kernel
theorem dX2_takeRows_48 : decode cX2_takeRows 48 = .ok (.iinc 2 1, 3) := by decide +kernel
theorem dX2_takeRows_51 : decode cX2_takeRows 51 = .ok (.goto (-28), 3) := by decide +kernel
theorem dX2_takeRows_54 : decode cX2_takeRows 54 = .ok (.iinc 1 1, 3) := by decide +kernel
theorem dX2_takeRows_57 : decode cX2_takeRows 57 = .ok (.goto (-55), 3) := by decide +kernel
theorem dX2_takeRows_60 : decode cX2_takeRows 60 = .ok (.iconst 1, 1) := by decide +kernel
theorem dX2_takeRows_61 : decode cX2_takeRows 61 = .ok (.ireturn, 1) := by decide +kernel
theorem dX2_takeCell_0 : decode cX2_takeCell 0 = .ok (.aload_n 0, 1) := by decide +kernel
theorem dX2_takeCell_1 : decode cX2_takeCell 1 = .ok (.invokevirtual 66, 3) := by decide +kernel
theorem dX2_takeCell_4 : decode cX2_takeCell 4 = .ok (.istore_n 2, 1) := by decide +kernel
theorem dX2_takeCell_5 : decode cX2_takeCell 5 = .ok (.aload_n 0, 1) := by decide +kernel
theorem dX2_takeCell_6 : decode cX2_takeCell 6 = .ok (.getfield 9, 3) := by decide +kernel
theorem dX2_takeCell_9 : decode cX2_takeCell 9 = .ok (.iload_n 1, 1) := by decide +kernel
theorem dX2_takeCell_10 : decode cX2_takeCell 10 = .ok (.iload_n 2, 1) := by decide +kernel
theorem dX2_takeCell_11 : decode cX2_takeCell 11 = .ok (.iastore, 1) := by decide +kernel
theorem dX2_takeCell_12 : decode cX2_takeCell 12 = .ok (.iload_n 2, 1) := by decide +kernel
theorem dX2_takeCell_13 : decode cX2_takeCell 13 = .ok (.lookupswitch 74 #[(46, 51), (98, 63), (108, 68), (116, 68), (117, 68)], 51) := by decide +kernel
theorem dX2_takeCell_64 : decode cX2_takeCell 64 = .ok (.aload_n 0, 1) := by decide +kernel
theorem dX2_takeCell_65 : decode cX2_takeCell 65 = .ok (.dup, 1) := by decide +kernel
theorem dX2_takeCell_66 : decode cX2_takeCell 66 = .ok (.getfield 36, 3) := by decide +kernel
theorem dX2_takeCell_69 : decode cX2_takeCell 69 = .ok (.iconst 1, 1) := by decide +kernel
theorem dX2_takeCell_70 : decode cX2_takeCell 70 = .ok (.iadd, 1) := by decide +kernel
theorem dX2_takeCell_71 : decode cX2_takeCell 71 = .ok (.putfield 36, 3) := by decide +kernel
theorem dX2_takeCell_74 : decode cX2_takeCell 74 = .ok (.iconst 1, 1) := by decide +kernel
theorem dX2_takeCell_75 : decode cX2_takeCell 75 = .ok (.ireturn, 1) := by decide +kernel
theorem dX2_takeCell_76 : decode cX2_takeCell 76 = .ok (.aload_n 0, 1) := by decide +kernel
theorem dX2_takeCell_77 : decode cX2_takeCell 77 = .ok (.invokevirtual 70, 3) := by decide +kernel
theorem dX2_takeCell_80 : decode cX2_takeCell 80 = .ok (.ireturn, 1) := by decide +kernel
theorem dX2_takeCell_81 : decode cX2_takeCell 81 = .ok (.aload_n 0, 1) := by decide +kernel
theorem dX2_takeCell_82 : decode cX2_takeCell 82 = .ok (.iload_n 1, 1) := by decide +kernel
theorem dX2_takeCell_83 : decode cX2_takeCell 83 = .ok (.invokevirtual 73, 3) := by decide +kernel
theorem dX2_takeCell_86 : decode cX2_takeCell 86 = .ok (.ireturn, 1) := by decide +kernel
theorem dX2_takeCell_87 : decode cX2_takeCell 87 = .ok (.iconst 0, 1) := by decide +kernel
theorem dX2_takeCell_88 : decode cX2_takeCell 88 = .ok (.ireturn, 1) := by decide +kernel
theorem dX2_takeBench_0 : decode cX2_takeBench 0 = .ok (.aload_n 0, 1) := by decide +kernel
theorem dX2_takeBench_1 : decode cX2_takeBench 1 = .ok (.getfield 39, 3) := by decide +kernel
theorem dX2_takeBench_4 : decode cX2_takeBench 4 = .ok (.bipush 12, 2) := by decide +kernel
theorem dX2_takeBench_6 : decode cX2_takeBench 6 = .ok (.if_icmp .ne 5, 3) := by decide +kernel
theorem dX2_takeBench_9 : decode cX2_takeBench 9 = .ok (.iconst 0, 1) := by decide +kernel
theorem dX2_takeBench_10 : decode cX2_takeBench 10 = .ok (.ireturn, 1) := by decide +kernel
theorem dX2_takeBench_11 : decode cX2_takeBench 11 = .ok (.aload_n 0, 1) := by decide +kernel
theorem dX2_takeBench_12 : decode cX2_takeBench 12 = .ok (.dup, 1) := by decide +kernel
theorem dX2_takeBench_13 : decode cX2_takeBench 13 = .ok (.getfield 39, 3) := by decide +kernel
theorem dX2_takeBench_16 : decode cX2_takeBench 16 = .ok (.iconst 1, 1) := by decide +kernel
theorem dX2_takeBench_17 : decode cX2_takeBench 17 = .ok (.iadd, 1) := by decide +kernel
theorem dX2_takeBench_18 : decode cX2_takeBench 18 = .ok (.putfield 39, 3) := by decide +kernel
theorem dX2_takeBench_21 : decode cX2_takeBench 21 = .ok (.aload_n 0, 1) := by decide +kernel
theorem dX2_takeBench_22 : decode cX2_takeBench 22 = .ok (.dup, 1) := by decide +kernel
theorem dX2_takeBench_23 : decode cX2_takeBench 23 = .ok (.getfield 36, 3) := by decide +kernel
theorem dX2_takeBench_26 : decode cX2_takeBench 26 = .ok (.iconst 1, 1) := by decide +kernel
theorem dX2_takeBench_27 : decode cX2_takeBench 27 = .ok (.iadd, 1) := by decide +kernel
theorem dX2_takeBench_28 : decode cX2_takeBench 28 = .ok (.putfield 36, 3) := by decide +kernel
theorem dX2_takeBench_31 : decode cX2_takeBench 31 = .ok (.iconst 1, 1) := by decide +kernel
theorem dX2_takeBench_32 : decode cX2_takeBench 32 = .ok (.ireturn, 1) := by decide +kernel
theorem dX2_takeThing_0 : decode cX2_takeThing 0 = .ok (.aload_n 0, 1) := by decide +kernel
theorem dX2_takeThing_1 : decode cX2_takeThing 1 = .ok (.getfield 42, 3) := by decide +kernel
theorem dX2_takeThing_4 : decode cX2_takeThing 4 = .ok (.bipush 10, 2) := by decide +kernel
theorem dX2_takeThing_6 : decode cX2_takeThing 6 = .ok (.if_icmp .ne 5, 3) := by decide +kernel
theorem dX2_takeThing_9 : decode cX2_takeThing 9 = .ok (.iconst 0, 1) := by decide +kernel
theorem dX2_takeThing_10 : decode cX2_takeThing 10 = .ok (.ireturn, 1) := by decide +kernel
theorem dX2_takeThing_11 : decode cX2_takeThing 11 = .ok (.aload_n 0, 1) := by decide +kernel
theorem dX2_takeThing_12 : decode cX2_takeThing 12 = .ok (.dup, 1) := by decide +kernel
theorem dX2_takeThing_13 : decode cX2_takeThing 13 = .ok (.getfield 42, 3) := by decide +kernel
theorem dX2_takeThing_16 : decode cX2_takeThing 16 = .ok (.iconst 1, 1) := by decide +kernel
theorem dX2_takeThing_17 : decode cX2_takeThing 17 = .ok (.iadd, 1) := by decide +kernel
theorem dX2_takeThing_18 : decode cX2_takeThing 18 = .ok (.putfield 42, 3) := by decide +kernel
theorem dX2_takeThing_21 : decode cX2_takeThing 21 = .ok (.aload_n 0, 1) := by decide +kernel
theorem dX2_takeThing_22 : decode cX2_takeThing 22 = .ok (.dup, 1) := by decide +kernel
theorem dX2_takeThing_23 : decode cX2_takeThing 23 = .ok (.getfield 36, 3) := by decide +kernel
theorem dX2_takeThing_26 : decode cX2_takeThing 26 = .ok (.iconst 1, 1) := by decide +kernel
theorem dX2_takeThing_27 : decode cX2_takeThing 27 = .ok (.iadd, 1) := by decide +kernel
theorem dX2_takeThing_28 : decode cX2_takeThing 28 = .ok (.putfield 36, 3) := by decide +kernel
theorem dX2_takeThing_31 : decode cX2_takeThing 31 = .ok (.aload_n 0, 1) := by decide +kernel
theorem dX2_takeThing_32 : decode cX2_takeThing 32 = .ok (.getfield 15, 3) := by decide +kernel
theorem dX2_takeThing_35 : decode cX2_takeThing 35 = .ok (.iload_n 1, 1) := by decide +kernel
theorem dX2_takeThing_36 : decode cX2_takeThing 36 = .ok (.aload_n 0, 1) := by decide +kernel
theorem dX2_takeThing_37 : decode cX2_takeThing 37 = .ok (.iconst 1, 1) := by decide +kernel
theorem dX2_takeThing_38 : decode cX2_takeThing 38 = .ok (.bipush 9, 2) := by decide +kernel
theorem dX2_takeThing_40 : decode cX2_takeThing 40 = .ok (.invokevirtual 49, 3) := by decide +kernel
theorem dX2_takeThing_43 : decode cX2_takeThing 43 = .ok (.iastore, 1) := by decide +kernel
theorem dX2_takeThing_44 : decode cX2_takeThing 44 = .ok (.aload_n 0, 1) := by decide +kernel
theorem dX2_takeThing_45 : decode cX2_takeThing 45 = .ok (.getfield 15, 3) := by decide +kernel
theorem dX2_takeThing_48 : decode cX2_takeThing 48 = .ok (.iload_n 1, 1) := by decide +kernel
theorem dX2_takeThing_49 : decode cX2_takeThing 49 = .ok (.iaload, 1) := by decide +kernel
theorem dX2_takeThing_50 : decode cX2_takeThing 50 = .ok (.bipush (-9), 2) := by decide +kernel
theorem dX2_takeThing_52 : decode cX2_takeThing 52 = .ok (.if_icmp .eq 7, 3) := by decide +kernel
theorem dX2_takeThing_55 : decode cX2_takeThing 55 = .ok (.iconst 1, 1) := by decide +kernel
theorem dX2_takeThing_56 : decode cX2_takeThing 56 = .ok (.goto 4, 3) := by decide +kernel
theorem dX2_takeThing_59 : decode cX2_takeThing 59 = .ok (.iconst 0, 1) := by decide +kernel
theorem dX2_takeThing_60 : decode cX2_takeThing 60 = .ok (.ireturn, 1) := by decide +kernel
theorem dX2_takeSign_0 : decode cX2_takeSign 0 = .ok (.aload_n 0, 1) := by decide +kernel
theorem dX2_takeSign_1 : decode cX2_takeSign 1 = .ok (.invokevirtual 66, 3) := by decide +kernel
theorem dX2_takeSign_4 : decode cX2_takeSign 4 = .ok (.iload_n 1, 1) := by decide +kernel
theorem dX2_takeSign_5 : decode cX2_takeSign 5 = .ok (.if_icmp .eq 5, 3) := by decide +kernel
theorem dX2_takeSign_8 : decode cX2_takeSign 8 = .ok (.iconst 0, 1) := by decide +kernel
theorem dX2_takeSign_9 : decode cX2_takeSign 9 = .ok (.ireturn, 1) := by decide +kernel
theorem dX2_takeSign_10 : decode cX2_takeSign 10 = .ok (.aload_n 0, 1) := by decide +kernel
theorem dX2_takeSign_11 : decode cX2_takeSign 11 = .ok (.dup, 1) := by decide +kernel
theorem dX2_takeSign_12 : decode cX2_takeSign 12 = .ok (.getfield 36, 3) := by decide +kernel
theorem dX2_takeSign_15 : decode cX2_takeSign 15 = .ok (.iconst 1, 1) := by decide +kernel
theorem dX2_takeSign_16 : decode cX2_takeSign 16 = .ok (.iadd, 1) := by decide +kernel
theorem dX2_takeSign_17 : decode cX2_takeSign 17 = .ok (.putfield 36, 3) := by decide +kernel
theorem dX2_takeSign_20 : decode cX2_takeSign 20 = .ok (.iconst 1, 1) := by decide +kernel
theorem dX2_takeSign_21 : decode cX2_takeSign 21 = .ok (.ireturn, 1) := by decide +kernel
theorem dX2_takeDigit_0 : decode cX2_takeDigit 0 = .ok (.aload_n 0, 1) := by decide +kernel
theorem dX2_takeDigit_1 : decode cX2_takeDigit 1 = .ok (.invokevirtual 66, 3) := by decide +kernel
theorem dX2_takeDigit_4 : decode cX2_takeDigit 4 = .ok (.bipush 48, 2) := by decide +kernel
theorem dX2_takeDigit_6 : decode cX2_takeDigit 6 = .ok (.isub, 1) := by decide +kernel
theorem dX2_takeDigit_7 : decode cX2_takeDigit 7 = .ok (.istore_n 3, 1) := by decide +kernel
theorem dX2_takeDigit_8 : decode cX2_takeDigit 8 = .ok (.iload_n 3, 1) := by decide +kernel
theorem dX2_takeDigit_9 : decode cX2_takeDigit 9 = .ok (.iload_n 1, 1) := by decide +kernel
theorem dX2_takeDigit_10 : decode cX2_takeDigit 10 = .ok (.if_icmp .lt 8, 3) := by decide +kernel
theorem dX2_takeDigit_13 : decode cX2_takeDigit 13 = .ok (.iload_n 3, 1) := by decide +kernel
theorem dX2_takeDigit_14 : decode cX2_takeDigit 14 = .ok (.iload_n 2, 1) := by decide +kernel
theorem dX2_takeDigit_15 : decode cX2_takeDigit 15 = .ok (.if_icmp .le 6, 3) := by decide +kernel
theorem dX2_takeDigit_18 : decode cX2_takeDigit 18 = .ok (.bipush (-9), 2) := by decide +kernel
theorem dX2_takeDigit_20 : decode cX2_takeDigit 20 = .ok (.ireturn, 1) := by decide +kernel
theorem dX2_takeDigit_21 : decode cX2_takeDigit 21 = .ok (.aload_n 0, 1) := by decide +kernel
theorem dX2_takeDigit_22 : decode cX2_takeDigit 22 = .ok (.dup, 1) := by decide +kernel
theorem dX2_takeDigit_23 : decode cX2_takeDigit 23 = .ok (.getfield 36, 3) := by decide +kernel
theorem dX2_takeDigit_26 : decode cX2_takeDigit 26 = .ok (.iconst 1, 1) := by decide +kernel
theorem dX2_takeDigit_27 : decode cX2_takeDigit 27 = .ok (.iadd, 1) := by decide +kernel
theorem dX2_takeDigit_28 : decode cX2_takeDigit 28 = .ok (.putfield 36, 3) := by decide +kernel
theorem dX2_takeDigit_31 : decode cX2_takeDigit 31 = .ok (.iload_n 3, 1) := by decide +kernel
theorem dX2_takeDigit_32 : decode cX2_takeDigit 32 = .ok (.ireturn, 1) := by decide +kernel
theorem dX2_nextCode_0 : decode cX2_nextCode 0 = .ok (.aload_n 0, 1) := by decide +kernel
theorem dX2_nextCode_1 : decode cX2_nextCode 1 = .ok (.getfield 36, 3) := by decide +kernel
theorem dX2_nextCode_4 : decode cX2_nextCode 4 = .ok (.aload_n 0, 1) := by decide +kernel
theorem dX2_nextCode_5 : decode cX2_nextCode 5 = .ok (.getfield 32, 3) := by decide +kernel
theorem dX2_nextCode_8 : decode cX2_nextCode 8 = .ok (.if_icmp .ge 15, 3) := by decide +kernel
theorem dX2_nextCode_11 : decode cX2_nextCode 11 = .ok (.aload_n 0, 1) := by decide +kernel
theorem dX2_nextCode_12 : decode cX2_nextCode 12 = .ok (.getfield 18, 3) := by decide +kernel
theorem dX2_nextCode_15 : decode cX2_nextCode 15 = .ok (.aload_n 0, 1) := by decide +kernel
theorem dX2_nextCode_16 : decode cX2_nextCode 16 = .ok (.getfield 36, 3) := by decide +kernel
theorem dX2_nextCode_19 : decode cX2_nextCode 19 = .ok (.iaload, 1) := by decide +kernel
theorem dX2_nextCode_20 : decode cX2_nextCode 20 = .ok (.goto 4, 3) := by decide +kernel
theorem dX2_nextCode_23 : decode cX2_nextCode 23 = .ok (.iconst (-1), 1) := by decide +kernel
theorem dX2_nextCode_24 : decode cX2_nextCode 24 = .ok (.ireturn, 1) := by decide +kernel
theorem dX3_init_0 : decode cX3_init 0 = .ok (.aload_n 0, 1) := by decide +kernel
theorem dX3_init_1 : decode cX3_init 1 = .ok (.invokespecial 3, 3) := by decide +kernel
theorem dX3_init_4 : decode cX3_init 4 = .ok (.aload_n 0, 1) := by decide +kernel
theorem dX3_init_5 : decode cX3_init 5 = .ok (.iconst 4, 1) := by decide +kernel
theorem dX3_init_6 : decode cX3_init 6 = .ok (.anewarray 11, 3) := by decide +kernel
theorem dX3_init_9 : decode cX3_init 9 = .ok (.putfield 13, 3) := by decide +kernel
theorem dX3_init_12 : decode cX3_init 12 = .ok (.iconst 0, 1) := by decide +kernel
theorem dX3_init_13 : decode cX3_init 13 = .ok (.istore_n 1, 1) := by decide +kernel
theorem dX3_init_14 : decode cX3_init 14 = .ok (.iload_n 1, 1) := by decide +kernel
theorem dX3_init_15 : decode cX3_init 15 = .ok (.iconst 4, 1) := by decide +kernel
theorem dX3_init_16 : decode cX3_init 16 = .ok (.if_icmp .ge 22, 3) := by decide +kernel
theorem dX3_init_19 : decode cX3_init 19 = .ok (.aload_n 0, 1) := by decide +kernel
theorem dX3_init_20 : decode cX3_init 20 = .ok (.getfield 13, 3) := by decide +kernel
theorem dX3_init_23 : decode cX3_init 23 = .ok (.iload_n 1, 1) := by decide +kernel
theorem dX3_init_24 : decode cX3_init 24 = .ok (.new 11, 3) := by decide +kernel
theorem dX3_init_27 : decode cX3_init 27 = .ok (.dup, 1) := by decide +kernel
theorem dX3_init_28 : decode cX3_init 28 = .ok (.invokespecial 17, 3) := by decide +kernel
theorem dX3_init_31 : decode cX3_init 31 = .ok (.aastore, 1) := by decide +kernel
theorem dX3_init_32 : decode cX3_init 32 = .ok (.iinc 1 1, 3) := by decide +kernel
theorem dX3_init_35 : decode cX3_init 35 = .ok (.goto (-21), 3) := by decide +kernel
theorem dX3_init_38 : decode cX3_init 38 = .ok (.aload_n 0, 1) := by decide +kernel
theorem dX3_init_39 : decode cX3_init 39 = .ok (.new 18, 3) := by decide +kernel
theorem dX3_init_42 : decode cX3_init 42 = .ok (.dup, 1) := by decide +kernel
theorem dX3_init_43 : decode cX3_init 43 = .ok (.invokespecial 20, 3) := by decide +kernel
theorem dX3_init_46 : decode cX3_init 46 = .ok (.putfield 21, 3) := by decide +kernel
theorem dX3_init_49 : decode cX3_init 49 = .ok (.aload_n 0, 1) := by decide +kernel
theorem dX3_init_50 : decode cX3_init 50 = .ok (.new 25, 3) := by decide +kernel
theorem dX3_init_53 : decode cX3_init 53 = .ok (.dup, 1) := by decide +kernel
theorem dX3_init_54 : decode cX3_init 54 = .ok (.invokespecial 27, 3) := by decide +kernel
theorem dX3_init_57 : decode cX3_init 57 = .ok (.putfield 28, 3) := by decide +kernel
theorem dX3_init_60 : decode cX3_init 60 = .ok (.aload_n 0, 1) := by decide +kernel
theorem dX3_init_61 : decode cX3_init 61 = .ok (.iconst 0, 1) := by decide +kernel
theorem dX3_init_62 : decode cX3_init 62 = .ok (.putfield 32, 3) := by decide +kernel
theorem dX3_init_65 : decode cX3_init 65 = .ok (.aload_n 0, 1) := by decide +kernel
theorem dX3_init_66 : decode cX3_init 66 = .ok (.iconst 0, 1) := by decide +kernel
theorem dX3_init_67 : decode cX3_init 67 = .ok (.putfield 36, 3) := by decide +kernel
theorem dX3_init_70 : decode cX3_init 70 = .ok (.return_, 1) := by decide +kernel
theorem dX3_square_0 : decode cX3_square 0 = .ok (.aload_n 0, 1) := by decide +kernel
theorem dX3_square_1 : decode cX3_square 1 = .ok (.iconst 0, 1) := by decide +kernel
theorem dX3_square_2 : decode cX3_square 2 = .ok (.putfield 36, 3) := by decide +kernel
theorem dX3_square_5 : decode cX3_square 5 = .ok (.iload_n 1, 1) := by decide +kernel
theorem dX3_square_6 : decode cX3_square 6 = .ok (.iconst 4, 1) := by decide +kernel
theorem dX3_square_7 : decode cX3_square 7 = .ok (.invokestatic 39, 3) := by decide +kernel
theorem dX3_square_10 : decode cX3_square 10 = .ok (.ifCond .ne 5, 3) := by decide +kernel
theorem dX3_square_13 : decode cX3_square 13 = .ok (.iconst (-1), 1) := by decide +kernel
theorem dX3_square_14 : decode cX3_square 14 = .ok (.ireturn, 1) := by decide +kernel
theorem dX3_square_15 : decode cX3_square 15 = .ok (.iload_n 2, 1) := by decide +kernel
theorem dX3_square_16 : decode cX3_square 16 = .ok (.iconst 3, 1) := by decide +kernel
theorem dX3_square_17 : decode cX3_square 17 = .ok (.invokestatic 39, 3) := by decide +kernel
theorem dX3_square_20 : decode cX3_square 20 = .ok (.ifCond .ne 6, 3) := by decide +kernel
theorem dX3_square_23 : decode cX3_square 23 = .ok (.bipush (-2), 2) := by decide +kernel
theorem dX3_square_25 : decode cX3_square 25 = .ok (.ireturn, 1) := by decide +kernel
theorem dX3_square_26 : decode cX3_square 26 = .ok (.aload_n 0, 1) := by decide +kernel
theorem dX3_square_27 : decode cX3_square 27 = .ok (.getfield 13, 3) := by decide +kernel
theorem dX3_square_30 : decode cX3_square 30 = .ok (.iload_n 1, 1) := by decide +kernel
theorem dX3_square_31 : decode cX3_square 31 = .ok (.aaload, 1) := by decide +kernel
theorem dX3_square_32 : decode cX3_square 32 = .ok (.astore 5, 2) := by decide +kernel
theorem dX3_square_34 : decode cX3_square 34 = .ok (.aload 5, 2) := by decide +kernel
theorem dX3_square_36 : decode cX3_square 36 = .ok (.iload_n 2, 1) := by decide +kernel
theorem dX3_square_37 : decode cX3_square 37 = .ok (.invokevirtual 43, 3) := by decide +kernel
theorem dX3_square_40 : decode cX3_square 40 = .ok (.istore 6, 2) := by decide +kernel
theorem dX3_square_42 : decode cX3_square 42 = .ok (.iload 6, 2) := by decide +kernel
theorem dX3_square_44 : decode cX3_square 44 = .ok (.ifCond .ne 11, 3) := by decide +kernel
theorem dX3_square_47 : decode cX3_square 47 = .ok (.iload 4, 2) := by decide +kernel
theorem dX3_square_49 : decode cX3_square 49 = .ok (.ifCond .ge 6, 3) := by decide +kernel
theorem dX3_square_52 : decode cX3_square 52 = .ok (.iconst 4, 1) := by decide +kernel
theorem dX3_square_53 : decode cX3_square 53 = .ok (.istore 6, 2) := by decide +kernel
theorem dX3_square_55 : decode cX3_square 55 = .ok (.iload 6, 2) := by decide +kernel
theorem dX3_square_57 : decode cX3_square 57 = .ok (.ifCond .ne 17, 3) := by decide +kernel
theorem dX3_square_60 : decode cX3_square 60 = .ok (.aload 5, 2) := by decide +kernel
theorem dX3_square_62 : decode cX3_square 62 = .ok (.iload_n 3, 1) := by decide +kernel
theorem dX3_square_63 : decode cX3_square 63 = .ok (.iload 4, 2) := by decide +kernel
theorem dX3_square_65 : decode cX3_square 65 = .ok (.invokevirtual 47, 3) := by decide +kernel
theorem dX3_square_68 : decode cX3_square 68 = .ok (.ifCond .ne 6, 3) := by decide +kernel
theorem dX3_square_71 : decode cX3_square 71 = .ok (.iconst 3, 1) := by decide +kernel
theorem dX3_square_72 : decode cX3_square 72 = .ok (.istore 6, 2) := by decide +kernel
theorem dX3_square_74 : decode cX3_square 74 = .ok (.iload 6, 2) := by decide +kernel
theorem dX3_square_76 : decode cX3_square 76 = .ok (.ifCond .eq 10, 3) := by decide +kernel
theorem dX3_square_79 : decode cX3_square 79 = .ok (.aload_n 0, 1) := by decide +kernel
theorem dX3_square_80 : decode cX3_square 80 = .ok (.iload 6, 2) := by decide +kernel
theorem dX3_square_82 : decode cX3_square 82 = .ok (.invokevirtual 50, 3) := by decide +kernel
theorem dX3_square_85 : decode cX3_square 85 = .ok (.ireturn, 1) := by decide +kernel
theorem dX3_square_86 : decode cX3_square 86 = .ok (.aload_n 0, 1) := by decide +kernel
theorem dX3_square_87 : decode cX3_square 87 = .ok (.getfield 21, 3) := by decide +kernel
theorem dX3_square_90 : decode cX3_square 90 = .ok (.aload 5, 2) := by decide +kernel
theorem dX3_square_92 : decode cX3_square 92 = .ok (.iload_n 3, 1) := by decide +kernel
theorem dX3_square_93 : decode cX3_square 93 = .ok (.iload 4, 2) := by decide +kernel
theorem dX3_square_95 : decode cX3_square 95 = .ok (.invokevirtual 53, 3) := by decide +kernel
theorem dX3_square_98 : decode cX3_square 98 = .ok (.istore 7, 2) := by decide +kernel
theorem dX3_square_100 : decode cX3_square 100 = .ok (.iload 7, 2) := by decide +kernel
theorem dX3_square_102 : decode cX3_square 102 = .ok (.iconst (-1), 1) := by decide +kernel
theorem dX3_square_103 : decode cX3_square 103 = .ok (.if_icmp .eq 9, 3) := by decide +kernel
theorem dX3_square_106 : decode cX3_square 106 = .ok (.bipush (-100), 2) := by decide +kernel
theorem dX3_square_108 : decode cX3_square 108 = .ok (.iload 7, 2) := by decide +kernel
theorem dX3_square_110 : decode cX3_square 110 = .ok (.isub, 1) := by decide +kernel
theorem dX3_square_111 : decode cX3_square 111 = .ok (.ireturn, 1) := by decide +kernel
theorem dX3_square_112 : decode cX3_square 112 = .ok (.aload_n 0, 1) := by decide +kernel
theorem dX3_square_113 : decode cX3_square 113 = .ok (.getfield 28, 3) := by decide +kernel
theorem dX3_square_116 : decode cX3_square 116 = .ok (.aload_n 0, 1) := by decide +kernel
theorem dX3_square_117 : decode cX3_square 117 = .ok (.getfield 21, 3) := by decide +kernel
theorem dX3_square_120 : decode cX3_square 120 = .ok (.invokevirtual 57, 3) := by decide +kernel
theorem dX3_square_123 : decode cX3_square 123 = .ok (.aload_n 0, 1) := by decide +kernel
theorem dX3_square_124 : decode cX3_square 124 = .ok (.getfield 28, 3) := by decide +kernel
theorem dX3_square_127 : decode cX3_square 127 = .ok (.getfield 61, 3) := by decide +kernel
theorem dX3_square_130 : decode cX3_square 130 = .ok (.ireturn, 1) := by decide +kernel
theorem dX3_cellHas_0 : decode cX3_cellHas 0 = .ok (.iload_n 1, 1) := by decide +kernel
theorem dX3_cellHas_1 : decode cX3_cellHas 1 = .ok (.aload_n 0, 1) := by decide +kernel
theorem dX3_cellHas_2 : decode cX3_cellHas 2 = .ok (.getfield 28, 3) := by decide +kernel
theorem dX3_cellHas_5 : decode cX3_cellHas 5 = .ok (.getfield 61, 3) := by decide +kernel
theorem dX3_cellHas_8 : decode cX3_cellHas 8 = .ok (.invokestatic 39, 3) := by decide +kernel
theorem dX3_cellHas_11 : decode cX3_cellHas 11 = .ok (.ifCond .eq 15, 3) := by decide +kernel
theorem dX3_cellHas_14 : decode cX3_cellHas 14 = .ok (.aload_n 0, 1) := by decide +kernel
theorem dX3_cellHas_15 : decode cX3_cellHas 15 = .ok (.getfield 28, 3) := by decide +kernel
theorem dX3_cellHas_18 : decode cX3_cellHas 18 = .ok (.getfield 64, 3) := by decide +kernel
theorem dX3_cellHas_21 : decode cX3_cellHas 21 = .ok (.iload_n 1, 1) := by decide +kernel
theorem dX3_cellHas_22 : decode cX3_cellHas 22 = .ok (.iaload, 1) := by decide +kernel
theorem dX3_cellHas_23 : decode cX3_cellHas 23 = .ok (.goto 4, 3) := by decide +kernel
theorem dX3_cellHas_26 : decode cX3_cellHas 26 = .ok (.iconst (-1), 1) := by decide +kernel
theorem dX3_cellHas_27 : decode cX3_cellHas 27 = .ok (.ireturn, 1) := by decide +kernel
theorem dX3_ofThing_0 : decode cX3_ofThing 0 = .ok (.iload_n 1, 1) := by decide +kernel
theorem dX3_ofThing_1 : decode cX3_ofThing 1 = .ok (.aload_n 0, 1) := by decide +kernel
theorem dX3_ofThing_2 : decode cX3_ofThing 2 = .ok (.getfield 28, 3) := by decide +kernel
theorem dX3_ofThing_5 : decode cX3_ofThing 5 = .ok (.getfield 68, 3) := by decide +kernel
theorem dX3_ofThing_8 : decode cX3_ofThing 8 = .ok (.invokestatic 39, 3) := by decide +kernel
theorem dX3_ofThing_11 : decode cX3_ofThing 11 = .ok (.ifCond .ne 5, 3) := by decide +kernel
theorem dX3_ofThing_14 : decode cX3_ofThing 14 = .ok (.iconst (-1), 1) := by decide +kernel
theorem dX3_ofThing_15 : decode cX3_ofThing 15 = .ok (.ireturn, 1) := by decide +kernel
theorem dX3_ofThing_16 : decode cX3_ofThing 16 = .ok (.iload_n 2, 1) := by decide +kernel
theorem dX3_ofThing_17 : decode cX3_ofThing 17 = .ok (.tableswitch 112 0 5 #[39, 49, 59, 69, 85, 102], 39) := by decide +kernel
theorem dX3_ofThing_56 : decode cX3_ofThing 56 = .ok (.aload_n 0, 1) := by decide +kernel
theorem dX3_ofThing_57 : decode cX3_ofThing 57 = .ok (.getfield 28, 3) := by decide +kernel
theorem dX3_ofThing_60 : decode cX3_ofThing 60 = .ok (.getfield 71, 3) := by decide +kernel
theorem dX3_ofThing_63 : decode cX3_ofThing 63 = .ok (.iload_n 1, 1) := by decide +kernel
theorem dX3_ofThing_64 : decode cX3_ofThing 64 = .ok (.iaload, 1) := by decide +kernel
theorem dX3_ofThing_65 : decode cX3_ofThing 65 = .ok (.ireturn, 1) := by decide +kernel
theorem dX3_ofThing_66 : decode cX3_ofThing 66 = .ok (.aload_n 0, 1) := by decide +kernel
theorem dX3_ofThing_67 : decode cX3_ofThing 67 = .ok (.getfield 28, 3) := by decide +kernel
theorem dX3_ofThing_70 : decode cX3_ofThing 70 = .ok (.getfield 74, 3) := by decide +kernel
theorem dX3_ofThing_73 : decode cX3_ofThing 73 = .ok (.iload_n 1, 1) := by decide +kernel
theorem dX3_ofThing_74 : decode cX3_ofThing 74 = .ok (.iaload, 1) := by decide +kernel
theorem dX3_ofThing_75 : decode cX3_ofThing 75 = .ok (.ireturn, 1) := by decide +kernel
theorem dX3_ofThing_76 : decode cX3_ofThing 76 = .ok (.aload_n 0, 1) := by decide +kernel
theorem dX3_ofThing_77 : decode cX3_ofThing 77 = .ok (.getfield 28, 3) := by decide +kernel
theorem dX3_ofThing_80 : decode cX3_ofThing 80 = .ok (.getfield 77, 3) := by decide +kernel
theorem dX3_ofThing_83 : decode cX3_ofThing 83 = .ok (.iload_n 1, 1) := by decide +kernel
theorem dX3_ofThing_84 : decode cX3_ofThing 84 = .ok (.iaload, 1) := by decide +kernel
theorem dX3_ofThing_85 : decode cX3_ofThing 85 = .ok (.ireturn, 1) := by decide +kernel
theorem dX3_ofThing_86 : decode cX3_ofThing 86 = .ok (.aload_n 0, 1) := by decide +kernel
theorem dX3_ofThing_87 : decode cX3_ofThing 87 = .ok (.getfield 28, 3) := by decide +kernel
theorem dX3_ofThing_90 : decode cX3_ofThing 90 = .ok (.iload_n 1, 1) := by decide +kernel
theorem dX3_ofThing_91 : decode cX3_ofThing 91 = .ok (.aload_n 0, 1) := by decide +kernel
theorem dX3_ofThing_92 : decode cX3_ofThing 92 = .ok (.getfield 28, 3) := by decide +kernel
theorem dX3_ofThing_95 : decode cX3_ofThing 95 = .ok (.getfield 80, 3) := by decide +kernel
theorem dX3_ofThing_98 : decode cX3_ofThing 98 = .ok (.invokevirtual 83, 3) := by decide +kernel
theorem dX3_ofThing_101 : decode cX3_ofThing 101 = .ok (.ireturn, 1) := by decide +kernel
theorem dX3_ofThing_102 : decode cX3_ofThing 102 = .ok (.aload_n 0, 1) := by decide +kernel
theorem dX3_ofThing_103 : decode cX3_ofThing 103 = .ok (.getfield 28, 3) := by decide +kernel
theorem dX3_ofThing_106 : decode cX3_ofThing 106 = .ok (.iload_n 1, 1) := by decide +kernel
theorem dX3_ofThing_107 : decode cX3_ofThing 107 = .ok (.invokevirtual 87, 3) := by decide +kernel
theorem dX3_ofThing_110 : decode cX3_ofThing 110 = .ok (.ifCond .eq 7, 3) := by decide +kernel
theorem dX3_ofThing_113 : decode cX3_ofThing 113 = .ok (.iconst 0, 1) := by decide +kernel
theorem dX3_ofThing_114 : decode cX3_ofThing 114 = .ok (.goto 4, 3) := by decide +kernel
theorem dX3_ofThing_117 : decode cX3_ofThing 117 = .ok (.iconst 1, 1) := by decide +kernel
theorem dX3_ofThing_118 : decode cX3_ofThing 118 = .ok (.ireturn, 1) := by decide +kernel
theorem dX3_ofThing_119 : decode cX3_ofThing 119 = .ok (.aload_n 0, 1) := by decide +kernel
theorem dX3_ofThing_120 : decode cX3_ofThing 120 = .ok (.getfield 28, 3) := by decide +kernel
theorem dX3_ofThing_123 : decode cX3_ofThing 123 = .ok (.getfield 91, 3) := by decide +kernel
theorem dX3_ofThing_126 : decode cX3_ofThing 126 = .ok (.iload_n 1, 1) := by decide +kernel
theorem dX3_ofThing_127 : decode cX3_ofThing 127 = .ok (.iaload, 1) := by decide +kernel
theorem dX3_ofThing_128 : decode cX3_ofThing 128 = .ok (.ireturn, 1) := by decide +kernel
theorem dX3_ofThing_129 : decode cX3_ofThing 129 = .ok (.bipush (-2), 2) := by decide +kernel
theorem dX3_ofThing_131 : decode cX3_ofThing 131 = .ok (.ireturn, 1) := by decide +kernel
theorem dX3_bench_0 : decode cX3_bench 0 = .ok (.iload_n 1, 1) := by decide +kernel
theorem dX3_bench_1 : decode cX3_bench 1 = .ok (.aload_n 0, 1) := by decide +kernel
theorem dX3_bench_2 : decode cX3_bench 2 = .ok (.getfield 28, 3) := by decide +kernel
theorem dX3_bench_5 : decode cX3_bench 5 = .ok (.getfield 94, 3) := by decide +kernel
theorem dX3_bench_8 : decode cX3_bench 8 = .ok (.invokestatic 39, 3) := by decide +kernel
theorem dX3_bench_11 : decode cX3_bench 11 = .ok (.ifCond .eq 15, 3) := by decide +kernel
theorem dX3_bench_14 : decode cX3_bench 14 = .ok (.aload_n 0, 1) := by decide +kernel
theorem dX3_bench_15 : decode cX3_bench 15 = .ok (.getfield 28, 3) := by decide +kernel
theorem dX3_bench_18 : decode cX3_bench 18 = .ok (.getfield 97, 3) := by decide +kernel
theorem dX3_bench_21 : decode cX3_bench 21 = .ok (.iload_n 1, 1) := by decide +kernel
theorem dX3_bench_22 : decode cX3_bench 22 = .ok (.iaload, 1) := by decide +kernel
theorem dX3_bench_23 : decode cX3_bench 23 = .ok (.goto 4, 3) := by decide +kernel
theorem dX3_bench_26 : decode cX3_bench 26 = .ok (.iconst (-1), 1) := by decide +kernel
theorem dX3_bench_27 : decode cX3_bench 27 = .ok (.ireturn, 1) := by decide +kernel
theorem dX3_year_0 : decode cX3_year 0 = .ok (.iload_n 1, 1) := by decide +kernel
theorem dX3_year_1 : decode cX3_year 1 = .ok (.bipush 31, 2) := by decide +kernel
theorem dX3_year_3 : decode cX3_year 3 = .ok (.invokestatic 39, 3) := by decide +kernel
theorem dX3_year_6 : decode cX3_year 6 = .ok (.ifCond .ne 6, 3) := by decide +kernel
theorem dX3_year_9 : decode cX3_year 9 = .ok (.bipush (-2), 2) := by decide +kernel
theorem dX3_year_11 : decode cX3_year 11 = .ok (.ireturn, 1) := by decide +kernel
theorem dX3_year_12 : decode cX3_year 12 = .ok (.aload_n 0, 1) := by decide +kernel
theorem dX3_year_13 : decode cX3_year 13 = .ok (.getfield 28, 3) := by decide +kernel
theorem dX3_year_16 : decode cX3_year 16 = .ok (.invokevirtual 100, 3) := by decide +kernel
theorem dX3_year_19 : decode cX3_year 19 = .ok (.ifCond .ne 6, 3) := by decide +kernel
theorem dX3_year_22 : decode cX3_year 22 = .ok (.bipush (-3), 2) := by decide +kernel
theorem dX3_year_24 : decode cX3_year 24 = .ok (.ireturn, 1) := by decide +kernel
theorem dX3_year_25 : decode cX3_year 25 = .ok (.aload_n 0, 1) := by decide +kernel
theorem dX3_year_26 : decode cX3_year 26 = .ok (.getfield 28, 3) := by decide +kernel
theorem dX3_year_29 : decode cX3_year 29 = .ok (.getfield 80, 3) := by decide +kernel
theorem dX3_year_32 : decode cX3_year 32 = .ok (.istore_n 3, 1) := by decide +kernel
theorem dX3_year_33 : decode cX3_year 33 = .ok (.aload_n 0, 1) := by decide +kernel
theorem dX3_year_34 : decode cX3_year 34 = .ok (.getfield 28, 3) := by decide +kernel
theorem dX3_year_37 : decode cX3_year 37 = .ok (.iload_n 1, 1) := by decide +kernel
theorem dX3_year_38 : decode cX3_year 38 = .ok (.putfield 80, 3) := by decide +kernel
theorem dX3_year_41 : decode cX3_year 41 = .ok (.aload_n 0, 1) := by decide +kernel
theorem dX3_year_42 : decode cX3_year 42 = .ok (.getfield 28, 3) := by decide +kernel
theorem dX3_year_45 : decode cX3_year 45 = .ok (.iload_n 2, 1) := by decide +kernel
theorem dX3_year_46 : decode cX3_year 46 = .ok (.putfield 104, 3) := by decide +kernel
theorem dX3_year_49 : decode cX3_year 49 = .ok (.iload_n 3, 1) := by decide +kernel
theorem dX3_year_50 : decode cX3_year 50 = .ok (.ireturn, 1) := by decide +kernel
theorem dX3_cut_0 : decode cX3_cut 0 = .ok (.iload_n 1, 1) := by decide +kernel
theorem dX3_cut_1 : decode cX3_cut 1 = .ok (.aload_n 0, 1) := by decide +kernel
theorem dX3_cut_2 : decode cX3_cut 2 = .ok (.getfield 28, 3) := by decide +kernel
theorem dX3_cut_5 : decode cX3_cut 5 = .ok (.getfield 68, 3) := by decide +kernel
theorem dX3_cut_8 : decode cX3_cut 8 = .ok (.invokestatic 39, 3) := by decide +kernel
theorem dX3_cut_11 : decode cX3_cut 11 = .ok (.ifCond .ne 5, 3) := by decide +kernel
theorem dX3_cut_14 : decode cX3_cut 14 = .ok (.iconst (-1), 1) := by decide +kernel
theorem dX3_cut_15 : decode cX3_cut 15 = .ok (.ireturn, 1) := by decide +kernel
theorem dX3_cut_16 : decode cX3_cut 16 = .ok (.aload_n 0, 1) := by decide +kernel
theorem dX3_cut_17 : decode cX3_cut 17 = .ok (.getfield 28, 3) := by decide +kernel
theorem dX3_cut_20 : decode cX3_cut 20 = .ok (.iload_n 1, 1) := by decide +kernel
theorem dX3_cut_21 : decode cX3_cut 21 = .ok (.invokevirtual 87, 3) := by decide +kernel
theorem dX3_cut_24 : decode cX3_cut 24 = .ok (.iload_n 2, 1) := by decide +kernel
theorem dX3_cut_25 : decode cX3_cut 25 = .ok (.if_icmp .eq 5, 3) := by decide +kernel
theorem dX3_cut_28 : decode cX3_cut 28 = .ok (.iconst 0, 1) := by decide +kernel
theorem dX3_cut_29 : decode cX3_cut 29 = .ok (.ireturn, 1) := by decide +kernel
theorem dX3_cut_30 : decode cX3_cut 30 = .ok (.aload_n 0, 1) := by decide +kernel
theorem dX3_cut_31 : decode cX3_cut 31 = .ok (.getfield 28, 3) := by decide +kernel
theorem dX3_cut_34 : decode cX3_cut 34 = .ok (.dup, 1) := by decide +kernel
theorem dX3_cut_35 : decode cX3_cut 35 = .ok (.getfield 108, 3) := by decide +kernel
theorem dX3_cut_38 : decode cX3_cut 38 = .ok (.iconst 1, 1) := by decide +kernel
theorem dX3_cut_39 : decode cX3_cut 39 = .ok (.iload_n 1, 1) := by decide +kernel
theorem dX3_cut_40 : decode cX3_cut 40 = .ok (.ishl, 1) := by decide +kernel
theorem dX3_cut_41 : decode cX3_cut 41 = .ok (.ixor, 1) := by decide +kernel
theorem dX3_cut_42 : decode cX3_cut 42 = .ok (.putfield 108, 3) := by decide +kernel
theorem dX3_cut_45 : decode cX3_cut 45 = .ok (.iconst 1, 1) := by decide +kernel
theorem dX3_cut_46 : decode cX3_cut 46 = .ok (.ireturn, 1) := by decide +kernel
theorem dX3_price_0 : decode cX3_price 0 = .ok (.iload_n 1, 1) := by decide +kernel
theorem dX3_price_1 : decode cX3_price 1 = .ok (.aload_n 0, 1) := by decide +kernel
theorem dX3_price_2 : decode cX3_price 2 = .ok (.getfield 28, 3) := by decide +kernel
theorem dX3_price_5 : decode cX3_price 5 = .ok (.getfield 68, 3) := by decide +kernel
theorem dX3_price_8 : decode cX3_price 8 = .ok (.invokestatic 39, 3) := by decide +kernel
theorem dX3_price_11 : decode cX3_price 11 = .ok (.ifCond .ne 5, 3) := by decide +kernel
theorem dX3_price_14 : decode cX3_price 14 = .ok (.iconst (-1), 1) := by decide +kernel
theorem dX3_price_15 : decode cX3_price 15 = .ok (.ireturn, 1) := by decide +kernel
theorem dX3_price_16 : decode cX3_price 16 = .ok (.iload_n 2, 1) := by decide +kernel
theorem dX3_price_17 : decode cX3_price 17 = .ok (.iconst 1, 1) := by decide +kernel
theorem dX3_price_18 : decode cX3_price 18 = .ok (.if_icmp .lt 9, 3) := by decide +kernel
theorem dX3_price_21 : decode cX3_price 21 = .ok (.iload_n 2, 1) := by decide +kernel
theorem dX3_price_22 : decode cX3_price 22 = .ok (.bipush 9, 2) := by decide +kernel
theorem dX3_price_24 : decode cX3_price 24 = .ok (.if_icmp .le 6, 3) := by decide +kernel
theorem dX3_price_27 : decode cX3_price 27 = .ok (.bipush (-2), 2) := by decide +kernel
theorem dX3_price_29 : decode cX3_price 29 = .ok (.ireturn, 1) := by decide +kernel
theorem dX3_price_30 : decode cX3_price 30 = .ok (.aload_n 0, 1) := by decide +kernel
theorem dX3_price_31 : decode cX3_price 31 = .ok (.getfield 28, 3) := by decide +kernel
theorem dX3_price_34 : decode cX3_price 34 = .ok (.getfield 91, 3) := by decide +kernel
theorem dX3_price_37 : decode cX3_price 37 = .ok (.iload_n 1, 1) := by decide +kernel
theorem dX3_price_38 : decode cX3_price 38 = .ok (.iaload, 1) := by decide +kernel
theorem dX3_price_39 : decode cX3_price 39 = .ok (.istore_n 3, 1) := by decide +kernel
theorem dX3_price_40 : decode cX3_price 40 = .ok (.aload_n 0, 1) := by decide +kernel
theorem dX3_price_41 : decode cX3_price 41 = .ok (.getfield 28, 3) := by decide +kernel
theorem dX3_price_44 : decode cX3_price 44 = .ok (.getfield 91, 3) := by decide +kernel
theorem dX3_price_47 : decode cX3_price 47 = .ok (.iload_n 1, 1) := by decide +kernel
theorem dX3_price_48 : decode cX3_price 48 = .ok (.iload_n 2, 1) := by decide +kernel
theorem dX3_price_49 : decode cX3_price 49 = .ok (.iastore, 1) := by decide +kernel
theorem dX3_price_50 : decode cX3_price 50 = .ok (.iload_n 3, 1) := by decide +kernel
theorem dX3_price_51 : decode cX3_price 51 = .ok (.ireturn, 1) := by decide +kernel
theorem dX3_statue_0 : decode cX3_statue 0 = .ok (.iload_n 1, 1) := by decide +kernel
theorem dX3_statue_1 : decode cX3_statue 1 = .ok (.aload_n 0, 1) := by decide +kernel
theorem dX3_statue_2 : decode cX3_statue 2 = .ok (.getfield 28, 3) := by decide +kernel
theorem dX3_statue_5 : decode cX3_statue 5 = .ok (.getfield 61, 3) := by decide +kernel
theorem dX3_statue_8 : decode cX3_statue 8 = .ok (.invokestatic 39, 3) := by decide +kernel
theorem dX3_statue_11 : decode cX3_statue 11 = .ok (.ifCond .ne 5, 3) := by decide +kernel
theorem dX3_statue_14 : decode cX3_statue 14 = .ok (.iconst (-1), 1) := by decide +kernel
theorem dX3_statue_15 : decode cX3_statue 15 = .ok (.ireturn, 1) := by decide +kernel
theorem dX3_statue_16 : decode cX3_statue 16 = .ok (.iload_n 2, 1) := by decide +kernel
theorem dX3_statue_17 : decode cX3_statue 17 = .ok (.bipush 10, 2) := by decide +kernel
theorem dX3_statue_19 : decode cX3_statue 19 = .ok (.invokestatic 39, 3) := by decide +kernel
theorem dX3_statue_22 : decode cX3_statue 22 = .ok (.ifCond .ne 6, 3) := by decide +kernel
theorem dX3_statue_25 : decode cX3_statue 25 = .ok (.bipush (-2), 2) := by decide +kernel
theorem dX3_statue_27 : decode cX3_statue 27 = .ok (.ireturn, 1) := by decide +kernel
theorem dX3_statue_28 : decode cX3_statue 28 = .ok (.aload_n 0, 1) := by decide +kernel
theorem dX3_statue_29 : decode cX3_statue 29 = .ok (.getfield 28, 3) := by decide +kernel
theorem dX3_statue_32 : decode cX3_statue 32 = .ok (.iload_n 1, 1) := by decide +kernel
theorem dX3_statue_33 : decode cX3_statue 33 = .ok (.invokevirtual 111, 3) := by decide +kernel
theorem dX3_statue_36 : decode cX3_statue 36 = .ok (.ifCond .ne 6, 3) := by decide +kernel
theorem dX3_statue_39 : decode cX3_statue 39 = .ok (.bipush (-3), 2) := by decide +kernel
theorem dX3_statue_41 : decode cX3_statue 41 = .ok (.ireturn, 1) := by decide +kernel
theorem dX3_statue_42 : decode cX3_statue 42 = .ok (.aload_n 0, 1) := by decide +kernel
theorem dX3_statue_43 : decode cX3_statue 43 = .ok (.getfield 28, 3) := by decide +kernel
theorem dX3_statue_46 : decode cX3_statue 46 = .ok (.getfield 114, 3) := by decide +kernel
theorem dX3_statue_49 : decode cX3_statue 49 = .ok (.istore_n 3, 1) := by decide +kernel
theorem dX3_statue_50 : decode cX3_statue 50 = .ok (.aload_n 0, 1) := by decide +kernel
theorem dX3_statue_51 : decode cX3_statue 51 = .ok (.getfield 28, 3) := by decide +kernel
theorem dX3_statue_54 : decode cX3_statue 54 = .ok (.iload_n 1, 1) := by decide +kernel
theorem dX3_statue_55 : decode cX3_statue 55 = .ok (.putfield 114, 3) := by decide +kernel
theorem dX3_statue_58 : decode cX3_statue 58 = .ok (.aload_n 0, 1) := by decide +kernel
theorem dX3_statue_59 : decode cX3_statue 59 = .ok (.getfield 28, 3) := by decide +kernel
theorem dX3_statue_62 : decode cX3_statue 62 = .ok (.iload_n 2, 1) := by decide +kernel
theorem dX3_statue_63 : decode cX3_statue 63 = .ok (.putfield 117, 3) := by decide +kernel
theorem dX3_statue_66 : decode cX3_statue 66 = .ok (.iload_n 3, 1) := by decide +kernel
theorem dX3_statue_67 : decode cX3_statue 67 = .ok (.ireturn, 1) := by decide +kernel
theorem dX3_seen_0 : decode cX3_seen 0 = .ok (.iload_n 1, 1) := by decide +kernel
theorem dX3_seen_1 : decode cX3_seen 1 = .ok (.aload_n 0, 1) := by decide +kernel
theorem dX3_seen_2 : decode cX3_seen 2 = .ok (.getfield 28, 3) := by decide +kernel
theorem dX3_seen_5 : decode cX3_seen 5 = .ok (.getfield 94, 3) := by decide +kernel
theorem dX3_seen_8 : decode cX3_seen 8 = .ok (.invokestatic 39, 3) := by decide +kernel
theorem dX3_seen_11 : decode cX3_seen 11 = .ok (.ifCond .ne 5, 3) := by decide +kernel
theorem dX3_seen_14 : decode cX3_seen 14 = .ok (.iconst (-1), 1) := by decide +kernel
theorem dX3_seen_15 : decode cX3_seen 15 = .ok (.ireturn, 1) := by decide +kernel
theorem dX3_seen_16 : decode cX3_seen 16 = .ok (.aload_n 0, 1) := by decide +kernel
theorem dX3_seen_17 : decode cX3_seen 17 = .ok (.getfield 28, 3) := by decide +kernel
theorem dX3_seen_20 : decode cX3_seen 20 = .ok (.invokevirtual 120, 3) := by decide +kernel
theorem dX3_seen_23 : decode cX3_seen 23 = .ok (.ifCond .eq 21, 3) := by decide +kernel
theorem dX3_seen_26 : decode cX3_seen 26 = .ok (.aload_n 0, 1) := by decide +kernel
theorem dX3_seen_27 : decode cX3_seen 27 = .ok (.getfield 28, 3) := by decide +kernel
theorem dX3_seen_30 : decode cX3_seen 30 = .ok (.iload_n 1, 1) := by decide +kernel
theorem dX3_seen_31 : decode cX3_seen 31 = .ok (.aload_n 0, 1) := by decide +kernel
theorem dX3_seen_32 : decode cX3_seen 32 = .ok (.getfield 28, 3) := by decide +kernel
theorem dX3_seen_35 : decode cX3_seen 35 = .ok (.getfield 114, 3) := by decide +kernel
theorem dX3_seen_38 : decode cX3_seen 38 = .ok (.invokevirtual 123, 3) := by decide +kernel
theorem dX3_seen_41 : decode cX3_seen 41 = .ok (.goto 5, 3) := by decide +kernel
theorem dX3_seen_44 : decode cX3_seen 44 = .ok (.bipush (-3), 2) := by decide +kernel
theorem dX3_seen_46 : decode cX3_seen 46 = .ok (.ireturn, 1) := by decide +kernel
theorem dX3_whole_0 : decode cX3_whole 0 = .ok (.aload_n 0, 1) := by decide +kernel
theorem dX3_whole_1 : decode cX3_whole 1 = .ok (.getfield 28, 3) := by decide +kernel
theorem dX3_whole_4 : decode cX3_whole 4 = .ok (.invokevirtual 120, 3) := by decide +kernel
theorem dX3_whole_7 : decode cX3_whole 7 = .ok (.ifCond .eq 13, 3) := by decide +kernel
theorem dX3_whole_10 : decode cX3_whole 10 = .ok (.aload_n 0, 1) := by decide +kernel
theorem dX3_whole_11 : decode cX3_whole 11 = .ok (.getfield 28, 3) := by decide +kernel
theorem dX3_whole_14 : decode cX3_whole 14 = .ok (.invokevirtual 126, 3) := by decide +kernel
theorem dX3_whole_17 : decode cX3_whole 17 = .ok (.goto 5, 3) := by decide +kernel
theorem dX3_whole_20 : decode cX3_whole 20 = .ok (.bipush (-3), 2) := by decide +kernel
theorem dX3_whole_22 : decode cX3_whole 22 = .ok (.ireturn, 1) := by decide +kernel
theorem dX3_hidden_0 : decode cX3_hidden 0 = .ok (.iload_n 1, 1) := by decide +kernel
theorem dX3_hidden_1 : decode cX3_hidden 1 = .ok (.aload_n 0, 1) := by decide +kernel
theorem dX3_hidden_2 : decode cX3_hidden 2 = .ok (.getfield 28, 3) := by decide +kernel
theorem dX3_hidden_5 : decode cX3_hidden 5 = .ok (.getfield 94, 3) := by decide +kernel
theorem dX3_hidden_8 : decode cX3_hidden 8 = .ok (.invokestatic 39, 3) := by decide +kernel
theorem dX3_hidden_11 : decode cX3_hidden 11 = .ok (.ifCond .ne 5, 3) := by decide +kernel
theorem dX3_hidden_14 : decode cX3_hidden 14 = .ok (.iconst (-1), 1) := by decide +kernel
theorem dX3_hidden_15 : decode cX3_hidden 15 = .ok (.ireturn, 1) := by decide +kernel
theorem dX3_hidden_16 : decode cX3_hidden 16 = .ok (.aload_n 0, 1) := by decide +kernel
theorem dX3_hidden_17 : decode cX3_hidden 17 = .ok (.getfield 28, 3) := by decide +kernel
theorem dX3_hidden_20 : decode cX3_hidden 20 = .ok (.invokevirtual 120, 3) := by decide +kernel
theorem dX3_hidden_23 : decode cX3_hidden 23 = .ok (.ifCond .eq 14, 3) := by decide +kernel
theorem dX3_hidden_26 : decode cX3_hidden 26 = .ok (.aload_n 0, 1) := by decide +kernel
theorem dX3_hidden_27 : decode cX3_hidden 27 = .ok (.getfield 28, 3) := by decide +kernel
theorem dX3_hidden_30 : decode cX3_hidden 30 = .ok (.iload_n 1, 1) := by decide +kernel
theorem dX3_hidden_31 : decode cX3_hidden 31 = .ok (.invokevirtual 130, 3) := by decide +kernel
theorem dX3_hidden_34 : decode cX3_hidden 34 = .ok (.goto 5, 3) := by decide +kernel
theorem dX3_hidden_37 : decode cX3_hidden 37 = .ok (.bipush (-3), 2) := by decide +kernel
theorem dX3_hidden_39 : decode cX3_hidden 39 = .ok (.ireturn, 1) := by decide +kernel
theorem dX3_sight_0 : decode cX3_sight 0 = .ok (.iload_n 1, 1) := by decide +kernel
theorem dX3_sight_1 : decode cX3_sight 1 = .ok (.iconst 2, 1) := by decide +kernel
theorem dX3_sight_2 : decode cX3_sight 2 = .ok (.invokestatic 39, 3) := by decide +kernel
theorem dX3_sight_5 : decode cX3_sight 5 = .ok (.ifCond .eq 13, 3) := by decide +kernel
theorem dX3_sight_8 : decode cX3_sight 8 = .ok (.aload_n 0, 1) := by decide +kernel
theorem dX3_sight_9 : decode cX3_sight 9 = .ok (.getfield 28, 3) := by decide +kernel
theorem dX3_sight_12 : decode cX3_sight 12 = .ok (.invokevirtual 120, 3) := by decide +kernel
theorem dX3_sight_15 : decode cX3_sight 15 = .ok (.ifCond .ne 7, 3) := by decide +kernel
theorem dX3_sight_18 : decode cX3_sight 18 = .ok (.ldc2_w 133, 3) := by decide +kernel
theorem dX3_sight_21 : decode cX3_sight 21 = .ok (.lreturn, 1) := by decide +kernel
theorem dX3_sight_22 : decode cX3_sight 22 = .ok (.aload_n 0, 1) := by decide +kernel
theorem dX3_sight_23 : decode cX3_sight 23 = .ok (.getfield 28, 3) := by decide +kernel
theorem dX3_sight_26 : decode cX3_sight 26 = .ok (.invokevirtual 135, 3) := by decide +kernel
theorem dX3_sight_29 : decode cX3_sight 29 = .ok (.istore_n 2, 1) := by decide +kernel
theorem dX3_sight_30 : decode cX3_sight 30 = .ok (.iconst 1, 1) := by decide +kernel
theorem dX3_sight_31 : decode cX3_sight 31 = .ok (.iconst 4, 1) := by decide +kernel
theorem dX3_sight_32 : decode cX3_sight 32 = .ok (.aload_n 0, 1) := by decide +kernel
theorem dX3_sight_33 : decode cX3_sight 33 = .ok (.getfield 28, 3) := by decide +kernel
theorem dX3_sight_36 : decode cX3_sight 36 = .ok (.getfield 94, 3) := by decide +kernel
theorem dX3_sight_39 : decode cX3_sight 39 = .ok (.imul, 1) := by decide +kernel
theorem dX3_sight_40 : decode cX3_sight 40 = .ok (.invokestatic 138, 3) := by decide +kernel
theorem dX3_sight_43 : decode cX3_sight 43 = .ok (.istore_n 3, 1) := by decide +kernel
theorem dX3_sight_44 : decode cX3_sight 44 = .ok (.iload_n 1, 1) := by decide +kernel
theorem dX3_sight_45 : decode cX3_sight 45 = .ok (.ifCond .ne 7, 3) := by decide +kernel
theorem dX3_sight_48 : decode cX3_sight 48 = .ok (.iload_n 2, 1) := by decide +kernel
theorem dX3_sight_49 : decode cX3_sight 49 = .ok (.goto 4, 3) := by decide +kernel
theorem dX3_sight_52 : decode cX3_sight 52 = .ok (.iload_n 3, 1) := by decide +kernel
theorem dX3_sight_53 : decode cX3_sight 53 = .ok (.iload_n 2, 1) := by decide +kernel
theorem dX3_sight_54 : decode cX3_sight 54 = .ok (.iload_n 3, 1) := by decide +kernel
theorem dX3_sight_55 : decode cX3_sight 55 = .ok (.invokestatic 143, 3) := by decide +kernel
theorem dX3_sight_58 : decode cX3_sight 58 = .ok (.idiv, 1) := by decide +kernel
theorem dX3_sight_59 : decode cX3_sight 59 = .ok (.i2l, 1) := by decide +kernel
theorem dX3_sight_60 : decode cX3_sight 60 = .ok (.lreturn, 1) := by decide +kernel
theorem dX3_best_0 : decode cX3_best 0 = .ok (.iload_n 1, 1) := by decide +kernel
theorem dX3_best_1 : decode cX3_best 1 = .ok (.bipush 10, 2) := by decide +kernel
theorem dX3_best_3 : decode cX3_best 3 = .ok (.invokestatic 39, 3) := by decide +kernel
theorem dX3_best_6 : decode cX3_best 6 = .ok (.ifCond .eq 11, 3) := by decide +kernel
theorem dX3_best_9 : decode cX3_best 9 = .ok (.iload_n 2, 1) := by decide +kernel
theorem dX3_best_10 : decode cX3_best 10 = .ok (.iconst 2, 1) := by decide +kernel
theorem dX3_best_11 : decode cX3_best 11 = .ok (.invokestatic 39, 3) := by decide +kernel
theorem dX3_best_14 : decode cX3_best 14 = .ok (.ifCond .ne 6, 3) := by decide +kernel
theorem dX3_best_17 : decode cX3_best 17 = .ok (.bipush (-2), 2) := by decide +kernel
theorem dX3_best_19 : decode cX3_best 19 = .ok (.ireturn, 1) := by decide +kernel
theorem dX3_best_20 : decode cX3_best 20 = .ok (.aload_n 0, 1) := by decide +kernel
theorem dX3_best_21 : decode cX3_best 21 = .ok (.getfield 28, 3) := by decide +kernel
theorem dX3_best_24 : decode cX3_best 24 = .ok (.invokevirtual 100, 3) := by decide +kernel
theorem dX3_best_27 : decode cX3_best 27 = .ok (.ifCond .ne 6, 3) := by decide +kernel
theorem dX3_best_30 : decode cX3_best 30 = .ok (.bipush (-3), 2) := by decide +kernel
theorem dX3_best_32 : decode cX3_best 32 = .ok (.ireturn, 1) := by decide +kernel
theorem dX3_best_33 : decode cX3_best 33 = .ok (.aload_n 0, 1) := by decide +kernel
theorem dX3_best_34 : decode cX3_best 34 = .ok (.getfield 28, 3) := by decide +kernel
theorem dX3_best_37 : decode cX3_best 37 = .ok (.iload_n 1, 1) := by decide +kernel
theorem dX3_best_38 : decode cX3_best 38 = .ok (.invokevirtual 146, 3) := by decide +kernel
theorem dX3_best_41 : decode cX3_best 41 = .ok (.istore_n 3, 1) := by decide +kernel
theorem dX3_best_42 : decode cX3_best 42 = .ok (.iload_n 2, 1) := by decide +kernel
theorem dX3_best_43 : decode cX3_best 43 = .ok (.ifCond .ne 5, 3) := by decide +kernel
theorem dX3_best_46 : decode cX3_best 46 = .ok (.iload_n 3, 1) := by decide +kernel
theorem dX3_best_47 : decode cX3_best 47 = .ok (.ireturn, 1) := by decide +kernel
theorem dX3_best_48 : decode cX3_best 48 = .ok (.iload_n 3, 1) := by decide +kernel
theorem dX3_best_49 : decode cX3_best 49 = .ok (.bipush (-9), 2) := by decide +kernel
theorem dX3_best_51 : decode cX3_best 51 = .ok (.if_icmp .ne 7, 3) := by decide +kernel
theorem dX3_best_54 : decode cX3_best 54 = .ok (.iconst 0, 1) := by decide +kernel
theorem dX3_best_55 : decode cX3_best 55 = .ok (.goto 12, 3) := by decide +kernel
theorem dX3_best_58 : decode cX3_best 58 = .ok (.aload_n 0, 1) := by decide +kernel
theorem dX3_best_59 : decode cX3_best 59 = .ok (.getfield 28, 3) := by decide +kernel
theorem dX3_best_62 : decode cX3_best 62 = .ok (.iload_n 3, 1) := by decide +kernel
theorem dX3_best_63 : decode cX3_best 63 = .ok (.iload_n 1, 1) := by decide +kernel
theorem dX3_best_64 : decode cX3_best 64 = .ok (.invokevirtual 149, 3) := by decide +kernel
theorem dX3_best_67 : decode cX3_best 67 = .ok (.ireturn, 1) := by decide +kernel
theorem dX3_block_0 : decode cX3_block 0 = .ok (.iload_n 1, 1) := by decide +kernel
theorem dX3_block_1 : decode cX3_block 1 = .ok (.aload_n 0, 1) := by decide +kernel
theorem dX3_block_2 : decode cX3_block 2 = .ok (.getfield 28, 3) := by decide +kernel
theorem dX3_block_5 : decode cX3_block 5 = .ok (.getfield 61, 3) := by decide +kernel
theorem dX3_block_8 : decode cX3_block 8 = .ok (.invokestatic 39, 3) := by decide +kernel
theorem dX3_block_11 : decode cX3_block 11 = .ok (.ifCond .ne 5, 3) := by decide +kernel
theorem dX3_block_14 : decode cX3_block 14 = .ok (.iconst (-1), 1) := by decide +kernel
theorem dX3_block_15 : decode cX3_block 15 = .ok (.ireturn, 1) := by decide +kernel
theorem dX3_block_16 : decode cX3_block 16 = .ok (.iload_n 2, 1) := by decide +kernel
theorem dX3_block_17 : decode cX3_block 17 = .ok (.iconst 2, 1) := by decide +kernel
theorem dX3_block_18 : decode cX3_block 18 = .ok (.invokestatic 39, 3) := by decide +kernel
theorem dX3_block_21 : decode cX3_block 21 = .ok (.ifCond .ne 6, 3) := by decide +kernel
theorem dX3_block_24 : decode cX3_block 24 = .ok (.bipush (-2), 2) := by decide +kernel
theorem dX3_block_26 : decode cX3_block 26 = .ok (.ireturn, 1) := by decide +kernel
theorem dX3_block_27 : decode cX3_block 27 = .ok (.aload_n 0, 1) := by decide +kernel
theorem dX3_block_28 : decode cX3_block 28 = .ok (.getfield 28, 3) := by decide +kernel
theorem dX3_block_31 : decode cX3_block 31 = .ok (.iload_n 1, 1) := by decide +kernel
theorem dX3_block_32 : decode cX3_block 32 = .ok (.invokevirtual 111, 3) := by decide +kernel
theorem dX3_block_35 : decode cX3_block 35 = .ok (.ifCond .ne 6, 3) := by decide +kernel
theorem dX3_block_38 : decode cX3_block 38 = .ok (.bipush (-3), 2) := by decide +kernel
theorem dX3_block_40 : decode cX3_block 40 = .ok (.ireturn, 1) := by decide +kernel
theorem dX3_block_41 : decode cX3_block 41 = .ok (.aload_n 0, 1) := by decide +kernel
theorem dX3_block_42 : decode cX3_block 42 = .ok (.getfield 28, 3) := by decide +kernel
theorem dX3_block_45 : decode cX3_block 45 = .ok (.iload_n 1, 1) := by decide +kernel
theorem dX3_block_46 : decode cX3_block 46 = .ok (.invokevirtual 152, 3) := by decide +kernel
theorem dX3_block_49 : decode cX3_block 49 = .ok (.istore_n 3, 1) := by decide +kernel
theorem dX3_block_50 : decode cX3_block 50 = .ok (.iload_n 2, 1) := by decide +kernel
theorem dX3_block_51 : decode cX3_block 51 = .ok (.ifCond .ne 7, 3) := by decide +kernel
theorem dX3_block_54 : decode cX3_block 54 = .ok (.iload_n 3, 1) := by decide +kernel
theorem dX3_block_55 : decode cX3_block 55 = .ok (.goto 12, 3) := by decide +kernel
theorem dX3_block_58 : decode cX3_block 58 = .ok (.aload_n 0, 1) := by decide +kernel
theorem dX3_block_59 : decode cX3_block 59 = .ok (.getfield 28, 3) := by decide +kernel
theorem dX3_block_62 : decode cX3_block 62 = .ok (.iload_n 1, 1) := by decide +kernel
theorem dX3_block_63 : decode cX3_block 63 = .ok (.iload_n 3, 1) := by decide +kernel
theorem dX3_block_64 : decode cX3_block 64 = .ok (.invokevirtual 149, 3) := by decide +kernel
theorem dX3_block_67 : decode cX3_block 67 = .ok (.ireturn, 1) := by decide +kernel
theorem dX3_cuts_0 : decode cX3_cuts 0 = .ok (.iload_n 1, 1) := by decide +kernel
theorem dX3_cuts_1 : decode cX3_cuts 1 = .ok (.iconst 2, 1) := by decide +kernel
theorem dX3_cuts_2 : decode cX3_cuts 2 = .ok (.invokestatic 39, 3) := by decide +kernel
theorem dX3_cuts_5 : decode cX3_cuts 5 = .ok (.ifCond .ne 6, 3) := by decide +kernel
theorem dX3_cuts_8 : decode cX3_cuts 8 = .ok (.bipush (-2), 2) := by decide +kernel
theorem dX3_cuts_10 : decode cX3_cuts 10 = .ok (.ireturn, 1) := by decide +kernel
theorem dX3_cuts_11 : decode cX3_cuts 11 = .ok (.aload_n 0, 1) := by decide +kernel
theorem dX3_cuts_12 : decode cX3_cuts 12 = .ok (.getfield 28, 3) := by decide +kernel
theorem dX3_cuts_15 : decode cX3_cuts 15 = .ok (.invokevirtual 120, 3) := by decide +kernel
theorem dX3_cuts_18 : decode cX3_cuts 18 = .ok (.ifCond .ne 6, 3) := by decide +kernel
theorem dX3_cuts_21 : decode cX3_cuts 21 = .ok (.bipush (-3), 2) := by decide +kernel
theorem dX3_cuts_23 : decode cX3_cuts 23 = .ok (.ireturn, 1) := by decide +kernel
theorem dX3_cuts_24 : decode cX3_cuts 24 = .ok (.aload_n 0, 1) := by decide +kernel
theorem dX3_cuts_25 : decode cX3_cuts 25 = .ok (.getfield 28, 3) := by decide +kernel
theorem dX3_cuts_28 : decode cX3_cuts 28 = .ok (.invokevirtual 155, 3) := by decide +kernel
theorem dX3_cuts_31 : decode cX3_cuts 31 = .ok (.istore_n 2, 1) := by decide +kernel
theorem dX3_cuts_32 : decode cX3_cuts 32 = .ok (.iload_n 1, 1) := by decide +kernel
theorem dX3_cuts_33 : decode cX3_cuts 33 = .ok (.ifCond .ne 7, 3) := by decide +kernel
theorem dX3_cuts_36 : decode cX3_cuts 36 = .ok (.iload_n 2, 1) := by decide +kernel
theorem dX3_cuts_37 : decode cX3_cuts 37 = .ok (.goto 11, 3) := by decide +kernel
theorem dX3_cuts_40 : decode cX3_cuts 40 = .ok (.aload_n 0, 1) := by decide +kernel
theorem dX3_cuts_41 : decode cX3_cuts 41 = .ok (.getfield 28, 3) := by decide +kernel
theorem dX3_cuts_44 : decode cX3_cuts 44 = .ok (.iload_n 2, 1) := by decide +kernel
theorem dX3_cuts_45 : decode cX3_cuts 45 = .ok (.invokevirtual 158, 3) := by decide +kernel
theorem dX3_cuts_48 : decode cX3_cuts 48 = .ok (.ireturn, 1) := by decide +kernel
theorem dX3_complaints_0 : decode cX3_complaints 0 = .ok (.aload_n 0, 1) := by decide +kernel
theorem dX3_complaints_1 : decode cX3_complaints 1 = .ok (.getfield 28, 3) := by decide +kernel
theorem dX3_complaints_4 : decode cX3_complaints 4 = .ok (.invokevirtual 120, 3) := by decide +kernel
theorem dX3_complaints_7 : decode cX3_complaints 7 = .ok (.ifCond .eq 21, 3) := by decide +kernel
theorem dX3_complaints_10 : decode cX3_complaints 10 = .ok (.aload_n 0, 1) := by decide +kernel
theorem dX3_complaints_11 : decode cX3_complaints 11 = .ok (.getfield 28, 3) := by decide +kernel
theorem dX3_complaints_14 : decode cX3_complaints 14 = .ok (.iconst 0, 1) := by decide +kernel
theorem dX3_complaints_15 : decode cX3_complaints 15 = .ok (.aload_n 0, 1) := by decide +kernel
theorem dX3_complaints_16 : decode cX3_complaints 16 = .ok (.getfield 28, 3) := by decide +kernel
theorem dX3_complaints_19 : decode cX3_complaints 19 = .ok (.getfield 80, 3) := by decide +kernel
theorem dX3_complaints_22 : decode cX3_complaints 22 = .ok (.invokevirtual 161, 3) := by decide +kernel
theorem dX3_complaints_25 : decode cX3_complaints 25 = .ok (.goto 5, 3) := by decide +kernel
theorem dX3_complaints_28 : decode cX3_complaints 28 = .ok (.bipush (-3), 2) := by decide +kernel
theorem dX3_complaints_30 : decode cX3_complaints 30 = .ok (.ireturn, 1) := by decide +kernel
theorem dX3_moved_0 : decode cX3_moved 0 = .ok (.iload_n 1, 1) := by decide +kernel
theorem dX3_moved_1 : decode cX3_moved 1 = .ok (.aload_n 0, 1) := by decide +kernel
theorem dX3_moved_2 : decode cX3_moved 2 = .ok (.getfield 28, 3) := by decide +kernel
theorem dX3_moved_5 : decode cX3_moved 5 = .ok (.getfield 94, 3) := by decide +kernel
theorem dX3_moved_8 : decode cX3_moved 8 = .ok (.iushr, 1) := by decide +kernel
theorem dX3_moved_9 : decode cX3_moved 9 = .ok (.ifCond .eq 6, 3) := by decide +kernel
theorem dX3_moved_12 : decode cX3_moved 12 = .ok (.bipush (-2), 2) := by decide +kernel
theorem dX3_moved_14 : decode cX3_moved 14 = .ok (.ireturn, 1) := by decide +kernel
theorem dX3_moved_15 : decode cX3_moved 15 = .ok (.aload_n 0, 1) := by decide +kernel
theorem dX3_moved_16 : decode cX3_moved 16 = .ok (.getfield 28, 3) := by decide +kernel
theorem dX3_moved_19 : decode cX3_moved 19 = .ok (.invokevirtual 120, 3) := by decide +kernel
theorem dX3_moved_22 : decode cX3_moved 22 = .ok (.ifCond .eq 14, 3) := by decide +kernel
theorem dX3_moved_25 : decode cX3_moved 25 = .ok (.aload_n 0, 1) := by decide +kernel
theorem dX3_moved_26 : decode cX3_moved 26 = .ok (.getfield 28, 3) := by decide +kernel
theorem dX3_moved_29 : decode cX3_moved 29 = .ok (.iload_n 1, 1) := by decide +kernel
theorem dX3_moved_30 : decode cX3_moved 30 = .ok (.invokevirtual 164, 3) := by decide +kernel
theorem dX3_moved_33 : decode cX3_moved 33 = .ok (.goto 5, 3) := by decide +kernel
theorem dX3_moved_36 : decode cX3_moved 36 = .ok (.bipush (-3), 2) := by decide +kernel
theorem dX3_moved_38 : decode cX3_moved 38 = .ok (.ireturn, 1) := by decide +kernel
theorem dX3_years_0 : decode cX3_years 0 = .ok (.aload_n 0, 1) := by decide +kernel
theorem dX3_years_1 : decode cX3_years 1 = .ok (.getfield 28, 3) := by decide +kernel
theorem dX3_years_4 : decode cX3_years 4 = .ok (.invokevirtual 120, 3) := by decide +kernel
theorem dX3_years_7 : decode cX3_years 7 = .ok (.ifCond .eq 13, 3) := by decide +kernel
theorem dX3_years_10 : decode cX3_years 10 = .ok (.aload_n 0, 1) := by decide +kernel
theorem dX3_years_11 : decode cX3_years 11 = .ok (.getfield 28, 3) := by decide +kernel
theorem dX3_years_14 : decode cX3_years 14 = .ok (.invokevirtual 167, 3) := by decide +kernel
theorem dX3_years_17 : decode cX3_years 17 = .ok (.goto 5, 3) := by decide +kernel
theorem dX3_years_20 : decode cX3_years 20 = .ok (.bipush (-3), 2) := by decide +kernel
theorem dX3_years_22 : decode cX3_years 22 = .ok (.ireturn, 1) := by decide +kernel
theorem dX3_second_0 : decode cX3_second 0 = .ok (.aload_n 0, 1) := by decide +kernel
theorem dX3_second_1 : decode cX3_second 1 = .ok (.getfield 28, 3) := by decide +kernel
theorem dX3_second_4 : decode cX3_second 4 = .ok (.invokevirtual 120, 3) := by decide +kernel
theorem dX3_second_7 : decode cX3_second 7 = .ok (.ifCond .eq 13, 3) := by decide +kernel
theorem dX3_second_10 : decode cX3_second 10 = .ok (.aload_n 0, 1) := by decide +kernel
theorem dX3_second_11 : decode cX3_second 11 = .ok (.getfield 28, 3) := by decide +kernel
theorem dX3_second_14 : decode cX3_second 14 = .ok (.invokevirtual 170, 3) := by decide +kernel
theorem dX3_second_17 : decode cX3_second 17 = .ok (.goto 6, 3) := by decide +kernel
theorem dX3_second_20 : decode cX3_second 20 = .ok (.ldc2_w 133, 3) := by decide +kernel
theorem dX3_second_23 : decode cX3_second 23 = .ok (.lreturn, 1) := by decide +kernel
theorem dX3_lit_0 : decode cX3_lit 0 = .ok (.iload_n 1, 1) := by decide +kernel
theorem dX3_lit_1 : decode cX3_lit 1 = .ok (.iconst 2, 1) := by decide +kernel
theorem dX3_lit_2 : decode cX3_lit 2 = .ok (.invokestatic 39, 3) := by decide +kernel
theorem dX3_lit_5 : decode cX3_lit 5 = .ok (.ifCond .ne 6, 3) := by decide +kernel
theorem dX3_lit_8 : decode cX3_lit 8 = .ok (.bipush (-2), 2) := by decide +kernel
theorem dX3_lit_10 : decode cX3_lit 10 = .ok (.ireturn, 1) := by decide +kernel
theorem dX3_lit_11 : decode cX3_lit 11 = .ok (.aload_n 0, 1) := by decide +kernel
theorem dX3_lit_12 : decode cX3_lit 12 = .ok (.getfield 28, 3) := by decide +kernel
theorem dX3_lit_15 : decode cX3_lit 15 = .ok (.invokevirtual 120, 3) := by decide +kernel
theorem dX3_lit_18 : decode cX3_lit 18 = .ok (.ifCond .ne 6, 3) := by decide +kernel
theorem dX3_lit_21 : decode cX3_lit 21 = .ok (.bipush (-3), 2) := by decide +kernel
theorem dX3_lit_23 : decode cX3_lit 23 = .ok (.ireturn, 1) := by decide +kernel
theorem dX3_lit_24 : decode cX3_lit 24 = .ok (.iload_n 1, 1) := by decide +kernel
theorem dX3_lit_25 : decode cX3_lit 25 = .ok (.ifCond .ne 13, 3) := by decide +kernel
theorem dX3_lit_28 : decode cX3_lit 28 = .ok (.aload_n 0, 1) := by decide +kernel
theorem dX3_lit_29 : decode cX3_lit 29 = .ok (.getfield 28, 3) := by decide +kernel
theorem dX3_lit_32 : decode cX3_lit 32 = .ok (.invokevirtual 174, 3) := by decide +kernel
theorem dX3_lit_35 : decode cX3_lit 35 = .ok (.goto 10, 3) := by decide +kernel
theorem dX3_lit_38 : decode cX3_lit 38 = .ok (.aload_n 0, 1) := by decide +kernel
theorem dX3_lit_39 : decode cX3_lit 39 = .ok (.getfield 28, 3) := by decide +kernel
theorem dX3_lit_42 : decode cX3_lit 42 = .ok (.invokevirtual 177, 3) := by decide +kernel
theorem dX3_lit_45 : decode cX3_lit 45 = .ok (.ireturn, 1) := by decide +kernel
theorem dX3_sheet_0 : decode cX3_sheet 0 = .ok (.aload_n 0, 1) := by decide +kernel
theorem dX3_sheet_1 : decode cX3_sheet 1 = .ok (.iconst 0, 1) := by decide +kernel
theorem dX3_sheet_2 : decode cX3_sheet 2 = .ok (.putfield 36, 3) := by decide +kernel
theorem dX3_sheet_5 : decode cX3_sheet 5 = .ok (.iload_n 1, 1) := by decide +kernel
theorem dX3_sheet_6 : decode cX3_sheet 6 = .ok (.iconst 4, 1) := by decide +kernel
theorem dX3_sheet_7 : decode cX3_sheet 7 = .ok (.invokestatic 39, 3) := by decide +kernel
theorem dX3_sheet_10 : decode cX3_sheet 10 = .ok (.ifCond .ne 5, 3) := by decide +kernel
theorem dX3_sheet_13 : decode cX3_sheet 13 = .ok (.iconst (-1), 1) := by decide +kernel
theorem dX3_sheet_14 : decode cX3_sheet 14 = .ok (.ireturn, 1) := by decide +kernel
theorem dX3_sheet_15 : decode cX3_sheet 15 = .ok (.iload_n 2, 1) := by decide +kernel
theorem dX3_sheet_16 : decode cX3_sheet 16 = .ok (.iconst 3, 1) := by decide +kernel
theorem dX3_sheet_17 : decode cX3_sheet 17 = .ok (.invokestatic 39, 3) := by decide +kernel
theorem dX3_sheet_20 : decode cX3_sheet 20 = .ok (.ifCond .eq 9, 3) := by decide +kernel
theorem dX3_sheet_23 : decode cX3_sheet 23 = .ok (.iload_n 3, 1) := by decide +kernel
theorem dX3_sheet_24 : decode cX3_sheet 24 = .ok (.bipush 100, 2) := by decide +kernel
theorem dX3_sheet_26 : decode cX3_sheet 26 = .ok (.if_icmp .le 6, 3) := by decide +kernel
theorem dX3_sheet_29 : decode cX3_sheet 29 = .ok (.bipush (-2), 2) := by decide +kernel
theorem dX3_sheet_31 : decode cX3_sheet 31 = .ok (.ireturn, 1) := by decide +kernel
theorem dX3_sheet_32 : decode cX3_sheet 32 = .ok (.iload_n 3, 1) := by decide +kernel
theorem dX3_sheet_33 : decode cX3_sheet 33 = .ok (.ifCond .ge 9, 3) := by decide +kernel
theorem dX3_sheet_36 : decode cX3_sheet 36 = .ok (.aload_n 0, 1) := by decide +kernel
theorem dX3_sheet_37 : decode cX3_sheet 37 = .ok (.iconst 4, 1) := by decide +kernel
theorem dX3_sheet_38 : decode cX3_sheet 38 = .ok (.invokevirtual 50, 3) := by decide +kernel
theorem dX3_sheet_41 : decode cX3_sheet 41 = .ok (.ireturn, 1) := by decide +kernel
theorem dX3_sheet_42 : decode cX3_sheet 42 = .ok (.aload_n 0, 1) := by decide +kernel
theorem dX3_sheet_43 : decode cX3_sheet 43 = .ok (.getfield 13, 3) := by decide +kernel
theorem dX3_sheet_46 : decode cX3_sheet 46 = .ok (.iload_n 1, 1) := by decide +kernel
theorem dX3_sheet_47 : decode cX3_sheet 47 = .ok (.aaload, 1) := by decide +kernel
theorem dX3_sheet_48 : decode cX3_sheet 48 = .ok (.iload_n 2, 1) := by decide +kernel
theorem dX3_sheet_49 : decode cX3_sheet 49 = .ok (.iload_n 3, 1) := by decide +kernel
theorem dX3_sheet_50 : decode cX3_sheet 50 = .ok (.invokevirtual 180, 3) := by decide +kernel
theorem dX3_sheet_53 : decode cX3_sheet 53 = .ok (.iconst 1, 1) := by decide +kernel
theorem dX3_sheet_54 : decode cX3_sheet 54 = .ok (.ireturn, 1) := by decide +kernel
theorem dX3_lose_0 : decode cX3_lose 0 = .ok (.iload_n 1, 1) := by decide +kernel
theorem dX3_lose_1 : decode cX3_lose 1 = .ok (.iconst 4, 1) := by decide +kernel
theorem dX3_lose_2 : decode cX3_lose 2 = .ok (.invokestatic 39, 3) := by decide +kernel
theorem dX3_lose_5 : decode cX3_lose 5 = .ok (.ifCond .ne 5, 3) := by decide +kernel
theorem dX3_lose_8 : decode cX3_lose 8 = .ok (.iconst (-1), 1) := by decide +kernel
theorem dX3_lose_9 : decode cX3_lose 9 = .ok (.ireturn, 1) := by decide +kernel
theorem dX3_lose_10 : decode cX3_lose 10 = .ok (.aload_n 0, 1) := by decide +kernel
theorem dX3_lose_11 : decode cX3_lose 11 = .ok (.getfield 13, 3) := by decide +kernel
theorem dX3_lose_14 : decode cX3_lose 14 = .ok (.iload_n 1, 1) := by decide +kernel
theorem dX3_lose_15 : decode cX3_lose 15 = .ok (.aaload, 1) := by decide +kernel
theorem dX3_lose_16 : decode cX3_lose 16 = .ok (.getfield 184, 3) := by decide +kernel
theorem dX3_lose_19 : decode cX3_lose 19 = .ok (.istore_n 2, 1) := by decide +kernel
theorem dX3_lose_20 : decode cX3_lose 20 = .ok (.aload_n 0, 1) := by decide +kernel
theorem dX3_lose_21 : decode cX3_lose 21 = .ok (.getfield 13, 3) := by decide +kernel
theorem dX3_lose_24 : decode cX3_lose 24 = .ok (.iload_n 1, 1) := by decide +kernel
theorem dX3_lose_25 : decode cX3_lose 25 = .ok (.aaload, 1) := by decide +kernel
theorem dX3_lose_26 : decode cX3_lose 26 = .ok (.iconst 0, 1) := by decide +kernel
theorem dX3_lose_27 : decode cX3_lose 27 = .ok (.putfield 184, 3) := by decide +kernel
theorem dX3_lose_30 : decode cX3_lose 30 = .ok (.iload_n 2, 1) := by decide +kernel
theorem dX3_lose_31 : decode cX3_lose 31 = .ok (.ifCond .eq 7, 3) := by decide +kernel
theorem dX3_lose_34 : decode cX3_lose 34 = .ok (.iconst 1, 1) := by decide +kernel
theorem dX3_lose_35 : decode cX3_lose 35 = .ok (.goto 4, 3) := by decide +kernel
theorem dX3_lose_38 : decode cX3_lose 38 = .ok (.iconst 0, 1) := by decide +kernel
theorem dX3_lose_39 : decode cX3_lose 39 = .ok (.ireturn, 1) := by decide +kernel
theorem dX3_put_0 : decode cX3_put 0 = .ok (.aload_n 0, 1) := by decide +kernel
theorem dX3_put_1 : decode cX3_put 1 = .ok (.iconst 0, 1) := by decide +kernel
theorem dX3_put_2 : decode cX3_put 2 = .ok (.putfield 36, 3) := by decide +kernel
theorem dX3_put_5 : decode cX3_put 5 = .ok (.iload_n 1, 1) := by decide +kernel
theorem dX3_put_6 : decode cX3_put 6 = .ok (.iconst 4, 1) := by decide +kernel
theorem dX3_put_7 : decode cX3_put 7 = .ok (.invokestatic 39, 3) := by decide +kernel
theorem dX3_put_10 : decode cX3_put 10 = .ok (.ifCond .ne 5, 3) := by decide +kernel
theorem dX3_put_13 : decode cX3_put 13 = .ok (.iconst (-1), 1) := by decide +kernel
theorem dX3_put_14 : decode cX3_put 14 = .ok (.ireturn, 1) := by decide +kernel
theorem dX3_put_15 : decode cX3_put 15 = .ok (.aload_n 0, 1) := by decide +kernel
theorem dX3_put_16 : decode cX3_put 16 = .ok (.getfield 13, 3) := by decide +kernel
theorem dX3_put_19 : decode cX3_put 19 = .ok (.iload_n 1, 1) := by decide +kernel
theorem dX3_put_20 : decode cX3_put 20 = .ok (.aaload, 1) := by decide +kernel
theorem dX3_put_21 : decode cX3_put 21 = .ok (.astore 4, 2) := by decide +kernel
theorem dX3_put_23 : decode cX3_put 23 = .ok (.aload 4, 2) := by decide +kernel
theorem dX3_put_25 : decode cX3_put 25 = .ok (.getfield 184, 3) := by decide +kernel
theorem dX3_put_28 : decode cX3_put 28 = .ok (.ifCond .ne 9, 3) := by decide +kernel
theorem dX3_put_31 : decode cX3_put 31 = .ok (.aload_n 0, 1) := by decide +kernel
theorem dX3_put_32 : decode cX3_put 32 = .ok (.iconst 1, 1) := by decide +kernel
theorem dX3_put_33 : decode cX3_put 33 = .ok (.invokevirtual 50, 3) := by decide +kernel
theorem dX3_put_36 : decode cX3_put 36 = .ok (.ireturn, 1) := by decide +kernel
theorem dX3_put_37 : decode cX3_put 37 = .ok (.iload_n 2, 1) := by decide +kernel
theorem dX3_put_38 : decode cX3_put 38 = .ok (.aload 4, 2) := by decide +kernel
theorem dX3_put_40 : decode cX3_put 40 = .ok (.getfield 187, 3) := by decide +kernel
theorem dX3_put_43 : decode cX3_put 43 = .ok (.invokestatic 39, 3) := by decide +kernel
theorem dX3_put_46 : decode cX3_put 46 = .ok (.ifCond .ne 9, 3) := by decide +kernel
theorem dX3_put_49 : decode cX3_put 49 = .ok (.aload_n 0, 1) := by decide +kernel
theorem dX3_put_50 : decode cX3_put 50 = .ok (.iconst 3, 1) := by decide +kernel
theorem dX3_put_51 : decode cX3_put 51 = .ok (.invokevirtual 50, 3) := by decide +kernel
theorem dX3_put_54 : decode cX3_put 54 = .ok (.ireturn, 1) := by decide +kernel
theorem dX3_put_55 : decode cX3_put 55 = .ok (.aload 4, 2) := by decide +kernel
theorem dX3_put_57 : decode cX3_put 57 = .ok (.iload_n 2, 1) := by decide +kernel
theorem dX3_put_58 : decode cX3_put 58 = .ok (.iload_n 3, 1) := by decide +kernel
theorem dX3_put_59 : decode cX3_put 59 = .ok (.invokevirtual 190, 3) := by decide +kernel
theorem dX3_put_62 : decode cX3_put 62 = .ok (.iconst 1, 1) := by decide +kernel
theorem dX3_put_63 : decode cX3_put 63 = .ok (.ireturn, 1) := by decide +kernel
theorem dX3_cell_0 : decode cX3_cell 0 = .ok (.aload_n 0, 1) := by decide +kernel
theorem dX3_cell_1 : decode cX3_cell 1 = .ok (.iconst 0, 1) := by decide +kernel
theorem dX3_cell_2 : decode cX3_cell 2 = .ok (.putfield 36, 3) := by decide +kernel
theorem dX3_cell_5 : decode cX3_cell 5 = .ok (.iload_n 1, 1) := by decide +kernel
theorem dX3_cell_6 : decode cX3_cell 6 = .ok (.iconst 4, 1) := by decide +kernel
theorem dX3_cell_7 : decode cX3_cell 7 = .ok (.invokestatic 39, 3) := by decide +kernel
theorem dX3_cell_10 : decode cX3_cell 10 = .ok (.ifCond .eq 11, 3) := by decide +kernel
theorem dX3_cell_13 : decode cX3_cell 13 = .ok (.iload_n 3, 1) := by decide +kernel
theorem dX3_cell_14 : decode cX3_cell 14 = .ok (.iconst 3, 1) := by decide +kernel
theorem dX3_cell_15 : decode cX3_cell 15 = .ok (.invokestatic 39, 3) := by decide +kernel
theorem dX3_cell_18 : decode cX3_cell 18 = .ok (.ifCond .ne 7, 3) := by decide +kernel
theorem dX3_cell_21 : decode cX3_cell 21 = .ok (.ldc2_w 133, 3) := by decide +kernel
theorem dX3_cell_24 : decode cX3_cell 24 = .ok (.lreturn, 1) := by decide +kernel
theorem dX3_cell_25 : decode cX3_cell 25 = .ok (.aload_n 0, 1) := by decide +kernel
theorem dX3_cell_26 : decode cX3_cell 26 = .ok (.getfield 13, 3) := by decide +kernel
theorem dX3_cell_29 : decode cX3_cell 29 = .ok (.iload_n 1, 1) := by decide +kernel
theorem dX3_cell_30 : decode cX3_cell 30 = .ok (.aaload, 1) := by decide +kernel
theorem dX3_cell_31 : decode cX3_cell 31 = .ok (.astore 4, 2) := by decide +kernel
theorem dX3_cell_33 : decode cX3_cell 33 = .ok (.aload 4, 2) := by decide +kernel
theorem dX3_cell_35 : decode cX3_cell 35 = .ok (.iload_n 3, 1) := by decide +kernel
theorem dX3_cell_36 : decode cX3_cell 36 = .ok (.invokevirtual 43, 3) := by decide +kernel
theorem dX3_cell_39 : decode cX3_cell 39 = .ok (.istore 5, 2) := by decide +kernel
theorem dX3_cell_41 : decode cX3_cell 41 = .ok (.iload 5, 2) := by decide +kernel
theorem dX3_cell_43 : decode cX3_cell 43 = .ok (.ifCond .ne 18, 3) := by decide +kernel
theorem dX3_cell_46 : decode cX3_cell 46 = .ok (.iload_n 2, 1) := by decide +kernel
theorem dX3_cell_47 : decode cX3_cell 47 = .ok (.aload 4, 2) := by decide +kernel
theorem dX3_cell_49 : decode cX3_cell 49 = .ok (.getfield 187, 3) := by decide +kernel
theorem dX3_cell_52 : decode cX3_cell 52 = .ok (.invokestatic 39, 3) := by decide +kernel
theorem dX3_cell_55 : decode cX3_cell 55 = .ok (.ifCond .ne 6, 3) := by decide +kernel
theorem dX3_cell_58 : decode cX3_cell 58 = .ok (.iconst 3, 1) := by decide +kernel
theorem dX3_cell_59 : decode cX3_cell 59 = .ok (.istore 5, 2) := by decide +kernel
theorem dX3_cell_61 : decode cX3_cell 61 = .ok (.iload 5, 2) := by decide +kernel
theorem dX3_cell_63 : decode cX3_cell 63 = .ok (.ifCond .eq 13, 3) := by decide +kernel
theorem dX3_cell_66 : decode cX3_cell 66 = .ok (.aload_n 0, 1) := by decide +kernel
theorem dX3_cell_67 : decode cX3_cell 67 = .ok (.iload 5, 2) := by decide +kernel
theorem dX3_cell_69 : decode cX3_cell 69 = .ok (.putfield 36, 3) := by decide +kernel
theorem dX3_cell_72 : decode cX3_cell 72 = .ok (.ldc2_w 133, 3) := by decide +kernel
theorem dX3_cell_75 : decode cX3_cell 75 = .ok (.lreturn, 1) := by decide +kernel
theorem dX3_cell_76 : decode cX3_cell 76 = .ok (.aload 4, 2) := by decide +kernel
theorem dX3_cell_78 : decode cX3_cell 78 = .ok (.getfield 193, 3) := by decide +kernel
theorem dX3_cell_81 : decode cX3_cell 81 = .ok (.iload_n 2, 1) := by decide +kernel
theorem dX3_cell_82 : decode cX3_cell 82 = .ok (.iaload, 1) := by decide +kernel
theorem dX3_cell_83 : decode cX3_cell 83 = .ok (.i2l, 1) := by decide +kernel
theorem dX3_cell_84 : decode cX3_cell 84 = .ok (.lreturn, 1) := by decide +kernel
theorem dX3_copy_0 : decode cX3_copy 0 = .ok (.aload_n 0, 1) := by decide +kernel
theorem dX3_copy_1 : decode cX3_copy 1 = .ok (.iconst 0, 1) := by decide +kernel
theorem dX3_copy_2 : decode cX3_copy 2 = .ok (.putfield 36, 3) := by decide +kernel
theorem dX3_copy_5 : decode cX3_copy 5 = .ok (.iload_n 1, 1) := by decide +kernel
theorem dX3_copy_6 : decode cX3_copy 6 = .ok (.iconst 4, 1) := by decide +kernel
theorem dX3_copy_7 : decode cX3_copy 7 = .ok (.invokestatic 39, 3) := by decide +kernel
theorem dX3_copy_10 : decode cX3_copy 10 = .ok (.ifCond .eq 11, 3) := by decide +kernel
theorem dX3_copy_13 : decode cX3_copy 13 = .ok (.iload_n 3, 1) := by decide +kernel
theorem dX3_copy_14 : decode cX3_copy 14 = .ok (.iconst 4, 1) := by decide +kernel
theorem dX3_copy_15 : decode cX3_copy 15 = .ok (.invokestatic 39, 3) := by decide +kernel
theorem dX3_copy_18 : decode cX3_copy 18 = .ok (.ifCond .ne 5, 3) := by decide +kernel
theorem dX3_copy_21 : decode cX3_copy 21 = .ok (.iconst (-1), 1) := by decide +kernel
theorem dX3_copy_22 : decode cX3_copy 22 = .ok (.ireturn, 1) := by decide +kernel
theorem dX3_copy_23 : decode cX3_copy 23 = .ok (.aload_n 0, 1) := by decide +kernel
theorem dX3_copy_24 : decode cX3_copy 24 = .ok (.getfield 13, 3) := by decide +kernel
theorem dX3_copy_27 : decode cX3_copy 27 = .ok (.iload_n 1, 1) := by decide +kernel
theorem dX3_copy_28 : decode cX3_copy 28 = .ok (.aaload, 1) := by decide +kernel
theorem dX3_copy_29 : decode cX3_copy 29 = .ok (.astore 6, 2) := by decide +kernel
theorem dX3_copy_31 : decode cX3_copy 31 = .ok (.aload_n 0, 1) := by decide +kernel
theorem dX3_copy_32 : decode cX3_copy 32 = .ok (.getfield 13, 3) := by decide +kernel
theorem dX3_copy_35 : decode cX3_copy 35 = .ok (.iload_n 3, 1) := by decide +kernel
theorem dX3_copy_36 : decode cX3_copy 36 = .ok (.aaload, 1) := by decide +kernel
theorem dX3_copy_37 : decode cX3_copy 37 = .ok (.astore 7, 2) := by decide +kernel
theorem dX3_copy_39 : decode cX3_copy 39 = .ok (.aload 6, 2) := by decide +kernel
theorem dX3_copy_41 : decode cX3_copy 41 = .ok (.getfield 184, 3) := by decide +kernel
theorem dX3_copy_44 : decode cX3_copy 44 = .ok (.ifCond .eq 11, 3) := by decide +kernel
theorem dX3_copy_47 : decode cX3_copy 47 = .ok (.aload 7, 2) := by decide +kernel
theorem dX3_copy_49 : decode cX3_copy 49 = .ok (.getfield 184, 3) := by decide +kernel
theorem dX3_copy_52 : decode cX3_copy 52 = .ok (.ifCond .ne 9, 3) := by decide +kernel
theorem dX3_copy_55 : decode cX3_copy 55 = .ok (.aload_n 0, 1) := by decide +kernel
theorem dX3_copy_56 : decode cX3_copy 56 = .ok (.iconst 1, 1) := by decide +kernel
theorem dX3_copy_57 : decode cX3_copy 57 = .ok (.invokevirtual 50, 3) := by decide +kernel
theorem dX3_copy_60 : decode cX3_copy 60 = .ok (.ireturn, 1) := by decide +kernel
theorem dX3_copy_61 : decode cX3_copy 61 = .ok (.aload 6, 2) := by decide +kernel
theorem dX3_copy_63 : decode cX3_copy 63 = .ok (.getfield 196, 3) := by decide +kernel
theorem dX3_copy_66 : decode cX3_copy 66 = .ok (.aload 7, 2) := by decide +kernel
theorem dX3_copy_68 : decode cX3_copy 68 = .ok (.getfield 196, 3) := by decide +kernel
theorem dX3_copy_71 : decode cX3_copy 71 = .ok (.if_icmp .eq 9, 3) := by decide +kernel
theorem dX3_copy_74 : decode cX3_copy 74 = .ok (.aload_n 0, 1) := by decide +kernel
theorem dX3_copy_75 : decode cX3_copy 75 = .ok (.iconst 2, 1) := by decide +kernel
theorem dX3_copy_76 : decode cX3_copy 76 = .ok (.invokevirtual 50, 3) := by decide +kernel
theorem dX3_copy_79 : decode cX3_copy 79 = .ok (.ireturn, 1) := by decide +kernel
theorem dX3_copy_80 : decode cX3_copy 80 = .ok (.aload 6, 2) := by decide +kernel
theorem dX3_copy_82 : decode cX3_copy 82 = .ok (.iload_n 2, 1) := by decide +kernel
theorem dX3_copy_83 : decode cX3_copy 83 = .ok (.iload 5, 2) := by decide +kernel
theorem dX3_copy_85 : decode cX3_copy 85 = .ok (.invokevirtual 47, 3) := by decide +kernel
theorem dX3_copy_88 : decode cX3_copy 88 = .ok (.ifCond .eq 15, 3) := by decide +kernel
theorem dX3_copy_91 : decode cX3_copy 91 = .ok (.aload 7, 2) := by decide +kernel
theorem dX3_copy_93 : decode cX3_copy 93 = .ok (.iload 4, 2) := by decide +kernel
theorem dX3_copy_95 : decode cX3_copy 95 = .ok (.iload 5, 2) := by decide +kernel
theorem dX3_copy_97 : decode cX3_copy 97 = .ok (.invokevirtual 47, 3) := by decide +kernel
theorem dX3_copy_100 : decode cX3_copy 100 = .ok (.ifCond .ne 9, 3) := by decide +kernel
theorem dX3_copy_103 : decode cX3_copy 103 = .ok (.aload_n 0, 1) := by decide +kernel
theorem dX3_copy_104 : decode cX3_copy 104 = .ok (.iconst 3, 1) := by decide +kernel
theorem dX3_copy_105 : decode cX3_copy 105 = .ok (.invokevirtual 50, 3) := by decide +kernel
theorem dX3_copy_108 : decode cX3_copy 108 = .ok (.ireturn, 1) := by decide +kernel
theorem dX3_copy_109 : decode cX3_copy 109 = .ok (.aload 6, 2) := by decide +kernel
theorem dX3_copy_111 : decode cX3_copy 111 = .ok (.getfield 193, 3) := by decide +kernel
theorem dX3_copy_114 : decode cX3_copy 114 = .ok (.iload_n 2, 1) := by decide +kernel
theorem dX3_copy_115 : decode cX3_copy 115 = .ok (.aload 7, 2) := by decide +kernel
theorem dX3_copy_117 : decode cX3_copy 117 = .ok (.getfield 193, 3) := by decide +kernel
theorem dX3_copy_120 : decode cX3_copy 120 = .ok (.iload 4, 2) := by decide +kernel
theorem dX3_copy_122 : decode cX3_copy 122 = .ok (.iload 5, 2) := by decide +kernel
theorem dX3_copy_124 : decode cX3_copy 124 = .ok (.invokestatic 199, 3) := by decide +kernel
theorem dX3_copy_127 : decode cX3_copy 127 = .ok (.iload 5, 2) := by decide +kernel
theorem dX3_copy_129 : decode cX3_copy 129 = .ok (.ireturn, 1) := by decide +kernel
theorem dX3_tell_0 : decode cX3_tell 0 = .ok (.iload_n 1, 1) := by decide +kernel
theorem dX3_tell_1 : decode cX3_tell 1 = .ok (.aload_n 0, 1) := by decide +kernel
theorem dX3_tell_2 : decode cX3_tell 2 = .ok (.getfield 28, 3) := by decide +kernel
theorem dX3_tell_5 : decode cX3_tell 5 = .ok (.getfield 68, 3) := by decide +kernel
theorem dX3_tell_8 : decode cX3_tell 8 = .ok (.invokestatic 39, 3) := by decide +kernel
theorem dX3_tell_11 : decode cX3_tell 11 = .ok (.ifCond .ne 5, 3) := by decide +kernel
theorem dX3_tell_14 : decode cX3_tell 14 = .ok (.iconst (-1), 1) := by decide +kernel
theorem dX3_tell_15 : decode cX3_tell 15 = .ok (.ireturn, 1) := by decide +kernel
theorem dX3_tell_16 : decode cX3_tell 16 = .ok (.aload_n 0, 1) := by decide +kernel
theorem dX3_tell_17 : decode cX3_tell 17 = .ok (.getfield 28, 3) := by decide +kernel
theorem dX3_tell_20 : decode cX3_tell 20 = .ok (.getfield 71, 3) := by decide +kernel
theorem dX3_tell_23 : decode cX3_tell 23 = .ok (.iload_n 1, 1) := by decide +kernel
theorem dX3_tell_24 : decode cX3_tell 24 = .ok (.iaload, 1) := by decide +kernel
theorem dX3_tell_25 : decode cX3_tell 25 = .ok (.lookupswitch 39 #[(1, 33), (2, 27)], 27) := by decide +kernel
theorem dX3_tell_52 : decode cX3_tell 52 = .ok (.aload_n 0, 1) := by decide +kernel
theorem dX3_tell_53 : decode cX3_tell 53 = .ok (.iload_n 1, 1) := by decide +kernel
theorem dX3_tell_54 : decode cX3_tell 54 = .ok (.invokevirtual 205, 3) := by decide +kernel
theorem dX3_tell_57 : decode cX3_tell 57 = .ok (.ireturn, 1) := by decide +kernel
theorem dX3_tell_58 : decode cX3_tell 58 = .ok (.aload_n 0, 1) := by decide +kernel
theorem dX3_tell_59 : decode cX3_tell 59 = .ok (.iload_n 1, 1) := by decide +kernel
theorem dX3_tell_60 : decode cX3_tell 60 = .ok (.invokevirtual 208, 3) := by decide +kernel
theorem dX3_tell_63 : decode cX3_tell 63 = .ok (.ireturn, 1) := by decide +kernel
theorem dX3_tell_64 : decode cX3_tell 64 = .ok (.aload_n 0, 1) := by decide +kernel
theorem dX3_tell_65 : decode cX3_tell 65 = .ok (.iload_n 1, 1) := by decide +kernel
theorem dX3_tell_66 : decode cX3_tell 66 = .ok (.invokevirtual 211, 3) := by decide +kernel
theorem dX3_tell_69 : decode cX3_tell 69 = .ok (.ireturn, 1) := by decide +kernel
theorem dX3_tend_0 : decode cX3_tend 0 = .ok (.iload_n 1, 1) := by decide +kernel
theorem dX3_tend_1 : decode cX3_tend 1 = .ok (.aload_n 0, 1) := by decide +kernel
theorem dX3_tend_2 : decode cX3_tend 2 = .ok (.getfield 28, 3) := by decide +kernel
theorem dX3_tend_5 : decode cX3_tend 5 = .ok (.getfield 68, 3) := by decide +kernel
theorem dX3_tend_8 : decode cX3_tend 8 = .ok (.invokestatic 39, 3) := by decide +kernel
theorem dX3_tend_11 : decode cX3_tend 11 = .ok (.ifCond .ne 5, 3) := by decide +kernel
theorem dX3_tend_14 : decode cX3_tend 14 = .ok (.iconst (-1), 1) := by decide +kernel
theorem dX3_tend_15 : decode cX3_tend 15 = .ok (.ireturn, 1) := by decide +kernel
theorem dX3_tend_16 : decode cX3_tend 16 = .ok (.aload_n 0, 1) := by decide +kernel
theorem dX3_tend_17 : decode cX3_tend 17 = .ok (.getfield 28, 3) := by decide +kernel
theorem dX3_tend_20 : decode cX3_tend 20 = .ok (.getfield 71, 3) := by decide +kernel
theorem dX3_tend_23 : decode cX3_tend 23 = .ok (.iload_n 1, 1) := by decide +kernel
theorem dX3_tend_24 : decode cX3_tend 24 = .ok (.iaload, 1) := by decide +kernel
theorem dX3_tend_25 : decode cX3_tend 25 = .ok (.iconst 2, 1) := by decide +kernel
theorem dX3_tend_26 : decode cX3_tend 26 = .ok (.if_icmp .ne 10, 3) := by decide +kernel
theorem dX3_tend_29 : decode cX3_tend 29 = .ok (.aload_n 0, 1) := by decide +kernel
theorem dX3_tend_30 : decode cX3_tend 30 = .ok (.invokevirtual 214, 3) := by decide +kernel
theorem dX3_tend_33 : decode cX3_tend 33 = .ok (.goto 8, 3) := by decide +kernel
theorem dX3_tend_36 : decode cX3_tend 36 = .ok (.aload_n 0, 1) := by decide +kernel
theorem dX3_tend_37 : decode cX3_tend 37 = .ok (.iload_n 1, 1) := by decide +kernel
theorem dX3_tend_38 : decode cX3_tend 38 = .ok (.invokevirtual 217, 3) := by decide +kernel
theorem dX3_tend_41 : decode cX3_tend 41 = .ok (.ireturn, 1) := by decide +kernel
theorem dX3_as_0 : decode cX3_as 0 = .ok (.aload_n 0, 1) := by decide +kernel
theorem dX3_as_1 : decode cX3_as 1 = .ok (.iconst 0, 1) := by decide +kernel
theorem dX3_as_2 : decode cX3_as 2 = .ok (.putfield 36, 3) := by decide +kernel
theorem dX3_as_5 : decode cX3_as 5 = .ok (.iload_n 1, 1) := by decide +kernel
theorem dX3_as_6 : decode cX3_as 6 = .ok (.aload_n 0, 1) := by decide +kernel
theorem dX3_as_7 : decode cX3_as 7 = .ok (.getfield 28, 3) := by decide +kernel
theorem dX3_as_10 : decode cX3_as 10 = .ok (.getfield 68, 3) := by decide +kernel
theorem dX3_as_13 : decode cX3_as 13 = .ok (.invokestatic 39, 3) := by decide +kernel
theorem dX3_as_16 : decode cX3_as 16 = .ok (.ifCond .ne 5, 3) := by decide +kernel
theorem dX3_as_19 : decode cX3_as 19 = .ok (.iconst (-1), 1) := by decide +kernel
theorem dX3_as_20 : decode cX3_as 20 = .ok (.ireturn, 1) := by decide +kernel
theorem dX3_as_21 : decode cX3_as 21 = .ok (.iload_n 2, 1) := by decide +kernel
theorem dX3_as_22 : decode cX3_as 22 = .ok (.iconst 3, 1) := by decide +kernel
theorem dX3_as_23 : decode cX3_as 23 = .ok (.invokestatic 39, 3) := by decide +kernel
theorem dX3_as_26 : decode cX3_as 26 = .ok (.ifCond .ne 6, 3) := by decide +kernel
theorem dX3_as_29 : decode cX3_as 29 = .ok (.bipush (-2), 2) := by decide +kernel
theorem dX3_as_31 : decode cX3_as 31 = .ok (.ireturn, 1) := by decide +kernel
theorem dX3_as_32 : decode cX3_as 32 = .ok (.aload_n 0, 1) := by decide +kernel
theorem dX3_as_33 : decode cX3_as 33 = .ok (.getfield 28, 3) := by decide +kernel
theorem dX3_as_36 : decode cX3_as 36 = .ok (.getfield 71, 3) := by decide +kernel
theorem dX3_as_39 : decode cX3_as 39 = .ok (.iload_n 1, 1) := by decide +kernel
theorem dX3_as_40 : decode cX3_as 40 = .ok (.iaload, 1) := by decide +kernel
theorem dX3_as_41 : decode cX3_as 41 = .ok (.iload_n 2, 1) := by decide +kernel
theorem dX3_as_42 : decode cX3_as 42 = .ok (.if_icmp .ge 11, 3) := by decide +kernel
theorem dX3_as_45 : decode cX3_as 45 = .ok (.aload_n 0, 1) := by decide +kernel
theorem dX3_as_46 : decode cX3_as 46 = .ok (.iconst 2, 1) := by decide +kernel
theorem dX3_as_47 : decode cX3_as 47 = .ok (.invokevirtual 50, 3) := by decide +kernel
theorem dX3_as_50 : decode cX3_as 50 = .ok (.goto 4, 3) := by decide +kernel
theorem dX3_as_53 : decode cX3_as 53 = .ok (.iconst 1, 1) := by decide +kernel
theorem dX3_as_54 : decode cX3_as 54 = .ok (.ireturn, 1) := by decide +kernel
theorem dX3_trace_0 : decode cX3_trace 0 = .ok (.aload_n 0, 1) := by decide +kernel
theorem dX3_trace_1 : decode cX3_trace 1 = .ok (.getfield 32, 3) := by decide +kernel
theorem dX3_trace_4 : decode cX3_trace 4 = .ok (.ireturn, 1) := by decide +kernel
theorem dX3_fault_0 : decode cX3_fault 0 = .ok (.aload_n 0, 1) := by decide +kernel
theorem dX3_fault_1 : decode cX3_fault 1 = .ok (.getfield 36, 3) := by decide +kernel
theorem dX3_fault_4 : decode cX3_fault 4 = .ok (.ireturn, 1) := by decide +kernel
theorem dX3_many_0 : decode cX3_many 0 = .ok (.iload_n 1, 1) := by decide +kernel
theorem dX3_many_1 : decode cX3_many 1 = .ok (.tableswitch 75 0 4 #[35, 43, 51, 59, 67], 35) := by decide +kernel
theorem dX3_many_36 : decode cX3_many 36 = .ok (.aload_n 0, 1) := by decide +kernel
theorem dX3_many_37 : decode cX3_many 37 = .ok (.getfield 28, 3) := by decide +kernel
theorem dX3_many_40 : decode cX3_many 40 = .ok (.getfield 61, 3) := by decide +kernel
theorem dX3_many_43 : decode cX3_many 43 = .ok (.ireturn, 1) := by decide +kernel
theorem dX3_many_44 : decode cX3_many 44 = .ok (.aload_n 0, 1) := by decide +kernel
theorem dX3_many_45 : decode cX3_many 45 = .ok (.getfield 28, 3) := by decide +kernel
theorem dX3_many_48 : decode cX3_many 48 = .ok (.getfield 220, 3) := by decide +kernel
theorem dX3_many_51 : decode cX3_many 51 = .ok (.ireturn, 1) := by decide +kernel
theorem dX3_many_52 : decode cX3_many 52 = .ok (.aload_n 0, 1) := by decide +kernel
theorem dX3_many_53 : decode cX3_many 53 = .ok (.getfield 28, 3) := by decide +kernel
theorem dX3_many_56 : decode cX3_many 56 = .ok (.getfield 94, 3) := by decide +kernel
theorem dX3_many_59 : decode cX3_many 59 = .ok (.ireturn, 1) := by decide +kernel
theorem dX3_many_60 : decode cX3_many 60 = .ok (.aload_n 0, 1) := by decide +kernel
theorem dX3_many_61 : decode cX3_many 61 = .ok (.getfield 28, 3) := by decide +kernel
theorem dX3_many_64 : decode cX3_many 64 = .ok (.getfield 68, 3) := by decide +kernel
theorem dX3_many_67 : decode cX3_many 67 = .ok (.ireturn, 1) := by decide +kernel
theorem dX3_many_68 : decode cX3_many 68 = .ok (.aload_n 0, 1) := by decide +kernel
theorem dX3_many_69 : decode cX3_many 69 = .ok (.getfield 28, 3) := by decide +kernel
theorem dX3_many_72 : decode cX3_many 72 = .ok (.getfield 80, 3) := by decide +kernel
theorem dX3_many_75 : decode cX3_many 75 = .ok (.ireturn, 1) := by decide +kernel
theorem dX3_many_76 : decode cX3_many 76 = .ok (.bipush (-2), 2) := by decide +kernel
theorem dX3_many_78 : decode cX3_many 78 = .ok (.ireturn, 1) := by decide +kernel
theorem dX3_failed_0 : decode cX3_failed 0 = .ok (.aload_n 0, 1) := by decide +kernel
theorem dX3_failed_1 : decode cX3_failed 1 = .ok (.iload_n 1, 1) := by decide +kernel
theorem dX3_failed_2 : decode cX3_failed 2 = .ok (.putfield 36, 3) := by decide +kernel
theorem dX3_failed_5 : decode cX3_failed 5 = .ok (.bipush (-10), 2) := by decide +kernel
theorem dX3_failed_7 : decode cX3_failed 7 = .ok (.iload_n 1, 1) := by decide +kernel
theorem dX3_failed_8 : decode cX3_failed 8 = .ok (.isub, 1) := by decide +kernel
theorem dX3_failed_9 : decode cX3_failed 9 = .ok (.ireturn, 1) := by decide +kernel
theorem dX3_tellLamp_0 : decode cX3_tellLamp 0 = .ok (.aload_n 0, 1) := by decide +kernel
theorem dX3_tellLamp_1 : decode cX3_tellLamp 1 = .ok (.iconst 1, 1) := by decide +kernel
theorem dX3_tellLamp_2 : decode cX3_tellLamp 2 = .ok (.invokevirtual 223, 3) := by decide +kernel
theorem dX3_tellLamp_5 : decode cX3_tellLamp 5 = .ok (.aload_n 0, 1) := by decide +kernel
theorem dX3_tellLamp_6 : decode cX3_tellLamp 6 = .ok (.getfield 28, 3) := by decide +kernel
theorem dX3_tellLamp_9 : decode cX3_tellLamp 9 = .ok (.getfield 77, 3) := by decide +kernel
theorem dX3_tellLamp_12 : decode cX3_tellLamp 12 = .ok (.iload_n 1, 1) := by decide +kernel
theorem dX3_tellLamp_13 : decode cX3_tellLamp 13 = .ok (.iaload, 1) := by decide +kernel
theorem dX3_tellLamp_14 : decode cX3_tellLamp 14 = .ok (.ireturn, 1) := by decide +kernel
theorem dX3_tellUrn_0 : decode cX3_tellUrn 0 = .ok (.aload_n 0, 1) := by decide +kernel
theorem dX3_tellUrn_1 : decode cX3_tellUrn 1 = .ok (.iconst 2, 1) := by decide +kernel
theorem dX3_tellUrn_2 : decode cX3_tellUrn 2 = .ok (.invokevirtual 223, 3) := by decide +kernel
theorem dX3_tellUrn_5 : decode cX3_tellUrn 5 = .ok (.aload_n 0, 1) := by decide +kernel
theorem dX3_tellUrn_6 : decode cX3_tellUrn 6 = .ok (.iload_n 1, 1) := by decide +kernel
theorem dX3_tellUrn_7 : decode cX3_tellUrn 7 = .ok (.invokevirtual 211, 3) := by decide +kernel
theorem dX3_tellUrn_10 : decode cX3_tellUrn 10 = .ok (.bipush 100, 2) := by decide +kernel
theorem dX3_tellUrn_12 : decode cX3_tellUrn 12 = .ok (.iadd, 1) := by decide +kernel
theorem dX3_tellUrn_13 : decode cX3_tellUrn 13 = .ok (.ireturn, 1) := by decide +kernel
theorem dX3_tellTree_0 : decode cX3_tellTree 0 = .ok (.aload_n 0, 1) := by decide +kernel
theorem dX3_tellTree_1 : decode cX3_tellTree 1 = .ok (.iconst 3, 1) := by decide +kernel
theorem dX3_tellTree_2 : decode cX3_tellTree 2 = .ok (.invokevirtual 223, 3) := by decide +kernel
theorem dX3_tellTree_5 : decode cX3_tellTree 5 = .ok (.aload_n 0, 1) := by decide +kernel
theorem dX3_tellTree_6 : decode cX3_tellTree 6 = .ok (.iload_n 1, 1) := by decide +kernel
theorem dX3_tellTree_7 : decode cX3_tellTree 7 = .ok (.invokevirtual 208, 3) := by decide +kernel
theorem dX3_tellTree_10 : decode cX3_tellTree 10 = .ok (.istore_n 2, 1) := by decide +kernel
theorem dX3_tellTree_11 : decode cX3_tellTree 11 = .ok (.iload_n 2, 1) := by decide +kernel
theorem dX3_tellTree_12 : decode cX3_tellTree 12 = .ok (.aload_n 0, 1) := by decide +kernel
theorem dX3_tellTree_13 : decode cX3_tellTree 13 = .ok (.iload_n 1, 1) := by decide +kernel
theorem dX3_tellTree_14 : decode cX3_tellTree 14 = .ok (.invokevirtual 211, 3) := by decide +kernel
theorem dX3_tellTree_17 : decode cX3_tellTree 17 = .ok (.iadd, 1) := by decide +kernel
theorem dX3_tellTree_18 : decode cX3_tellTree 18 = .ok (.ireturn, 1) := by decide +kernel
theorem dX3_tendLent_0 : decode cX3_tendLent 0 = .ok (.aload_n 0, 1) := by decide +kernel
theorem dX3_tendLent_1 : decode cX3_tendLent 1 = .ok (.iconst 4, 1) := by decide +kernel
theorem dX3_tendLent_2 : decode cX3_tendLent 2 = .ok (.invokevirtual 223, 3) := by decide +kernel
theorem dX3_tendLent_5 : decode cX3_tendLent 5 = .ok (.iload_n 1, 1) := by decide +kernel
theorem dX3_tendLent_6 : decode cX3_tendLent 6 = .ok (.ireturn, 1) := by decide +kernel
theorem dX3_tendTree_0 : decode cX3_tendTree 0 = .ok (.aload_n 0, 1) := by decide +kernel
theorem dX3_tendTree_1 : decode cX3_tendTree 1 = .ok (.iconst 5, 1) := by decide +kernel
theorem dX3_tendTree_2 : decode cX3_tendTree 2 = .ok (.invokevirtual 223, 3) := by decide +kernel
theorem dX3_tendTree_5 : decode cX3_tendTree 5 = .ok (.bipush 40, 2) := by decide +kernel
theorem dX3_tendTree_7 : decode cX3_tendTree 7 = .ok (.ireturn, 1) := by decide +kernel
theorem dX3_leaveInTrace_0 : decode cX3_leaveInTrace 0 = .ok (.aload_n 0, 1) := by decide +kernel
theorem dX3_leaveInTrace_1 : decode cX3_leaveInTrace 1 = .ok (.bipush 31, 2) := by decide +kernel
theorem dX3_leaveInTrace_3 : decode cX3_leaveInTrace 3 = .ok (.aload_n 0, 1) := by decide +kernel
theorem dX3_leaveInTrace_4 : decode cX3_leaveInTrace 4 = .ok (.getfield 32, 3) := by decide +kernel
theorem dX3_leaveInTrace_7 : decode cX3_leaveInTrace 7 = .ok (.imul, 1) := by decide +kernel
theorem dX3_leaveInTrace_8 : decode cX3_leaveInTrace 8 = .ok (.iload_n 1, 1) := by decide +kernel
theorem dX3_leaveInTrace_9 : decode cX3_leaveInTrace 9 = .ok (.iadd, 1) := by decide +kernel
theorem dX3_leaveInTrace_10 : decode cX3_leaveInTrace 10 = .ok (.putfield 32, 3) := by decide +kernel
theorem dX3_leaveInTrace_13 : decode cX3_leaveInTrace 13 = .ok (.return_, 1) := by decide +kernel
theorem dX3_isBelow_0 : decode cX3_isBelow 0 = .ok (.iload_n 0, 1) := by decide +kernel
theorem dX3_isBelow_1 : decode cX3_isBelow 1 = .ok (.ifCond .lt 12, 3) := by decide +kernel
theorem dX3_isBelow_4 : decode cX3_isBelow 4 = .ok (.iload_n 0, 1) := by decide +kernel
theorem dX3_isBelow_5 : decode cX3_isBelow 5 = .ok (.iload_n 1, 1) := by decide +kernel
theorem dX3_isBelow_6 : decode cX3_isBelow 6 = .ok (.if_icmp .ge 7, 3) := by decide +kernel
theorem dX3_isBelow_9 : decode cX3_isBelow 9 = .ok (.iconst 1, 1) := by decide +kernel
theorem dX3_isBelow_10 : decode cX3_isBelow 10 = .ok (.goto 4, 3) := by decide +kernel
theorem dX3_isBelow_13 : decode cX3_isBelow 13 = .ok (.iconst 0, 1) := by decide +kernel
theorem dX3_isBelow_14 : decode cX3_isBelow 14 = .ok (.ireturn, 1) := by decide +kernel
theorem dX3_greatestDivisor_0 : decode cX3_greatestDivisor 0 = .ok (.iload_n 1, 1) := by decide +kernel
theorem dX3_greatestDivisor_1 : decode cX3_greatestDivisor 1 = .ok (.istore_n 2, 1) := by decide +kernel
theorem dX3_greatestDivisor_2 : decode cX3_greatestDivisor 2 = .ok (.iload_n 2, 1) := by decide +kernel
theorem dX3_greatestDivisor_3 : decode cX3_greatestDivisor 3 = .ok (.iconst 1, 1) := by decide +kernel
theorem dX3_greatestDivisor_4 : decode cX3_greatestDivisor 4 = .ok (.if_icmp .le 23, 3) := by decide +kernel
theorem dX3_greatestDivisor_7 : decode cX3_greatestDivisor 7 = .ok (.iload_n 0, 1) := by decide +kernel
theorem dX3_greatestDivisor_8 : decode cX3_greatestDivisor 8 = .ok (.iload_n 2, 1) := by decide +kernel
theorem dX3_greatestDivisor_9 : decode cX3_greatestDivisor 9 = .ok (.irem, 1) := by decide +kernel
theorem dX3_greatestDivisor_10 : decode cX3_greatestDivisor 10 = .ok (.ifCond .ne 11, 3) := by decide +kernel
theorem dX3_greatestDivisor_13 : decode cX3_greatestDivisor 13 = .ok (.iload_n 1, 1) := by decide +kernel
theorem dX3_greatestDivisor_14 : decode cX3_greatestDivisor 14 = .ok (.iload_n 2, 1) := by decide +kernel
theorem dX3_greatestDivisor_15 : decode cX3_greatestDivisor 15 = .ok (.irem, 1) := by decide +kernel
theorem dX3_greatestDivisor_16 : decode cX3_greatestDivisor 16 = .ok (.ifCond .ne 5, 3) := by decide +kernel
theorem dX3_greatestDivisor_19 : decode cX3_greatestDivisor 19 = .ok (.iload_n 2, 1) := by decide +kernel
theorem dX3_greatestDivisor_20 : decode cX3_greatestDivisor 20 = .ok (.ireturn, 1) := by decide +kernel
theorem dX3_greatestDivisor_21 : decode cX3_greatestDivisor 21 = .ok (.iinc 2 (-1), 3) := by decide +kernel
theorem dX3_greatestDivisor_24 : decode cX3_greatestDivisor 24 = .ok (.goto (-22), 3) := by decide +kernel
theorem dX3_greatestDivisor_27 : decode cX3_greatestDivisor 27 = .ok (.iconst 1, 1) := by decide +kernel
theorem dX3_greatestDivisor_28 : decode cX3_greatestDivisor 28 = .ok (.ireturn, 1) := by decide +kernel
theorem dX4_init_0 : decode cX4_init 0 = .ok (.aload_n 0, 1) := by decide +kernel
theorem dX4_init_1 : decode cX4_init 1 = .ok (.invokespecial 1, 3) := by decide +kernel
theorem dX4_init_4 : decode cX4_init 4 = .ok (.aload_n 0, 1) := by decide +kernel
theorem dX4_init_5 : decode cX4_init 5 = .ok (.bipush 42, 2) := by decide +kernel
theorem dX4_init_7 : decode cX4_init 7 = .ok (.newarray .int, 2) := by decide +kernel
theorem dX4_init_9 : decode cX4_init 9 = .ok (.putfield 7, 3) := by decide +kernel
theorem dX4_init_12 : decode cX4_init 12 = .ok (.aload_n 0, 1) := by decide +kernel
theorem dX4_init_13 : decode cX4_init 13 = .ok (.bipush 12, 2) := by decide +kernel
theorem dX4_init_15 : decode cX4_init 15 = .ok (.newarray .int, 2) := by decide +kernel
theorem dX4_init_17 : decode cX4_init 17 = .ok (.putfield 13, 3) := by decide +kernel
theorem dX4_init_20 : decode cX4_init 20 = .ok (.aload_n 0, 1) := by decide +kernel
theorem dX4_init_21 : decode cX4_init 21 = .ok (.bipush 10, 2) := by decide +kernel
theorem dX4_init_23 : decode cX4_init 23 = .ok (.newarray .int, 2) := by decide +kernel
theorem dX4_init_25 : decode cX4_init 25 = .ok (.putfield 16, 3) := by decide +kernel
theorem dX4_init_28 : decode cX4_init 28 = .ok (.aload_n 0, 1) := by decide +kernel
theorem dX4_init_29 : decode cX4_init 29 = .ok (.bipush 10, 2) := by decide +kernel
theorem dX4_init_31 : decode cX4_init 31 = .ok (.newarray .int, 2) := by decide +kernel
theorem dX4_init_33 : decode cX4_init 33 = .ok (.putfield 19, 3) := by decide +kernel
theorem dX4_init_36 : decode cX4_init 36 = .ok (.aload_n 0, 1) := by decide +kernel
theorem dX4_init_37 : decode cX4_init 37 = .ok (.bipush 10, 2) := by decide +kernel
theorem dX4_init_39 : decode cX4_init 39 = .ok (.newarray .int, 2) := by decide +kernel
theorem dX4_init_41 : decode cX4_init 41 = .ok (.putfield 22, 3) := by decide +kernel
theorem dX4_init_44 : decode cX4_init 44 = .ok (.aload_n 0, 1) := by decide +kernel
theorem dX4_init_45 : decode cX4_init 45 = .ok (.bipush 10, 2) := by decide +kernel
theorem dX4_init_47 : decode cX4_init 47 = .ok (.newarray .boolean, 2) := by decide +kernel
theorem dX4_init_49 : decode cX4_init 49 = .ok (.putfield 25, 3) := by decide +kernel
theorem dX4_init_52 : decode cX4_init 52 = .ok (.aload_n 0, 1) := by decide +kernel
theorem dX4_init_53 : decode cX4_init 53 = .ok (.bipush 10, 2) := by decide +kernel
theorem dX4_init_55 : decode cX4_init 55 = .ok (.newarray .int, 2) := by decide +kernel
theorem dX4_init_57 : decode cX4_init 57 = .ok (.putfield 29, 3) := by decide +kernel
theorem dX4_init_60 : decode cX4_init 60 = .ok (.aload_n 0, 1) := by decide +kernel
theorem dX4_init_61 : decode cX4_init 61 = .ok (.bipush 42, 2) := by decide +kernel
theorem dX4_init_63 : decode cX4_init 63 = .ok (.newarray .int, 2) := by decide +kernel
theorem dX4_init_65 : decode cX4_init 65 = .ok (.putfield 32, 3) := by decide +kernel
theorem dX4_init_68 : decode cX4_init 68 = .ok (.aload_n 0, 1) := by decide +kernel
theorem dX4_init_69 : decode cX4_init 69 = .ok (.bipush 12, 2) := by decide +kernel
theorem dX4_init_71 : decode cX4_init 71 = .ok (.newarray .int, 2) := by decide +kernel
theorem dX4_init_73 : decode cX4_init 73 = .ok (.putfield 35, 3) := by decide +kernel
theorem dX4_init_76 : decode cX4_init 76 = .ok (.aload_n 0, 1) := by decide +kernel
theorem dX4_init_77 : decode cX4_init 77 = .ok (.bipush 10, 2) := by decide +kernel
theorem dX4_init_79 : decode cX4_init 79 = .ok (.newarray .int, 2) := by decide +kernel
theorem dX4_init_81 : decode cX4_init 81 = .ok (.putfield 38, 3) := by decide +kernel
theorem dX4_init_84 : decode cX4_init 84 = .ok (.aload_n 0, 1) := by decide +kernel
theorem dX4_init_85 : decode cX4_init 85 = .ok (.bipush 10, 2) := by decide +kernel
theorem dX4_init_87 : decode cX4_init 87 = .ok (.newarray .int, 2) := by decide +kernel
theorem dX4_init_89 : decode cX4_init 89 = .ok (.putfield 41, 3) := by decide +kernel
theorem dX4_init_92 : decode cX4_init 92 = .ok (.aload_n 0, 1) := by decide +kernel
theorem dX4_init_93 : decode cX4_init 93 = .ok (.bipush 10, 2) := by decide +kernel
theorem dX4_init_95 : decode cX4_init 95 = .ok (.newarray .int, 2) := by decide +kernel
theorem dX4_init_97 : decode cX4_init 97 = .ok (.putfield 44, 3) := by decide +kernel
theorem dX4_init_100 : decode cX4_init 100 = .ok (.aload_n 0, 1) := by decide +kernel
theorem dX4_init_101 : decode cX4_init 101 = .ok (.bipush (-9), 2) := by decide +kernel
theorem dX4_init_103 : decode cX4_init 103 = .ok (.putfield 47, 3) := by decide +kernel
theorem dX4_init_106 : decode cX4_init 106 = .ok (.aload_n 0, 1) := by decide +kernel
theorem dX4_init_107 : decode cX4_init 107 = .ok (.iconst 4, 1) := by decide +kernel
theorem dX4_init_108 : decode cX4_init 108 = .ok (.newarray .int, 2) := by decide +kernel
theorem dX4_init_110 : decode cX4_init 110 = .ok (.putfield 51, 3) := by decide +kernel
theorem dX4_init_113 : decode cX4_init 113 = .ok (.aload_n 0, 1) := by decide +kernel
theorem dX4_init_114 : decode cX4_init 114 = .ok (.iconst 4, 1) := by decide +kernel
theorem dX4_init_115 : decode cX4_init 115 = .ok (.newarray .int, 2) := by decide +kernel
theorem dX4_init_117 : decode cX4_init 117 = .ok (.putfield 54, 3) := by decide +kernel
theorem dX4_init_120 : decode cX4_init 120 = .ok (.aload_n 0, 1) := by decide +kernel
theorem dX4_init_121 : decode cX4_init 121 = .ok (.sipush 400, 3) := by decide +kernel
theorem dX4_init_124 : decode cX4_init 124 = .ok (.newarray .int, 2) := by decide +kernel
theorem dX4_init_126 : decode cX4_init 126 = .ok (.putfield 57, 3) := by decide +kernel
theorem dX4_init_129 : decode cX4_init 129 = .ok (.aload_n 0, 1) := by decide +kernel
theorem dX4_init_130 : decode cX4_init 130 = .ok (.bipush 100, 2) := by decide +kernel
theorem dX4_init_132 : decode cX4_init 132 = .ok (.newarray .int, 2) := by decide +kernel
theorem dX4_init_134 : decode cX4_init 134 = .ok (.putfield 60, 3) := by decide +kernel
theorem dX4_init_137 : decode cX4_init 137 = .ok (.iconst 0, 1) := by decide +kernel
theorem dX4_init_138 : decode cX4_init 138 = .ok (.istore_n 1, 1) := by decide +kernel
theorem dX4_init_139 : decode cX4_init 139 = .ok (.iload_n 1, 1) := by decide +kernel
theorem dX4_init_140 : decode cX4_init 140 = .ok (.iconst 4, 1) := by decide +kernel
theorem dX4_init_141 : decode cX4_init 141 = .ok (.if_icmp .ge 16, 3) := by decide +kernel
theorem dX4_init_144 : decode cX4_init 144 = .ok (.aload_n 0, 1) := by decide +kernel
theorem dX4_init_145 : decode cX4_init 145 = .ok (.getfield 51, 3) := by decide +kernel
theorem dX4_init_148 : decode cX4_init 148 = .ok (.iload_n 1, 1) := by decide +kernel
theorem dX4_init_149 : decode cX4_init 149 = .ok (.iconst (-1), 1) := by decide +kernel
theorem dX4_init_150 : decode cX4_init 150 = .ok (.iastore, 1) := by decide +kernel
theorem dX4_init_151 : decode cX4_init 151 = .ok (.iinc 1 1, 3) := by decide +kernel
theorem dX4_init_154 : decode cX4_init 154 = .ok (.goto (-15), 3) := by decide +kernel
theorem dX4_init_157 : decode cX4_init 157 = .ok (.return_, 1) := by decide +kernel
theorem dX4_in_0 : decode cX4_in 0 = .ok (.lload_n 0, 1) := by decide +kernel
theorem dX4_in_1 : decode cX4_in 1 = .ok (.lload_n 2, 1) := by decide +kernel
theorem dX4_in_2 : decode cX4_in 2 = .ok (.lcmp, 1) := by decide +kernel
theorem dX4_in_3 : decode cX4_in 3 = .ok (.ifCond .lt 14, 3) := by decide +kernel
theorem dX4_in_6 : decode cX4_in 6 = .ok (.lload_n 0, 1) := by decide +kernel
theorem dX4_in_7 : decode cX4_in 7 = .ok (.lload 4, 2) := by decide +kernel
theorem dX4_in_9 : decode cX4_in 9 = .ok (.lcmp, 1) := by decide +kernel
theorem dX4_in_10 : decode cX4_in 10 = .ok (.ifCond .gt 7, 3) := by decide +kernel
theorem dX4_in_13 : decode cX4_in 13 = .ok (.iconst 1, 1) := by decide +kernel
theorem dX4_in_14 : decode cX4_in 14 = .ok (.goto 4, 3) := by decide +kernel
theorem dX4_in_17 : decode cX4_in 17 = .ok (.iconst 0, 1) := by decide +kernel
theorem dX4_in_18 : decode cX4_in 18 = .ok (.ireturn, 1) := by decide +kernel
theorem dX4_lost_0 : decode cX4_lost 0 = .ok (.ldc2_w 63, 3) := by decide +kernel
theorem dX4_lost_3 : decode cX4_lost 3 = .ok (.lreturn, 1) := by decide +kernel
theorem dX4_far_0 : decode cX4_far 0 = .ok (.iload_n 0, 1) := by decide +kernel
theorem dX4_far_1 : decode cX4_far 1 = .ok (.iload_n 1, 1) := by decide +kernel
theorem dX4_far_2 : decode cX4_far 2 = .ok (.if_icmp .ge 9, 3) := by decide +kernel
theorem dX4_far_5 : decode cX4_far 5 = .ok (.iload_n 1, 1) := by decide +kernel
theorem dX4_far_6 : decode cX4_far 6 = .ok (.iload_n 0, 1) := by decide +kernel
theorem dX4_far_7 : decode cX4_far 7 = .ok (.isub, 1) := by decide +kernel
theorem dX4_far_8 : decode cX4_far 8 = .ok (.goto 6, 3) := by decide +kernel
theorem dX4_far_11 : decode cX4_far 11 = .ok (.iload_n 0, 1) := by decide +kernel
theorem dX4_far_12 : decode cX4_far 12 = .ok (.iload_n 1, 1) := by decide +kernel
theorem dX4_far_13 : decode cX4_far 13 = .ok (.isub, 1) := by decide +kernel
theorem dX4_far_14 : decode cX4_far 14 = .ok (.ireturn, 1) := by decide +kernel
theorem dX4_common_0 : decode cX4_common 0 = .ok (.iload_n 0, 1) := by decide +kernel
theorem dX4_common_1 : decode cX4_common 1 = .ok (.istore_n 2, 1) := by decide +kernel
theorem dX4_common_2 : decode cX4_common 2 = .ok (.iload_n 1, 1) := by decide +kernel
theorem dX4_common_3 : decode cX4_common 3 = .ok (.istore_n 3, 1) := by decide +kernel
theorem dX4_common_4 : decode cX4_common 4 = .ok (.iload_n 3, 1) := by decide +kernel
theorem dX4_common_5 : decode cX4_common 5 = .ok (.ifCond .eq 16, 3) := by decide +kernel
theorem dX4_common_8 : decode cX4_common 8 = .ok (.iload_n 2, 1) := by decide +kernel
theorem dX4_common_9 : decode cX4_common 9 = .ok (.iload_n 3, 1) := by decide +kernel
theorem dX4_common_10 : decode cX4_common 10 = .ok (.irem, 1) := by decide +kernel
theorem dX4_common_11 : decode cX4_common 11 = .ok (.istore 4, 2) := by decide +kernel
theorem dX4_common_13 : decode cX4_common 13 = .ok (.iload_n 3, 1) := by decide +kernel
theorem dX4_common_14 : decode cX4_common 14 = .ok (.istore_n 2, 1) := by decide +kernel
theorem dX4_common_15 : decode cX4_common 15 = .ok (.iload 4, 2) := by decide +kernel
theorem dX4_common_17 : decode cX4_common 17 = .ok (.istore_n 3, 1) := by decide +kernel
theorem dX4_common_18 : decode cX4_common 18 = .ok (.goto (-14), 3) := by decide +kernel
theorem dX4_common_21 : decode cX4_common 21 = .ok (.iload_n 2, 1) := by decide +kernel
theorem dX4_common_22 : decode cX4_common 22 = .ok (.ireturn, 1) := by decide +kernel
theorem dX4_refused_0 : decode cX4_refused 0 = .ok (.aload_n 0, 1) := by decide +kernel
theorem dX4_refused_1 : decode cX4_refused 1 = .ok (.iconst 0, 1) := by decide +kernel
theorem dX4_refused_2 : decode cX4_refused 2 = .ok (.putfield 65, 3) := by decide +kernel
theorem dX4_refused_5 : decode cX4_refused 5 = .ok (.iload_n 1, 1) := by decide +kernel
theorem dX4_refused_6 : decode cX4_refused 6 = .ok (.ireturn, 1) := by decide +kernel
theorem dX4_failed_0 : decode cX4_failed 0 = .ok (.aload_n 0, 1) := by decide +kernel
theorem dX4_failed_1 : decode cX4_failed 1 = .ok (.iload_n 1, 1) := by decide +kernel
theorem dX4_failed_2 : decode cX4_failed 2 = .ok (.putfield 65, 3) := by decide +kernel
theorem dX4_failed_5 : decode cX4_failed 5 = .ok (.bipush (-10), 2) := by decide +kernel
theorem dX4_failed_7 : decode cX4_failed 7 = .ok (.iload_n 1, 1) := by decide +kernel
theorem dX4_failed_8 : decode cX4_failed 8 = .ok (.isub, 1) := by decide +kernel
theorem dX4_failed_9 : decode cX4_failed 9 = .ok (.ireturn, 1) := by decide +kernel
theorem dX4_failedLong_0 : decode cX4_failedLong 0 = .ok (.aload_n 0, 1) := by decide +kernel
theorem dX4_failedLong_1 : decode cX4_failedLong 1 = .ok (.iload_n 1, 1) := by decide +kernel
theorem dX4_failedLong_2 : decode cX4_failedLong 2 = .ok (.putfield 65, 3) := by decide +kernel
theorem dX4_failedLong_5 : decode cX4_failedLong 5 = .ok (.invokestatic 68, 3) := by decide +kernel
theorem dX4_failedLong_8 : decode cX4_failedLong 8 = .ok (.lreturn, 1) := by decide +kernel
theorem dX4_cells_0 : decode cX4_cells 0 = .ok (.aload_n 0, 1) := by decide +kernel
theorem dX4_cells_1 : decode cX4_cells 1 = .ok (.getfield 72, 3) := by decide +kernel
theorem dX4_cells_4 : decode cX4_cells 4 = .ok (.aload_n 0, 1) := by decide +kernel
theorem dX4_cells_5 : decode cX4_cells 5 = .ok (.getfield 75, 3) := by decide +kernel
theorem dX4_cells_8 : decode cX4_cells 8 = .ok (.imul, 1) := by decide +kernel
theorem dX4_cells_9 : decode cX4_cells 9 = .ok (.ireturn, 1) := by decide +kernel
theorem dX4_noCell_0 : decode cX4_noCell 0 = .ok (.iload_n 1, 1) := by decide +kernel
theorem dX4_noCell_1 : decode cX4_noCell 1 = .ok (.i2l, 1) := by decide +kernel
theorem dX4_noCell_2 : decode cX4_noCell 2 = .ok (.lconst 0, 1) := by decide +kernel
theorem dX4_noCell_3 : decode cX4_noCell 3 = .ok (.aload_n 0, 1) := by decide +kernel
theorem dX4_noCell_4 : decode cX4_noCell 4 = .ok (.invokevirtual 78, 3) := by decide +kernel
theorem dX4_noCell_7 : decode cX4_noCell 7 = .ok (.i2l, 1) := by decide +kernel
theorem dX4_noCell_8 : decode cX4_noCell 8 = .ok (.lconst 1, 1) := by decide +kernel
theorem dX4_noCell_9 : decode cX4_noCell 9 = .ok (.lsub, 1) := by decide +kernel
theorem dX4_noCell_10 : decode cX4_noCell 10 = .ok (.invokestatic 82, 3) := by decide +kernel
theorem dX4_noCell_13 : decode cX4_noCell 13 = .ok (.ifCond .ne 7, 3) := by decide +kernel
theorem dX4_noCell_16 : decode cX4_noCell 16 = .ok (.iconst 1, 1) := by decide +kernel
theorem dX4_noCell_17 : decode cX4_noCell 17 = .ok (.goto 4, 3) := by decide +kernel
theorem dX4_noCell_20 : decode cX4_noCell 20 = .ok (.iconst 0, 1) := by decide +kernel
theorem dX4_noCell_21 : decode cX4_noCell 21 = .ok (.ireturn, 1) := by decide +kernel
theorem dX4_noThing_0 : decode cX4_noThing 0 = .ok (.iload_n 1, 1) := by decide +kernel
theorem dX4_noThing_1 : decode cX4_noThing 1 = .ok (.i2l, 1) := by decide +kernel
theorem dX4_noThing_2 : decode cX4_noThing 2 = .ok (.lconst 0, 1) := by decide +kernel
theorem dX4_noThing_3 : decode cX4_noThing 3 = .ok (.aload_n 0, 1) := by decide +kernel
theorem dX4_noThing_4 : decode cX4_noThing 4 = .ok (.getfield 86, 3) := by decide +kernel
theorem dX4_noThing_7 : decode cX4_noThing 7 = .ok (.i2l, 1) := by decide +kernel
theorem dX4_noThing_8 : decode cX4_noThing 8 = .ok (.lconst 1, 1) := by decide +kernel
theorem dX4_noThing_9 : decode cX4_noThing 9 = .ok (.lsub, 1) := by decide +kernel
theorem dX4_noThing_10 : decode cX4_noThing 10 = .ok (.invokestatic 82, 3) := by decide +kernel
theorem dX4_noThing_13 : decode cX4_noThing 13 = .ok (.ifCond .ne 7, 3) := by decide +kernel
theorem dX4_noThing_16 : decode cX4_noThing 16 = .ok (.iconst 1, 1) := by decide +kernel
theorem dX4_noThing_17 : decode cX4_noThing 17 = .ok (.goto 4, 3) := by decide +kernel
theorem dX4_noThing_20 : decode cX4_noThing 20 = .ok (.iconst 0, 1) := by decide +kernel
theorem dX4_noThing_21 : decode cX4_noThing 21 = .ok (.ireturn, 1) := by decide +kernel
theorem dX4_noBench_0 : decode cX4_noBench 0 = .ok (.iload_n 1, 1) := by decide +kernel
theorem dX4_noBench_1 : decode cX4_noBench 1 = .ok (.i2l, 1) := by decide +kernel
theorem dX4_noBench_2 : decode cX4_noBench 2 = .ok (.lconst 0, 1) := by decide +kernel
theorem dX4_noBench_3 : decode cX4_noBench 3 = .ok (.aload_n 0, 1) := by decide +kernel
theorem dX4_noBench_4 : decode cX4_noBench 4 = .ok (.getfield 89, 3) := by decide +kernel
theorem dX4_noBench_7 : decode cX4_noBench 7 = .ok (.i2l, 1) := by decide +kernel
theorem dX4_noBench_8 : decode cX4_noBench 8 = .ok (.lconst 1, 1) := by decide +kernel
theorem dX4_noBench_9 : decode cX4_noBench 9 = .ok (.lsub, 1) := by decide +kernel
theorem dX4_noBench_10 : decode cX4_noBench 10 = .ok (.invokestatic 82, 3) := by decide +kernel
theorem dX4_noBench_13 : decode cX4_noBench 13 = .ok (.ifCond .ne 7, 3) := by decide +kernel
theorem dX4_noBench_16 : decode cX4_noBench 16 = .ok (.iconst 1, 1) := by decide +kernel
theorem dX4_noBench_17 : decode cX4_noBench 17 = .ok (.goto 4, 3) := by decide +kernel
theorem dX4_noBench_20 : decode cX4_noBench 20 = .ok (.iconst 0, 1) := by decide +kernel
theorem dX4_noBench_21 : decode cX4_noBench 21 = .ok (.ireturn, 1) := by decide +kernel
theorem dX4_codeAt_0 : decode cX4_codeAt 0 = .ok (.aload_n 0, 1) := by decide +kernel
theorem dX4_codeAt_1 : decode cX4_codeAt 1 = .ok (.getfield 92, 3) := by decide +kernel
theorem dX4_codeAt_4 : decode cX4_codeAt 4 = .ok (.iload_n 2, 1) := by decide +kernel
theorem dX4_codeAt_5 : decode cX4_codeAt 5 = .ok (.if_icmp .ge 17, 3) := by decide +kernel
theorem dX4_codeAt_8 : decode cX4_codeAt 8 = .ok (.aload_n 0, 1) := by decide +kernel
theorem dX4_codeAt_9 : decode cX4_codeAt 9 = .ok (.getfield 57, 3) := by decide +kernel
theorem dX4_codeAt_12 : decode cX4_codeAt 12 = .ok (.iload_n 1, 1) := by decide +kernel
theorem dX4_codeAt_13 : decode cX4_codeAt 13 = .ok (.aload_n 0, 1) := by decide +kernel
theorem dX4_codeAt_14 : decode cX4_codeAt 14 = .ok (.getfield 92, 3) := by decide +kernel
theorem dX4_codeAt_17 : decode cX4_codeAt 17 = .ok (.iadd, 1) := by decide +kernel
theorem dX4_codeAt_18 : decode cX4_codeAt 18 = .ok (.iaload, 1) := by decide +kernel
theorem dX4_codeAt_19 : decode cX4_codeAt 19 = .ok (.goto 5, 3) := by decide +kernel
theorem dX4_codeAt_22 : decode cX4_codeAt 22 = .ok (.bipush (-9), 2) := by decide +kernel
theorem dX4_codeAt_24 : decode cX4_codeAt 24 = .ok (.ireturn, 1) := by decide +kernel
theorem dX4_figure_0 : decode cX4_figure 0 = .ok (.aload_n 0, 1) := by decide +kernel
theorem dX4_figure_1 : decode cX4_figure 1 = .ok (.iload_n 1, 1) := by decide +kernel
theorem dX4_figure_2 : decode cX4_figure 2 = .ok (.iload_n 2, 1) := by decide +kernel
theorem dX4_figure_3 : decode cX4_figure 3 = .ok (.invokevirtual 95, 3) := by decide +kernel
theorem dX4_figure_6 : decode cX4_figure 6 = .ok (.bipush 48, 2) := by decide +kernel
theorem dX4_figure_8 : decode cX4_figure 8 = .ok (.isub, 1) := by decide +kernel
theorem dX4_figure_9 : decode cX4_figure 9 = .ok (.istore 5, 2) := by decide +kernel
theorem dX4_figure_11 : decode cX4_figure 11 = .ok (.iload 5, 2) := by decide +kernel
theorem dX4_figure_13 : decode cX4_figure 13 = .ok (.i2l, 1) := by decide +kernel
theorem dX4_figure_14 : decode cX4_figure 14 = .ok (.iload_n 3, 1) := by decide +kernel
theorem dX4_figure_15 : decode cX4_figure 15 = .ok (.i2l, 1) := by decide +kernel
theorem dX4_figure_16 : decode cX4_figure 16 = .ok (.iload 4, 2) := by decide +kernel
theorem dX4_figure_18 : decode cX4_figure 18 = .ok (.i2l, 1) := by decide +kernel
theorem dX4_figure_19 : decode cX4_figure 19 = .ok (.invokestatic 82, 3) := by decide +kernel
theorem dX4_figure_22 : decode cX4_figure 22 = .ok (.istore 6, 2) := by decide +kernel
theorem dX4_figure_24 : decode cX4_figure 24 = .ok (.aload_n 0, 1) := by decide +kernel
theorem dX4_figure_25 : decode cX4_figure 25 = .ok (.dup, 1) := by decide +kernel
theorem dX4_figure_26 : decode cX4_figure 26 = .ok (.getfield 92, 3) := by decide +kernel
theorem dX4_figure_29 : decode cX4_figure 29 = .ok (.iload 6, 2) := by decide +kernel
theorem dX4_figure_31 : decode cX4_figure 31 = .ok (.ifCond .eq 7, 3) := by decide +kernel
theorem dX4_figure_34 : decode cX4_figure 34 = .ok (.iconst 1, 1) := by decide +kernel
theorem dX4_figure_35 : decode cX4_figure 35 = .ok (.goto 4, 3) := by decide +kernel
theorem dX4_figure_38 : decode cX4_figure 38 = .ok (.iconst 0, 1) := by decide +kernel
theorem dX4_figure_39 : decode cX4_figure 39 = .ok (.iadd, 1) := by decide +kernel
theorem dX4_figure_40 : decode cX4_figure 40 = .ok (.putfield 92, 3) := by decide +kernel
theorem dX4_figure_43 : decode cX4_figure 43 = .ok (.iload 6, 2) := by decide +kernel
theorem dX4_figure_45 : decode cX4_figure 45 = .ok (.ifCond .eq 8, 3) := by decide +kernel
theorem dX4_figure_48 : decode cX4_figure 48 = .ok (.iload 5, 2) := by decide +kernel
theorem dX4_figure_50 : decode cX4_figure 50 = .ok (.goto 5, 3) := by decide +kernel
theorem dX4_figure_53 : decode cX4_figure 53 = .ok (.bipush (-9), 2) := by decide +kernel
theorem dX4_figure_55 : decode cX4_figure 55 = .ok (.ireturn, 1) := by decide +kernel
theorem dX4_readsCell_0 : decode cX4_readsCell 0 = .ok (.aload_n 0, 1) := by decide +kernel
theorem dX4_readsCell_1 : decode cX4_readsCell 1 = .ok (.iload_n 1, 1) := by decide +kernel
theorem dX4_readsCell_2 : decode cX4_readsCell 2 = .ok (.iload_n 2, 1) := by decide +kernel
theorem dX4_readsCell_3 : decode cX4_readsCell 3 = .ok (.invokevirtual 95, 3) := by decide +kernel
theorem dX4_readsCell_6 : decode cX4_readsCell 6 = .ok (.istore 4, 2) := by decide +kernel
theorem dX4_readsCell_8 : decode cX4_readsCell 8 = .ok (.iload 4, 2) := by decide +kernel
theorem dX4_readsCell_10 : decode cX4_readsCell 10 = .ok (.bipush 46, 2) := by decide +kernel
theorem dX4_readsCell_12 : decode cX4_readsCell 12 = .ok (.if_icmp .ne 22, 3) := by decide +kernel
theorem dX4_readsCell_15 : decode cX4_readsCell 15 = .ok (.aload_n 0, 1) := by decide +kernel
theorem dX4_readsCell_16 : decode cX4_readsCell 16 = .ok (.getfield 32, 3) := by decide +kernel
theorem dX4_readsCell_19 : decode cX4_readsCell 19 = .ok (.iload_n 3, 1) := by decide +kernel
theorem dX4_readsCell_20 : decode cX4_readsCell 20 = .ok (.iconst 0, 1) := by decide +kernel
theorem dX4_readsCell_21 : decode cX4_readsCell 21 = .ok (.iastore, 1) := by decide +kernel
theorem dX4_readsCell_22 : decode cX4_readsCell 22 = .ok (.aload_n 0, 1) := by decide +kernel
theorem dX4_readsCell_23 : decode cX4_readsCell 23 = .ok (.dup, 1) := by decide +kernel
theorem dX4_readsCell_24 : decode cX4_readsCell 24 = .ok (.getfield 92, 3) := by decide +kernel
theorem dX4_readsCell_27 : decode cX4_readsCell 27 = .ok (.iconst 1, 1) := by decide +kernel
theorem dX4_readsCell_28 : decode cX4_readsCell 28 = .ok (.iadd, 1) := by decide +kernel
theorem dX4_readsCell_29 : decode cX4_readsCell 29 = .ok (.putfield 92, 3) := by decide +kernel
theorem dX4_readsCell_32 : decode cX4_readsCell 32 = .ok (.iconst 1, 1) := by decide +kernel
theorem dX4_readsCell_33 : decode cX4_readsCell 33 = .ok (.ireturn, 1) := by decide +kernel
theorem dX4_readsCell_34 : decode cX4_readsCell 34 = .ok (.iload 4, 2) := by decide +kernel
theorem dX4_readsCell_36 : decode cX4_readsCell 36 = .ok (.bipush 98, 2) := by decide +kernel
theorem dX4_readsCell_38 : decode cX4_readsCell 38 = .ok (.if_icmp .ne 53, 3) := by decide +kernel
theorem dX4_readsCell_41 : decode cX4_readsCell 41 = .ok (.aload_n 0, 1) := by decide +kernel
theorem dX4_readsCell_42 : decode cX4_readsCell 42 = .ok (.getfield 99, 3) := by decide +kernel
theorem dX4_readsCell_45 : decode cX4_readsCell 45 = .ok (.bipush 12, 2) := by decide +kernel
theorem dX4_readsCell_47 : decode cX4_readsCell 47 = .ok (.if_icmp .ne 5, 3) := by decide +kernel
theorem dX4_readsCell_50 : decode cX4_readsCell 50 = .ok (.iconst 0, 1) := by decide +kernel
theorem dX4_readsCell_51 : decode cX4_readsCell 51 = .ok (.ireturn, 1) := by decide +kernel
theorem dX4_readsCell_52 : decode cX4_readsCell 52 = .ok (.aload_n 0, 1) := by decide +kernel
theorem dX4_readsCell_53 : decode cX4_readsCell 53 = .ok (.getfield 32, 3) := by decide +kernel
theorem dX4_readsCell_56 : decode cX4_readsCell 56 = .ok (.iload_n 3, 1) := by decide +kernel
theorem dX4_readsCell_57 : decode cX4_readsCell 57 = .ok (.iconst 1, 1) := by decide +kernel
theorem dX4_readsCell_58 : decode cX4_readsCell 58 = .ok (.iastore, 1) := by decide +kernel
theorem dX4_readsCell_59 : decode cX4_readsCell 59 = .ok (.aload_n 0, 1) := by decide +kernel
theorem dX4_readsCell_60 : decode cX4_readsCell 60 = .ok (.getfield 35, 3) := by decide +kernel
theorem dX4_readsCell_63 : decode cX4_readsCell 63 = .ok (.aload_n 0, 1) := by decide +kernel
theorem dX4_readsCell_64 : decode cX4_readsCell 64 = .ok (.getfield 99, 3) := by decide +kernel
theorem dX4_readsCell_67 : decode cX4_readsCell 67 = .ok (.iload_n 3, 1) := by decide +kernel
theorem dX4_readsCell_68 : decode cX4_readsCell 68 = .ok (.iastore, 1) := by decide +kernel
theorem dX4_readsCell_69 : decode cX4_readsCell 69 = .ok (.aload_n 0, 1) := by decide +kernel
theorem dX4_readsCell_70 : decode cX4_readsCell 70 = .ok (.dup, 1) := by decide +kernel
theorem dX4_readsCell_71 : decode cX4_readsCell 71 = .ok (.getfield 99, 3) := by decide +kernel
theorem dX4_readsCell_74 : decode cX4_readsCell 74 = .ok (.iconst 1, 1) := by decide +kernel
theorem dX4_readsCell_75 : decode cX4_readsCell 75 = .ok (.iadd, 1) := by decide +kernel
theorem dX4_readsCell_76 : decode cX4_readsCell 76 = .ok (.putfield 99, 3) := by decide +kernel
theorem dX4_readsCell_79 : decode cX4_readsCell 79 = .ok (.aload_n 0, 1) := by decide +kernel
theorem dX4_readsCell_80 : decode cX4_readsCell 80 = .ok (.dup, 1) := by decide +kernel
theorem dX4_readsCell_81 : decode cX4_readsCell 81 = .ok (.getfield 92, 3) := by decide +kernel
theorem dX4_readsCell_84 : decode cX4_readsCell 84 = .ok (.iconst 1, 1) := by decide +kernel
theorem dX4_readsCell_85 : decode cX4_readsCell 85 = .ok (.iadd, 1) := by decide +kernel
theorem dX4_readsCell_86 : decode cX4_readsCell 86 = .ok (.putfield 92, 3) := by decide +kernel
theorem dX4_readsCell_89 : decode cX4_readsCell 89 = .ok (.iconst 1, 1) := by decide +kernel
theorem dX4_readsCell_90 : decode cX4_readsCell 90 = .ok (.ireturn, 1) := by decide +kernel
theorem dX4_readsCell_91 : decode cX4_readsCell 91 = .ok (.aload_n 0, 1) := by decide +kernel
theorem dX4_readsCell_92 : decode cX4_readsCell 92 = .ok (.getfield 102, 3) := by decide +kernel
theorem dX4_readsCell_95 : decode cX4_readsCell 95 = .ok (.bipush 10, 2) := by decide +kernel
theorem dX4_readsCell_97 : decode cX4_readsCell 97 = .ok (.if_icmp .eq 24, 3) := by decide +kernel
theorem dX4_readsCell_100 : decode cX4_readsCell 100 = .ok (.iload 4, 2) := by decide +kernel
theorem dX4_readsCell_102 : decode cX4_readsCell 102 = .ok (.bipush 108, 2) := by decide +kernel
theorem dX4_readsCell_104 : decode cX4_readsCell 104 = .ok (.if_icmp .eq 19, 3) := by decide +kernel
theorem dX4_readsCell_107 : decode cX4_readsCell 107 = .ok (.iload 4, 2) := by decide +kernel
theorem dX4_readsCell_109 : decode cX4_readsCell 109 = .ok (.bipush 117, 2) := by decide +kernel
theorem dX4_readsCell_111 : decode cX4_readsCell 111 = .ok (.if_icmp .eq 12, 3) := by decide +kernel
theorem dX4_readsCell_114 : decode cX4_readsCell 114 = .ok (.iload 4, 2) := by decide +kernel
theorem dX4_readsCell_116 : decode cX4_readsCell 116 = .ok (.bipush 116, 2) := by decide +kernel
theorem dX4_readsCell_118 : decode cX4_readsCell 118 = .ok (.if_icmp .eq 5, 3) := by decide +kernel
theorem dX4_readsCell_121 : decode cX4_readsCell 121 = .ok (.iconst 0, 1) := by decide +kernel
theorem dX4_readsCell_122 : decode cX4_readsCell 122 = .ok (.ireturn, 1) := by decide +kernel
theorem dX4_readsCell_123 : decode cX4_readsCell 123 = .ok (.aload_n 0, 1) := by decide +kernel
theorem dX4_readsCell_124 : decode cX4_readsCell 124 = .ok (.dup, 1) := by decide +kernel
theorem dX4_readsCell_125 : decode cX4_readsCell 125 = .ok (.getfield 92, 3) := by decide +kernel
theorem dX4_readsCell_128 : decode cX4_readsCell 128 = .ok (.iconst 1, 1) := by decide +kernel
theorem dX4_readsCell_129 : decode cX4_readsCell 129 = .ok (.iadd, 1) := by decide +kernel
theorem dX4_readsCell_130 : decode cX4_readsCell 130 = .ok (.putfield 92, 3) := by decide +kernel
theorem dX4_readsCell_133 : decode cX4_readsCell 133 = .ok (.aload_n 0, 1) := by decide +kernel
theorem dX4_readsCell_134 : decode cX4_readsCell 134 = .ok (.iload_n 1, 1) := by decide +kernel
theorem dX4_readsCell_135 : decode cX4_readsCell 135 = .ok (.iload_n 2, 1) := by decide +kernel
theorem dX4_readsCell_136 : decode cX4_readsCell 136 = .ok (.iconst 1, 1) := by decide +kernel
theorem dX4_readsCell_137 : decode cX4_readsCell 137 = .ok (.bipush 9, 2) := by decide +kernel
theorem dX4_readsCell_139 : decode cX4_readsCell 139 = .ok (.invokevirtual 105, 3) := by decide +kernel
theorem dX4_readsCell_142 : decode cX4_readsCell 142 = .ok (.istore 5, 2) := by decide +kernel
theorem dX4_readsCell_144 : decode cX4_readsCell 144 = .ok (.iload 5, 2) := by decide +kernel
theorem dX4_readsCell_146 : decode cX4_readsCell 146 = .ok (.ifCond .ge 5, 3) := by decide +kernel
theorem dX4_readsCell_149 : decode cX4_readsCell 149 = .ok (.iconst 0, 1) := by decide +kernel
theorem dX4_readsCell_150 : decode cX4_readsCell 150 = .ok (.ireturn, 1) := by decide +kernel
theorem dX4_readsCell_151 : decode cX4_readsCell 151 = .ok (.aload_n 0, 1) := by decide +kernel
theorem dX4_readsCell_152 : decode cX4_readsCell 152 = .ok (.getfield 32, 3) := by decide +kernel
theorem dX4_readsCell_155 : decode cX4_readsCell 155 = .ok (.iload_n 3, 1) := by decide +kernel
theorem dX4_readsCell_156 : decode cX4_readsCell 156 = .ok (.bipush 10, 2) := by decide +kernel
theorem dX4_readsCell_158 : decode cX4_readsCell 158 = .ok (.aload_n 0, 1) := by decide +kernel
theorem dX4_readsCell_159 : decode cX4_readsCell 159 = .ok (.getfield 102, 3) := by decide +kernel
theorem dX4_readsCell_162 : decode cX4_readsCell 162 = .ok (.iadd, 1) := by decide +kernel
theorem dX4_readsCell_163 : decode cX4_readsCell 163 = .ok (.iastore, 1) := by decide +kernel
theorem dX4_readsCell_164 : decode cX4_readsCell 164 = .ok (.aload_n 0, 1) := by decide +kernel
theorem dX4_readsCell_165 : decode cX4_readsCell 165 = .ok (.getfield 38, 3) := by decide +kernel
theorem dX4_readsCell_168 : decode cX4_readsCell 168 = .ok (.aload_n 0, 1) := by decide +kernel
theorem dX4_readsCell_169 : decode cX4_readsCell 169 = .ok (.getfield 102, 3) := by decide +kernel
theorem dX4_readsCell_172 : decode cX4_readsCell 172 = .ok (.iload 4, 2) := by decide +kernel
theorem dX4_readsCell_174 : decode cX4_readsCell 174 = .ok (.bipush 108, 2) := by decide +kernel
theorem dX4_readsCell_176 : decode cX4_readsCell 176 = .ok (.if_icmp .ne 7, 3) := by decide +kernel
theorem dX4_readsCell_179 : decode cX4_readsCell 179 = .ok (.iconst 0, 1) := by decide +kernel
theorem dX4_readsCell_180 : decode cX4_readsCell 180 = .ok (.goto 15, 3) := by decide +kernel
theorem dX4_readsCell_183 : decode cX4_readsCell 183 = .ok (.iload 4, 2) := by decide +kernel
theorem dX4_readsCell_185 : decode cX4_readsCell 185 = .ok (.bipush 117, 2) := by decide +kernel
theorem dX4_readsCell_187 : decode cX4_readsCell 187 = .ok (.if_icmp .ne 7, 3) := by decide +kernel
theorem dX4_readsCell_190 : decode cX4_readsCell 190 = .ok (.iconst 1, 1) := by decide +kernel
theorem dX4_readsCell_191 : decode cX4_readsCell 191 = .ok (.goto 4, 3) := by decide +kernel
theorem dX4_readsCell_194 : decode cX4_readsCell 194 = .ok (.iconst 2, 1) := by decide +kernel
theorem dX4_readsCell_195 : decode cX4_readsCell 195 = .ok (.iastore, 1) := by decide +kernel
theorem dX4_readsCell_196 : decode cX4_readsCell 196 = .ok (.aload_n 0, 1) := by decide +kernel
theorem dX4_readsCell_197 : decode cX4_readsCell 197 = .ok (.getfield 41, 3) := by decide +kernel
theorem dX4_readsCell_200 : decode cX4_readsCell 200 = .ok (.aload_n 0, 1) := by decide +kernel
theorem dX4_readsCell_201 : decode cX4_readsCell 201 = .ok (.getfield 102, 3) := by decide +kernel
theorem dX4_readsCell_204 : decode cX4_readsCell 204 = .ok (.iload_n 3, 1) := by decide +kernel
theorem dX4_readsCell_205 : decode cX4_readsCell 205 = .ok (.iastore, 1) := by decide +kernel
theorem dX4_readsCell_206 : decode cX4_readsCell 206 = .ok (.aload_n 0, 1) := by decide +kernel
theorem dX4_readsCell_207 : decode cX4_readsCell 207 = .ok (.getfield 44, 3) := by decide +kernel
theorem dX4_readsCell_210 : decode cX4_readsCell 210 = .ok (.aload_n 0, 1) := by decide +kernel
theorem dX4_readsCell_211 : decode cX4_readsCell 211 = .ok (.getfield 102, 3) := by decide +kernel
theorem dX4_readsCell_214 : decode cX4_readsCell 214 = .ok (.iload 5, 2) := by decide +kernel
theorem dX4_readsCell_216 : decode cX4_readsCell 216 = .ok (.iastore, 1) := by decide +kernel
theorem dX4_readsCell_217 : decode cX4_readsCell 217 = .ok (.aload_n 0, 1) := by decide +kernel
theorem dX4_readsCell_218 : decode cX4_readsCell 218 = .ok (.dup, 1) := by decide +kernel
theorem dX4_readsCell_219 : decode cX4_readsCell 219 = .ok (.getfield 102, 3) := by decide +kernel
theorem dX4_readsCell_222 : decode cX4_readsCell 222 = .ok (.iconst 1, 1) := by decide +kernel
theorem dX4_readsCell_223 : decode cX4_readsCell 223 = .ok (.iadd, 1) := by decide +kernel
theorem dX4_readsCell_224 : decode cX4_readsCell 224 = .ok (.putfield 102, 3) := by decide +kernel
theorem dX4_readsCell_227 : decode cX4_readsCell 227 = .ok (.iconst 1, 1) := by decide +kernel
theorem dX4_readsCell_228 : decode cX4_readsCell 228 = .ok (.ireturn, 1) := by decide +kernel
theorem dX4_readsSquare_0 : decode cX4_readsSquare 0 = .ok (.aload_n 0, 1) := by decide +kernel
theorem dX4_readsSquare_1 : decode cX4_readsSquare 1 = .ok (.iconst 0, 1) := by decide +kernel
theorem dX4_readsSquare_2 : decode cX4_readsSquare 2 = .ok (.putfield 92, 3) := by decide +kernel
theorem dX4_readsSquare_5 : decode cX4_readsSquare 5 = .ok (.aload_n 0, 1) := by decide +kernel
theorem dX4_readsSquare_6 : decode cX4_readsSquare 6 = .ok (.iconst 0, 1) := by decide +kernel
theorem dX4_readsSquare_7 : decode cX4_readsSquare 7 = .ok (.putfield 99, 3) := by decide +kernel
theorem dX4_readsSquare_10 : decode cX4_readsSquare 10 = .ok (.aload_n 0, 1) := by decide +kernel
theorem dX4_readsSquare_11 : decode cX4_readsSquare 11 = .ok (.iconst 0, 1) := by decide +kernel
theorem dX4_readsSquare_12 : decode cX4_readsSquare 12 = .ok (.putfield 102, 3) := by decide +kernel
theorem dX4_readsSquare_15 : decode cX4_readsSquare 15 = .ok (.aload_n 0, 1) := by decide +kernel
theorem dX4_readsSquare_16 : decode cX4_readsSquare 16 = .ok (.iload_n 1, 1) := by decide +kernel
theorem dX4_readsSquare_17 : decode cX4_readsSquare 17 = .ok (.iload_n 2, 1) := by decide +kernel
theorem dX4_readsSquare_18 : decode cX4_readsSquare 18 = .ok (.invokevirtual 95, 3) := by decide +kernel
theorem dX4_readsSquare_21 : decode cX4_readsSquare 21 = .ok (.bipush 113, 2) := by decide +kernel
theorem dX4_readsSquare_23 : decode cX4_readsSquare 23 = .ok (.if_icmp .ne 7, 3) := by decide +kernel
theorem dX4_readsSquare_26 : decode cX4_readsSquare 26 = .ok (.iconst 1, 1) := by decide +kernel
theorem dX4_readsSquare_27 : decode cX4_readsSquare 27 = .ok (.goto 4, 3) := by decide +kernel
theorem dX4_readsSquare_30 : decode cX4_readsSquare 30 = .ok (.iconst 0, 1) := by decide +kernel
theorem dX4_readsSquare_31 : decode cX4_readsSquare 31 = .ok (.istore_n 3, 1) := by decide +kernel
theorem dX4_readsSquare_32 : decode cX4_readsSquare 32 = .ok (.aload_n 0, 1) := by decide +kernel
theorem dX4_readsSquare_33 : decode cX4_readsSquare 33 = .ok (.dup, 1) := by decide +kernel
theorem dX4_readsSquare_34 : decode cX4_readsSquare 34 = .ok (.getfield 92, 3) := by decide +kernel
theorem dX4_readsSquare_37 : decode cX4_readsSquare 37 = .ok (.iload_n 3, 1) := by decide +kernel
theorem dX4_readsSquare_38 : decode cX4_readsSquare 38 = .ok (.ifCond .eq 7, 3) := by decide +kernel
theorem dX4_readsSquare_41 : decode cX4_readsSquare 41 = .ok (.iconst 1, 1) := by decide +kernel
theorem dX4_readsSquare_42 : decode cX4_readsSquare 42 = .ok (.goto 4, 3) := by decide +kernel
theorem dX4_readsSquare_45 : decode cX4_readsSquare 45 = .ok (.iconst 0, 1) := by decide +kernel
theorem dX4_readsSquare_46 : decode cX4_readsSquare 46 = .ok (.iadd, 1) := by decide +kernel
theorem dX4_readsSquare_47 : decode cX4_readsSquare 47 = .ok (.putfield 92, 3) := by decide +kernel
theorem dX4_readsSquare_50 : decode cX4_readsSquare 50 = .ok (.aload_n 0, 1) := by decide +kernel
theorem dX4_readsSquare_51 : decode cX4_readsSquare 51 = .ok (.iload_n 3, 1) := by decide +kernel
theorem dX4_readsSquare_52 : decode cX4_readsSquare 52 = .ok (.ifCond .eq 15, 3) := by decide +kernel
theorem dX4_readsSquare_55 : decode cX4_readsSquare 55 = .ok (.aload_n 0, 1) := by decide +kernel
theorem dX4_readsSquare_56 : decode cX4_readsSquare 56 = .ok (.iload_n 1, 1) := by decide +kernel
theorem dX4_readsSquare_57 : decode cX4_readsSquare 57 = .ok (.iload_n 2, 1) := by decide +kernel
theorem dX4_readsSquare_58 : decode cX4_readsSquare 58 = .ok (.iconst 1, 1) := by decide +kernel
theorem dX4_readsSquare_59 : decode cX4_readsSquare 59 = .ok (.bipush 6, 2) := by decide +kernel
theorem dX4_readsSquare_61 : decode cX4_readsSquare 61 = .ok (.invokevirtual 105, 3) := by decide +kernel
theorem dX4_readsSquare_64 : decode cX4_readsSquare 64 = .ok (.goto 5, 3) := by decide +kernel
theorem dX4_readsSquare_67 : decode cX4_readsSquare 67 = .ok (.bipush (-9), 2) := by decide +kernel
theorem dX4_readsSquare_69 : decode cX4_readsSquare 69 = .ok (.putfield 109, 3) := by decide +kernel
theorem dX4_readsSquare_72 : decode cX4_readsSquare 72 = .ok (.aload_n 0, 1) := by decide +kernel
theorem dX4_readsSquare_73 : decode cX4_readsSquare 73 = .ok (.aload_n 0, 1) := by decide +kernel
theorem dX4_readsSquare_74 : decode cX4_readsSquare 74 = .ok (.getfield 109, 3) := by decide +kernel
theorem dX4_readsSquare_77 : decode cX4_readsSquare 77 = .ok (.ifCond .le 15, 3) := by decide +kernel
theorem dX4_readsSquare_80 : decode cX4_readsSquare 80 = .ok (.aload_n 0, 1) := by decide +kernel
theorem dX4_readsSquare_81 : decode cX4_readsSquare 81 = .ok (.iload_n 1, 1) := by decide +kernel
theorem dX4_readsSquare_82 : decode cX4_readsSquare 82 = .ok (.iload_n 2, 1) := by decide +kernel
theorem dX4_readsSquare_83 : decode cX4_readsSquare 83 = .ok (.iconst 2, 1) := by decide +kernel
theorem dX4_readsSquare_84 : decode cX4_readsSquare 84 = .ok (.bipush 7, 2) := by decide +kernel
theorem dX4_readsSquare_86 : decode cX4_readsSquare 86 = .ok (.invokevirtual 105, 3) := by decide +kernel
theorem dX4_readsSquare_89 : decode cX4_readsSquare 89 = .ok (.goto 5, 3) := by decide +kernel
theorem dX4_readsSquare_92 : decode cX4_readsSquare 92 = .ok (.bipush (-9), 2) := by decide +kernel
theorem dX4_readsSquare_94 : decode cX4_readsSquare 94 = .ok (.putfield 112, 3) := by decide +kernel
theorem dX4_readsSquare_97 : decode cX4_readsSquare 97 = .ok (.aload_n 0, 1) := by decide +kernel
theorem dX4_readsSquare_98 : decode cX4_readsSquare 98 = .ok (.getfield 112, 3) := by decide +kernel
theorem dX4_readsSquare_101 : decode cX4_readsSquare 101 = .ok (.ifCond .le 7, 3) := by decide +kernel
theorem dX4_readsSquare_104 : decode cX4_readsSquare 104 = .ok (.iconst 1, 1) := by decide +kernel
theorem dX4_readsSquare_105 : decode cX4_readsSquare 105 = .ok (.goto 4, 3) := by decide +kernel
theorem dX4_readsSquare_108 : decode cX4_readsSquare 108 = .ok (.iconst 0, 1) := by decide +kernel
theorem dX4_readsSquare_109 : decode cX4_readsSquare 109 = .ok (.istore_n 3, 1) := by decide +kernel
theorem dX4_readsSquare_110 : decode cX4_readsSquare 110 = .ok (.iconst 0, 1) := by decide +kernel
theorem dX4_readsSquare_111 : decode cX4_readsSquare 111 = .ok (.istore 4, 2) := by decide +kernel
theorem dX4_readsSquare_113 : decode cX4_readsSquare 113 = .ok (.iload_n 3, 1) := by decide +kernel
theorem dX4_readsSquare_114 : decode cX4_readsSquare 114 = .ok (.ifCond .eq 89, 3) := by decide +kernel
theorem dX4_readsSquare_117 : decode cX4_readsSquare 117 = .ok (.iload 4, 2) := by decide +kernel
theorem dX4_readsSquare_119 : decode cX4_readsSquare 119 = .ok (.aload_n 0, 1) := by decide +kernel
theorem dX4_readsSquare_120 : decode cX4_readsSquare 120 = .ok (.getfield 109, 3) := by decide +kernel
theorem dX4_readsSquare_123 : decode cX4_readsSquare 123 = .ok (.aload_n 0, 1) := by decide +kernel
theorem dX4_readsSquare_124 : decode cX4_readsSquare 124 = .ok (.getfield 112, 3) := by decide +kernel
theorem dX4_readsSquare_127 : decode cX4_readsSquare 127 = .ok (.imul, 1) := by decide +kernel
theorem dX4_readsSquare_128 : decode cX4_readsSquare 128 = .ok (.if_icmp .ge 75, 3) := by decide +kernel
theorem dX4_readsSquare_131 : decode cX4_readsSquare 131 = .ok (.iload 4, 2) := by decide +kernel
theorem dX4_readsSquare_133 : decode cX4_readsSquare 133 = .ok (.aload_n 0, 1) := by decide +kernel
theorem dX4_readsSquare_134 : decode cX4_readsSquare 134 = .ok (.getfield 112, 3) := by decide +kernel
theorem dX4_readsSquare_137 : decode cX4_readsSquare 137 = .ok (.irem, 1) := by decide +kernel
theorem dX4_readsSquare_138 : decode cX4_readsSquare 138 = .ok (.ifCond .ne 38, 3) := by decide +kernel
theorem dX4_readsSquare_141 : decode cX4_readsSquare 141 = .ok (.aload_n 0, 1) := by decide +kernel
theorem dX4_readsSquare_142 : decode cX4_readsSquare 142 = .ok (.iload_n 1, 1) := by decide +kernel
theorem dX4_readsSquare_143 : decode cX4_readsSquare 143 = .ok (.iload_n 2, 1) := by decide +kernel
theorem dX4_readsSquare_144 : decode cX4_readsSquare 144 = .ok (.invokevirtual 95, 3) := by decide +kernel
theorem dX4_readsSquare_147 : decode cX4_readsSquare 147 = .ok (.bipush 59, 2) := by decide +kernel
theorem dX4_readsSquare_149 : decode cX4_readsSquare 149 = .ok (.if_icmp .ne 7, 3) := by decide +kernel
theorem dX4_readsSquare_152 : decode cX4_readsSquare 152 = .ok (.iconst 1, 1) := by decide +kernel
theorem dX4_readsSquare_153 : decode cX4_readsSquare 153 = .ok (.goto 4, 3) := by decide +kernel
theorem dX4_readsSquare_156 : decode cX4_readsSquare 156 = .ok (.iconst 0, 1) := by decide +kernel
theorem dX4_readsSquare_157 : decode cX4_readsSquare 157 = .ok (.istore_n 3, 1) := by decide +kernel
theorem dX4_readsSquare_158 : decode cX4_readsSquare 158 = .ok (.aload_n 0, 1) := by decide +kernel
theorem dX4_readsSquare_159 : decode cX4_readsSquare 159 = .ok (.dup, 1) := by decide +kernel
theorem dX4_readsSquare_160 : decode cX4_readsSquare 160 = .ok (.getfield 92, 3) := by decide +kernel
theorem dX4_readsSquare_163 : decode cX4_readsSquare 163 = .ok (.iload_n 3, 1) := by decide +kernel
theorem dX4_readsSquare_164 : decode cX4_readsSquare 164 = .ok (.ifCond .eq 7, 3) := by decide +kernel
theorem dX4_readsSquare_167 : decode cX4_readsSquare 167 = .ok (.iconst 1, 1) := by decide +kernel
theorem dX4_readsSquare_168 : decode cX4_readsSquare 168 = .ok (.goto 4, 3) := by decide +kernel
theorem dX4_readsSquare_171 : decode cX4_readsSquare 171 = .ok (.iconst 0, 1) := by decide +kernel
theorem dX4_readsSquare_172 : decode cX4_readsSquare 172 = .ok (.iadd, 1) := by decide +kernel
theorem dX4_readsSquare_173 : decode cX4_readsSquare 173 = .ok (.putfield 92, 3) := by decide +kernel
theorem dX4_readsSquare_176 : decode cX4_readsSquare 176 = .ok (.iload_n 3, 1) := by decide +kernel
theorem dX4_readsSquare_177 : decode cX4_readsSquare 177 = .ok (.ifCond .eq 18, 3) := by decide +kernel
theorem dX4_readsSquare_180 : decode cX4_readsSquare 180 = .ok (.aload_n 0, 1) := by decide +kernel
theorem dX4_readsSquare_181 : decode cX4_readsSquare 181 = .ok (.iload_n 1, 1) := by decide +kernel
theorem dX4_readsSquare_182 : decode cX4_readsSquare 182 = .ok (.iload_n 2, 1) := by decide +kernel
theorem dX4_readsSquare_183 : decode cX4_readsSquare 183 = .ok (.iload 4, 2) := by decide +kernel
theorem dX4_readsSquare_185 : decode cX4_readsSquare 185 = .ok (.invokevirtual 115, 3) := by decide +kernel
theorem dX4_readsSquare_188 : decode cX4_readsSquare 188 = .ok (.ifCond .eq 7, 3) := by decide +kernel
theorem dX4_readsSquare_191 : decode cX4_readsSquare 191 = .ok (.iconst 1, 1) := by decide +kernel
theorem dX4_readsSquare_192 : decode cX4_readsSquare 192 = .ok (.goto 4, 3) := by decide +kernel
theorem dX4_readsSquare_195 : decode cX4_readsSquare 195 = .ok (.iconst 0, 1) := by decide +kernel
theorem dX4_readsSquare_196 : decode cX4_readsSquare 196 = .ok (.istore_n 3, 1) := by decide +kernel
theorem dX4_readsSquare_197 : decode cX4_readsSquare 197 = .ok (.iinc 4 1, 3) := by decide +kernel
theorem dX4_readsSquare_200 : decode cX4_readsSquare 200 = .ok (.goto (-87), 3) := by decide +kernel
theorem dX4_readsSquare_203 : decode cX4_readsSquare 203 = .ok (.iload_n 3, 1) := by decide +kernel
theorem dX4_readsSquare_204 : decode cX4_readsSquare 204 = .ok (.ifCond .eq 15, 3) := by decide +kernel
theorem dX4_readsSquare_207 : decode cX4_readsSquare 207 = .ok (.aload_n 0, 1) := by decide +kernel
theorem dX4_readsSquare_208 : decode cX4_readsSquare 208 = .ok (.getfield 92, 3) := by decide +kernel
theorem dX4_readsSquare_211 : decode cX4_readsSquare 211 = .ok (.iload_n 2, 1) := by decide +kernel
theorem dX4_readsSquare_212 : decode cX4_readsSquare 212 = .ok (.if_icmp .ne 7, 3) := by decide +kernel
theorem dX4_readsSquare_215 : decode cX4_readsSquare 215 = .ok (.iconst 1, 1) := by decide +kernel
theorem dX4_readsSquare_216 : decode cX4_readsSquare 216 = .ok (.goto 4, 3) := by decide +kernel
theorem dX4_readsSquare_219 : decode cX4_readsSquare 219 = .ok (.iconst 0, 1) := by decide +kernel
theorem dX4_readsSquare_220 : decode cX4_readsSquare 220 = .ok (.ireturn, 1) := by decide +kernel
theorem dX4_square_0 : decode cX4_square 0 = .ok (.iload_n 1, 1) := by decide +kernel
theorem dX4_square_1 : decode cX4_square 1 = .ok (.invokestatic 119, 3) := by decide +kernel
theorem dX4_square_4 : decode cX4_square 4 = .ok (.ifCond .eq 9, 3) := by decide +kernel
theorem dX4_square_7 : decode cX4_square 7 = .ok (.aload_n 0, 1) := by decide +kernel
theorem dX4_square_8 : decode cX4_square 8 = .ok (.iconst (-1), 1) := by decide +kernel
theorem dX4_square_9 : decode cX4_square 9 = .ok (.invokevirtual 123, 3) := by decide +kernel
theorem dX4_square_12 : decode cX4_square 12 = .ok (.ireturn, 1) := by decide +kernel
theorem dX4_square_13 : decode cX4_square 13 = .ok (.iload_n 2, 1) := by decide +kernel
theorem dX4_square_14 : decode cX4_square 14 = .ok (.i2l, 1) := by decide +kernel
theorem dX4_square_15 : decode cX4_square 15 = .ok (.lconst 0, 1) := by decide +kernel
theorem dX4_square_16 : decode cX4_square 16 = .ok (.ldc2_w 127, 3) := by decide +kernel
theorem dX4_square_19 : decode cX4_square 19 = .ok (.invokestatic 82, 3) := by decide +kernel
theorem dX4_square_22 : decode cX4_square 22 = .ok (.ifCond .ne 10, 3) := by decide +kernel
theorem dX4_square_25 : decode cX4_square 25 = .ok (.aload_n 0, 1) := by decide +kernel
theorem dX4_square_26 : decode cX4_square 26 = .ok (.bipush (-2), 2) := by decide +kernel
theorem dX4_square_28 : decode cX4_square 28 = .ok (.invokevirtual 123, 3) := by decide +kernel
theorem dX4_square_31 : decode cX4_square 31 = .ok (.ireturn, 1) := by decide +kernel
theorem dX4_square_32 : decode cX4_square 32 = .ok (.aload_n 0, 1) := by decide +kernel
theorem dX4_square_33 : decode cX4_square 33 = .ok (.getfield 51, 3) := by decide +kernel
theorem dX4_square_36 : decode cX4_square 36 = .ok (.iload_n 1, 1) := by decide +kernel
theorem dX4_square_37 : decode cX4_square 37 = .ok (.iaload, 1) := by decide +kernel
theorem dX4_square_38 : decode cX4_square 38 = .ok (.ifCond .lt 19, 3) := by decide +kernel
theorem dX4_square_41 : decode cX4_square 41 = .ok (.aload_n 0, 1) := by decide +kernel
theorem dX4_square_42 : decode cX4_square 42 = .ok (.getfield 54, 3) := by decide +kernel
theorem dX4_square_45 : decode cX4_square 45 = .ok (.iload_n 1, 1) := by decide +kernel
theorem dX4_square_46 : decode cX4_square 46 = .ok (.iaload, 1) := by decide +kernel
theorem dX4_square_47 : decode cX4_square 47 = .ok (.iload_n 2, 1) := by decide +kernel
theorem dX4_square_48 : decode cX4_square 48 = .ok (.if_icmp .eq 9, 3) := by decide +kernel
theorem dX4_square_51 : decode cX4_square 51 = .ok (.aload_n 0, 1) := by decide +kernel
theorem dX4_square_52 : decode cX4_square 52 = .ok (.iconst 2, 1) := by decide +kernel
theorem dX4_square_53 : decode cX4_square 53 = .ok (.invokevirtual 129, 3) := by decide +kernel
theorem dX4_square_56 : decode cX4_square 56 = .ok (.ireturn, 1) := by decide +kernel
theorem dX4_square_57 : decode cX4_square 57 = .ok (.aload_n 0, 1) := by decide +kernel
theorem dX4_square_58 : decode cX4_square 58 = .ok (.getfield 51, 3) := by decide +kernel
theorem dX4_square_61 : decode cX4_square 61 = .ok (.iload_n 1, 1) := by decide +kernel
theorem dX4_square_62 : decode cX4_square 62 = .ok (.iaload, 1) := by decide +kernel
theorem dX4_square_63 : decode cX4_square 63 = .ok (.ifCond .ge 9, 3) := by decide +kernel
theorem dX4_square_66 : decode cX4_square 66 = .ok (.aload_n 0, 1) := by decide +kernel
theorem dX4_square_67 : decode cX4_square 67 = .ok (.iconst 1, 1) := by decide +kernel
theorem dX4_square_68 : decode cX4_square 68 = .ok (.invokevirtual 129, 3) := by decide +kernel
theorem dX4_square_71 : decode cX4_square 71 = .ok (.ireturn, 1) := by decide +kernel
theorem dX4_square_72 : decode cX4_square 72 = .ok (.iload 4, 2) := by decide +kernel
theorem dX4_square_74 : decode cX4_square 74 = .ok (.ifCond .ge 9, 3) := by decide +kernel
theorem dX4_square_77 : decode cX4_square 77 = .ok (.aload_n 0, 1) := by decide +kernel
theorem dX4_square_78 : decode cX4_square 78 = .ok (.iconst 4, 1) := by decide +kernel
theorem dX4_square_79 : decode cX4_square 79 = .ok (.invokevirtual 129, 3) := by decide +kernel
theorem dX4_square_82 : decode cX4_square 82 = .ok (.ireturn, 1) := by decide +kernel
theorem dX4_square_83 : decode cX4_square 83 = .ok (.iload_n 3, 1) := by decide +kernel
theorem dX4_square_84 : decode cX4_square 84 = .ok (.iload 4, 2) := by decide +kernel
theorem dX4_square_86 : decode cX4_square 86 = .ok (.i2l, 1) := by decide +kernel
theorem dX4_square_87 : decode cX4_square 87 = .ok (.aload_n 0, 1) := by decide +kernel
theorem dX4_square_88 : decode cX4_square 88 = .ok (.getfield 51, 3) := by decide +kernel
theorem dX4_square_91 : decode cX4_square 91 = .ok (.iload_n 1, 1) := by decide +kernel
theorem dX4_square_92 : decode cX4_square 92 = .ok (.iaload, 1) := by decide +kernel
theorem dX4_square_93 : decode cX4_square 93 = .ok (.invokestatic 132, 3) := by decide +kernel
theorem dX4_square_96 : decode cX4_square 96 = .ok (.ifCond .eq 9, 3) := by decide +kernel
theorem dX4_square_99 : decode cX4_square 99 = .ok (.aload_n 0, 1) := by decide +kernel
theorem dX4_square_100 : decode cX4_square 100 = .ok (.iconst 3, 1) := by decide +kernel
theorem dX4_square_101 : decode cX4_square 101 = .ok (.invokevirtual 129, 3) := by decide +kernel
theorem dX4_square_104 : decode cX4_square 104 = .ok (.ireturn, 1) := by decide +kernel
theorem dX4_square_105 : decode cX4_square 105 = .ok (.aload_n 0, 1) := by decide +kernel
theorem dX4_square_106 : decode cX4_square 106 = .ok (.bipush 100, 2) := by decide +kernel
theorem dX4_square_108 : decode cX4_square 108 = .ok (.iload_n 1, 1) := by decide +kernel
theorem dX4_square_109 : decode cX4_square 109 = .ok (.imul, 1) := by decide +kernel
theorem dX4_square_110 : decode cX4_square 110 = .ok (.iload_n 3, 1) := by decide +kernel
theorem dX4_square_111 : decode cX4_square 111 = .ok (.iadd, 1) := by decide +kernel
theorem dX4_square_112 : decode cX4_square 112 = .ok (.iload 4, 2) := by decide +kernel
theorem dX4_square_114 : decode cX4_square 114 = .ok (.invokevirtual 136, 3) := by decide +kernel
theorem dX4_square_117 : decode cX4_square 117 = .ok (.ifCond .ne 15, 3) := by decide +kernel
theorem dX4_square_120 : decode cX4_square 120 = .ok (.aload_n 0, 1) := by decide +kernel
theorem dX4_square_121 : decode cX4_square 121 = .ok (.bipush (-100), 2) := by decide +kernel
theorem dX4_square_123 : decode cX4_square 123 = .ok (.aload_n 0, 1) := by decide +kernel
theorem dX4_square_124 : decode cX4_square 124 = .ok (.getfield 92, 3) := by decide +kernel
theorem dX4_square_127 : decode cX4_square 127 = .ok (.isub, 1) := by decide +kernel
theorem dX4_square_128 : decode cX4_square 128 = .ok (.invokevirtual 123, 3) := by decide +kernel
theorem dX4_square_131 : decode cX4_square 131 = .ok (.ireturn, 1) := by decide +kernel
theorem dX4_square_132 : decode cX4_square 132 = .ok (.aload_n 0, 1) := by decide +kernel
theorem dX4_square_133 : decode cX4_square 133 = .ok (.aload_n 0, 1) := by decide +kernel
theorem dX4_square_134 : decode cX4_square 134 = .ok (.getfield 109, 3) := by decide +kernel
theorem dX4_square_137 : decode cX4_square 137 = .ok (.putfield 72, 3) := by decide +kernel
theorem dX4_square_140 : decode cX4_square 140 = .ok (.aload_n 0, 1) := by decide +kernel
theorem dX4_square_141 : decode cX4_square 141 = .ok (.aload_n 0, 1) := by decide +kernel
theorem dX4_square_142 : decode cX4_square 142 = .ok (.getfield 112, 3) := by decide +kernel
theorem dX4_square_145 : decode cX4_square 145 = .ok (.putfield 75, 3) := by decide +kernel
theorem dX4_square_148 : decode cX4_square 148 = .ok (.aload_n 0, 1) := by decide +kernel
theorem dX4_square_149 : decode cX4_square 149 = .ok (.aload_n 0, 1) := by decide +kernel
theorem dX4_square_150 : decode cX4_square 150 = .ok (.getfield 99, 3) := by decide +kernel
theorem dX4_square_153 : decode cX4_square 153 = .ok (.putfield 89, 3) := by decide +kernel
theorem dX4_square_156 : decode cX4_square 156 = .ok (.aload_n 0, 1) := by decide +kernel
theorem dX4_square_157 : decode cX4_square 157 = .ok (.aload_n 0, 1) := by decide +kernel
theorem dX4_square_158 : decode cX4_square 158 = .ok (.getfield 102, 3) := by decide +kernel
theorem dX4_square_161 : decode cX4_square 161 = .ok (.putfield 86, 3) := by decide +kernel
theorem dX4_square_164 : decode cX4_square 164 = .ok (.iconst 0, 1) := by decide +kernel
theorem dX4_square_165 : decode cX4_square 165 = .ok (.istore 5, 2) := by decide +kernel
theorem dX4_square_167 : decode cX4_square 167 = .ok (.iload 5, 2) := by decide +kernel
theorem dX4_square_169 : decode cX4_square 169 = .ok (.aload_n 0, 1) := by decide +kernel
theorem dX4_square_170 : decode cX4_square 170 = .ok (.invokevirtual 78, 3) := by decide +kernel
theorem dX4_square_173 : decode cX4_square 173 = .ok (.if_icmp .ge 23, 3) := by decide +kernel
theorem dX4_square_176 : decode cX4_square 176 = .ok (.aload_n 0, 1) := by decide +kernel
theorem dX4_square_177 : decode cX4_square 177 = .ok (.getfield 7, 3) := by decide +kernel
theorem dX4_square_180 : decode cX4_square 180 = .ok (.iload 5, 2) := by decide +kernel
theorem dX4_square_182 : decode cX4_square 182 = .ok (.aload_n 0, 1) := by decide +kernel
theorem dX4_square_183 : decode cX4_square 183 = .ok (.getfield 32, 3) := by decide +kernel
theorem dX4_square_186 : decode cX4_square 186 = .ok (.iload 5, 2) := by decide +kernel
theorem dX4_square_188 : decode cX4_square 188 = .ok (.iaload, 1) := by decide +kernel
theorem dX4_square_189 : decode cX4_square 189 = .ok (.iastore, 1) := by decide +kernel
theorem dX4_square_190 : decode cX4_square 190 = .ok (.iinc 5 1, 3) := by decide +kernel
theorem dX4_square_193 : decode cX4_square 193 = .ok (.goto (-26), 3) := by decide +kernel
theorem dX4_square_196 : decode cX4_square 196 = .ok (.iconst 0, 1) := by decide +kernel
theorem dX4_square_197 : decode cX4_square 197 = .ok (.istore 5, 2) := by decide +kernel
theorem dX4_square_199 : decode cX4_square 199 = .ok (.iload 5, 2) := by decide +kernel
theorem dX4_square_201 : decode cX4_square 201 = .ok (.aload_n 0, 1) := by decide +kernel
theorem dX4_square_202 : decode cX4_square 202 = .ok (.getfield 89, 3) := by decide +kernel
theorem dX4_square_205 : decode cX4_square 205 = .ok (.if_icmp .ge 23, 3) := by decide +kernel
theorem dX4_square_208 : decode cX4_square 208 = .ok (.aload_n 0, 1) := by decide +kernel
theorem dX4_square_209 : decode cX4_square 209 = .ok (.getfield 13, 3) := by decide +kernel
theorem dX4_square_212 : decode cX4_square 212 = .ok (.iload 5, 2) := by decide +kernel
theorem dX4_square_214 : decode cX4_square 214 = .ok (.aload_n 0, 1) := by decide +kernel
theorem dX4_square_215 : decode cX4_square 215 = .ok (.getfield 35, 3) := by decide +kernel
theorem dX4_square_218 : decode cX4_square 218 = .ok (.iload 5, 2) := by decide +kernel
theorem dX4_square_220 : decode cX4_square 220 = .ok (.iaload, 1) := by decide +kernel
theorem dX4_square_221 : decode cX4_square 221 = .ok (.iastore, 1) := by decide +kernel
theorem dX4_square_222 : decode cX4_square 222 = .ok (.iinc 5 1, 3) := by decide +kernel
theorem dX4_square_225 : decode cX4_square 225 = .ok (.goto (-26), 3) := by decide +kernel
theorem dX4_square_228 : decode cX4_square 228 = .ok (.iconst 0, 1) := by decide +kernel
theorem dX4_square_229 : decode cX4_square 229 = .ok (.istore 5, 2) := by decide +kernel
theorem dX4_square_231 : decode cX4_square 231 = .ok (.iload 5, 2) := by decide +kernel
theorem dX4_square_233 : decode cX4_square 233 = .ok (.aload_n 0, 1) := by decide +kernel
theorem dX4_square_234 : decode cX4_square 234 = .ok (.getfield 86, 3) := by decide +kernel
theorem dX4_square_237 : decode cX4_square 237 = .ok (.if_icmp .ge 67, 3) := by decide +kernel
theorem dX4_square_240 : decode cX4_square 240 = .ok (.aload_n 0, 1) := by decide +kernel
theorem dX4_square_241 : decode cX4_square 241 = .ok (.getfield 16, 3) := by decide +kernel
theorem dX4_square_244 : decode cX4_square 244 = .ok (.iload 5, 2) := by decide +kernel
theorem dX4_square_246 : decode cX4_square 246 = .ok (.aload_n 0, 1) := by decide +kernel
theorem dX4_square_247 : decode cX4_square 247 = .ok (.getfield 38, 3) := by decide +kernel
theorem dX4_square_250 : decode cX4_square 250 = .ok (.iload 5, 2) := by decide +kernel
theorem dX4_square_252 : decode cX4_square 252 = .ok (.iaload, 1) := by decide +kernel
theorem dX4_square_253 : decode cX4_square 253 = .ok (.iastore, 1) := by decide +kernel
theorem dX4_square_254 : decode cX4_square 254 = .ok (.aload_n 0, 1) := by decide +kernel
theorem dX4_square_255 : decode cX4_square 255 = .ok (.getfield 19, 3) := by decide +kernel
theorem dX4_square_258 : decode cX4_square 258 = .ok (.iload 5, 2) := by decide +kernel
theorem dX4_square_260 : decode cX4_square 260 = .ok (.aload_n 0, 1) := by decide +kernel
theorem dX4_square_261 : decode cX4_square 261 = .ok (.getfield 41, 3) := by decide +kernel
theorem dX4_square_264 : decode cX4_square 264 = .ok (.iload 5, 2) := by decide +kernel
theorem dX4_square_266 : decode cX4_square 266 = .ok (.iaload, 1) := by decide +kernel
theorem dX4_square_267 : decode cX4_square 267 = .ok (.iastore, 1) := by decide +kernel
theorem dX4_square_268 : decode cX4_square 268 = .ok (.aload_n 0, 1) := by decide +kernel
theorem dX4_square_269 : decode cX4_square 269 = .ok (.getfield 22, 3) := by decide +kernel
theorem dX4_square_272 : decode cX4_square 272 = .ok (.iload 5, 2) := by decide +kernel
theorem dX4_square_274 : decode cX4_square 274 = .ok (.aload_n 0, 1) := by decide +kernel
theorem dX4_square_275 : decode cX4_square 275 = .ok (.getfield 44, 3) := by decide +kernel
theorem dX4_square_278 : decode cX4_square 278 = .ok (.iload 5, 2) := by decide +kernel
theorem dX4_square_280 : decode cX4_square 280 = .ok (.iaload, 1) := by decide +kernel
theorem dX4_square_281 : decode cX4_square 281 = .ok (.iastore, 1) := by decide +kernel
theorem dX4_square_282 : decode cX4_square 282 = .ok (.aload_n 0, 1) := by decide +kernel
theorem dX4_square_283 : decode cX4_square 283 = .ok (.getfield 25, 3) := by decide +kernel
theorem dX4_square_286 : decode cX4_square 286 = .ok (.iload 5, 2) := by decide +kernel
theorem dX4_square_288 : decode cX4_square 288 = .ok (.iconst 0, 1) := by decide +kernel
theorem dX4_square_289 : decode cX4_square 289 = .ok (.bastore, 1) := by decide +kernel
theorem dX4_square_290 : decode cX4_square 290 = .ok (.aload_n 0, 1) := by decide +kernel
theorem dX4_square_291 : decode cX4_square 291 = .ok (.getfield 29, 3) := by decide +kernel
theorem dX4_square_294 : decode cX4_square 294 = .ok (.iload 5, 2) := by decide +kernel
theorem dX4_square_296 : decode cX4_square 296 = .ok (.iconst 1, 1) := by decide +kernel
theorem dX4_square_297 : decode cX4_square 297 = .ok (.iastore, 1) := by decide +kernel
theorem dX4_square_298 : decode cX4_square 298 = .ok (.iinc 5 1, 3) := by decide +kernel
theorem dX4_square_301 : decode cX4_square 301 = .ok (.goto (-70), 3) := by decide +kernel
theorem dX4_square_304 : decode cX4_square 304 = .ok (.aload_n 0, 1) := by decide +kernel
theorem dX4_square_305 : decode cX4_square 305 = .ok (.iconst 0, 1) := by decide +kernel
theorem dX4_square_306 : decode cX4_square 306 = .ok (.putfield 140, 3) := by decide +kernel
theorem dX4_square_309 : decode cX4_square 309 = .ok (.aload_n 0, 1) := by decide +kernel
theorem dX4_square_310 : decode cX4_square 310 = .ok (.iconst 0, 1) := by decide +kernel
theorem dX4_square_311 : decode cX4_square 311 = .ok (.putfield 143, 3) := by decide +kernel
theorem dX4_square_314 : decode cX4_square 314 = .ok (.aload_n 0, 1) := by decide +kernel
theorem dX4_square_315 : decode cX4_square 315 = .ok (.bipush (-9), 2) := by decide +kernel
theorem dX4_square_317 : decode cX4_square 317 = .ok (.putfield 47, 3) := by decide +kernel
theorem dX4_square_320 : decode cX4_square 320 = .ok (.aload_n 0, 1) := by decide +kernel
theorem dX4_square_321 : decode cX4_square 321 = .ok (.aload_n 0, 1) := by decide +kernel
theorem dX4_square_322 : decode cX4_square 322 = .ok (.invokevirtual 78, 3) := by decide +kernel
theorem dX4_square_325 : decode cX4_square 325 = .ok (.invokevirtual 123, 3) := by decide +kernel
theorem dX4_square_328 : decode cX4_square 328 = .ok (.ireturn, 1) := by decide +kernel
theorem dX4_cellHas_0 : decode cX4_cellHas 0 = .ok (.aload_n 0, 1) := by decide +kernel
theorem dX4_cellHas_1 : decode cX4_cellHas 1 = .ok (.iload_n 1, 1) := by decide +kernel
theorem dX4_cellHas_2 : decode cX4_cellHas 2 = .ok (.invokevirtual 147, 3) := by decide +kernel
theorem dX4_cellHas_5 : decode cX4_cellHas 5 = .ok (.ifCond .eq 7, 3) := by decide +kernel
theorem dX4_cellHas_8 : decode cX4_cellHas 8 = .ok (.iconst (-1), 1) := by decide +kernel
theorem dX4_cellHas_9 : decode cX4_cellHas 9 = .ok (.goto 9, 3) := by decide +kernel
theorem dX4_cellHas_12 : decode cX4_cellHas 12 = .ok (.aload_n 0, 1) := by decide +kernel
theorem dX4_cellHas_13 : decode cX4_cellHas 13 = .ok (.getfield 7, 3) := by decide +kernel
theorem dX4_cellHas_16 : decode cX4_cellHas 16 = .ok (.iload_n 1, 1) := by decide +kernel
theorem dX4_cellHas_17 : decode cX4_cellHas 17 = .ok (.iaload, 1) := by decide +kernel
theorem dX4_cellHas_18 : decode cX4_cellHas 18 = .ok (.ireturn, 1) := by decide +kernel
theorem dX4_tallNow_0 : decode cX4_tallNow 0 = .ok (.aload_n 0, 1) := by decide +kernel
theorem dX4_tallNow_1 : decode cX4_tallNow 1 = .ok (.getfield 16, 3) := by decide +kernel
theorem dX4_tallNow_4 : decode cX4_tallNow 4 = .ok (.iload_n 1, 1) := by decide +kernel
theorem dX4_tallNow_5 : decode cX4_tallNow 5 = .ok (.iaload, 1) := by decide +kernel
theorem dX4_tallNow_6 : decode cX4_tallNow 6 = .ok (.ifCond .ne 10, 3) := by decide +kernel
theorem dX4_tallNow_9 : decode cX4_tallNow 9 = .ok (.aload_n 0, 1) := by decide +kernel
theorem dX4_tallNow_10 : decode cX4_tallNow 10 = .ok (.getfield 22, 3) := by decide +kernel
theorem dX4_tallNow_13 : decode cX4_tallNow 13 = .ok (.iload_n 1, 1) := by decide +kernel
theorem dX4_tallNow_14 : decode cX4_tallNow 14 = .ok (.iaload, 1) := by decide +kernel
theorem dX4_tallNow_15 : decode cX4_tallNow 15 = .ok (.ireturn, 1) := by decide +kernel
theorem dX4_tallNow_16 : decode cX4_tallNow 16 = .ok (.aload_n 0, 1) := by decide +kernel
theorem dX4_tallNow_17 : decode cX4_tallNow 17 = .ok (.getfield 143, 3) := by decide +kernel
theorem dX4_tallNow_20 : decode cX4_tallNow 20 = .ok (.ifCond .eq 12, 3) := by decide +kernel
theorem dX4_tallNow_23 : decode cX4_tallNow 23 = .ok (.aload_n 0, 1) := by decide +kernel
theorem dX4_tallNow_24 : decode cX4_tallNow 24 = .ok (.getfield 22, 3) := by decide +kernel
theorem dX4_tallNow_27 : decode cX4_tallNow 27 = .ok (.iload_n 1, 1) := by decide +kernel
theorem dX4_tallNow_28 : decode cX4_tallNow 28 = .ok (.iaload, 1) := by decide +kernel
theorem dX4_tallNow_29 : decode cX4_tallNow 29 = .ok (.goto 11, 3) := by decide +kernel
theorem dX4_tallNow_32 : decode cX4_tallNow 32 = .ok (.aload_n 0, 1) := by decide +kernel
theorem dX4_tallNow_33 : decode cX4_tallNow 33 = .ok (.getfield 22, 3) := by decide +kernel
theorem dX4_tallNow_36 : decode cX4_tallNow 36 = .ok (.iload_n 1, 1) := by decide +kernel
theorem dX4_tallNow_37 : decode cX4_tallNow 37 = .ok (.iaload, 1) := by decide +kernel
theorem dX4_tallNow_38 : decode cX4_tallNow 38 = .ok (.iconst 1, 1) := by decide +kernel
theorem dX4_tallNow_39 : decode cX4_tallNow 39 = .ok (.iadd, 1) := by decide +kernel
theorem dX4_tallNow_40 : decode cX4_tallNow 40 = .ok (.istore_n 2, 1) := by decide +kernel
theorem dX4_tallNow_41 : decode cX4_tallNow 41 = .ok (.aload_n 0, 1) := by decide +kernel
theorem dX4_tallNow_42 : decode cX4_tallNow 42 = .ok (.getfield 16, 3) := by decide +kernel
theorem dX4_tallNow_45 : decode cX4_tallNow 45 = .ok (.iload_n 1, 1) := by decide +kernel
theorem dX4_tallNow_46 : decode cX4_tallNow 46 = .ok (.iaload, 1) := by decide +kernel
theorem dX4_tallNow_47 : decode cX4_tallNow 47 = .ok (.iconst 1, 1) := by decide +kernel
theorem dX4_tallNow_48 : decode cX4_tallNow 48 = .ok (.if_icmp .ne 5, 3) := by decide +kernel
theorem dX4_tallNow_51 : decode cX4_tallNow 51 = .ok (.iload_n 2, 1) := by decide +kernel
theorem dX4_tallNow_52 : decode cX4_tallNow 52 = .ok (.ireturn, 1) := by decide +kernel
theorem dX4_tallNow_53 : decode cX4_tallNow 53 = .ok (.iload_n 2, 1) := by decide +kernel
theorem dX4_tallNow_54 : decode cX4_tallNow 54 = .ok (.aload_n 0, 1) := by decide +kernel
theorem dX4_tallNow_55 : decode cX4_tallNow 55 = .ok (.getfield 140, 3) := by decide +kernel
theorem dX4_tallNow_58 : decode cX4_tallNow 58 = .ok (.iconst 3, 1) := by decide +kernel
theorem dX4_tallNow_59 : decode cX4_tallNow 59 = .ok (.idiv, 1) := by decide +kernel
theorem dX4_tallNow_60 : decode cX4_tallNow 60 = .ok (.iadd, 1) := by decide +kernel
theorem dX4_tallNow_61 : decode cX4_tallNow 61 = .ok (.istore_n 2, 1) := by decide +kernel
theorem dX4_tallNow_62 : decode cX4_tallNow 62 = .ok (.aload_n 0, 1) := by decide +kernel
theorem dX4_tallNow_63 : decode cX4_tallNow 63 = .ok (.getfield 143, 3) := by decide +kernel
theorem dX4_tallNow_66 : decode cX4_tallNow 66 = .ok (.ifCond .eq 9, 3) := by decide +kernel
theorem dX4_tallNow_69 : decode cX4_tallNow 69 = .ok (.iload_n 2, 1) := by decide +kernel
theorem dX4_tallNow_70 : decode cX4_tallNow 70 = .ok (.iconst 2, 1) := by decide +kernel
theorem dX4_tallNow_71 : decode cX4_tallNow 71 = .ok (.idiv, 1) := by decide +kernel
theorem dX4_tallNow_72 : decode cX4_tallNow 72 = .ok (.goto 4, 3) := by decide +kernel
theorem dX4_tallNow_75 : decode cX4_tallNow 75 = .ok (.iload_n 2, 1) := by decide +kernel
theorem dX4_tallNow_76 : decode cX4_tallNow 76 = .ok (.ireturn, 1) := by decide +kernel
theorem dX4_ofThing_0 : decode cX4_ofThing 0 = .ok (.aload_n 0, 1) := by decide +kernel
theorem dX4_ofThing_1 : decode cX4_ofThing 1 = .ok (.iload_n 1, 1) := by decide +kernel
theorem dX4_ofThing_2 : decode cX4_ofThing 2 = .ok (.invokevirtual 150, 3) := by decide +kernel
theorem dX4_ofThing_5 : decode cX4_ofThing 5 = .ok (.ifCond .eq 5, 3) := by decide +kernel
theorem dX4_ofThing_8 : decode cX4_ofThing 8 = .ok (.iconst (-1), 1) := by decide +kernel
theorem dX4_ofThing_9 : decode cX4_ofThing 9 = .ok (.ireturn, 1) := by decide +kernel
theorem dX4_ofThing_10 : decode cX4_ofThing 10 = .ok (.iload_n 2, 1) := by decide +kernel
theorem dX4_ofThing_11 : decode cX4_ofThing 11 = .ok (.tableswitch 86 0 5 #[37, 44, 51, 58, 64, 79], 37) := by decide +kernel
theorem dX4_ofThing_48 : decode cX4_ofThing 48 = .ok (.aload_n 0, 1) := by decide +kernel
theorem dX4_ofThing_49 : decode cX4_ofThing 49 = .ok (.getfield 16, 3) := by decide +kernel
theorem dX4_ofThing_52 : decode cX4_ofThing 52 = .ok (.iload_n 1, 1) := by decide +kernel
theorem dX4_ofThing_53 : decode cX4_ofThing 53 = .ok (.iaload, 1) := by decide +kernel
theorem dX4_ofThing_54 : decode cX4_ofThing 54 = .ok (.ireturn, 1) := by decide +kernel
theorem dX4_ofThing_55 : decode cX4_ofThing 55 = .ok (.aload_n 0, 1) := by decide +kernel
theorem dX4_ofThing_56 : decode cX4_ofThing 56 = .ok (.getfield 19, 3) := by decide +kernel
theorem dX4_ofThing_59 : decode cX4_ofThing 59 = .ok (.iload_n 1, 1) := by decide +kernel
theorem dX4_ofThing_60 : decode cX4_ofThing 60 = .ok (.iaload, 1) := by decide +kernel
theorem dX4_ofThing_61 : decode cX4_ofThing 61 = .ok (.ireturn, 1) := by decide +kernel
theorem dX4_ofThing_62 : decode cX4_ofThing 62 = .ok (.aload_n 0, 1) := by decide +kernel
theorem dX4_ofThing_63 : decode cX4_ofThing 63 = .ok (.getfield 22, 3) := by decide +kernel
theorem dX4_ofThing_66 : decode cX4_ofThing 66 = .ok (.iload_n 1, 1) := by decide +kernel
theorem dX4_ofThing_67 : decode cX4_ofThing 67 = .ok (.iaload, 1) := by decide +kernel
theorem dX4_ofThing_68 : decode cX4_ofThing 68 = .ok (.ireturn, 1) := by decide +kernel
theorem dX4_ofThing_69 : decode cX4_ofThing 69 = .ok (.aload_n 0, 1) := by decide +kernel
theorem dX4_ofThing_70 : decode cX4_ofThing 70 = .ok (.iload_n 1, 1) := by decide +kernel
theorem dX4_ofThing_71 : decode cX4_ofThing 71 = .ok (.invokevirtual 153, 3) := by decide +kernel
theorem dX4_ofThing_74 : decode cX4_ofThing 74 = .ok (.ireturn, 1) := by decide +kernel
theorem dX4_ofThing_75 : decode cX4_ofThing 75 = .ok (.aload_n 0, 1) := by decide +kernel
theorem dX4_ofThing_76 : decode cX4_ofThing 76 = .ok (.getfield 25, 3) := by decide +kernel
theorem dX4_ofThing_79 : decode cX4_ofThing 79 = .ok (.iload_n 1, 1) := by decide +kernel
theorem dX4_ofThing_80 : decode cX4_ofThing 80 = .ok (.baload, 1) := by decide +kernel
theorem dX4_ofThing_81 : decode cX4_ofThing 81 = .ok (.ifCond .eq 7, 3) := by decide +kernel
theorem dX4_ofThing_84 : decode cX4_ofThing 84 = .ok (.iconst 1, 1) := by decide +kernel
theorem dX4_ofThing_85 : decode cX4_ofThing 85 = .ok (.goto 4, 3) := by decide +kernel
theorem dX4_ofThing_88 : decode cX4_ofThing 88 = .ok (.iconst 0, 1) := by decide +kernel
theorem dX4_ofThing_89 : decode cX4_ofThing 89 = .ok (.ireturn, 1) := by decide +kernel
theorem dX4_ofThing_90 : decode cX4_ofThing 90 = .ok (.aload_n 0, 1) := by decide +kernel
theorem dX4_ofThing_91 : decode cX4_ofThing 91 = .ok (.getfield 29, 3) := by decide +kernel
theorem dX4_ofThing_94 : decode cX4_ofThing 94 = .ok (.iload_n 1, 1) := by decide +kernel
theorem dX4_ofThing_95 : decode cX4_ofThing 95 = .ok (.iaload, 1) := by decide +kernel
theorem dX4_ofThing_96 : decode cX4_ofThing 96 = .ok (.ireturn, 1) := by decide +kernel
theorem dX4_ofThing_97 : decode cX4_ofThing 97 = .ok (.bipush (-2), 2) := by decide +kernel
theorem dX4_ofThing_99 : decode cX4_ofThing 99 = .ok (.ireturn, 1) := by decide +kernel
theorem dX4_bench_0 : decode cX4_bench 0 = .ok (.aload_n 0, 1) := by decide +kernel
theorem dX4_bench_1 : decode cX4_bench 1 = .ok (.iload_n 1, 1) := by decide +kernel
theorem dX4_bench_2 : decode cX4_bench 2 = .ok (.invokevirtual 156, 3) := by decide +kernel
theorem dX4_bench_5 : decode cX4_bench 5 = .ok (.ifCond .eq 7, 3) := by decide +kernel
theorem dX4_bench_8 : decode cX4_bench 8 = .ok (.iconst (-1), 1) := by decide +kernel
theorem dX4_bench_9 : decode cX4_bench 9 = .ok (.goto 9, 3) := by decide +kernel
theorem dX4_bench_12 : decode cX4_bench 12 = .ok (.aload_n 0, 1) := by decide +kernel
theorem dX4_bench_13 : decode cX4_bench 13 = .ok (.getfield 13, 3) := by decide +kernel
theorem dX4_bench_16 : decode cX4_bench 16 = .ok (.iload_n 1, 1) := by decide +kernel
theorem dX4_bench_17 : decode cX4_bench 17 = .ok (.iaload, 1) := by decide +kernel
theorem dX4_bench_18 : decode cX4_bench 18 = .ok (.ireturn, 1) := by decide +kernel
theorem dX4_year_0 : decode cX4_year 0 = .ok (.iload_n 1, 1) := by decide +kernel
theorem dX4_year_1 : decode cX4_year 1 = .ok (.i2l, 1) := by decide +kernel
theorem dX4_year_2 : decode cX4_year 2 = .ok (.lconst 0, 1) := by decide +kernel
theorem dX4_year_3 : decode cX4_year 3 = .ok (.ldc2_w 159, 3) := by decide +kernel
theorem dX4_year_6 : decode cX4_year 6 = .ok (.invokestatic 82, 3) := by decide +kernel
theorem dX4_year_9 : decode cX4_year 9 = .ok (.ifCond .ne 6, 3) := by decide +kernel
theorem dX4_year_12 : decode cX4_year 12 = .ok (.bipush (-2), 2) := by decide +kernel
theorem dX4_year_14 : decode cX4_year 14 = .ok (.ireturn, 1) := by decide +kernel
theorem dX4_year_15 : decode cX4_year 15 = .ok (.aload_n 0, 1) := by decide +kernel
theorem dX4_year_16 : decode cX4_year 16 = .ok (.getfield 72, 3) := by decide +kernel
theorem dX4_year_19 : decode cX4_year 19 = .ok (.ifCond .ne 6, 3) := by decide +kernel
theorem dX4_year_22 : decode cX4_year 22 = .ok (.bipush (-3), 2) := by decide +kernel
theorem dX4_year_24 : decode cX4_year 24 = .ok (.ireturn, 1) := by decide +kernel
theorem dX4_year_25 : decode cX4_year 25 = .ok (.aload_n 0, 1) := by decide +kernel
theorem dX4_year_26 : decode cX4_year 26 = .ok (.getfield 140, 3) := by decide +kernel
theorem dX4_year_29 : decode cX4_year 29 = .ok (.istore_n 3, 1) := by decide +kernel
theorem dX4_year_30 : decode cX4_year 30 = .ok (.aload_n 0, 1) := by decide +kernel
theorem dX4_year_31 : decode cX4_year 31 = .ok (.iload_n 1, 1) := by decide +kernel
theorem dX4_year_32 : decode cX4_year 32 = .ok (.putfield 140, 3) := by decide +kernel
theorem dX4_year_35 : decode cX4_year 35 = .ok (.aload_n 0, 1) := by decide +kernel
theorem dX4_year_36 : decode cX4_year 36 = .ok (.iload_n 2, 1) := by decide +kernel
theorem dX4_year_37 : decode cX4_year 37 = .ok (.putfield 143, 3) := by decide +kernel
theorem dX4_year_40 : decode cX4_year 40 = .ok (.iload_n 3, 1) := by decide +kernel
theorem dX4_year_41 : decode cX4_year 41 = .ok (.ireturn, 1) := by decide +kernel
theorem dX4_cut_0 : decode cX4_cut 0 = .ok (.aload_n 0, 1) := by decide +kernel
theorem dX4_cut_1 : decode cX4_cut 1 = .ok (.iload_n 1, 1) := by decide +kernel
theorem dX4_cut_2 : decode cX4_cut 2 = .ok (.invokevirtual 150, 3) := by decide +kernel
theorem dX4_cut_5 : decode cX4_cut 5 = .ok (.ifCond .eq 5, 3) := by decide +kernel
theorem dX4_cut_8 : decode cX4_cut 8 = .ok (.iconst (-1), 1) := by decide +kernel
theorem dX4_cut_9 : decode cX4_cut 9 = .ok (.ireturn, 1) := by decide +kernel
theorem dX4_cut_10 : decode cX4_cut 10 = .ok (.aload_n 0, 1) := by decide +kernel
theorem dX4_cut_11 : decode cX4_cut 11 = .ok (.getfield 25, 3) := by decide +kernel
theorem dX4_cut_14 : decode cX4_cut 14 = .ok (.iload_n 1, 1) := by decide +kernel
theorem dX4_cut_15 : decode cX4_cut 15 = .ok (.baload, 1) := by decide +kernel
theorem dX4_cut_16 : decode cX4_cut 16 = .ok (.istore_n 3, 1) := by decide +kernel
theorem dX4_cut_17 : decode cX4_cut 17 = .ok (.aload_n 0, 1) := by decide +kernel
theorem dX4_cut_18 : decode cX4_cut 18 = .ok (.getfield 25, 3) := by decide +kernel
theorem dX4_cut_21 : decode cX4_cut 21 = .ok (.iload_n 1, 1) := by decide +kernel
theorem dX4_cut_22 : decode cX4_cut 22 = .ok (.iload_n 2, 1) := by decide +kernel
theorem dX4_cut_23 : decode cX4_cut 23 = .ok (.bastore, 1) := by decide +kernel
theorem dX4_cut_24 : decode cX4_cut 24 = .ok (.iload_n 3, 1) := by decide +kernel
theorem dX4_cut_25 : decode cX4_cut 25 = .ok (.iload_n 2, 1) := by decide +kernel
theorem dX4_cut_26 : decode cX4_cut 26 = .ok (.if_icmp .ne 7, 3) := by decide +kernel
theorem dX4_cut_29 : decode cX4_cut 29 = .ok (.iconst 0, 1) := by decide +kernel
theorem dX4_cut_30 : decode cX4_cut 30 = .ok (.goto 4, 3) := by decide +kernel
theorem dX4_cut_33 : decode cX4_cut 33 = .ok (.iconst 1, 1) := by decide +kernel
theorem dX4_cut_34 : decode cX4_cut 34 = .ok (.ireturn, 1) := by decide +kernel
theorem dX4_price_0 : decode cX4_price 0 = .ok (.aload_n 0, 1) := by decide +kernel
theorem dX4_price_1 : decode cX4_price 1 = .ok (.iload_n 1, 1) := by decide +kernel
theorem dX4_price_2 : decode cX4_price 2 = .ok (.invokevirtual 150, 3) := by decide +kernel
theorem dX4_price_5 : decode cX4_price 5 = .ok (.ifCond .eq 5, 3) := by decide +kernel
theorem dX4_price_8 : decode cX4_price 8 = .ok (.iconst (-1), 1) := by decide +kernel
theorem dX4_price_9 : decode cX4_price 9 = .ok (.ireturn, 1) := by decide +kernel
theorem dX4_price_10 : decode cX4_price 10 = .ok (.iload_n 2, 1) := by decide +kernel
theorem dX4_price_11 : decode cX4_price 11 = .ok (.i2l, 1) := by decide +kernel
theorem dX4_price_12 : decode cX4_price 12 = .ok (.lconst 1, 1) := by decide +kernel
theorem dX4_price_13 : decode cX4_price 13 = .ok (.ldc2_w 161, 3) := by decide +kernel
theorem dX4_price_16 : decode cX4_price 16 = .ok (.invokestatic 82, 3) := by decide +kernel
theorem dX4_price_19 : decode cX4_price 19 = .ok (.ifCond .ne 6, 3) := by decide +kernel
theorem dX4_price_22 : decode cX4_price 22 = .ok (.bipush (-2), 2) := by decide +kernel
theorem dX4_price_24 : decode cX4_price 24 = .ok (.ireturn, 1) := by decide +kernel
theorem dX4_price_25 : decode cX4_price 25 = .ok (.aload_n 0, 1) := by decide +kernel
theorem dX4_price_26 : decode cX4_price 26 = .ok (.getfield 29, 3) := by decide +kernel
theorem dX4_price_29 : decode cX4_price 29 = .ok (.iload_n 1, 1) := by decide +kernel
theorem dX4_price_30 : decode cX4_price 30 = .ok (.iaload, 1) := by decide +kernel
theorem dX4_price_31 : decode cX4_price 31 = .ok (.istore_n 3, 1) := by decide +kernel
theorem dX4_price_32 : decode cX4_price 32 = .ok (.aload_n 0, 1) := by decide +kernel
theorem dX4_price_33 : decode cX4_price 33 = .ok (.getfield 29, 3) := by decide +kernel
theorem dX4_price_36 : decode cX4_price 36 = .ok (.iload_n 1, 1) := by decide +kernel
theorem dX4_price_37 : decode cX4_price 37 = .ok (.iload_n 2, 1) := by decide +kernel
theorem dX4_price_38 : decode cX4_price 38 = .ok (.iastore, 1) := by decide +kernel
theorem dX4_price_39 : decode cX4_price 39 = .ok (.iload_n 3, 1) := by decide +kernel
theorem dX4_price_40 : decode cX4_price 40 = .ok (.ireturn, 1) := by decide +kernel
theorem dX4_statue_0 : decode cX4_statue 0 = .ok (.aload_n 0, 1) := by decide +kernel
theorem dX4_statue_1 : decode cX4_statue 1 = .ok (.iload_n 1, 1) := by decide +kernel
theorem dX4_statue_2 : decode cX4_statue 2 = .ok (.invokevirtual 147, 3) := by decide +kernel
theorem dX4_statue_5 : decode cX4_statue 5 = .ok (.ifCond .eq 5, 3) := by decide +kernel
theorem dX4_statue_8 : decode cX4_statue 8 = .ok (.iconst (-1), 1) := by decide +kernel
theorem dX4_statue_9 : decode cX4_statue 9 = .ok (.ireturn, 1) := by decide +kernel
theorem dX4_statue_10 : decode cX4_statue 10 = .ok (.iload_n 2, 1) := by decide +kernel
theorem dX4_statue_11 : decode cX4_statue 11 = .ok (.i2l, 1) := by decide +kernel
theorem dX4_statue_12 : decode cX4_statue 12 = .ok (.lconst 0, 1) := by decide +kernel
theorem dX4_statue_13 : decode cX4_statue 13 = .ok (.ldc2_w 161, 3) := by decide +kernel
theorem dX4_statue_16 : decode cX4_statue 16 = .ok (.invokestatic 82, 3) := by decide +kernel
theorem dX4_statue_19 : decode cX4_statue 19 = .ok (.ifCond .ne 6, 3) := by decide +kernel
theorem dX4_statue_22 : decode cX4_statue 22 = .ok (.bipush (-2), 2) := by decide +kernel
theorem dX4_statue_24 : decode cX4_statue 24 = .ok (.ireturn, 1) := by decide +kernel
theorem dX4_statue_25 : decode cX4_statue 25 = .ok (.aload_n 0, 1) := by decide +kernel
theorem dX4_statue_26 : decode cX4_statue 26 = .ok (.getfield 7, 3) := by decide +kernel
theorem dX4_statue_29 : decode cX4_statue 29 = .ok (.iload_n 1, 1) := by decide +kernel
theorem dX4_statue_30 : decode cX4_statue 30 = .ok (.iaload, 1) := by decide +kernel
theorem dX4_statue_31 : decode cX4_statue 31 = .ok (.ifCond .le 6, 3) := by decide +kernel
theorem dX4_statue_34 : decode cX4_statue 34 = .ok (.bipush (-3), 2) := by decide +kernel
theorem dX4_statue_36 : decode cX4_statue 36 = .ok (.ireturn, 1) := by decide +kernel
theorem dX4_statue_37 : decode cX4_statue 37 = .ok (.aload_n 0, 1) := by decide +kernel
theorem dX4_statue_38 : decode cX4_statue 38 = .ok (.getfield 47, 3) := by decide +kernel
theorem dX4_statue_41 : decode cX4_statue 41 = .ok (.istore_n 3, 1) := by decide +kernel
theorem dX4_statue_42 : decode cX4_statue 42 = .ok (.aload_n 0, 1) := by decide +kernel
theorem dX4_statue_43 : decode cX4_statue 43 = .ok (.iload_n 1, 1) := by decide +kernel
theorem dX4_statue_44 : decode cX4_statue 44 = .ok (.putfield 47, 3) := by decide +kernel
theorem dX4_statue_47 : decode cX4_statue 47 = .ok (.aload_n 0, 1) := by decide +kernel
theorem dX4_statue_48 : decode cX4_statue 48 = .ok (.iload_n 2, 1) := by decide +kernel
theorem dX4_statue_49 : decode cX4_statue 49 = .ok (.putfield 163, 3) := by decide +kernel
theorem dX4_statue_52 : decode cX4_statue 52 = .ok (.iload_n 3, 1) := by decide +kernel
theorem dX4_statue_53 : decode cX4_statue 53 = .ok (.ireturn, 1) := by decide +kernel
theorem dX4_inTheWay_0 : decode cX4_inTheWay 0 = .ok (.iload_n 2, 1) := by decide +kernel
theorem dX4_inTheWay_1 : decode cX4_inTheWay 1 = .ok (.aload_n 0, 1) := by decide +kernel
theorem dX4_inTheWay_2 : decode cX4_inTheWay 2 = .ok (.getfield 75, 3) := by decide +kernel
theorem dX4_inTheWay_5 : decode cX4_inTheWay 5 = .ok (.idiv, 1) := by decide +kernel
theorem dX4_inTheWay_6 : decode cX4_inTheWay 6 = .ok (.aload_n 0, 1) := by decide +kernel
theorem dX4_inTheWay_7 : decode cX4_inTheWay 7 = .ok (.getfield 13, 3) := by decide +kernel
theorem dX4_inTheWay_10 : decode cX4_inTheWay 10 = .ok (.iload_n 1, 1) := by decide +kernel
theorem dX4_inTheWay_11 : decode cX4_inTheWay 11 = .ok (.iaload, 1) := by decide +kernel
theorem dX4_inTheWay_12 : decode cX4_inTheWay 12 = .ok (.aload_n 0, 1) := by decide +kernel
theorem dX4_inTheWay_13 : decode cX4_inTheWay 13 = .ok (.getfield 75, 3) := by decide +kernel
theorem dX4_inTheWay_16 : decode cX4_inTheWay 16 = .ok (.idiv, 1) := by decide +kernel
theorem dX4_inTheWay_17 : decode cX4_inTheWay 17 = .ok (.isub, 1) := by decide +kernel
theorem dX4_inTheWay_18 : decode cX4_inTheWay 18 = .ok (.istore 5, 2) := by decide +kernel
theorem dX4_inTheWay_20 : decode cX4_inTheWay 20 = .ok (.iload_n 2, 1) := by decide +kernel
theorem dX4_inTheWay_21 : decode cX4_inTheWay 21 = .ok (.aload_n 0, 1) := by decide +kernel
theorem dX4_inTheWay_22 : decode cX4_inTheWay 22 = .ok (.getfield 75, 3) := by decide +kernel
theorem dX4_inTheWay_25 : decode cX4_inTheWay 25 = .ok (.irem, 1) := by decide +kernel
theorem dX4_inTheWay_26 : decode cX4_inTheWay 26 = .ok (.aload_n 0, 1) := by decide +kernel
theorem dX4_inTheWay_27 : decode cX4_inTheWay 27 = .ok (.getfield 13, 3) := by decide +kernel
theorem dX4_inTheWay_30 : decode cX4_inTheWay 30 = .ok (.iload_n 1, 1) := by decide +kernel
theorem dX4_inTheWay_31 : decode cX4_inTheWay 31 = .ok (.iaload, 1) := by decide +kernel
theorem dX4_inTheWay_32 : decode cX4_inTheWay 32 = .ok (.aload_n 0, 1) := by decide +kernel
theorem dX4_inTheWay_33 : decode cX4_inTheWay 33 = .ok (.getfield 75, 3) := by decide +kernel
theorem dX4_inTheWay_36 : decode cX4_inTheWay 36 = .ok (.irem, 1) := by decide +kernel
theorem dX4_inTheWay_37 : decode cX4_inTheWay 37 = .ok (.isub, 1) := by decide +kernel
theorem dX4_inTheWay_38 : decode cX4_inTheWay 38 = .ok (.istore 6, 2) := by decide +kernel
theorem dX4_inTheWay_40 : decode cX4_inTheWay 40 = .ok (.iload 5, 2) := by decide +kernel
theorem dX4_inTheWay_42 : decode cX4_inTheWay 42 = .ok (.iconst 0, 1) := by decide +kernel
theorem dX4_inTheWay_43 : decode cX4_inTheWay 43 = .ok (.invokestatic 166, 3) := by decide +kernel
theorem dX4_inTheWay_46 : decode cX4_inTheWay 46 = .ok (.iload 6, 2) := by decide +kernel
theorem dX4_inTheWay_48 : decode cX4_inTheWay 48 = .ok (.iconst 0, 1) := by decide +kernel
theorem dX4_inTheWay_49 : decode cX4_inTheWay 49 = .ok (.invokestatic 166, 3) := by decide +kernel
theorem dX4_inTheWay_52 : decode cX4_inTheWay 52 = .ok (.invokestatic 169, 3) := by decide +kernel
theorem dX4_inTheWay_55 : decode cX4_inTheWay 55 = .ok (.istore 7, 2) := by decide +kernel
theorem dX4_inTheWay_57 : decode cX4_inTheWay 57 = .ok (.iload_n 3, 1) := by decide +kernel
theorem dX4_inTheWay_58 : decode cX4_inTheWay 58 = .ok (.iconst 1, 1) := by decide +kernel
theorem dX4_inTheWay_59 : decode cX4_inTheWay 59 = .ok (.iadd, 1) := by decide +kernel
theorem dX4_inTheWay_60 : decode cX4_inTheWay 60 = .ok (.iconst 2, 1) := by decide +kernel
theorem dX4_inTheWay_61 : decode cX4_inTheWay 61 = .ok (.iload 4, 2) := by decide +kernel
theorem dX4_inTheWay_63 : decode cX4_inTheWay 63 = .ok (.imul, 1) := by decide +kernel
theorem dX4_inTheWay_64 : decode cX4_inTheWay 64 = .ok (.iadd, 1) := by decide +kernel
theorem dX4_inTheWay_65 : decode cX4_inTheWay 65 = .ok (.istore 8, 2) := by decide +kernel
theorem dX4_inTheWay_67 : decode cX4_inTheWay 67 = .ok (.iconst 0, 1) := by decide +kernel
theorem dX4_inTheWay_68 : decode cX4_inTheWay 68 = .ok (.istore 9, 2) := by decide +kernel
theorem dX4_inTheWay_70 : decode cX4_inTheWay 70 = .ok (.iconst 1, 1) := by decide +kernel
theorem dX4_inTheWay_71 : decode cX4_inTheWay 71 = .ok (.istore 10, 2) := by decide +kernel
theorem dX4_inTheWay_73 : decode cX4_inTheWay 73 = .ok (.iload 10, 2) := by decide +kernel
theorem dX4_inTheWay_75 : decode cX4_inTheWay 75 = .ok (.iload 7, 2) := by decide +kernel
theorem dX4_inTheWay_77 : decode cX4_inTheWay 77 = .ok (.if_icmp .ge 116, 3) := by decide +kernel
theorem dX4_inTheWay_80 : decode cX4_inTheWay 80 = .ok (.aload_n 0, 1) := by decide +kernel
theorem dX4_inTheWay_81 : decode cX4_inTheWay 81 = .ok (.getfield 13, 3) := by decide +kernel
theorem dX4_inTheWay_84 : decode cX4_inTheWay 84 = .ok (.iload_n 1, 1) := by decide +kernel
theorem dX4_inTheWay_85 : decode cX4_inTheWay 85 = .ok (.iaload, 1) := by decide +kernel
theorem dX4_inTheWay_86 : decode cX4_inTheWay 86 = .ok (.iload 5, 2) := by decide +kernel
theorem dX4_inTheWay_88 : decode cX4_inTheWay 88 = .ok (.iload 7, 2) := by decide +kernel
theorem dX4_inTheWay_90 : decode cX4_inTheWay 90 = .ok (.idiv, 1) := by decide +kernel
theorem dX4_inTheWay_91 : decode cX4_inTheWay 91 = .ok (.iload 10, 2) := by decide +kernel
theorem dX4_inTheWay_93 : decode cX4_inTheWay 93 = .ok (.imul, 1) := by decide +kernel
theorem dX4_inTheWay_94 : decode cX4_inTheWay 94 = .ok (.aload_n 0, 1) := by decide +kernel
theorem dX4_inTheWay_95 : decode cX4_inTheWay 95 = .ok (.getfield 75, 3) := by decide +kernel
theorem dX4_inTheWay_98 : decode cX4_inTheWay 98 = .ok (.imul, 1) := by decide +kernel
theorem dX4_inTheWay_99 : decode cX4_inTheWay 99 = .ok (.iadd, 1) := by decide +kernel
theorem dX4_inTheWay_100 : decode cX4_inTheWay 100 = .ok (.iload 6, 2) := by decide +kernel
theorem dX4_inTheWay_102 : decode cX4_inTheWay 102 = .ok (.iload 7, 2) := by decide +kernel
theorem dX4_inTheWay_104 : decode cX4_inTheWay 104 = .ok (.idiv, 1) := by decide +kernel
theorem dX4_inTheWay_105 : decode cX4_inTheWay 105 = .ok (.iload 10, 2) := by decide +kernel
theorem dX4_inTheWay_107 : decode cX4_inTheWay 107 = .ok (.imul, 1) := by decide +kernel
theorem dX4_inTheWay_108 : decode cX4_inTheWay 108 = .ok (.iadd, 1) := by decide +kernel
theorem dX4_inTheWay_109 : decode cX4_inTheWay 109 = .ok (.istore 11, 2) := by decide +kernel
theorem dX4_inTheWay_111 : decode cX4_inTheWay 111 = .ok (.aload_n 0, 1) := by decide +kernel
theorem dX4_inTheWay_112 : decode cX4_inTheWay 112 = .ok (.getfield 7, 3) := by decide +kernel
theorem dX4_inTheWay_115 : decode cX4_inTheWay 115 = .ok (.iload 11, 2) := by decide +kernel
theorem dX4_inTheWay_117 : decode cX4_inTheWay 117 = .ok (.iaload, 1) := by decide +kernel
theorem dX4_inTheWay_118 : decode cX4_inTheWay 118 = .ok (.bipush 10, 2) := by decide +kernel
theorem dX4_inTheWay_120 : decode cX4_inTheWay 120 = .ok (.isub, 1) := by decide +kernel
theorem dX4_inTheWay_121 : decode cX4_inTheWay 121 = .ok (.istore 12, 2) := by decide +kernel
theorem dX4_inTheWay_123 : decode cX4_inTheWay 123 = .ok (.iload 12, 2) := by decide +kernel
theorem dX4_inTheWay_125 : decode cX4_inTheWay 125 = .ok (.ifCond .lt 17, 3) := by decide +kernel
theorem dX4_inTheWay_128 : decode cX4_inTheWay 128 = .ok (.aload_n 0, 1) := by decide +kernel
theorem dX4_inTheWay_129 : decode cX4_inTheWay 129 = .ok (.getfield 25, 3) := by decide +kernel
theorem dX4_inTheWay_132 : decode cX4_inTheWay 132 = .ok (.iload 12, 2) := by decide +kernel
theorem dX4_inTheWay_134 : decode cX4_inTheWay 134 = .ok (.baload, 1) := by decide +kernel
theorem dX4_inTheWay_135 : decode cX4_inTheWay 135 = .ok (.ifCond .ne 7, 3) := by decide +kernel
theorem dX4_inTheWay_138 : decode cX4_inTheWay 138 = .ok (.iconst 1, 1) := by decide +kernel
theorem dX4_inTheWay_139 : decode cX4_inTheWay 139 = .ok (.goto 4, 3) := by decide +kernel
theorem dX4_inTheWay_142 : decode cX4_inTheWay 142 = .ok (.iconst 0, 1) := by decide +kernel
theorem dX4_inTheWay_143 : decode cX4_inTheWay 143 = .ok (.istore 13, 2) := by decide +kernel
theorem dX4_inTheWay_145 : decode cX4_inTheWay 145 = .ok (.iload 9, 2) := by decide +kernel
theorem dX4_inTheWay_147 : decode cX4_inTheWay 147 = .ok (.iload 13, 2) := by decide +kernel
theorem dX4_inTheWay_149 : decode cX4_inTheWay 149 = .ok (.ifCond .eq 34, 3) := by decide +kernel
theorem dX4_inTheWay_152 : decode cX4_inTheWay 152 = .ok (.aload_n 0, 1) := by decide +kernel
theorem dX4_inTheWay_153 : decode cX4_inTheWay 153 = .ok (.iload 12, 2) := by decide +kernel
theorem dX4_inTheWay_155 : decode cX4_inTheWay 155 = .ok (.invokevirtual 153, 3) := by decide +kernel
theorem dX4_inTheWay_158 : decode cX4_inTheWay 158 = .ok (.iload 7, 2) := by decide +kernel
theorem dX4_inTheWay_160 : decode cX4_inTheWay 160 = .ok (.imul, 1) := by decide +kernel
theorem dX4_inTheWay_161 : decode cX4_inTheWay 161 = .ok (.iconst 2, 1) := by decide +kernel
theorem dX4_inTheWay_162 : decode cX4_inTheWay 162 = .ok (.iload 7, 2) := by decide +kernel
theorem dX4_inTheWay_164 : decode cX4_inTheWay 164 = .ok (.imul, 1) := by decide +kernel
theorem dX4_inTheWay_165 : decode cX4_inTheWay 165 = .ok (.iload 10, 2) := by decide +kernel
theorem dX4_inTheWay_167 : decode cX4_inTheWay 167 = .ok (.iload 8, 2) := by decide +kernel
theorem dX4_inTheWay_169 : decode cX4_inTheWay 169 = .ok (.iconst 2, 1) := by decide +kernel
theorem dX4_inTheWay_170 : decode cX4_inTheWay 170 = .ok (.isub, 1) := by decide +kernel
theorem dX4_inTheWay_171 : decode cX4_inTheWay 171 = .ok (.imul, 1) := by decide +kernel
theorem dX4_inTheWay_172 : decode cX4_inTheWay 172 = .ok (.iadd, 1) := by decide +kernel
theorem dX4_inTheWay_173 : decode cX4_inTheWay 173 = .ok (.if_icmp .lt 10, 3) := by decide +kernel
theorem dX4_inTheWay_176 : decode cX4_inTheWay 176 = .ok (.iconst 1, 1) := by decide +kernel
theorem dX4_inTheWay_177 : decode cX4_inTheWay 177 = .ok (.iload 12, 2) := by decide +kernel
theorem dX4_inTheWay_179 : decode cX4_inTheWay 179 = .ok (.ishl, 1) := by decide +kernel
theorem dX4_inTheWay_180 : decode cX4_inTheWay 180 = .ok (.goto 4, 3) := by decide +kernel
theorem dX4_inTheWay_183 : decode cX4_inTheWay 183 = .ok (.iconst 0, 1) := by decide +kernel
theorem dX4_inTheWay_184 : decode cX4_inTheWay 184 = .ok (.ior, 1) := by decide +kernel
theorem dX4_inTheWay_185 : decode cX4_inTheWay 185 = .ok (.istore 9, 2) := by decide +kernel
theorem dX4_inTheWay_187 : decode cX4_inTheWay 187 = .ok (.iinc 10 1, 3) := by decide +kernel
theorem dX4_inTheWay_190 : decode cX4_inTheWay 190 = .ok (.goto (-117), 3) := by decide +kernel
theorem dX4_inTheWay_193 : decode cX4_inTheWay 193 = .ok (.iload 9, 2) := by decide +kernel
theorem dX4_inTheWay_195 : decode cX4_inTheWay 195 = .ok (.ireturn, 1) := by decide +kernel
theorem dX4_seenAt_0 : decode cX4_seenAt 0 = .ok (.iconst 0, 1) := by decide +kernel
theorem dX4_seenAt_1 : decode cX4_seenAt 1 = .ok (.istore 4, 2) := by decide +kernel
theorem dX4_seenAt_3 : decode cX4_seenAt 3 = .ok (.iconst 0, 1) := by decide +kernel
theorem dX4_seenAt_4 : decode cX4_seenAt 4 = .ok (.istore 5, 2) := by decide +kernel
theorem dX4_seenAt_6 : decode cX4_seenAt 6 = .ok (.iload 5, 2) := by decide +kernel
theorem dX4_seenAt_8 : decode cX4_seenAt 8 = .ok (.iconst 4, 1) := by decide +kernel
theorem dX4_seenAt_9 : decode cX4_seenAt 9 = .ok (.if_icmp .ge 34, 3) := by decide +kernel
theorem dX4_seenAt_12 : decode cX4_seenAt 12 = .ok (.iload 4, 2) := by decide +kernel
theorem dX4_seenAt_14 : decode cX4_seenAt 14 = .ok (.aload_n 0, 1) := by decide +kernel
theorem dX4_seenAt_15 : decode cX4_seenAt 15 = .ok (.iload_n 1, 1) := by decide +kernel
theorem dX4_seenAt_16 : decode cX4_seenAt 16 = .ok (.iload_n 2, 1) := by decide +kernel
theorem dX4_seenAt_17 : decode cX4_seenAt 17 = .ok (.iload_n 3, 1) := by decide +kernel
theorem dX4_seenAt_18 : decode cX4_seenAt 18 = .ok (.iload 5, 2) := by decide +kernel
theorem dX4_seenAt_20 : decode cX4_seenAt 20 = .ok (.invokevirtual 172, 3) := by decide +kernel
theorem dX4_seenAt_23 : decode cX4_seenAt 23 = .ok (.ifCond .ne 10, 3) := by decide +kernel
theorem dX4_seenAt_26 : decode cX4_seenAt 26 = .ok (.iconst 1, 1) := by decide +kernel
theorem dX4_seenAt_27 : decode cX4_seenAt 27 = .ok (.iload 5, 2) := by decide +kernel
theorem dX4_seenAt_29 : decode cX4_seenAt 29 = .ok (.ishl, 1) := by decide +kernel
theorem dX4_seenAt_30 : decode cX4_seenAt 30 = .ok (.goto 4, 3) := by decide +kernel
theorem dX4_seenAt_33 : decode cX4_seenAt 33 = .ok (.iconst 0, 1) := by decide +kernel
theorem dX4_seenAt_34 : decode cX4_seenAt 34 = .ok (.ior, 1) := by decide +kernel
theorem dX4_seenAt_35 : decode cX4_seenAt 35 = .ok (.istore 4, 2) := by decide +kernel
theorem dX4_seenAt_37 : decode cX4_seenAt 37 = .ok (.iinc 5 1, 3) := by decide +kernel
theorem dX4_seenAt_40 : decode cX4_seenAt 40 = .ok (.goto (-34), 3) := by decide +kernel
theorem dX4_seenAt_43 : decode cX4_seenAt 43 = .ok (.iload 4, 2) := by decide +kernel
theorem dX4_seenAt_45 : decode cX4_seenAt 45 = .ok (.ireturn, 1) := by decide +kernel
theorem dX4_wholeAt_0 : decode cX4_wholeAt 0 = .ok (.iconst 0, 1) := by decide +kernel
theorem dX4_wholeAt_1 : decode cX4_wholeAt 1 = .ok (.istore_n 3, 1) := by decide +kernel
theorem dX4_wholeAt_2 : decode cX4_wholeAt 2 = .ok (.iconst 0, 1) := by decide +kernel
theorem dX4_wholeAt_3 : decode cX4_wholeAt 3 = .ok (.istore 4, 2) := by decide +kernel
theorem dX4_wholeAt_5 : decode cX4_wholeAt 5 = .ok (.iload 4, 2) := by decide +kernel
theorem dX4_wholeAt_7 : decode cX4_wholeAt 7 = .ok (.aload_n 0, 1) := by decide +kernel
theorem dX4_wholeAt_8 : decode cX4_wholeAt 8 = .ok (.getfield 89, 3) := by decide +kernel
theorem dX4_wholeAt_11 : decode cX4_wholeAt 11 = .ok (.if_icmp .ge 33, 3) := by decide +kernel
theorem dX4_wholeAt_14 : decode cX4_wholeAt 14 = .ok (.iload_n 3, 1) := by decide +kernel
theorem dX4_wholeAt_15 : decode cX4_wholeAt 15 = .ok (.aload_n 0, 1) := by decide +kernel
theorem dX4_wholeAt_16 : decode cX4_wholeAt 16 = .ok (.iload 4, 2) := by decide +kernel
theorem dX4_wholeAt_18 : decode cX4_wholeAt 18 = .ok (.iload_n 1, 1) := by decide +kernel
theorem dX4_wholeAt_19 : decode cX4_wholeAt 19 = .ok (.iload_n 2, 1) := by decide +kernel
theorem dX4_wholeAt_20 : decode cX4_wholeAt 20 = .ok (.invokevirtual 175, 3) := by decide +kernel
theorem dX4_wholeAt_23 : decode cX4_wholeAt 23 = .ok (.bipush 15, 2) := by decide +kernel
theorem dX4_wholeAt_25 : decode cX4_wholeAt 25 = .ok (.if_icmp .ne 10, 3) := by decide +kernel
theorem dX4_wholeAt_28 : decode cX4_wholeAt 28 = .ok (.iconst 1, 1) := by decide +kernel
theorem dX4_wholeAt_29 : decode cX4_wholeAt 29 = .ok (.iload 4, 2) := by decide +kernel
theorem dX4_wholeAt_31 : decode cX4_wholeAt 31 = .ok (.ishl, 1) := by decide +kernel
theorem dX4_wholeAt_32 : decode cX4_wholeAt 32 = .ok (.goto 4, 3) := by decide +kernel
theorem dX4_wholeAt_35 : decode cX4_wholeAt 35 = .ok (.iconst 0, 1) := by decide +kernel
theorem dX4_wholeAt_36 : decode cX4_wholeAt 36 = .ok (.ior, 1) := by decide +kernel
theorem dX4_wholeAt_37 : decode cX4_wholeAt 37 = .ok (.istore_n 3, 1) := by decide +kernel
theorem dX4_wholeAt_38 : decode cX4_wholeAt 38 = .ok (.iinc 4 1, 3) := by decide +kernel
theorem dX4_wholeAt_41 : decode cX4_wholeAt 41 = .ok (.goto (-36), 3) := by decide +kernel
theorem dX4_wholeAt_44 : decode cX4_wholeAt 44 = .ok (.iload_n 3, 1) := by decide +kernel
theorem dX4_wholeAt_45 : decode cX4_wholeAt 45 = .ok (.ireturn, 1) := by decide +kernel
theorem dX4_bits_0 : decode cX4_bits 0 = .ok (.iconst 0, 1) := by decide +kernel
theorem dX4_bits_1 : decode cX4_bits 1 = .ok (.istore_n 1, 1) := by decide +kernel
theorem dX4_bits_2 : decode cX4_bits 2 = .ok (.iload_n 0, 1) := by decide +kernel
theorem dX4_bits_3 : decode cX4_bits 3 = .ok (.istore_n 2, 1) := by decide +kernel
theorem dX4_bits_4 : decode cX4_bits 4 = .ok (.iload_n 2, 1) := by decide +kernel
theorem dX4_bits_5 : decode cX4_bits 5 = .ok (.ifCond .le 16, 3) := by decide +kernel
theorem dX4_bits_8 : decode cX4_bits 8 = .ok (.iload_n 1, 1) := by decide +kernel
theorem dX4_bits_9 : decode cX4_bits 9 = .ok (.iload_n 2, 1) := by decide +kernel
theorem dX4_bits_10 : decode cX4_bits 10 = .ok (.iconst 1, 1) := by decide +kernel
theorem dX4_bits_11 : decode cX4_bits 11 = .ok (.iand, 1) := by decide +kernel
theorem dX4_bits_12 : decode cX4_bits 12 = .ok (.iadd, 1) := by decide +kernel
theorem dX4_bits_13 : decode cX4_bits 13 = .ok (.istore_n 1, 1) := by decide +kernel
theorem dX4_bits_14 : decode cX4_bits 14 = .ok (.iload_n 2, 1) := by decide +kernel
theorem dX4_bits_15 : decode cX4_bits 15 = .ok (.iconst 1, 1) := by decide +kernel
theorem dX4_bits_16 : decode cX4_bits 16 = .ok (.ishr, 1) := by decide +kernel
theorem dX4_bits_17 : decode cX4_bits 17 = .ok (.istore_n 2, 1) := by decide +kernel
theorem dX4_bits_18 : decode cX4_bits 18 = .ok (.goto (-14), 3) := by decide +kernel
theorem dX4_bits_21 : decode cX4_bits 21 = .ok (.iload_n 1, 1) := by decide +kernel
theorem dX4_bits_22 : decode cX4_bits 22 = .ok (.ireturn, 1) := by decide +kernel
theorem dX4_seen_0 : decode cX4_seen 0 = .ok (.aload_n 0, 1) := by decide +kernel
theorem dX4_seen_1 : decode cX4_seen 1 = .ok (.iload_n 1, 1) := by decide +kernel
theorem dX4_seen_2 : decode cX4_seen 2 = .ok (.invokevirtual 156, 3) := by decide +kernel
theorem dX4_seen_5 : decode cX4_seen 5 = .ok (.ifCond .eq 5, 3) := by decide +kernel
theorem dX4_seen_8 : decode cX4_seen 8 = .ok (.iconst (-1), 1) := by decide +kernel
theorem dX4_seen_9 : decode cX4_seen 9 = .ok (.ireturn, 1) := by decide +kernel
theorem dX4_seen_10 : decode cX4_seen 10 = .ok (.aload_n 0, 1) := by decide +kernel
theorem dX4_seen_11 : decode cX4_seen 11 = .ok (.getfield 47, 3) := by decide +kernel
theorem dX4_seen_14 : decode cX4_seen 14 = .ok (.ifCond .ge 8, 3) := by decide +kernel
theorem dX4_seen_17 : decode cX4_seen 17 = .ok (.bipush (-3), 2) := by decide +kernel
theorem dX4_seen_19 : decode cX4_seen 19 = .ok (.goto 16, 3) := by decide +kernel
theorem dX4_seen_22 : decode cX4_seen 22 = .ok (.aload_n 0, 1) := by decide +kernel
theorem dX4_seen_23 : decode cX4_seen 23 = .ok (.iload_n 1, 1) := by decide +kernel
theorem dX4_seen_24 : decode cX4_seen 24 = .ok (.aload_n 0, 1) := by decide +kernel
theorem dX4_seen_25 : decode cX4_seen 25 = .ok (.getfield 47, 3) := by decide +kernel
theorem dX4_seen_28 : decode cX4_seen 28 = .ok (.aload_n 0, 1) := by decide +kernel
theorem dX4_seen_29 : decode cX4_seen 29 = .ok (.getfield 163, 3) := by decide +kernel
theorem dX4_seen_32 : decode cX4_seen 32 = .ok (.invokevirtual 175, 3) := by decide +kernel
theorem dX4_seen_35 : decode cX4_seen 35 = .ok (.ireturn, 1) := by decide +kernel
theorem dX4_whole_0 : decode cX4_whole 0 = .ok (.aload_n 0, 1) := by decide +kernel
theorem dX4_whole_1 : decode cX4_whole 1 = .ok (.getfield 47, 3) := by decide +kernel
theorem dX4_whole_4 : decode cX4_whole 4 = .ok (.ifCond .ge 8, 3) := by decide +kernel
theorem dX4_whole_7 : decode cX4_whole 7 = .ok (.bipush (-3), 2) := by decide +kernel
theorem dX4_whole_9 : decode cX4_whole 9 = .ok (.goto 15, 3) := by decide +kernel
theorem dX4_whole_12 : decode cX4_whole 12 = .ok (.aload_n 0, 1) := by decide +kernel
theorem dX4_whole_13 : decode cX4_whole 13 = .ok (.aload_n 0, 1) := by decide +kernel
theorem dX4_whole_14 : decode cX4_whole 14 = .ok (.getfield 47, 3) := by decide +kernel
theorem dX4_whole_17 : decode cX4_whole 17 = .ok (.aload_n 0, 1) := by decide +kernel
theorem dX4_whole_18 : decode cX4_whole 18 = .ok (.getfield 163, 3) := by decide +kernel
theorem dX4_whole_21 : decode cX4_whole 21 = .ok (.invokevirtual 179, 3) := by decide +kernel
theorem dX4_whole_24 : decode cX4_whole 24 = .ok (.ireturn, 1) := by decide +kernel
theorem dX4_hiddenAt_0 : decode cX4_hiddenAt 0 = .ok (.iconst 0, 1) := by decide +kernel
theorem dX4_hiddenAt_1 : decode cX4_hiddenAt 1 = .ok (.istore_n 2, 1) := by decide +kernel
theorem dX4_hiddenAt_2 : decode cX4_hiddenAt 2 = .ok (.iconst 0, 1) := by decide +kernel
theorem dX4_hiddenAt_3 : decode cX4_hiddenAt 3 = .ok (.istore_n 3, 1) := by decide +kernel
theorem dX4_hiddenAt_4 : decode cX4_hiddenAt 4 = .ok (.iload_n 3, 1) := by decide +kernel
theorem dX4_hiddenAt_5 : decode cX4_hiddenAt 5 = .ok (.iconst 4, 1) := by decide +kernel
theorem dX4_hiddenAt_6 : decode cX4_hiddenAt 6 = .ok (.if_icmp .ge 26, 3) := by decide +kernel
theorem dX4_hiddenAt_9 : decode cX4_hiddenAt 9 = .ok (.iload_n 2, 1) := by decide +kernel
theorem dX4_hiddenAt_10 : decode cX4_hiddenAt 10 = .ok (.aload_n 0, 1) := by decide +kernel
theorem dX4_hiddenAt_11 : decode cX4_hiddenAt 11 = .ok (.iload_n 1, 1) := by decide +kernel
theorem dX4_hiddenAt_12 : decode cX4_hiddenAt 12 = .ok (.aload_n 0, 1) := by decide +kernel
theorem dX4_hiddenAt_13 : decode cX4_hiddenAt 13 = .ok (.getfield 47, 3) := by decide +kernel
theorem dX4_hiddenAt_16 : decode cX4_hiddenAt 16 = .ok (.aload_n 0, 1) := by decide +kernel
theorem dX4_hiddenAt_17 : decode cX4_hiddenAt 17 = .ok (.getfield 163, 3) := by decide +kernel
theorem dX4_hiddenAt_20 : decode cX4_hiddenAt 20 = .ok (.iload_n 3, 1) := by decide +kernel
theorem dX4_hiddenAt_21 : decode cX4_hiddenAt 21 = .ok (.invokevirtual 172, 3) := by decide +kernel
theorem dX4_hiddenAt_24 : decode cX4_hiddenAt 24 = .ok (.ior, 1) := by decide +kernel
theorem dX4_hiddenAt_25 : decode cX4_hiddenAt 25 = .ok (.istore_n 2, 1) := by decide +kernel
theorem dX4_hiddenAt_26 : decode cX4_hiddenAt 26 = .ok (.iinc 3 1, 3) := by decide +kernel
theorem dX4_hiddenAt_29 : decode cX4_hiddenAt 29 = .ok (.goto (-25), 3) := by decide +kernel
theorem dX4_hiddenAt_32 : decode cX4_hiddenAt 32 = .ok (.iload_n 2, 1) := by decide +kernel
theorem dX4_hiddenAt_33 : decode cX4_hiddenAt 33 = .ok (.ireturn, 1) := by decide +kernel
theorem dX4_hidden_0 : decode cX4_hidden 0 = .ok (.aload_n 0, 1) := by decide +kernel
theorem dX4_hidden_1 : decode cX4_hidden 1 = .ok (.iload_n 1, 1) := by decide +kernel
theorem dX4_hidden_2 : decode cX4_hidden 2 = .ok (.invokevirtual 156, 3) := by decide +kernel
theorem dX4_hidden_5 : decode cX4_hidden 5 = .ok (.ifCond .eq 5, 3) := by decide +kernel
theorem dX4_hidden_8 : decode cX4_hidden 8 = .ok (.iconst (-1), 1) := by decide +kernel
theorem dX4_hidden_9 : decode cX4_hidden 9 = .ok (.ireturn, 1) := by decide +kernel
theorem dX4_hidden_10 : decode cX4_hidden 10 = .ok (.aload_n 0, 1) := by decide +kernel
theorem dX4_hidden_11 : decode cX4_hidden 11 = .ok (.getfield 47, 3) := by decide +kernel
theorem dX4_hidden_14 : decode cX4_hidden 14 = .ok (.ifCond .ge 8, 3) := by decide +kernel
theorem dX4_hidden_17 : decode cX4_hidden 17 = .ok (.bipush (-3), 2) := by decide +kernel
theorem dX4_hidden_19 : decode cX4_hidden 19 = .ok (.goto 8, 3) := by decide +kernel
theorem dX4_hidden_22 : decode cX4_hidden 22 = .ok (.aload_n 0, 1) := by decide +kernel
theorem dX4_hidden_23 : decode cX4_hidden 23 = .ok (.iload_n 1, 1) := by decide +kernel
theorem dX4_hidden_24 : decode cX4_hidden 24 = .ok (.invokevirtual 182, 3) := by decide +kernel
theorem dX4_hidden_27 : decode cX4_hidden 27 = .ok (.ireturn, 1) := by decide +kernel
theorem dX4_sight_0 : decode cX4_sight 0 = .ok (.iload_n 1, 1) := by decide +kernel
theorem dX4_sight_1 : decode cX4_sight 1 = .ok (.i2l, 1) := by decide +kernel
theorem dX4_sight_2 : decode cX4_sight 2 = .ok (.lconst 0, 1) := by decide +kernel
theorem dX4_sight_3 : decode cX4_sight 3 = .ok (.lconst 1, 1) := by decide +kernel
theorem dX4_sight_4 : decode cX4_sight 4 = .ok (.invokestatic 82, 3) := by decide +kernel
theorem dX4_sight_7 : decode cX4_sight 7 = .ok (.ifCond .eq 10, 3) := by decide +kernel
theorem dX4_sight_10 : decode cX4_sight 10 = .ok (.aload_n 0, 1) := by decide +kernel
theorem dX4_sight_11 : decode cX4_sight 11 = .ok (.getfield 47, 3) := by decide +kernel
theorem dX4_sight_14 : decode cX4_sight 14 = .ok (.ifCond .ge 7, 3) := by decide +kernel
theorem dX4_sight_17 : decode cX4_sight 17 = .ok (.invokestatic 68, 3) := by decide +kernel
theorem dX4_sight_20 : decode cX4_sight 20 = .ok (.lreturn, 1) := by decide +kernel
theorem dX4_sight_21 : decode cX4_sight 21 = .ok (.aload_n 0, 1) := by decide +kernel
theorem dX4_sight_22 : decode cX4_sight 22 = .ok (.getfield 89, 3) := by decide +kernel
theorem dX4_sight_25 : decode cX4_sight 25 = .ok (.ifCond .ne 6, 3) := by decide +kernel
theorem dX4_sight_28 : decode cX4_sight 28 = .ok (.iload_n 1, 1) := by decide +kernel
theorem dX4_sight_29 : decode cX4_sight 29 = .ok (.i2l, 1) := by decide +kernel
theorem dX4_sight_30 : decode cX4_sight 30 = .ok (.lreturn, 1) := by decide +kernel
theorem dX4_sight_31 : decode cX4_sight 31 = .ok (.iconst 0, 1) := by decide +kernel
theorem dX4_sight_32 : decode cX4_sight 32 = .ok (.istore_n 2, 1) := by decide +kernel
theorem dX4_sight_33 : decode cX4_sight 33 = .ok (.iconst 0, 1) := by decide +kernel
theorem dX4_sight_34 : decode cX4_sight 34 = .ok (.istore_n 3, 1) := by decide +kernel
theorem dX4_sight_35 : decode cX4_sight 35 = .ok (.iload_n 3, 1) := by decide +kernel
theorem dX4_sight_36 : decode cX4_sight 36 = .ok (.aload_n 0, 1) := by decide +kernel
theorem dX4_sight_37 : decode cX4_sight 37 = .ok (.getfield 89, 3) := by decide +kernel
theorem dX4_sight_40 : decode cX4_sight 40 = .ok (.if_icmp .ge 28, 3) := by decide +kernel
theorem dX4_sight_43 : decode cX4_sight 43 = .ok (.iload_n 2, 1) := by decide +kernel
theorem dX4_sight_44 : decode cX4_sight 44 = .ok (.aload_n 0, 1) := by decide +kernel
theorem dX4_sight_45 : decode cX4_sight 45 = .ok (.iload_n 3, 1) := by decide +kernel
theorem dX4_sight_46 : decode cX4_sight 46 = .ok (.aload_n 0, 1) := by decide +kernel
theorem dX4_sight_47 : decode cX4_sight 47 = .ok (.getfield 47, 3) := by decide +kernel
theorem dX4_sight_50 : decode cX4_sight 50 = .ok (.aload_n 0, 1) := by decide +kernel
theorem dX4_sight_51 : decode cX4_sight 51 = .ok (.getfield 163, 3) := by decide +kernel
theorem dX4_sight_54 : decode cX4_sight 54 = .ok (.invokevirtual 175, 3) := by decide +kernel
theorem dX4_sight_57 : decode cX4_sight 57 = .ok (.invokestatic 185, 3) := by decide +kernel
theorem dX4_sight_60 : decode cX4_sight 60 = .ok (.iadd, 1) := by decide +kernel
theorem dX4_sight_61 : decode cX4_sight 61 = .ok (.istore_n 2, 1) := by decide +kernel
theorem dX4_sight_62 : decode cX4_sight 62 = .ok (.iinc 3 1, 3) := by decide +kernel
theorem dX4_sight_65 : decode cX4_sight 65 = .ok (.goto (-30), 3) := by decide +kernel
theorem dX4_sight_68 : decode cX4_sight 68 = .ok (.iload_n 2, 1) := by decide +kernel
theorem dX4_sight_69 : decode cX4_sight 69 = .ok (.iconst 4, 1) := by decide +kernel
theorem dX4_sight_70 : decode cX4_sight 70 = .ok (.aload_n 0, 1) := by decide +kernel
theorem dX4_sight_71 : decode cX4_sight 71 = .ok (.getfield 89, 3) := by decide +kernel
theorem dX4_sight_74 : decode cX4_sight 74 = .ok (.imul, 1) := by decide +kernel
theorem dX4_sight_75 : decode cX4_sight 75 = .ok (.invokestatic 169, 3) := by decide +kernel
theorem dX4_sight_78 : decode cX4_sight 78 = .ok (.istore_n 3, 1) := by decide +kernel
theorem dX4_sight_79 : decode cX4_sight 79 = .ok (.iload_n 1, 1) := by decide +kernel
theorem dX4_sight_80 : decode cX4_sight 80 = .ok (.ifCond .ne 7, 3) := by decide +kernel
theorem dX4_sight_83 : decode cX4_sight 83 = .ok (.iload_n 2, 1) := by decide +kernel
theorem dX4_sight_84 : decode cX4_sight 84 = .ok (.goto 9, 3) := by decide +kernel
theorem dX4_sight_87 : decode cX4_sight 87 = .ok (.iconst 4, 1) := by decide +kernel
theorem dX4_sight_88 : decode cX4_sight 88 = .ok (.aload_n 0, 1) := by decide +kernel
theorem dX4_sight_89 : decode cX4_sight 89 = .ok (.getfield 89, 3) := by decide +kernel
theorem dX4_sight_92 : decode cX4_sight 92 = .ok (.imul, 1) := by decide +kernel
theorem dX4_sight_93 : decode cX4_sight 93 = .ok (.iload_n 3, 1) := by decide +kernel
theorem dX4_sight_94 : decode cX4_sight 94 = .ok (.idiv, 1) := by decide +kernel
theorem dX4_sight_95 : decode cX4_sight 95 = .ok (.i2l, 1) := by decide +kernel
theorem dX4_sight_96 : decode cX4_sight 96 = .ok (.lreturn, 1) := by decide +kernel
theorem dX4_best_0 : decode cX4_best 0 = .ok (.iload_n 1, 1) := by decide +kernel
theorem dX4_best_1 : decode cX4_best 1 = .ok (.i2l, 1) := by decide +kernel
theorem dX4_best_2 : decode cX4_best 2 = .ok (.lconst 0, 1) := by decide +kernel
theorem dX4_best_3 : decode cX4_best 3 = .ok (.ldc2_w 161, 3) := by decide +kernel
theorem dX4_best_6 : decode cX4_best 6 = .ok (.invokestatic 82, 3) := by decide +kernel
theorem dX4_best_9 : decode cX4_best 9 = .ok (.ifCond .eq 13, 3) := by decide +kernel
theorem dX4_best_12 : decode cX4_best 12 = .ok (.iload_n 2, 1) := by decide +kernel
theorem dX4_best_13 : decode cX4_best 13 = .ok (.i2l, 1) := by decide +kernel
theorem dX4_best_14 : decode cX4_best 14 = .ok (.lconst 0, 1) := by decide +kernel
theorem dX4_best_15 : decode cX4_best 15 = .ok (.lconst 1, 1) := by decide +kernel
theorem dX4_best_16 : decode cX4_best 16 = .ok (.invokestatic 82, 3) := by decide +kernel
theorem dX4_best_19 : decode cX4_best 19 = .ok (.ifCond .ne 6, 3) := by decide +kernel
theorem dX4_best_22 : decode cX4_best 22 = .ok (.bipush (-2), 2) := by decide +kernel
theorem dX4_best_24 : decode cX4_best 24 = .ok (.ireturn, 1) := by decide +kernel
theorem dX4_best_25 : decode cX4_best 25 = .ok (.aload_n 0, 1) := by decide +kernel
theorem dX4_best_26 : decode cX4_best 26 = .ok (.getfield 72, 3) := by decide +kernel
theorem dX4_best_29 : decode cX4_best 29 = .ok (.ifCond .ne 6, 3) := by decide +kernel
theorem dX4_best_32 : decode cX4_best 32 = .ok (.bipush (-3), 2) := by decide +kernel
theorem dX4_best_34 : decode cX4_best 34 = .ok (.ireturn, 1) := by decide +kernel
theorem dX4_best_35 : decode cX4_best 35 = .ok (.bipush (-9), 2) := by decide +kernel
theorem dX4_best_37 : decode cX4_best 37 = .ok (.istore_n 3, 1) := by decide +kernel
theorem dX4_best_38 : decode cX4_best 38 = .ok (.iconst 0, 1) := by decide +kernel
theorem dX4_best_39 : decode cX4_best 39 = .ok (.istore 4, 2) := by decide +kernel
theorem dX4_best_41 : decode cX4_best 41 = .ok (.iconst 0, 1) := by decide +kernel
theorem dX4_best_42 : decode cX4_best 42 = .ok (.istore 5, 2) := by decide +kernel
theorem dX4_best_44 : decode cX4_best 44 = .ok (.iload 5, 2) := by decide +kernel
theorem dX4_best_46 : decode cX4_best 46 = .ok (.aload_n 0, 1) := by decide +kernel
theorem dX4_best_47 : decode cX4_best 47 = .ok (.invokevirtual 78, 3) := by decide +kernel
theorem dX4_best_50 : decode cX4_best 50 = .ok (.if_icmp .ge 65, 3) := by decide +kernel
theorem dX4_best_53 : decode cX4_best 53 = .ok (.aload_n 0, 1) := by decide +kernel
theorem dX4_best_54 : decode cX4_best 54 = .ok (.getfield 7, 3) := by decide +kernel
theorem dX4_best_57 : decode cX4_best 57 = .ok (.iload 5, 2) := by decide +kernel
theorem dX4_best_59 : decode cX4_best 59 = .ok (.iaload, 1) := by decide +kernel
theorem dX4_best_60 : decode cX4_best 60 = .ok (.ifCond .ne 49, 3) := by decide +kernel
theorem dX4_best_63 : decode cX4_best 63 = .ok (.aload_n 0, 1) := by decide +kernel
theorem dX4_best_64 : decode cX4_best 64 = .ok (.iload 5, 2) := by decide +kernel
theorem dX4_best_66 : decode cX4_best 66 = .ok (.iload_n 1, 1) := by decide +kernel
theorem dX4_best_67 : decode cX4_best 67 = .ok (.invokevirtual 179, 3) := by decide +kernel
theorem dX4_best_70 : decode cX4_best 70 = .ok (.invokestatic 185, 3) := by decide +kernel
theorem dX4_best_73 : decode cX4_best 73 = .ok (.istore 6, 2) := by decide +kernel
theorem dX4_best_75 : decode cX4_best 75 = .ok (.iload_n 3, 1) := by decide +kernel
theorem dX4_best_76 : decode cX4_best 76 = .ok (.ifCond .lt 10, 3) := by decide +kernel
theorem dX4_best_79 : decode cX4_best 79 = .ok (.iload 6, 2) := by decide +kernel
theorem dX4_best_81 : decode cX4_best 81 = .ok (.iload 4, 2) := by decide +kernel
theorem dX4_best_83 : decode cX4_best 83 = .ok (.if_icmp .le 8, 3) := by decide +kernel
theorem dX4_best_86 : decode cX4_best 86 = .ok (.iload 5, 2) := by decide +kernel
theorem dX4_best_88 : decode cX4_best 88 = .ok (.goto 4, 3) := by decide +kernel
theorem dX4_best_91 : decode cX4_best 91 = .ok (.iload_n 3, 1) := by decide +kernel
theorem dX4_best_92 : decode cX4_best 92 = .ok (.istore_n 3, 1) := by decide +kernel
theorem dX4_best_93 : decode cX4_best 93 = .ok (.iload 6, 2) := by decide +kernel
theorem dX4_best_95 : decode cX4_best 95 = .ok (.iload 4, 2) := by decide +kernel
theorem dX4_best_97 : decode cX4_best 97 = .ok (.if_icmp .le 8, 3) := by decide +kernel
theorem dX4_best_100 : decode cX4_best 100 = .ok (.iload 6, 2) := by decide +kernel
theorem dX4_best_102 : decode cX4_best 102 = .ok (.goto 5, 3) := by decide +kernel
theorem dX4_best_105 : decode cX4_best 105 = .ok (.iload 4, 2) := by decide +kernel
theorem dX4_best_107 : decode cX4_best 107 = .ok (.istore 4, 2) := by decide +kernel
theorem dX4_best_109 : decode cX4_best 109 = .ok (.iinc 5 1, 3) := by decide +kernel
theorem dX4_best_112 : decode cX4_best 112 = .ok (.goto (-68), 3) := by decide +kernel
theorem dX4_best_115 : decode cX4_best 115 = .ok (.iload_n 2, 1) := by decide +kernel
theorem dX4_best_116 : decode cX4_best 116 = .ok (.ifCond .ne 7, 3) := by decide +kernel
theorem dX4_best_119 : decode cX4_best 119 = .ok (.iload_n 3, 1) := by decide +kernel
theorem dX4_best_120 : decode cX4_best 120 = .ok (.goto 5, 3) := by decide +kernel
theorem dX4_best_123 : decode cX4_best 123 = .ok (.iload 4, 2) := by decide +kernel
theorem dX4_best_125 : decode cX4_best 125 = .ok (.ireturn, 1) := by decide +kernel
theorem dX4_block_0 : decode cX4_block 0 = .ok (.aload_n 0, 1) := by decide +kernel
theorem dX4_block_1 : decode cX4_block 1 = .ok (.iload_n 1, 1) := by decide +kernel
theorem dX4_block_2 : decode cX4_block 2 = .ok (.invokevirtual 147, 3) := by decide +kernel
theorem dX4_block_5 : decode cX4_block 5 = .ok (.ifCond .eq 5, 3) := by decide +kernel
theorem dX4_block_8 : decode cX4_block 8 = .ok (.iconst (-1), 1) := by decide +kernel
theorem dX4_block_9 : decode cX4_block 9 = .ok (.ireturn, 1) := by decide +kernel
theorem dX4_block_10 : decode cX4_block 10 = .ok (.iload_n 2, 1) := by decide +kernel
theorem dX4_block_11 : decode cX4_block 11 = .ok (.i2l, 1) := by decide +kernel
theorem dX4_block_12 : decode cX4_block 12 = .ok (.lconst 0, 1) := by decide +kernel
theorem dX4_block_13 : decode cX4_block 13 = .ok (.lconst 1, 1) := by decide +kernel
theorem dX4_block_14 : decode cX4_block 14 = .ok (.invokestatic 82, 3) := by decide +kernel
theorem dX4_block_17 : decode cX4_block 17 = .ok (.ifCond .ne 6, 3) := by decide +kernel
theorem dX4_block_20 : decode cX4_block 20 = .ok (.bipush (-2), 2) := by decide +kernel
theorem dX4_block_22 : decode cX4_block 22 = .ok (.ireturn, 1) := by decide +kernel
theorem dX4_block_23 : decode cX4_block 23 = .ok (.aload_n 0, 1) := by decide +kernel
theorem dX4_block_24 : decode cX4_block 24 = .ok (.getfield 7, 3) := by decide +kernel
theorem dX4_block_27 : decode cX4_block 27 = .ok (.iload_n 1, 1) := by decide +kernel
theorem dX4_block_28 : decode cX4_block 28 = .ok (.iaload, 1) := by decide +kernel
theorem dX4_block_29 : decode cX4_block 29 = .ok (.ifCond .le 6, 3) := by decide +kernel
theorem dX4_block_32 : decode cX4_block 32 = .ok (.bipush (-3), 2) := by decide +kernel
theorem dX4_block_34 : decode cX4_block 34 = .ok (.ireturn, 1) := by decide +kernel
theorem dX4_block_35 : decode cX4_block 35 = .ok (.iconst 0, 1) := by decide +kernel
theorem dX4_block_36 : decode cX4_block 36 = .ok (.istore_n 3, 1) := by decide +kernel
theorem dX4_block_37 : decode cX4_block 37 = .ok (.bipush (-9), 2) := by decide +kernel
theorem dX4_block_39 : decode cX4_block 39 = .ok (.istore 4, 2) := by decide +kernel
theorem dX4_block_41 : decode cX4_block 41 = .ok (.iconst 0, 1) := by decide +kernel
theorem dX4_block_42 : decode cX4_block 42 = .ok (.istore 5, 2) := by decide +kernel
theorem dX4_block_44 : decode cX4_block 44 = .ok (.iload 5, 2) := by decide +kernel
theorem dX4_block_46 : decode cX4_block 46 = .ok (.bipush 9, 2) := by decide +kernel
theorem dX4_block_48 : decode cX4_block 48 = .ok (.if_icmp .gt 51, 3) := by decide +kernel
theorem dX4_block_51 : decode cX4_block 51 = .ok (.aload_n 0, 1) := by decide +kernel
theorem dX4_block_52 : decode cX4_block 52 = .ok (.iload_n 1, 1) := by decide +kernel
theorem dX4_block_53 : decode cX4_block 53 = .ok (.iload 5, 2) := by decide +kernel
theorem dX4_block_55 : decode cX4_block 55 = .ok (.invokevirtual 179, 3) := by decide +kernel
theorem dX4_block_58 : decode cX4_block 58 = .ok (.invokestatic 185, 3) := by decide +kernel
theorem dX4_block_61 : decode cX4_block 61 = .ok (.istore 6, 2) := by decide +kernel
theorem dX4_block_63 : decode cX4_block 63 = .ok (.iload 6, 2) := by decide +kernel
theorem dX4_block_65 : decode cX4_block 65 = .ok (.iload 4, 2) := by decide +kernel
theorem dX4_block_67 : decode cX4_block 67 = .ok (.if_icmp .le 8, 3) := by decide +kernel
theorem dX4_block_70 : decode cX4_block 70 = .ok (.iload 5, 2) := by decide +kernel
theorem dX4_block_72 : decode cX4_block 72 = .ok (.goto 4, 3) := by decide +kernel
theorem dX4_block_75 : decode cX4_block 75 = .ok (.iload_n 3, 1) := by decide +kernel
theorem dX4_block_76 : decode cX4_block 76 = .ok (.istore_n 3, 1) := by decide +kernel
theorem dX4_block_77 : decode cX4_block 77 = .ok (.iload 6, 2) := by decide +kernel
theorem dX4_block_79 : decode cX4_block 79 = .ok (.iload 4, 2) := by decide +kernel
theorem dX4_block_81 : decode cX4_block 81 = .ok (.if_icmp .le 8, 3) := by decide +kernel
theorem dX4_block_84 : decode cX4_block 84 = .ok (.iload 6, 2) := by decide +kernel
theorem dX4_block_86 : decode cX4_block 86 = .ok (.goto 5, 3) := by decide +kernel
theorem dX4_block_89 : decode cX4_block 89 = .ok (.iload 4, 2) := by decide +kernel
theorem dX4_block_91 : decode cX4_block 91 = .ok (.istore 4, 2) := by decide +kernel
theorem dX4_block_93 : decode cX4_block 93 = .ok (.iinc 5 1, 3) := by decide +kernel
theorem dX4_block_96 : decode cX4_block 96 = .ok (.goto (-52), 3) := by decide +kernel
theorem dX4_block_99 : decode cX4_block 99 = .ok (.iload_n 2, 1) := by decide +kernel
theorem dX4_block_100 : decode cX4_block 100 = .ok (.ifCond .ne 7, 3) := by decide +kernel
theorem dX4_block_103 : decode cX4_block 103 = .ok (.iload_n 3, 1) := by decide +kernel
theorem dX4_block_104 : decode cX4_block 104 = .ok (.goto 5, 3) := by decide +kernel
theorem dX4_block_107 : decode cX4_block 107 = .ok (.iload 4, 2) := by decide +kernel
theorem dX4_block_109 : decode cX4_block 109 = .ok (.ireturn, 1) := by decide +kernel
theorem dX4_cuts_0 : decode cX4_cuts 0 = .ok (.iload_n 1, 1) := by decide +kernel
theorem dX4_cuts_1 : decode cX4_cuts 1 = .ok (.i2l, 1) := by decide +kernel
theorem dX4_cuts_2 : decode cX4_cuts 2 = .ok (.lconst 0, 1) := by decide +kernel
theorem dX4_cuts_3 : decode cX4_cuts 3 = .ok (.lconst 1, 1) := by decide +kernel
theorem dX4_cuts_4 : decode cX4_cuts 4 = .ok (.invokestatic 82, 3) := by decide +kernel
theorem dX4_cuts_7 : decode cX4_cuts 7 = .ok (.ifCond .ne 6, 3) := by decide +kernel
theorem dX4_cuts_10 : decode cX4_cuts 10 = .ok (.bipush (-2), 2) := by decide +kernel
theorem dX4_cuts_12 : decode cX4_cuts 12 = .ok (.ireturn, 1) := by decide +kernel
theorem dX4_cuts_13 : decode cX4_cuts 13 = .ok (.aload_n 0, 1) := by decide +kernel
theorem dX4_cuts_14 : decode cX4_cuts 14 = .ok (.getfield 47, 3) := by decide +kernel
theorem dX4_cuts_17 : decode cX4_cuts 17 = .ok (.ifCond .ge 6, 3) := by decide +kernel
theorem dX4_cuts_20 : decode cX4_cuts 20 = .ok (.bipush (-3), 2) := by decide +kernel
theorem dX4_cuts_22 : decode cX4_cuts 22 = .ok (.ireturn, 1) := by decide +kernel
theorem dX4_cuts_23 : decode cX4_cuts 23 = .ok (.iconst 0, 1) := by decide +kernel
theorem dX4_cuts_24 : decode cX4_cuts 24 = .ok (.istore_n 2, 1) := by decide +kernel
theorem dX4_cuts_25 : decode cX4_cuts 25 = .ok (.iconst 0, 1) := by decide +kernel
theorem dX4_cuts_26 : decode cX4_cuts 26 = .ok (.istore_n 3, 1) := by decide +kernel
theorem dX4_cuts_27 : decode cX4_cuts 27 = .ok (.iconst 0, 1) := by decide +kernel
theorem dX4_cuts_28 : decode cX4_cuts 28 = .ok (.istore 4, 2) := by decide +kernel
theorem dX4_cuts_30 : decode cX4_cuts 30 = .ok (.iload 4, 2) := by decide +kernel
theorem dX4_cuts_32 : decode cX4_cuts 32 = .ok (.aload_n 0, 1) := by decide +kernel
theorem dX4_cuts_33 : decode cX4_cuts 33 = .ok (.getfield 89, 3) := by decide +kernel
theorem dX4_cuts_36 : decode cX4_cuts 36 = .ok (.if_icmp .ge 18, 3) := by decide +kernel
theorem dX4_cuts_39 : decode cX4_cuts 39 = .ok (.iload_n 2, 1) := by decide +kernel
theorem dX4_cuts_40 : decode cX4_cuts 40 = .ok (.aload_n 0, 1) := by decide +kernel
theorem dX4_cuts_41 : decode cX4_cuts 41 = .ok (.iload 4, 2) := by decide +kernel
theorem dX4_cuts_43 : decode cX4_cuts 43 = .ok (.invokevirtual 182, 3) := by decide +kernel
theorem dX4_cuts_46 : decode cX4_cuts 46 = .ok (.ior, 1) := by decide +kernel
theorem dX4_cuts_47 : decode cX4_cuts 47 = .ok (.istore_n 2, 1) := by decide +kernel
theorem dX4_cuts_48 : decode cX4_cuts 48 = .ok (.iinc 4 1, 3) := by decide +kernel
theorem dX4_cuts_51 : decode cX4_cuts 51 = .ok (.goto (-21), 3) := by decide +kernel
theorem dX4_cuts_54 : decode cX4_cuts 54 = .ok (.iconst 0, 1) := by decide +kernel
theorem dX4_cuts_55 : decode cX4_cuts 55 = .ok (.istore 4, 2) := by decide +kernel
theorem dX4_cuts_57 : decode cX4_cuts 57 = .ok (.iload 4, 2) := by decide +kernel
theorem dX4_cuts_59 : decode cX4_cuts 59 = .ok (.aload_n 0, 1) := by decide +kernel
theorem dX4_cuts_60 : decode cX4_cuts 60 = .ok (.getfield 86, 3) := by decide +kernel
theorem dX4_cuts_63 : decode cX4_cuts 63 = .ok (.if_icmp .ge 33, 3) := by decide +kernel
theorem dX4_cuts_66 : decode cX4_cuts 66 = .ok (.iload_n 3, 1) := by decide +kernel
theorem dX4_cuts_67 : decode cX4_cuts 67 = .ok (.iload_n 2, 1) := by decide +kernel
theorem dX4_cuts_68 : decode cX4_cuts 68 = .ok (.iload 4, 2) := by decide +kernel
theorem dX4_cuts_70 : decode cX4_cuts 70 = .ok (.ishr, 1) := by decide +kernel
theorem dX4_cuts_71 : decode cX4_cuts 71 = .ok (.iconst 1, 1) := by decide +kernel
theorem dX4_cuts_72 : decode cX4_cuts 72 = .ok (.iand, 1) := by decide +kernel
theorem dX4_cuts_73 : decode cX4_cuts 73 = .ok (.iconst 1, 1) := by decide +kernel
theorem dX4_cuts_74 : decode cX4_cuts 74 = .ok (.if_icmp .ne 13, 3) := by decide +kernel
theorem dX4_cuts_77 : decode cX4_cuts 77 = .ok (.aload_n 0, 1) := by decide +kernel
theorem dX4_cuts_78 : decode cX4_cuts 78 = .ok (.getfield 29, 3) := by decide +kernel
theorem dX4_cuts_81 : decode cX4_cuts 81 = .ok (.iload 4, 2) := by decide +kernel
theorem dX4_cuts_83 : decode cX4_cuts 83 = .ok (.iaload, 1) := by decide +kernel
theorem dX4_cuts_84 : decode cX4_cuts 84 = .ok (.goto 4, 3) := by decide +kernel
theorem dX4_cuts_87 : decode cX4_cuts 87 = .ok (.iconst 0, 1) := by decide +kernel
theorem dX4_cuts_88 : decode cX4_cuts 88 = .ok (.iadd, 1) := by decide +kernel
theorem dX4_cuts_89 : decode cX4_cuts 89 = .ok (.istore_n 3, 1) := by decide +kernel
theorem dX4_cuts_90 : decode cX4_cuts 90 = .ok (.iinc 4 1, 3) := by decide +kernel
theorem dX4_cuts_93 : decode cX4_cuts 93 = .ok (.goto (-36), 3) := by decide +kernel
theorem dX4_cuts_96 : decode cX4_cuts 96 = .ok (.iload_n 1, 1) := by decide +kernel
theorem dX4_cuts_97 : decode cX4_cuts 97 = .ok (.ifCond .ne 7, 3) := by decide +kernel
theorem dX4_cuts_100 : decode cX4_cuts 100 = .ok (.iload_n 2, 1) := by decide +kernel
theorem dX4_cuts_101 : decode cX4_cuts 101 = .ok (.goto 4, 3) := by decide +kernel
theorem dX4_cuts_104 : decode cX4_cuts 104 = .ok (.iload_n 3, 1) := by decide +kernel
theorem dX4_cuts_105 : decode cX4_cuts 105 = .ok (.ireturn, 1) := by decide +kernel
theorem dX4_complaintsNow_0 : decode cX4_complaintsNow 0 = .ok (.iconst 1, 1) := by decide +kernel
theorem dX4_complaintsNow_1 : decode cX4_complaintsNow 1 = .ok (.aload_n 0, 1) := by decide +kernel
theorem dX4_complaintsNow_2 : decode cX4_complaintsNow 2 = .ok (.getfield 89, 3) := by decide +kernel
theorem dX4_complaintsNow_5 : decode cX4_complaintsNow 5 = .ok (.ishl, 1) := by decide +kernel
theorem dX4_complaintsNow_6 : decode cX4_complaintsNow 6 = .ok (.iconst 1, 1) := by decide +kernel
theorem dX4_complaintsNow_7 : decode cX4_complaintsNow 7 = .ok (.isub, 1) := by decide +kernel
theorem dX4_complaintsNow_8 : decode cX4_complaintsNow 8 = .ok (.aload_n 0, 1) := by decide +kernel
theorem dX4_complaintsNow_9 : decode cX4_complaintsNow 9 = .ok (.aload_n 0, 1) := by decide +kernel
theorem dX4_complaintsNow_10 : decode cX4_complaintsNow 10 = .ok (.getfield 47, 3) := by decide +kernel
theorem dX4_complaintsNow_13 : decode cX4_complaintsNow 13 = .ok (.aload_n 0, 1) := by decide +kernel
theorem dX4_complaintsNow_14 : decode cX4_complaintsNow 14 = .ok (.getfield 163, 3) := by decide +kernel
theorem dX4_complaintsNow_17 : decode cX4_complaintsNow 17 = .ok (.invokevirtual 179, 3) := by decide +kernel
theorem dX4_complaintsNow_20 : decode cX4_complaintsNow 20 = .ok (.iconst (-1), 1) := by decide +kernel
theorem dX4_complaintsNow_21 : decode cX4_complaintsNow 21 = .ok (.ixor, 1) := by decide +kernel
theorem dX4_complaintsNow_22 : decode cX4_complaintsNow 22 = .ok (.iand, 1) := by decide +kernel
theorem dX4_complaintsNow_23 : decode cX4_complaintsNow 23 = .ok (.ireturn, 1) := by decide +kernel
theorem dX4_complaints_0 : decode cX4_complaints 0 = .ok (.aload_n 0, 1) := by decide +kernel
theorem dX4_complaints_1 : decode cX4_complaints 1 = .ok (.getfield 47, 3) := by decide +kernel
theorem dX4_complaints_4 : decode cX4_complaints 4 = .ok (.ifCond .ge 8, 3) := by decide +kernel
theorem dX4_complaints_7 : decode cX4_complaints 7 = .ok (.bipush (-3), 2) := by decide +kernel
theorem dX4_complaints_9 : decode cX4_complaints 9 = .ok (.goto 7, 3) := by decide +kernel
theorem dX4_complaints_12 : decode cX4_complaints 12 = .ok (.aload_n 0, 1) := by decide +kernel
theorem dX4_complaints_13 : decode cX4_complaints 13 = .ok (.invokevirtual 188, 3) := by decide +kernel
theorem dX4_complaints_16 : decode cX4_complaints 16 = .ok (.ireturn, 1) := by decide +kernel
theorem dX4_moved_0 : decode cX4_moved 0 = .ok (.iload_n 1, 1) := by decide +kernel
theorem dX4_moved_1 : decode cX4_moved 1 = .ok (.ifCond .lt 12, 3) := by decide +kernel
theorem dX4_moved_4 : decode cX4_moved 4 = .ok (.iload_n 1, 1) := by decide +kernel
theorem dX4_moved_5 : decode cX4_moved 5 = .ok (.aload_n 0, 1) := by decide +kernel
theorem dX4_moved_6 : decode cX4_moved 6 = .ok (.getfield 89, 3) := by decide +kernel
theorem dX4_moved_9 : decode cX4_moved 9 = .ok (.ishr, 1) := by decide +kernel
theorem dX4_moved_10 : decode cX4_moved 10 = .ok (.ifCond .eq 6, 3) := by decide +kernel
theorem dX4_moved_13 : decode cX4_moved 13 = .ok (.bipush (-2), 2) := by decide +kernel
theorem dX4_moved_15 : decode cX4_moved 15 = .ok (.ireturn, 1) := by decide +kernel
theorem dX4_moved_16 : decode cX4_moved 16 = .ok (.aload_n 0, 1) := by decide +kernel
theorem dX4_moved_17 : decode cX4_moved 17 = .ok (.getfield 47, 3) := by decide +kernel
theorem dX4_moved_20 : decode cX4_moved 20 = .ok (.ifCond .ge 6, 3) := by decide +kernel
theorem dX4_moved_23 : decode cX4_moved 23 = .ok (.bipush (-3), 2) := by decide +kernel
theorem dX4_moved_25 : decode cX4_moved 25 = .ok (.ireturn, 1) := by decide +kernel
theorem dX4_moved_26 : decode cX4_moved 26 = .ok (.iconst 0, 1) := by decide +kernel
theorem dX4_moved_27 : decode cX4_moved 27 = .ok (.istore_n 2, 1) := by decide +kernel
theorem dX4_moved_28 : decode cX4_moved 28 = .ok (.iconst 0, 1) := by decide +kernel
theorem dX4_moved_29 : decode cX4_moved 29 = .ok (.istore_n 3, 1) := by decide +kernel
theorem dX4_moved_30 : decode cX4_moved 30 = .ok (.iload_n 3, 1) := by decide +kernel
theorem dX4_moved_31 : decode cX4_moved 31 = .ok (.aload_n 0, 1) := by decide +kernel
theorem dX4_moved_32 : decode cX4_moved 32 = .ok (.getfield 86, 3) := by decide +kernel
theorem dX4_moved_35 : decode cX4_moved 35 = .ok (.if_icmp .ge 50, 3) := by decide +kernel
theorem dX4_moved_38 : decode cX4_moved 38 = .ok (.aload_n 0, 1) := by decide +kernel
theorem dX4_moved_39 : decode cX4_moved 39 = .ok (.getfield 25, 3) := by decide +kernel
theorem dX4_moved_42 : decode cX4_moved 42 = .ok (.iload_n 3, 1) := by decide +kernel
theorem dX4_moved_43 : decode cX4_moved 43 = .ok (.baload, 1) := by decide +kernel
theorem dX4_moved_44 : decode cX4_moved 44 = .ok (.ifCond .ne 35, 3) := by decide +kernel
theorem dX4_moved_47 : decode cX4_moved 47 = .ok (.aload_n 0, 1) := by decide +kernel
theorem dX4_moved_48 : decode cX4_moved 48 = .ok (.getfield 25, 3) := by decide +kernel
theorem dX4_moved_51 : decode cX4_moved 51 = .ok (.iload_n 3, 1) := by decide +kernel
theorem dX4_moved_52 : decode cX4_moved 52 = .ok (.iconst 1, 1) := by decide +kernel
theorem dX4_moved_53 : decode cX4_moved 53 = .ok (.bastore, 1) := by decide +kernel
theorem dX4_moved_54 : decode cX4_moved 54 = .ok (.iload_n 2, 1) := by decide +kernel
theorem dX4_moved_55 : decode cX4_moved 55 = .ok (.aload_n 0, 1) := by decide +kernel
theorem dX4_moved_56 : decode cX4_moved 56 = .ok (.invokevirtual 188, 3) := by decide +kernel
theorem dX4_moved_59 : decode cX4_moved 59 = .ok (.iload_n 1, 1) := by decide +kernel
theorem dX4_moved_60 : decode cX4_moved 60 = .ok (.if_icmp .ne 9, 3) := by decide +kernel
theorem dX4_moved_63 : decode cX4_moved 63 = .ok (.iconst 1, 1) := by decide +kernel
theorem dX4_moved_64 : decode cX4_moved 64 = .ok (.iload_n 3, 1) := by decide +kernel
theorem dX4_moved_65 : decode cX4_moved 65 = .ok (.ishl, 1) := by decide +kernel
theorem dX4_moved_66 : decode cX4_moved 66 = .ok (.goto 4, 3) := by decide +kernel
theorem dX4_moved_69 : decode cX4_moved 69 = .ok (.iconst 0, 1) := by decide +kernel
theorem dX4_moved_70 : decode cX4_moved 70 = .ok (.ior, 1) := by decide +kernel
theorem dX4_moved_71 : decode cX4_moved 71 = .ok (.istore_n 2, 1) := by decide +kernel
theorem dX4_moved_72 : decode cX4_moved 72 = .ok (.aload_n 0, 1) := by decide +kernel
theorem dX4_moved_73 : decode cX4_moved 73 = .ok (.getfield 25, 3) := by decide +kernel
theorem dX4_moved_76 : decode cX4_moved 76 = .ok (.iload_n 3, 1) := by decide +kernel
theorem dX4_moved_77 : decode cX4_moved 77 = .ok (.iconst 0, 1) := by decide +kernel
theorem dX4_moved_78 : decode cX4_moved 78 = .ok (.bastore, 1) := by decide +kernel
theorem dX4_moved_79 : decode cX4_moved 79 = .ok (.iinc 3 1, 3) := by decide +kernel
theorem dX4_moved_82 : decode cX4_moved 82 = .ok (.goto (-52), 3) := by decide +kernel
theorem dX4_moved_85 : decode cX4_moved 85 = .ok (.iload_n 2, 1) := by decide +kernel
theorem dX4_moved_86 : decode cX4_moved 86 = .ok (.ireturn, 1) := by decide +kernel
theorem dX4_years_0 : decode cX4_years 0 = .ok (.aload_n 0, 1) := by decide +kernel
theorem dX4_years_1 : decode cX4_years 1 = .ok (.getfield 47, 3) := by decide +kernel
theorem dX4_years_4 : decode cX4_years 4 = .ok (.ifCond .ge 6, 3) := by decide +kernel
theorem dX4_years_7 : decode cX4_years 7 = .ok (.bipush (-3), 2) := by decide +kernel
theorem dX4_years_9 : decode cX4_years 9 = .ok (.ireturn, 1) := by decide +kernel
theorem dX4_years_10 : decode cX4_years 10 = .ok (.aload_n 0, 1) := by decide +kernel
theorem dX4_years_11 : decode cX4_years 11 = .ok (.getfield 140, 3) := by decide +kernel
theorem dX4_years_14 : decode cX4_years 14 = .ok (.istore_n 1, 1) := by decide +kernel
theorem dX4_years_15 : decode cX4_years 15 = .ok (.bipush (-9), 2) := by decide +kernel
theorem dX4_years_17 : decode cX4_years 17 = .ok (.istore_n 2, 1) := by decide +kernel
theorem dX4_years_18 : decode cX4_years 18 = .ok (.iload_n 1, 1) := by decide +kernel
theorem dX4_years_19 : decode cX4_years 19 = .ok (.istore_n 3, 1) := by decide +kernel
theorem dX4_years_20 : decode cX4_years 20 = .ok (.iload_n 3, 1) := by decide +kernel
theorem dX4_years_21 : decode cX4_years 21 = .ok (.bipush 30, 2) := by decide +kernel
theorem dX4_years_23 : decode cX4_years 23 = .ok (.if_icmp .gt 32, 3) := by decide +kernel
theorem dX4_years_26 : decode cX4_years 26 = .ok (.iload_n 2, 1) := by decide +kernel
theorem dX4_years_27 : decode cX4_years 27 = .ok (.ifCond .ge 28, 3) := by decide +kernel
theorem dX4_years_30 : decode cX4_years 30 = .ok (.aload_n 0, 1) := by decide +kernel
theorem dX4_years_31 : decode cX4_years 31 = .ok (.iload_n 3, 1) := by decide +kernel
theorem dX4_years_32 : decode cX4_years 32 = .ok (.putfield 140, 3) := by decide +kernel
theorem dX4_years_35 : decode cX4_years 35 = .ok (.aload_n 0, 1) := by decide +kernel
theorem dX4_years_36 : decode cX4_years 36 = .ok (.invokevirtual 188, 3) := by decide +kernel
theorem dX4_years_39 : decode cX4_years 39 = .ok (.ifCond .eq 7, 3) := by decide +kernel
theorem dX4_years_42 : decode cX4_years 42 = .ok (.iload_n 3, 1) := by decide +kernel
theorem dX4_years_43 : decode cX4_years 43 = .ok (.goto 5, 3) := by decide +kernel
theorem dX4_years_46 : decode cX4_years 46 = .ok (.bipush (-9), 2) := by decide +kernel
theorem dX4_years_48 : decode cX4_years 48 = .ok (.istore_n 2, 1) := by decide +kernel
theorem dX4_years_49 : decode cX4_years 49 = .ok (.iinc 3 1, 3) := by decide +kernel
theorem dX4_years_52 : decode cX4_years 52 = .ok (.goto (-32), 3) := by decide +kernel
theorem dX4_years_55 : decode cX4_years 55 = .ok (.aload_n 0, 1) := by decide +kernel
theorem dX4_years_56 : decode cX4_years 56 = .ok (.iload_n 1, 1) := by decide +kernel
theorem dX4_years_57 : decode cX4_years 57 = .ok (.putfield 140, 3) := by decide +kernel
theorem dX4_years_60 : decode cX4_years 60 = .ok (.iload_n 2, 1) := by decide +kernel
theorem dX4_years_61 : decode cX4_years 61 = .ok (.ireturn, 1) := by decide +kernel
theorem dX4_isUnseen_0 : decode cX4_isUnseen 0 = .ok (.iconst 1, 1) := by decide +kernel
theorem dX4_isUnseen_1 : decode cX4_isUnseen 1 = .ok (.istore_n 3, 1) := by decide +kernel
theorem dX4_isUnseen_2 : decode cX4_isUnseen 2 = .ok (.iconst 0, 1) := by decide +kernel
theorem dX4_isUnseen_3 : decode cX4_isUnseen 3 = .ok (.istore 4, 2) := by decide +kernel
theorem dX4_isUnseen_5 : decode cX4_isUnseen 5 = .ok (.iload 4, 2) := by decide +kernel
theorem dX4_isUnseen_7 : decode cX4_isUnseen 7 = .ok (.aload_n 0, 1) := by decide +kernel
theorem dX4_isUnseen_8 : decode cX4_isUnseen 8 = .ok (.getfield 89, 3) := by decide +kernel
theorem dX4_isUnseen_11 : decode cX4_isUnseen 11 = .ok (.if_icmp .ge 42, 3) := by decide +kernel
theorem dX4_isUnseen_14 : decode cX4_isUnseen 14 = .ok (.iload_n 3, 1) := by decide +kernel
theorem dX4_isUnseen_15 : decode cX4_isUnseen 15 = .ok (.ifCond .eq 30, 3) := by decide +kernel
theorem dX4_isUnseen_18 : decode cX4_isUnseen 18 = .ok (.iload_n 2, 1) := by decide +kernel
theorem dX4_isUnseen_19 : decode cX4_isUnseen 19 = .ok (.iload 4, 2) := by decide +kernel
theorem dX4_isUnseen_21 : decode cX4_isUnseen 21 = .ok (.ishr, 1) := by decide +kernel
theorem dX4_isUnseen_22 : decode cX4_isUnseen 22 = .ok (.iconst 1, 1) := by decide +kernel
theorem dX4_isUnseen_23 : decode cX4_isUnseen 23 = .ok (.iand, 1) := by decide +kernel
theorem dX4_isUnseen_24 : decode cX4_isUnseen 24 = .ok (.ifCond .eq 17, 3) := by decide +kernel
theorem dX4_isUnseen_27 : decode cX4_isUnseen 27 = .ok (.aload_n 0, 1) := by decide +kernel
theorem dX4_isUnseen_28 : decode cX4_isUnseen 28 = .ok (.iload 4, 2) := by decide +kernel
theorem dX4_isUnseen_30 : decode cX4_isUnseen 30 = .ok (.iload_n 1, 1) := by decide +kernel
theorem dX4_isUnseen_31 : decode cX4_isUnseen 31 = .ok (.aload_n 0, 1) := by decide +kernel
theorem dX4_isUnseen_32 : decode cX4_isUnseen 32 = .ok (.getfield 163, 3) := by decide +kernel
theorem dX4_isUnseen_35 : decode cX4_isUnseen 35 = .ok (.invokevirtual 175, 3) := by decide +kernel
theorem dX4_isUnseen_38 : decode cX4_isUnseen 38 = .ok (.ifCond .ne 7, 3) := by decide +kernel
theorem dX4_isUnseen_41 : decode cX4_isUnseen 41 = .ok (.iconst 1, 1) := by decide +kernel
theorem dX4_isUnseen_42 : decode cX4_isUnseen 42 = .ok (.goto 4, 3) := by decide +kernel
theorem dX4_isUnseen_45 : decode cX4_isUnseen 45 = .ok (.iconst 0, 1) := by decide +kernel
theorem dX4_isUnseen_46 : decode cX4_isUnseen 46 = .ok (.istore_n 3, 1) := by decide +kernel
theorem dX4_isUnseen_47 : decode cX4_isUnseen 47 = .ok (.iinc 4 1, 3) := by decide +kernel
theorem dX4_isUnseen_50 : decode cX4_isUnseen 50 = .ok (.goto (-45), 3) := by decide +kernel
theorem dX4_isUnseen_53 : decode cX4_isUnseen 53 = .ok (.iload_n 3, 1) := by decide +kernel
theorem dX4_isUnseen_54 : decode cX4_isUnseen 54 = .ok (.ireturn, 1) := by decide +kernel
theorem dX4_second_0 : decode cX4_second 0 = .ok (.aload_n 0, 1) := by decide +kernel
theorem dX4_second_1 : decode cX4_second 1 = .ok (.getfield 47, 3) := by decide +kernel
theorem dX4_second_4 : decode cX4_second 4 = .ok (.ifCond .ge 7, 3) := by decide +kernel
theorem dX4_second_7 : decode cX4_second 7 = .ok (.invokestatic 68, 3) := by decide +kernel
theorem dX4_second_10 : decode cX4_second 10 = .ok (.lreturn, 1) := by decide +kernel
theorem dX4_second_11 : decode cX4_second 11 = .ok (.aload_n 0, 1) := by decide +kernel
theorem dX4_second_12 : decode cX4_second 12 = .ok (.aload_n 0, 1) := by decide +kernel
theorem dX4_second_13 : decode cX4_second 13 = .ok (.getfield 47, 3) := by decide +kernel
theorem dX4_second_16 : decode cX4_second 16 = .ok (.aload_n 0, 1) := by decide +kernel
theorem dX4_second_17 : decode cX4_second 17 = .ok (.getfield 163, 3) := by decide +kernel
theorem dX4_second_20 : decode cX4_second 20 = .ok (.invokevirtual 179, 3) := by decide +kernel
theorem dX4_second_23 : decode cX4_second 23 = .ok (.istore_n 1, 1) := by decide +kernel
theorem dX4_second_24 : decode cX4_second 24 = .ok (.lconst 0, 1) := by decide +kernel
theorem dX4_second_25 : decode cX4_second 25 = .ok (.lstore_n 2, 1) := by decide +kernel
theorem dX4_second_26 : decode cX4_second 26 = .ok (.iconst 0, 1) := by decide +kernel
theorem dX4_second_27 : decode cX4_second 27 = .ok (.istore 4, 2) := by decide +kernel
theorem dX4_second_29 : decode cX4_second 29 = .ok (.iload 4, 2) := by decide +kernel
theorem dX4_second_31 : decode cX4_second 31 = .ok (.aload_n 0, 1) := by decide +kernel
theorem dX4_second_32 : decode cX4_second 32 = .ok (.invokevirtual 78, 3) := by decide +kernel
theorem dX4_second_35 : decode cX4_second 35 = .ok (.if_icmp .ge 61, 3) := by decide +kernel
theorem dX4_second_38 : decode cX4_second 38 = .ok (.aload_n 0, 1) := by decide +kernel
theorem dX4_second_39 : decode cX4_second 39 = .ok (.getfield 7, 3) := by decide +kernel
theorem dX4_second_42 : decode cX4_second 42 = .ok (.iload 4, 2) := by decide +kernel
theorem dX4_second_44 : decode cX4_second 44 = .ok (.iaload, 1) := by decide +kernel
theorem dX4_second_45 : decode cX4_second 45 = .ok (.ifCond .ne 16, 3) := by decide +kernel
theorem dX4_second_48 : decode cX4_second 48 = .ok (.iload 4, 2) := by decide +kernel
theorem dX4_second_50 : decode cX4_second 50 = .ok (.aload_n 0, 1) := by decide +kernel
theorem dX4_second_51 : decode cX4_second 51 = .ok (.getfield 47, 3) := by decide +kernel
theorem dX4_second_54 : decode cX4_second 54 = .ok (.if_icmp .eq 7, 3) := by decide +kernel
theorem dX4_second_57 : decode cX4_second 57 = .ok (.iconst 1, 1) := by decide +kernel
theorem dX4_second_58 : decode cX4_second 58 = .ok (.goto 4, 3) := by decide +kernel
theorem dX4_second_61 : decode cX4_second 61 = .ok (.iconst 0, 1) := by decide +kernel
theorem dX4_second_62 : decode cX4_second 62 = .ok (.istore 5, 2) := by decide +kernel
theorem dX4_second_64 : decode cX4_second 64 = .ok (.lload_n 2, 1) := by decide +kernel
theorem dX4_second_65 : decode cX4_second 65 = .ok (.iload 5, 2) := by decide +kernel
theorem dX4_second_67 : decode cX4_second 67 = .ok (.ifCond .eq 20, 3) := by decide +kernel
theorem dX4_second_70 : decode cX4_second 70 = .ok (.aload_n 0, 1) := by decide +kernel
theorem dX4_second_71 : decode cX4_second 71 = .ok (.iload 4, 2) := by decide +kernel
theorem dX4_second_73 : decode cX4_second 73 = .ok (.iload_n 1, 1) := by decide +kernel
theorem dX4_second_74 : decode cX4_second 74 = .ok (.invokevirtual 191, 3) := by decide +kernel
theorem dX4_second_77 : decode cX4_second 77 = .ok (.ifCond .eq 10, 3) := by decide +kernel
theorem dX4_second_80 : decode cX4_second 80 = .ok (.lconst 1, 1) := by decide +kernel
theorem dX4_second_81 : decode cX4_second 81 = .ok (.iload 4, 2) := by decide +kernel
theorem dX4_second_83 : decode cX4_second 83 = .ok (.lshl, 1) := by decide +kernel
theorem dX4_second_84 : decode cX4_second 84 = .ok (.goto 4, 3) := by decide +kernel
theorem dX4_second_87 : decode cX4_second 87 = .ok (.lconst 0, 1) := by decide +kernel
theorem dX4_second_88 : decode cX4_second 88 = .ok (.lor, 1) := by decide +kernel
theorem dX4_second_89 : decode cX4_second 89 = .ok (.lstore_n 2, 1) := by decide +kernel
theorem dX4_second_90 : decode cX4_second 90 = .ok (.iinc 4 1, 3) := by decide +kernel
theorem dX4_second_93 : decode cX4_second 93 = .ok (.goto (-64), 3) := by decide +kernel
theorem dX4_second_96 : decode cX4_second 96 = .ok (.lload_n 2, 1) := by decide +kernel
theorem dX4_second_97 : decode cX4_second 97 = .ok (.lreturn, 1) := by decide +kernel
theorem dX4_litBy_0 : decode cX4_litBy 0 = .ok (.aload_n 0, 1) := by decide +kernel
theorem dX4_litBy_1 : decode cX4_litBy 1 = .ok (.getfield 19, 3) := by decide +kernel
theorem dX4_litBy_4 : decode cX4_litBy 4 = .ok (.iload_n 1, 1) := by decide +kernel
theorem dX4_litBy_5 : decode cX4_litBy 5 = .ok (.iaload, 1) := by decide +kernel
theorem dX4_litBy_6 : decode cX4_litBy 6 = .ok (.aload_n 0, 1) := by decide +kernel
theorem dX4_litBy_7 : decode cX4_litBy 7 = .ok (.getfield 75, 3) := by decide +kernel
theorem dX4_litBy_10 : decode cX4_litBy 10 = .ok (.idiv, 1) := by decide +kernel
theorem dX4_litBy_11 : decode cX4_litBy 11 = .ok (.aload_n 0, 1) := by decide +kernel
theorem dX4_litBy_12 : decode cX4_litBy 12 = .ok (.getfield 47, 3) := by decide +kernel
theorem dX4_litBy_15 : decode cX4_litBy 15 = .ok (.aload_n 0, 1) := by decide +kernel
theorem dX4_litBy_16 : decode cX4_litBy 16 = .ok (.getfield 75, 3) := by decide +kernel
theorem dX4_litBy_19 : decode cX4_litBy 19 = .ok (.idiv, 1) := by decide +kernel
theorem dX4_litBy_20 : decode cX4_litBy 20 = .ok (.invokestatic 166, 3) := by decide +kernel
theorem dX4_litBy_23 : decode cX4_litBy 23 = .ok (.iconst 4, 1) := by decide +kernel
theorem dX4_litBy_24 : decode cX4_litBy 24 = .ok (.if_icmp .ge 34, 3) := by decide +kernel
theorem dX4_litBy_27 : decode cX4_litBy 27 = .ok (.aload_n 0, 1) := by decide +kernel
theorem dX4_litBy_28 : decode cX4_litBy 28 = .ok (.getfield 19, 3) := by decide +kernel
theorem dX4_litBy_31 : decode cX4_litBy 31 = .ok (.iload_n 1, 1) := by decide +kernel
theorem dX4_litBy_32 : decode cX4_litBy 32 = .ok (.iaload, 1) := by decide +kernel
theorem dX4_litBy_33 : decode cX4_litBy 33 = .ok (.aload_n 0, 1) := by decide +kernel
theorem dX4_litBy_34 : decode cX4_litBy 34 = .ok (.getfield 75, 3) := by decide +kernel
theorem dX4_litBy_37 : decode cX4_litBy 37 = .ok (.irem, 1) := by decide +kernel
theorem dX4_litBy_38 : decode cX4_litBy 38 = .ok (.aload_n 0, 1) := by decide +kernel
theorem dX4_litBy_39 : decode cX4_litBy 39 = .ok (.getfield 47, 3) := by decide +kernel
theorem dX4_litBy_42 : decode cX4_litBy 42 = .ok (.aload_n 0, 1) := by decide +kernel
theorem dX4_litBy_43 : decode cX4_litBy 43 = .ok (.getfield 75, 3) := by decide +kernel
theorem dX4_litBy_46 : decode cX4_litBy 46 = .ok (.irem, 1) := by decide +kernel
theorem dX4_litBy_47 : decode cX4_litBy 47 = .ok (.invokestatic 166, 3) := by decide +kernel
theorem dX4_litBy_50 : decode cX4_litBy 50 = .ok (.iconst 4, 1) := by decide +kernel
theorem dX4_litBy_51 : decode cX4_litBy 51 = .ok (.if_icmp .ge 7, 3) := by decide +kernel
theorem dX4_litBy_54 : decode cX4_litBy 54 = .ok (.iconst 1, 1) := by decide +kernel
theorem dX4_litBy_55 : decode cX4_litBy 55 = .ok (.goto 4, 3) := by decide +kernel
theorem dX4_litBy_58 : decode cX4_litBy 58 = .ok (.iconst 0, 1) := by decide +kernel
theorem dX4_litBy_59 : decode cX4_litBy 59 = .ok (.istore_n 2, 1) := by decide +kernel
theorem dX4_litBy_60 : decode cX4_litBy 60 = .ok (.iconst 0, 1) := by decide +kernel
theorem dX4_litBy_61 : decode cX4_litBy 61 = .ok (.istore_n 3, 1) := by decide +kernel
theorem dX4_litBy_62 : decode cX4_litBy 62 = .ok (.iconst 0, 1) := by decide +kernel
theorem dX4_litBy_63 : decode cX4_litBy 63 = .ok (.istore 4, 2) := by decide +kernel
theorem dX4_litBy_65 : decode cX4_litBy 65 = .ok (.iload 4, 2) := by decide +kernel
theorem dX4_litBy_67 : decode cX4_litBy 67 = .ok (.iconst 4, 1) := by decide +kernel
theorem dX4_litBy_68 : decode cX4_litBy 68 = .ok (.if_icmp .ge 61, 3) := by decide +kernel
theorem dX4_litBy_71 : decode cX4_litBy 71 = .ok (.iload_n 2, 1) := by decide +kernel
theorem dX4_litBy_72 : decode cX4_litBy 72 = .ok (.ifCond .eq 57, 3) := by decide +kernel
theorem dX4_litBy_75 : decode cX4_litBy 75 = .ok (.aload_n 0, 1) := by decide +kernel
theorem dX4_litBy_76 : decode cX4_litBy 76 = .ok (.getfield 16, 3) := by decide +kernel
theorem dX4_litBy_79 : decode cX4_litBy 79 = .ok (.iload_n 1, 1) := by decide +kernel
theorem dX4_litBy_80 : decode cX4_litBy 80 = .ok (.iaload, 1) := by decide +kernel
theorem dX4_litBy_81 : decode cX4_litBy 81 = .ok (.ifCond .ne 48, 3) := by decide +kernel
theorem dX4_litBy_84 : decode cX4_litBy 84 = .ok (.aload_n 0, 1) := by decide +kernel
theorem dX4_litBy_85 : decode cX4_litBy 85 = .ok (.getfield 25, 3) := by decide +kernel
theorem dX4_litBy_88 : decode cX4_litBy 88 = .ok (.iload_n 1, 1) := by decide +kernel
theorem dX4_litBy_89 : decode cX4_litBy 89 = .ok (.baload, 1) := by decide +kernel
theorem dX4_litBy_90 : decode cX4_litBy 90 = .ok (.ifCond .ne 39, 3) := by decide +kernel
theorem dX4_litBy_93 : decode cX4_litBy 93 = .ok (.iload_n 3, 1) := by decide +kernel
theorem dX4_litBy_94 : decode cX4_litBy 94 = .ok (.aload_n 0, 1) := by decide +kernel
theorem dX4_litBy_95 : decode cX4_litBy 95 = .ok (.getfield 163, 3) := by decide +kernel
theorem dX4_litBy_98 : decode cX4_litBy 98 = .ok (.iconst 1, 1) := by decide +kernel
theorem dX4_litBy_99 : decode cX4_litBy 99 = .ok (.iadd, 1) := by decide +kernel
theorem dX4_litBy_100 : decode cX4_litBy 100 = .ok (.iconst 2, 1) := by decide +kernel
theorem dX4_litBy_101 : decode cX4_litBy 101 = .ok (.iload 4, 2) := by decide +kernel
theorem dX4_litBy_103 : decode cX4_litBy 103 = .ok (.imul, 1) := by decide +kernel
theorem dX4_litBy_104 : decode cX4_litBy 104 = .ok (.iadd, 1) := by decide +kernel
theorem dX4_litBy_105 : decode cX4_litBy 105 = .ok (.aload_n 0, 1) := by decide +kernel
theorem dX4_litBy_106 : decode cX4_litBy 106 = .ok (.iload_n 1, 1) := by decide +kernel
theorem dX4_litBy_107 : decode cX4_litBy 107 = .ok (.invokevirtual 153, 3) := by decide +kernel
theorem dX4_litBy_110 : decode cX4_litBy 110 = .ok (.if_icmp .gt 10, 3) := by decide +kernel
theorem dX4_litBy_113 : decode cX4_litBy 113 = .ok (.iconst 1, 1) := by decide +kernel
theorem dX4_litBy_114 : decode cX4_litBy 114 = .ok (.iload 4, 2) := by decide +kernel
theorem dX4_litBy_116 : decode cX4_litBy 116 = .ok (.ishl, 1) := by decide +kernel
theorem dX4_litBy_117 : decode cX4_litBy 117 = .ok (.goto 4, 3) := by decide +kernel
theorem dX4_litBy_120 : decode cX4_litBy 120 = .ok (.iconst 0, 1) := by decide +kernel
theorem dX4_litBy_121 : decode cX4_litBy 121 = .ok (.ior, 1) := by decide +kernel
theorem dX4_litBy_122 : decode cX4_litBy 122 = .ok (.istore_n 3, 1) := by decide +kernel
theorem dX4_litBy_123 : decode cX4_litBy 123 = .ok (.iinc 4 1, 3) := by decide +kernel
theorem dX4_litBy_126 : decode cX4_litBy 126 = .ok (.goto (-61), 3) := by decide +kernel
theorem dX4_litBy_129 : decode cX4_litBy 129 = .ok (.iload_n 3, 1) := by decide +kernel
theorem dX4_litBy_130 : decode cX4_litBy 130 = .ok (.ireturn, 1) := by decide +kernel
theorem dX4_litByAll_0 : decode cX4_litByAll 0 = .ok (.iconst 0, 1) := by decide +kernel
theorem dX4_litByAll_1 : decode cX4_litByAll 1 = .ok (.istore_n 2, 1) := by decide +kernel
theorem dX4_litByAll_2 : decode cX4_litByAll 2 = .ok (.iconst 0, 1) := by decide +kernel
theorem dX4_litByAll_3 : decode cX4_litByAll 3 = .ok (.istore_n 3, 1) := by decide +kernel
theorem dX4_litByAll_4 : decode cX4_litByAll 4 = .ok (.iload_n 3, 1) := by decide +kernel
theorem dX4_litByAll_5 : decode cX4_litByAll 5 = .ok (.aload_n 0, 1) := by decide +kernel
theorem dX4_litByAll_6 : decode cX4_litByAll 6 = .ok (.getfield 86, 3) := by decide +kernel
theorem dX4_litByAll_9 : decode cX4_litByAll 9 = .ok (.if_icmp .ge 30, 3) := by decide +kernel
theorem dX4_litByAll_12 : decode cX4_litByAll 12 = .ok (.iload_n 2, 1) := by decide +kernel
theorem dX4_litByAll_13 : decode cX4_litByAll 13 = .ok (.iload_n 1, 1) := by decide +kernel
theorem dX4_litByAll_14 : decode cX4_litByAll 14 = .ok (.iload_n 3, 1) := by decide +kernel
theorem dX4_litByAll_15 : decode cX4_litByAll 15 = .ok (.ishr, 1) := by decide +kernel
theorem dX4_litByAll_16 : decode cX4_litByAll 16 = .ok (.iconst 1, 1) := by decide +kernel
theorem dX4_litByAll_17 : decode cX4_litByAll 17 = .ok (.iand, 1) := by decide +kernel
theorem dX4_litByAll_18 : decode cX4_litByAll 18 = .ok (.iconst 1, 1) := by decide +kernel
theorem dX4_litByAll_19 : decode cX4_litByAll 19 = .ok (.if_icmp .ne 11, 3) := by decide +kernel
theorem dX4_litByAll_22 : decode cX4_litByAll 22 = .ok (.aload_n 0, 1) := by decide +kernel
theorem dX4_litByAll_23 : decode cX4_litByAll 23 = .ok (.iload_n 3, 1) := by decide +kernel
theorem dX4_litByAll_24 : decode cX4_litByAll 24 = .ok (.invokevirtual 194, 3) := by decide +kernel
theorem dX4_litByAll_27 : decode cX4_litByAll 27 = .ok (.goto 4, 3) := by decide +kernel
theorem dX4_litByAll_30 : decode cX4_litByAll 30 = .ok (.iconst 0, 1) := by decide +kernel
theorem dX4_litByAll_31 : decode cX4_litByAll 31 = .ok (.ior, 1) := by decide +kernel
theorem dX4_litByAll_32 : decode cX4_litByAll 32 = .ok (.istore_n 2, 1) := by decide +kernel
theorem dX4_litByAll_33 : decode cX4_litByAll 33 = .ok (.iinc 3 1, 3) := by decide +kernel
theorem dX4_litByAll_36 : decode cX4_litByAll 36 = .ok (.goto (-32), 3) := by decide +kernel
theorem dX4_litByAll_39 : decode cX4_litByAll 39 = .ok (.iload_n 2, 1) := by decide +kernel
theorem dX4_litByAll_40 : decode cX4_litByAll 40 = .ok (.ireturn, 1) := by decide +kernel
theorem dX4_lit_0 : decode cX4_lit 0 = .ok (.iload_n 1, 1) := by decide +kernel
theorem dX4_lit_1 : decode cX4_lit 1 = .ok (.i2l, 1) := by decide +kernel
theorem dX4_lit_2 : decode cX4_lit 2 = .ok (.lconst 0, 1) := by decide +kernel
theorem dX4_lit_3 : decode cX4_lit 3 = .ok (.lconst 1, 1) := by decide +kernel
theorem dX4_lit_4 : decode cX4_lit 4 = .ok (.invokestatic 82, 3) := by decide +kernel
theorem dX4_lit_7 : decode cX4_lit 7 = .ok (.ifCond .ne 6, 3) := by decide +kernel
theorem dX4_lit_10 : decode cX4_lit 10 = .ok (.bipush (-2), 2) := by decide +kernel
theorem dX4_lit_12 : decode cX4_lit 12 = .ok (.ireturn, 1) := by decide +kernel
theorem dX4_lit_13 : decode cX4_lit 13 = .ok (.aload_n 0, 1) := by decide +kernel
theorem dX4_lit_14 : decode cX4_lit 14 = .ok (.getfield 47, 3) := by decide +kernel
theorem dX4_lit_17 : decode cX4_lit 17 = .ok (.ifCond .ge 6, 3) := by decide +kernel
theorem dX4_lit_20 : decode cX4_lit 20 = .ok (.bipush (-3), 2) := by decide +kernel
theorem dX4_lit_22 : decode cX4_lit 22 = .ok (.ireturn, 1) := by decide +kernel
theorem dX4_lit_23 : decode cX4_lit 23 = .ok (.aload_n 0, 1) := by decide +kernel
theorem dX4_lit_24 : decode cX4_lit 24 = .ok (.iconst 1, 1) := by decide +kernel
theorem dX4_lit_25 : decode cX4_lit 25 = .ok (.aload_n 0, 1) := by decide +kernel
theorem dX4_lit_26 : decode cX4_lit 26 = .ok (.getfield 86, 3) := by decide +kernel
theorem dX4_lit_29 : decode cX4_lit 29 = .ok (.ishl, 1) := by decide +kernel
theorem dX4_lit_30 : decode cX4_lit 30 = .ok (.iconst 1, 1) := by decide +kernel
theorem dX4_lit_31 : decode cX4_lit 31 = .ok (.isub, 1) := by decide +kernel
theorem dX4_lit_32 : decode cX4_lit 32 = .ok (.invokevirtual 197, 3) := by decide +kernel
theorem dX4_lit_35 : decode cX4_lit 35 = .ok (.istore_n 2, 1) := by decide +kernel
theorem dX4_lit_36 : decode cX4_lit 36 = .ok (.iconst 1, 1) := by decide +kernel
theorem dX4_lit_37 : decode cX4_lit 37 = .ok (.aload_n 0, 1) := by decide +kernel
theorem dX4_lit_38 : decode cX4_lit 38 = .ok (.getfield 86, 3) := by decide +kernel
theorem dX4_lit_41 : decode cX4_lit 41 = .ok (.ishl, 1) := by decide +kernel
theorem dX4_lit_42 : decode cX4_lit 42 = .ok (.iconst 1, 1) := by decide +kernel
theorem dX4_lit_43 : decode cX4_lit 43 = .ok (.isub, 1) := by decide +kernel
theorem dX4_lit_44 : decode cX4_lit 44 = .ok (.istore_n 3, 1) := by decide +kernel
theorem dX4_lit_45 : decode cX4_lit 45 = .ok (.iconst 1, 1) := by decide +kernel
theorem dX4_lit_46 : decode cX4_lit 46 = .ok (.aload_n 0, 1) := by decide +kernel
theorem dX4_lit_47 : decode cX4_lit 47 = .ok (.getfield 86, 3) := by decide +kernel
theorem dX4_lit_50 : decode cX4_lit 50 = .ok (.ishl, 1) := by decide +kernel
theorem dX4_lit_51 : decode cX4_lit 51 = .ok (.iconst 1, 1) := by decide +kernel
theorem dX4_lit_52 : decode cX4_lit 52 = .ok (.isub, 1) := by decide +kernel
theorem dX4_lit_53 : decode cX4_lit 53 = .ok (.istore 4, 2) := by decide +kernel
theorem dX4_lit_55 : decode cX4_lit 55 = .ok (.iload 4, 2) := by decide +kernel
theorem dX4_lit_57 : decode cX4_lit 57 = .ok (.ifCond .lt 38, 3) := by decide +kernel
theorem dX4_lit_60 : decode cX4_lit 60 = .ok (.iload 4, 2) := by decide +kernel
theorem dX4_lit_62 : decode cX4_lit 62 = .ok (.invokestatic 185, 3) := by decide +kernel
theorem dX4_lit_65 : decode cX4_lit 65 = .ok (.iload_n 3, 1) := by decide +kernel
theorem dX4_lit_66 : decode cX4_lit 66 = .ok (.invokestatic 185, 3) := by decide +kernel
theorem dX4_lit_69 : decode cX4_lit 69 = .ok (.if_icmp .gt 18, 3) := by decide +kernel
theorem dX4_lit_72 : decode cX4_lit 72 = .ok (.aload_n 0, 1) := by decide +kernel
theorem dX4_lit_73 : decode cX4_lit 73 = .ok (.iload 4, 2) := by decide +kernel
theorem dX4_lit_75 : decode cX4_lit 75 = .ok (.invokevirtual 197, 3) := by decide +kernel
theorem dX4_lit_78 : decode cX4_lit 78 = .ok (.iload_n 2, 1) := by decide +kernel
theorem dX4_lit_79 : decode cX4_lit 79 = .ok (.if_icmp .ne 8, 3) := by decide +kernel
theorem dX4_lit_82 : decode cX4_lit 82 = .ok (.iload 4, 2) := by decide +kernel
theorem dX4_lit_84 : decode cX4_lit 84 = .ok (.goto 4, 3) := by decide +kernel
theorem dX4_lit_87 : decode cX4_lit 87 = .ok (.iload_n 3, 1) := by decide +kernel
theorem dX4_lit_88 : decode cX4_lit 88 = .ok (.istore_n 3, 1) := by decide +kernel
theorem dX4_lit_89 : decode cX4_lit 89 = .ok (.iinc 4 (-1), 3) := by decide +kernel
theorem dX4_lit_92 : decode cX4_lit 92 = .ok (.goto (-37), 3) := by decide +kernel
theorem dX4_lit_95 : decode cX4_lit 95 = .ok (.iload_n 1, 1) := by decide +kernel
theorem dX4_lit_96 : decode cX4_lit 96 = .ok (.ifCond .ne 7, 3) := by decide +kernel
theorem dX4_lit_99 : decode cX4_lit 99 = .ok (.iload_n 3, 1) := by decide +kernel
theorem dX4_lit_100 : decode cX4_lit 100 = .ok (.goto 4, 3) := by decide +kernel
theorem dX4_lit_103 : decode cX4_lit 103 = .ok (.iload_n 2, 1) := by decide +kernel
theorem dX4_lit_104 : decode cX4_lit 104 = .ok (.ireturn, 1) := by decide +kernel
theorem dX4_noSheet_0 : decode cX4_noSheet 0 = .ok (.iload_n 0, 1) := by decide +kernel
theorem dX4_noSheet_1 : decode cX4_noSheet 1 = .ok (.i2l, 1) := by decide +kernel
theorem dX4_noSheet_2 : decode cX4_noSheet 2 = .ok (.lconst 0, 1) := by decide +kernel
theorem dX4_noSheet_3 : decode cX4_noSheet 3 = .ok (.ldc2_w 200, 3) := by decide +kernel
theorem dX4_noSheet_6 : decode cX4_noSheet 6 = .ok (.invokestatic 82, 3) := by decide +kernel
theorem dX4_noSheet_9 : decode cX4_noSheet 9 = .ok (.ifCond .ne 7, 3) := by decide +kernel
theorem dX4_noSheet_12 : decode cX4_noSheet 12 = .ok (.iconst 1, 1) := by decide +kernel
theorem dX4_noSheet_13 : decode cX4_noSheet 13 = .ok (.goto 4, 3) := by decide +kernel
theorem dX4_noSheet_16 : decode cX4_noSheet 16 = .ok (.iconst 0, 1) := by decide +kernel
theorem dX4_noSheet_17 : decode cX4_noSheet 17 = .ok (.ireturn, 1) := by decide +kernel
theorem dX4_sheet_0 : decode cX4_sheet 0 = .ok (.iload_n 1, 1) := by decide +kernel
theorem dX4_sheet_1 : decode cX4_sheet 1 = .ok (.invokestatic 119, 3) := by decide +kernel
theorem dX4_sheet_4 : decode cX4_sheet 4 = .ok (.ifCond .eq 9, 3) := by decide +kernel
theorem dX4_sheet_7 : decode cX4_sheet 7 = .ok (.aload_n 0, 1) := by decide +kernel
theorem dX4_sheet_8 : decode cX4_sheet 8 = .ok (.iconst (-1), 1) := by decide +kernel
theorem dX4_sheet_9 : decode cX4_sheet 9 = .ok (.invokevirtual 123, 3) := by decide +kernel
theorem dX4_sheet_12 : decode cX4_sheet 12 = .ok (.ireturn, 1) := by decide +kernel
theorem dX4_sheet_13 : decode cX4_sheet 13 = .ok (.iload_n 2, 1) := by decide +kernel
theorem dX4_sheet_14 : decode cX4_sheet 14 = .ok (.i2l, 1) := by decide +kernel
theorem dX4_sheet_15 : decode cX4_sheet 15 = .ok (.lconst 0, 1) := by decide +kernel
theorem dX4_sheet_16 : decode cX4_sheet 16 = .ok (.ldc2_w 127, 3) := by decide +kernel
theorem dX4_sheet_19 : decode cX4_sheet 19 = .ok (.invokestatic 82, 3) := by decide +kernel
theorem dX4_sheet_22 : decode cX4_sheet 22 = .ok (.ifCond .eq 9, 3) := by decide +kernel
theorem dX4_sheet_25 : decode cX4_sheet 25 = .ok (.iload_n 3, 1) := by decide +kernel
theorem dX4_sheet_26 : decode cX4_sheet 26 = .ok (.bipush 100, 2) := by decide +kernel
theorem dX4_sheet_28 : decode cX4_sheet 28 = .ok (.if_icmp .le 10, 3) := by decide +kernel
theorem dX4_sheet_31 : decode cX4_sheet 31 = .ok (.aload_n 0, 1) := by decide +kernel
theorem dX4_sheet_32 : decode cX4_sheet 32 = .ok (.bipush (-2), 2) := by decide +kernel
theorem dX4_sheet_34 : decode cX4_sheet 34 = .ok (.invokevirtual 123, 3) := by decide +kernel
theorem dX4_sheet_37 : decode cX4_sheet 37 = .ok (.ireturn, 1) := by decide +kernel
theorem dX4_sheet_38 : decode cX4_sheet 38 = .ok (.iload_n 3, 1) := by decide +kernel
theorem dX4_sheet_39 : decode cX4_sheet 39 = .ok (.ifCond .ge 9, 3) := by decide +kernel
theorem dX4_sheet_42 : decode cX4_sheet 42 = .ok (.aload_n 0, 1) := by decide +kernel
theorem dX4_sheet_43 : decode cX4_sheet 43 = .ok (.iconst 4, 1) := by decide +kernel
theorem dX4_sheet_44 : decode cX4_sheet 44 = .ok (.invokevirtual 129, 3) := by decide +kernel
theorem dX4_sheet_47 : decode cX4_sheet 47 = .ok (.ireturn, 1) := by decide +kernel
theorem dX4_sheet_48 : decode cX4_sheet 48 = .ok (.aload_n 0, 1) := by decide +kernel
theorem dX4_sheet_49 : decode cX4_sheet 49 = .ok (.getfield 51, 3) := by decide +kernel
theorem dX4_sheet_52 : decode cX4_sheet 52 = .ok (.iload_n 1, 1) := by decide +kernel
theorem dX4_sheet_53 : decode cX4_sheet 53 = .ok (.iload_n 3, 1) := by decide +kernel
theorem dX4_sheet_54 : decode cX4_sheet 54 = .ok (.iastore, 1) := by decide +kernel
theorem dX4_sheet_55 : decode cX4_sheet 55 = .ok (.aload_n 0, 1) := by decide +kernel
theorem dX4_sheet_56 : decode cX4_sheet 56 = .ok (.getfield 54, 3) := by decide +kernel
theorem dX4_sheet_59 : decode cX4_sheet 59 = .ok (.iload_n 1, 1) := by decide +kernel
theorem dX4_sheet_60 : decode cX4_sheet 60 = .ok (.iload_n 2, 1) := by decide +kernel
theorem dX4_sheet_61 : decode cX4_sheet 61 = .ok (.iastore, 1) := by decide +kernel
theorem dX4_sheet_62 : decode cX4_sheet 62 = .ok (.iconst 0, 1) := by decide +kernel
theorem dX4_sheet_63 : decode cX4_sheet 63 = .ok (.istore 4, 2) := by decide +kernel
theorem dX4_sheet_65 : decode cX4_sheet 65 = .ok (.iload 4, 2) := by decide +kernel
theorem dX4_sheet_67 : decode cX4_sheet 67 = .ok (.iload_n 3, 1) := by decide +kernel
theorem dX4_sheet_68 : decode cX4_sheet 68 = .ok (.if_icmp .ge 22, 3) := by decide +kernel
theorem dX4_sheet_71 : decode cX4_sheet 71 = .ok (.aload_n 0, 1) := by decide +kernel
theorem dX4_sheet_72 : decode cX4_sheet 72 = .ok (.getfield 57, 3) := by decide +kernel
theorem dX4_sheet_75 : decode cX4_sheet 75 = .ok (.bipush 100, 2) := by decide +kernel
theorem dX4_sheet_77 : decode cX4_sheet 77 = .ok (.iload_n 1, 1) := by decide +kernel
theorem dX4_sheet_78 : decode cX4_sheet 78 = .ok (.imul, 1) := by decide +kernel
theorem dX4_sheet_79 : decode cX4_sheet 79 = .ok (.iload 4, 2) := by decide +kernel
theorem dX4_sheet_81 : decode cX4_sheet 81 = .ok (.iadd, 1) := by decide +kernel
theorem dX4_sheet_82 : decode cX4_sheet 82 = .ok (.iconst 0, 1) := by decide +kernel
theorem dX4_sheet_83 : decode cX4_sheet 83 = .ok (.iastore, 1) := by decide +kernel
theorem dX4_sheet_84 : decode cX4_sheet 84 = .ok (.iinc 4 1, 3) := by decide +kernel
theorem dX4_sheet_87 : decode cX4_sheet 87 = .ok (.goto (-22), 3) := by decide +kernel
theorem dX4_sheet_90 : decode cX4_sheet 90 = .ok (.aload_n 0, 1) := by decide +kernel
theorem dX4_sheet_91 : decode cX4_sheet 91 = .ok (.iconst 1, 1) := by decide +kernel
theorem dX4_sheet_92 : decode cX4_sheet 92 = .ok (.invokevirtual 123, 3) := by decide +kernel
theorem dX4_sheet_95 : decode cX4_sheet 95 = .ok (.ireturn, 1) := by decide +kernel
theorem dX4_lose_0 : decode cX4_lose 0 = .ok (.iload_n 1, 1) := by decide +kernel
theorem dX4_lose_1 : decode cX4_lose 1 = .ok (.invokestatic 119, 3) := by decide +kernel
theorem dX4_lose_4 : decode cX4_lose 4 = .ok (.ifCond .eq 5, 3) := by decide +kernel
theorem dX4_lose_7 : decode cX4_lose 7 = .ok (.iconst (-1), 1) := by decide +kernel
theorem dX4_lose_8 : decode cX4_lose 8 = .ok (.ireturn, 1) := by decide +kernel
theorem dX4_lose_9 : decode cX4_lose 9 = .ok (.aload_n 0, 1) := by decide +kernel
theorem dX4_lose_10 : decode cX4_lose 10 = .ok (.getfield 51, 3) := by decide +kernel
theorem dX4_lose_13 : decode cX4_lose 13 = .ok (.iload_n 1, 1) := by decide +kernel
theorem dX4_lose_14 : decode cX4_lose 14 = .ok (.iaload, 1) := by decide +kernel
theorem dX4_lose_15 : decode cX4_lose 15 = .ok (.ifCond .ge 7, 3) := by decide +kernel
theorem dX4_lose_18 : decode cX4_lose 18 = .ok (.iconst 0, 1) := by decide +kernel
theorem dX4_lose_19 : decode cX4_lose 19 = .ok (.goto 4, 3) := by decide +kernel
theorem dX4_lose_22 : decode cX4_lose 22 = .ok (.iconst 1, 1) := by decide +kernel
theorem dX4_lose_23 : decode cX4_lose 23 = .ok (.istore_n 2, 1) := by decide +kernel
theorem dX4_lose_24 : decode cX4_lose 24 = .ok (.aload_n 0, 1) := by decide +kernel
theorem dX4_lose_25 : decode cX4_lose 25 = .ok (.getfield 51, 3) := by decide +kernel
theorem dX4_lose_28 : decode cX4_lose 28 = .ok (.iload_n 1, 1) := by decide +kernel
theorem dX4_lose_29 : decode cX4_lose 29 = .ok (.iconst (-1), 1) := by decide +kernel
theorem dX4_lose_30 : decode cX4_lose 30 = .ok (.iastore, 1) := by decide +kernel
theorem dX4_lose_31 : decode cX4_lose 31 = .ok (.iload_n 2, 1) := by decide +kernel
theorem dX4_lose_32 : decode cX4_lose 32 = .ok (.ireturn, 1) := by decide +kernel
theorem dX4_noCell__0 : decode cX4_noCell_ 0 = .ok (.aload_n 0, 1) := by decide +kernel
theorem dX4_noCell__1 : decode cX4_noCell_ 1 = .ok (.getfield 51, 3) := by decide +kernel
theorem dX4_noCell__4 : decode cX4_noCell_ 4 = .ok (.iload_n 1, 1) := by decide +kernel
theorem dX4_noCell__5 : decode cX4_noCell_ 5 = .ok (.iaload, 1) := by decide +kernel
theorem dX4_noCell__6 : decode cX4_noCell_ 6 = .ok (.ifCond .ge 7, 3) := by decide +kernel
theorem dX4_noCell__9 : decode cX4_noCell_ 9 = .ok (.iconst 1, 1) := by decide +kernel
theorem dX4_noCell__10 : decode cX4_noCell_ 10 = .ok (.goto 26, 3) := by decide +kernel
theorem dX4_noCell__13 : decode cX4_noCell_ 13 = .ok (.iload_n 2, 1) := by decide +kernel
theorem dX4_noCell__14 : decode cX4_noCell_ 14 = .ok (.i2l, 1) := by decide +kernel
theorem dX4_noCell__15 : decode cX4_noCell_ 15 = .ok (.lconst 0, 1) := by decide +kernel
theorem dX4_noCell__16 : decode cX4_noCell_ 16 = .ok (.aload_n 0, 1) := by decide +kernel
theorem dX4_noCell__17 : decode cX4_noCell_ 17 = .ok (.getfield 51, 3) := by decide +kernel
theorem dX4_noCell__20 : decode cX4_noCell_ 20 = .ok (.iload_n 1, 1) := by decide +kernel
theorem dX4_noCell__21 : decode cX4_noCell_ 21 = .ok (.iaload, 1) := by decide +kernel
theorem dX4_noCell__22 : decode cX4_noCell_ 22 = .ok (.i2l, 1) := by decide +kernel
theorem dX4_noCell__23 : decode cX4_noCell_ 23 = .ok (.lconst 1, 1) := by decide +kernel
theorem dX4_noCell__24 : decode cX4_noCell_ 24 = .ok (.lsub, 1) := by decide +kernel
theorem dX4_noCell__25 : decode cX4_noCell_ 25 = .ok (.invokestatic 82, 3) := by decide +kernel
theorem dX4_noCell__28 : decode cX4_noCell_ 28 = .ok (.ifCond .eq 7, 3) := by decide +kernel
theorem dX4_noCell__31 : decode cX4_noCell_ 31 = .ok (.iconst 0, 1) := by decide +kernel
theorem dX4_noCell__32 : decode cX4_noCell_ 32 = .ok (.goto 4, 3) := by decide +kernel
theorem dX4_noCell__35 : decode cX4_noCell_ 35 = .ok (.iconst 3, 1) := by decide +kernel
theorem dX4_noCell__36 : decode cX4_noCell_ 36 = .ok (.ireturn, 1) := by decide +kernel
theorem dX4_put_0 : decode cX4_put 0 = .ok (.iload_n 1, 1) := by decide +kernel
theorem dX4_put_1 : decode cX4_put 1 = .ok (.invokestatic 119, 3) := by decide +kernel
theorem dX4_put_4 : decode cX4_put 4 = .ok (.ifCond .eq 9, 3) := by decide +kernel
theorem dX4_put_7 : decode cX4_put 7 = .ok (.aload_n 0, 1) := by decide +kernel
theorem dX4_put_8 : decode cX4_put 8 = .ok (.iconst (-1), 1) := by decide +kernel
theorem dX4_put_9 : decode cX4_put 9 = .ok (.invokevirtual 123, 3) := by decide +kernel
theorem dX4_put_12 : decode cX4_put 12 = .ok (.ireturn, 1) := by decide +kernel
theorem dX4_put_13 : decode cX4_put 13 = .ok (.aload_n 0, 1) := by decide +kernel
theorem dX4_put_14 : decode cX4_put 14 = .ok (.iload_n 1, 1) := by decide +kernel
theorem dX4_put_15 : decode cX4_put 15 = .ok (.iload_n 2, 1) := by decide +kernel
theorem dX4_put_16 : decode cX4_put 16 = .ok (.invokevirtual 202, 3) := by decide +kernel
theorem dX4_put_19 : decode cX4_put 19 = .ok (.ifCond .le 14, 3) := by decide +kernel
theorem dX4_put_22 : decode cX4_put 22 = .ok (.aload_n 0, 1) := by decide +kernel
theorem dX4_put_23 : decode cX4_put 23 = .ok (.aload_n 0, 1) := by decide +kernel
theorem dX4_put_24 : decode cX4_put 24 = .ok (.iload_n 1, 1) := by decide +kernel
theorem dX4_put_25 : decode cX4_put 25 = .ok (.iload_n 2, 1) := by decide +kernel
theorem dX4_put_26 : decode cX4_put 26 = .ok (.invokevirtual 202, 3) := by decide +kernel
theorem dX4_put_29 : decode cX4_put 29 = .ok (.invokevirtual 129, 3) := by decide +kernel
theorem dX4_put_32 : decode cX4_put 32 = .ok (.ireturn, 1) := by decide +kernel
theorem dX4_put_33 : decode cX4_put 33 = .ok (.aload_n 0, 1) := by decide +kernel
theorem dX4_put_34 : decode cX4_put 34 = .ok (.getfield 57, 3) := by decide +kernel
theorem dX4_put_37 : decode cX4_put 37 = .ok (.bipush 100, 2) := by decide +kernel
theorem dX4_put_39 : decode cX4_put 39 = .ok (.iload_n 1, 1) := by decide +kernel
theorem dX4_put_40 : decode cX4_put 40 = .ok (.imul, 1) := by decide +kernel
theorem dX4_put_41 : decode cX4_put 41 = .ok (.iload_n 2, 1) := by decide +kernel
theorem dX4_put_42 : decode cX4_put 42 = .ok (.iadd, 1) := by decide +kernel
theorem dX4_put_43 : decode cX4_put 43 = .ok (.aload_n 0, 1) := by decide +kernel
theorem dX4_put_44 : decode cX4_put 44 = .ok (.getfield 54, 3) := by decide +kernel
theorem dX4_put_47 : decode cX4_put 47 = .ok (.iload_n 1, 1) := by decide +kernel
theorem dX4_put_48 : decode cX4_put 48 = .ok (.iaload, 1) := by decide +kernel
theorem dX4_put_49 : decode cX4_put 49 = .ok (.ifCond .ne 8, 3) := by decide +kernel
theorem dX4_put_52 : decode cX4_put 52 = .ok (.iload_n 3, 1) := by decide +kernel
theorem dX4_put_53 : decode cX4_put 53 = .ok (.i2b, 1) := by decide +kernel
theorem dX4_put_54 : decode cX4_put 54 = .ok (.goto 19, 3) := by decide +kernel
theorem dX4_put_57 : decode cX4_put 57 = .ok (.aload_n 0, 1) := by decide +kernel
theorem dX4_put_58 : decode cX4_put 58 = .ok (.getfield 54, 3) := by decide +kernel
theorem dX4_put_61 : decode cX4_put 61 = .ok (.iload_n 1, 1) := by decide +kernel
theorem dX4_put_62 : decode cX4_put 62 = .ok (.iaload, 1) := by decide +kernel
theorem dX4_put_63 : decode cX4_put 63 = .ok (.iconst 1, 1) := by decide +kernel
theorem dX4_put_64 : decode cX4_put 64 = .ok (.if_icmp .ne 8, 3) := by decide +kernel
theorem dX4_put_67 : decode cX4_put 67 = .ok (.iload_n 3, 1) := by decide +kernel
theorem dX4_put_68 : decode cX4_put 68 = .ok (.i2s, 1) := by decide +kernel
theorem dX4_put_69 : decode cX4_put 69 = .ok (.goto 4, 3) := by decide +kernel
theorem dX4_put_72 : decode cX4_put 72 = .ok (.iload_n 3, 1) := by decide +kernel
theorem dX4_put_73 : decode cX4_put 73 = .ok (.iastore, 1) := by decide +kernel
theorem dX4_put_74 : decode cX4_put 74 = .ok (.aload_n 0, 1) := by decide +kernel
theorem dX4_put_75 : decode cX4_put 75 = .ok (.iconst 1, 1) := by decide +kernel
theorem dX4_put_76 : decode cX4_put 76 = .ok (.invokevirtual 123, 3) := by decide +kernel
theorem dX4_put_79 : decode cX4_put 79 = .ok (.ireturn, 1) := by decide +kernel
theorem dX4_cell_0 : decode cX4_cell 0 = .ok (.aload_n 0, 1) := by decide +kernel
theorem dX4_cell_1 : decode cX4_cell 1 = .ok (.iconst 0, 1) := by decide +kernel
theorem dX4_cell_2 : decode cX4_cell 2 = .ok (.putfield 65, 3) := by decide +kernel
theorem dX4_cell_5 : decode cX4_cell 5 = .ok (.iload_n 1, 1) := by decide +kernel
theorem dX4_cell_6 : decode cX4_cell 6 = .ok (.invokestatic 119, 3) := by decide +kernel
theorem dX4_cell_9 : decode cX4_cell 9 = .ok (.ifCond .ne 15, 3) := by decide +kernel
theorem dX4_cell_12 : decode cX4_cell 12 = .ok (.iload_n 3, 1) := by decide +kernel
theorem dX4_cell_13 : decode cX4_cell 13 = .ok (.i2l, 1) := by decide +kernel
theorem dX4_cell_14 : decode cX4_cell 14 = .ok (.lconst 0, 1) := by decide +kernel
theorem dX4_cell_15 : decode cX4_cell 15 = .ok (.ldc2_w 127, 3) := by decide +kernel
theorem dX4_cell_18 : decode cX4_cell 18 = .ok (.invokestatic 82, 3) := by decide +kernel
theorem dX4_cell_21 : decode cX4_cell 21 = .ok (.ifCond .ne 7, 3) := by decide +kernel
theorem dX4_cell_24 : decode cX4_cell 24 = .ok (.invokestatic 68, 3) := by decide +kernel
theorem dX4_cell_27 : decode cX4_cell 27 = .ok (.lreturn, 1) := by decide +kernel
theorem dX4_cell_28 : decode cX4_cell 28 = .ok (.aload_n 0, 1) := by decide +kernel
theorem dX4_cell_29 : decode cX4_cell 29 = .ok (.getfield 51, 3) := by decide +kernel
theorem dX4_cell_32 : decode cX4_cell 32 = .ok (.iload_n 1, 1) := by decide +kernel
theorem dX4_cell_33 : decode cX4_cell 33 = .ok (.iaload, 1) := by decide +kernel
theorem dX4_cell_34 : decode cX4_cell 34 = .ok (.ifCond .lt 19, 3) := by decide +kernel
theorem dX4_cell_37 : decode cX4_cell 37 = .ok (.aload_n 0, 1) := by decide +kernel
theorem dX4_cell_38 : decode cX4_cell 38 = .ok (.getfield 54, 3) := by decide +kernel
theorem dX4_cell_41 : decode cX4_cell 41 = .ok (.iload_n 1, 1) := by decide +kernel
theorem dX4_cell_42 : decode cX4_cell 42 = .ok (.iaload, 1) := by decide +kernel
theorem dX4_cell_43 : decode cX4_cell 43 = .ok (.iload_n 3, 1) := by decide +kernel
theorem dX4_cell_44 : decode cX4_cell 44 = .ok (.if_icmp .eq 9, 3) := by decide +kernel
theorem dX4_cell_47 : decode cX4_cell 47 = .ok (.aload_n 0, 1) := by decide +kernel
theorem dX4_cell_48 : decode cX4_cell 48 = .ok (.iconst 2, 1) := by decide +kernel
theorem dX4_cell_49 : decode cX4_cell 49 = .ok (.invokevirtual 204, 3) := by decide +kernel
theorem dX4_cell_52 : decode cX4_cell 52 = .ok (.lreturn, 1) := by decide +kernel
theorem dX4_cell_53 : decode cX4_cell 53 = .ok (.aload_n 0, 1) := by decide +kernel
theorem dX4_cell_54 : decode cX4_cell 54 = .ok (.iload_n 1, 1) := by decide +kernel
theorem dX4_cell_55 : decode cX4_cell 55 = .ok (.iload_n 2, 1) := by decide +kernel
theorem dX4_cell_56 : decode cX4_cell 56 = .ok (.invokevirtual 202, 3) := by decide +kernel
theorem dX4_cell_59 : decode cX4_cell 59 = .ok (.ifCond .le 16, 3) := by decide +kernel
theorem dX4_cell_62 : decode cX4_cell 62 = .ok (.aload_n 0, 1) := by decide +kernel
theorem dX4_cell_63 : decode cX4_cell 63 = .ok (.aload_n 0, 1) := by decide +kernel
theorem dX4_cell_64 : decode cX4_cell 64 = .ok (.iload_n 1, 1) := by decide +kernel
theorem dX4_cell_65 : decode cX4_cell 65 = .ok (.iload_n 2, 1) := by decide +kernel
theorem dX4_cell_66 : decode cX4_cell 66 = .ok (.invokevirtual 202, 3) := by decide +kernel
theorem dX4_cell_69 : decode cX4_cell 69 = .ok (.invokevirtual 204, 3) := by decide +kernel
theorem dX4_cell_72 : decode cX4_cell 72 = .ok (.goto 15, 3) := by decide +kernel
theorem dX4_cell_75 : decode cX4_cell 75 = .ok (.aload_n 0, 1) := by decide +kernel
theorem dX4_cell_76 : decode cX4_cell 76 = .ok (.getfield 57, 3) := by decide +kernel
theorem dX4_cell_79 : decode cX4_cell 79 = .ok (.bipush 100, 2) := by decide +kernel
theorem dX4_cell_81 : decode cX4_cell 81 = .ok (.iload_n 1, 1) := by decide +kernel
theorem dX4_cell_82 : decode cX4_cell 82 = .ok (.imul, 1) := by decide +kernel
theorem dX4_cell_83 : decode cX4_cell 83 = .ok (.iload_n 2, 1) := by decide +kernel
theorem dX4_cell_84 : decode cX4_cell 84 = .ok (.iadd, 1) := by decide +kernel
theorem dX4_cell_85 : decode cX4_cell 85 = .ok (.iaload, 1) := by decide +kernel
theorem dX4_cell_86 : decode cX4_cell 86 = .ok (.i2l, 1) := by decide +kernel
theorem dX4_cell_87 : decode cX4_cell 87 = .ok (.lreturn, 1) := by decide +kernel
theorem dX4_isBeyond_0 : decode cX4_isBeyond 0 = .ok (.iload_n 0, 1) := by decide +kernel
theorem dX4_isBeyond_1 : decode cX4_isBeyond 1 = .ok (.ifCond .lt 19, 3) := by decide +kernel
theorem dX4_isBeyond_4 : decode cX4_isBeyond 4 = .ok (.lload_n 1, 1) := by decide +kernel
theorem dX4_isBeyond_5 : decode cX4_isBeyond 5 = .ok (.lconst 0, 1) := by decide +kernel
theorem dX4_isBeyond_6 : decode cX4_isBeyond 6 = .ok (.lcmp, 1) := by decide +kernel
theorem dX4_isBeyond_7 : decode cX4_isBeyond 7 = .ok (.ifCond .lt 13, 3) := by decide +kernel
theorem dX4_isBeyond_10 : decode cX4_isBeyond 10 = .ok (.iload_n 0, 1) := by decide +kernel
theorem dX4_isBeyond_11 : decode cX4_isBeyond 11 = .ok (.i2l, 1) := by decide +kernel
theorem dX4_isBeyond_12 : decode cX4_isBeyond 12 = .ok (.lload_n 1, 1) := by decide +kernel
theorem dX4_isBeyond_13 : decode cX4_isBeyond 13 = .ok (.ladd, 1) := by decide +kernel
theorem dX4_isBeyond_14 : decode cX4_isBeyond 14 = .ok (.iload_n 3, 1) := by decide +kernel
theorem dX4_isBeyond_15 : decode cX4_isBeyond 15 = .ok (.i2l, 1) := by decide +kernel
theorem dX4_isBeyond_16 : decode cX4_isBeyond 16 = .ok (.lcmp, 1) := by decide +kernel
theorem dX4_isBeyond_17 : decode cX4_isBeyond 17 = .ok (.ifCond .le 7, 3) := by decide +kernel
theorem dX4_isBeyond_20 : decode cX4_isBeyond 20 = .ok (.iconst 1, 1) := by decide +kernel
theorem dX4_isBeyond_21 : decode cX4_isBeyond 21 = .ok (.goto 4, 3) := by decide +kernel
theorem dX4_isBeyond_24 : decode cX4_isBeyond 24 = .ok (.iconst 0, 1) := by decide +kernel
theorem dX4_isBeyond_25 : decode cX4_isBeyond 25 = .ok (.ireturn, 1) := by decide +kernel
theorem dX4_copy_0 : decode cX4_copy 0 = .ok (.iload_n 1, 1) := by decide +kernel
theorem dX4_copy_1 : decode cX4_copy 1 = .ok (.invokestatic 119, 3) := by decide +kernel
theorem dX4_copy_4 : decode cX4_copy 4 = .ok (.ifCond .ne 10, 3) := by decide +kernel
theorem dX4_copy_7 : decode cX4_copy 7 = .ok (.iload_n 3, 1) := by decide +kernel
theorem dX4_copy_8 : decode cX4_copy 8 = .ok (.invokestatic 119, 3) := by decide +kernel
theorem dX4_copy_11 : decode cX4_copy 11 = .ok (.ifCond .eq 9, 3) := by decide +kernel
theorem dX4_copy_14 : decode cX4_copy 14 = .ok (.aload_n 0, 1) := by decide +kernel
theorem dX4_copy_15 : decode cX4_copy 15 = .ok (.iconst (-1), 1) := by decide +kernel
theorem dX4_copy_16 : decode cX4_copy 16 = .ok (.invokevirtual 123, 3) := by decide +kernel
theorem dX4_copy_19 : decode cX4_copy 19 = .ok (.ireturn, 1) := by decide +kernel
theorem dX4_copy_20 : decode cX4_copy 20 = .ok (.aload_n 0, 1) := by decide +kernel
theorem dX4_copy_21 : decode cX4_copy 21 = .ok (.getfield 51, 3) := by decide +kernel
theorem dX4_copy_24 : decode cX4_copy 24 = .ok (.iload_n 1, 1) := by decide +kernel
theorem dX4_copy_25 : decode cX4_copy 25 = .ok (.iaload, 1) := by decide +kernel
theorem dX4_copy_26 : decode cX4_copy 26 = .ok (.ifCond .lt 12, 3) := by decide +kernel
theorem dX4_copy_29 : decode cX4_copy 29 = .ok (.aload_n 0, 1) := by decide +kernel
theorem dX4_copy_30 : decode cX4_copy 30 = .ok (.getfield 51, 3) := by decide +kernel
theorem dX4_copy_33 : decode cX4_copy 33 = .ok (.iload_n 3, 1) := by decide +kernel
theorem dX4_copy_34 : decode cX4_copy 34 = .ok (.iaload, 1) := by decide +kernel
theorem dX4_copy_35 : decode cX4_copy 35 = .ok (.ifCond .ge 9, 3) := by decide +kernel
theorem dX4_copy_38 : decode cX4_copy 38 = .ok (.aload_n 0, 1) := by decide +kernel
theorem dX4_copy_39 : decode cX4_copy 39 = .ok (.iconst 1, 1) := by decide +kernel
theorem dX4_copy_40 : decode cX4_copy 40 = .ok (.invokevirtual 129, 3) := by decide +kernel
theorem dX4_copy_43 : decode cX4_copy 43 = .ok (.ireturn, 1) := by decide +kernel
theorem dX4_copy_44 : decode cX4_copy 44 = .ok (.aload_n 0, 1) := by decide +kernel
theorem dX4_copy_45 : decode cX4_copy 45 = .ok (.getfield 54, 3) := by decide +kernel
theorem dX4_copy_48 : decode cX4_copy 48 = .ok (.iload_n 1, 1) := by decide +kernel
theorem dX4_copy_49 : decode cX4_copy 49 = .ok (.iaload, 1) := by decide +kernel
theorem dX4_copy_50 : decode cX4_copy 50 = .ok (.aload_n 0, 1) := by decide +kernel
theorem dX4_copy_51 : decode cX4_copy 51 = .ok (.getfield 54, 3) := by decide +kernel
theorem dX4_copy_54 : decode cX4_copy 54 = .ok (.iload_n 3, 1) := by decide +kernel
theorem dX4_copy_55 : decode cX4_copy 55 = .ok (.iaload, 1) := by decide +kernel
theorem dX4_copy_56 : decode cX4_copy 56 = .ok (.if_icmp .eq 9, 3) := by decide +kernel
theorem dX4_copy_59 : decode cX4_copy 59 = .ok (.aload_n 0, 1) := by decide +kernel
theorem dX4_copy_60 : decode cX4_copy 60 = .ok (.iconst 2, 1) := by decide +kernel
theorem dX4_copy_61 : decode cX4_copy 61 = .ok (.invokevirtual 129, 3) := by decide +kernel
theorem dX4_copy_64 : decode cX4_copy 64 = .ok (.ireturn, 1) := by decide +kernel
theorem dX4_copy_65 : decode cX4_copy 65 = .ok (.iload_n 2, 1) := by decide +kernel
theorem dX4_copy_66 : decode cX4_copy 66 = .ok (.iload 5, 2) := by decide +kernel
theorem dX4_copy_68 : decode cX4_copy 68 = .ok (.i2l, 1) := by decide +kernel
theorem dX4_copy_69 : decode cX4_copy 69 = .ok (.aload_n 0, 1) := by decide +kernel
theorem dX4_copy_70 : decode cX4_copy 70 = .ok (.getfield 51, 3) := by decide +kernel
theorem dX4_copy_73 : decode cX4_copy 73 = .ok (.iload_n 1, 1) := by decide +kernel
theorem dX4_copy_74 : decode cX4_copy 74 = .ok (.iaload, 1) := by decide +kernel
theorem dX4_copy_75 : decode cX4_copy 75 = .ok (.invokestatic 132, 3) := by decide +kernel
theorem dX4_copy_78 : decode cX4_copy 78 = .ok (.ifCond .ne 20, 3) := by decide +kernel
theorem dX4_copy_81 : decode cX4_copy 81 = .ok (.iload 4, 2) := by decide +kernel
theorem dX4_copy_83 : decode cX4_copy 83 = .ok (.iload 5, 2) := by decide +kernel
theorem dX4_copy_85 : decode cX4_copy 85 = .ok (.i2l, 1) := by decide +kernel
theorem dX4_copy_86 : decode cX4_copy 86 = .ok (.aload_n 0, 1) := by decide +kernel
theorem dX4_copy_87 : decode cX4_copy 87 = .ok (.getfield 51, 3) := by decide +kernel
theorem dX4_copy_90 : decode cX4_copy 90 = .ok (.iload_n 3, 1) := by decide +kernel
theorem dX4_copy_91 : decode cX4_copy 91 = .ok (.iaload, 1) := by decide +kernel
theorem dX4_copy_92 : decode cX4_copy 92 = .ok (.invokestatic 132, 3) := by decide +kernel
theorem dX4_copy_95 : decode cX4_copy 95 = .ok (.ifCond .eq 9, 3) := by decide +kernel
theorem dX4_copy_98 : decode cX4_copy 98 = .ok (.aload_n 0, 1) := by decide +kernel
theorem dX4_copy_99 : decode cX4_copy 99 = .ok (.iconst 3, 1) := by decide +kernel
theorem dX4_copy_100 : decode cX4_copy 100 = .ok (.invokevirtual 129, 3) := by decide +kernel
theorem dX4_copy_103 : decode cX4_copy 103 = .ok (.ireturn, 1) := by decide +kernel
theorem dX4_copy_104 : decode cX4_copy 104 = .ok (.iconst 0, 1) := by decide +kernel
theorem dX4_copy_105 : decode cX4_copy 105 = .ok (.istore 6, 2) := by decide +kernel
theorem dX4_copy_107 : decode cX4_copy 107 = .ok (.iload 6, 2) := by decide +kernel
theorem dX4_copy_109 : decode cX4_copy 109 = .ok (.iload 5, 2) := by decide +kernel
theorem dX4_copy_111 : decode cX4_copy 111 = .ok (.if_icmp .ge 30, 3) := by decide +kernel
theorem dX4_copy_114 : decode cX4_copy 114 = .ok (.aload_n 0, 1) := by decide +kernel
theorem dX4_copy_115 : decode cX4_copy 115 = .ok (.getfield 60, 3) := by decide +kernel
theorem dX4_copy_118 : decode cX4_copy 118 = .ok (.iload 6, 2) := by decide +kernel
theorem dX4_copy_120 : decode cX4_copy 120 = .ok (.aload_n 0, 1) := by decide +kernel
theorem dX4_copy_121 : decode cX4_copy 121 = .ok (.getfield 57, 3) := by decide +kernel
theorem dX4_copy_124 : decode cX4_copy 124 = .ok (.bipush 100, 2) := by decide +kernel
theorem dX4_copy_126 : decode cX4_copy 126 = .ok (.iload_n 1, 1) := by decide +kernel
theorem dX4_copy_127 : decode cX4_copy 127 = .ok (.imul, 1) := by decide +kernel
theorem dX4_copy_128 : decode cX4_copy 128 = .ok (.iload_n 2, 1) := by decide +kernel
theorem dX4_copy_129 : decode cX4_copy 129 = .ok (.iadd, 1) := by decide +kernel
theorem dX4_copy_130 : decode cX4_copy 130 = .ok (.iload 6, 2) := by decide +kernel
theorem dX4_copy_132 : decode cX4_copy 132 = .ok (.iadd, 1) := by decide +kernel
theorem dX4_copy_133 : decode cX4_copy 133 = .ok (.iaload, 1) := by decide +kernel
theorem dX4_copy_134 : decode cX4_copy 134 = .ok (.iastore, 1) := by decide +kernel
theorem dX4_copy_135 : decode cX4_copy 135 = .ok (.iinc 6 1, 3) := by decide +kernel
theorem dX4_copy_138 : decode cX4_copy 138 = .ok (.goto (-31), 3) := by decide +kernel
theorem dX4_copy_141 : decode cX4_copy 141 = .ok (.iconst 0, 1) := by decide +kernel
theorem dX4_copy_142 : decode cX4_copy 142 = .ok (.istore 6, 2) := by decide +kernel
theorem dX4_copy_144 : decode cX4_copy 144 = .ok (.iload 6, 2) := by decide +kernel
theorem dX4_copy_146 : decode cX4_copy 146 = .ok (.iload 5, 2) := by decide +kernel
theorem dX4_copy_148 : decode cX4_copy 148 = .ok (.if_icmp .ge 31, 3) := by decide +kernel
theorem dX4_copy_151 : decode cX4_copy 151 = .ok (.aload_n 0, 1) := by decide +kernel
theorem dX4_copy_152 : decode cX4_copy 152 = .ok (.getfield 57, 3) := by decide +kernel
theorem dX4_copy_155 : decode cX4_copy 155 = .ok (.bipush 100, 2) := by decide +kernel
theorem dX4_copy_157 : decode cX4_copy 157 = .ok (.iload_n 3, 1) := by decide +kernel
theorem dX4_copy_158 : decode cX4_copy 158 = .ok (.imul, 1) := by decide +kernel
theorem dX4_copy_159 : decode cX4_copy 159 = .ok (.iload 4, 2) := by decide +kernel
theorem dX4_copy_161 : decode cX4_copy 161 = .ok (.iadd, 1) := by decide +kernel
theorem dX4_copy_162 : decode cX4_copy 162 = .ok (.iload 6, 2) := by decide +kernel
theorem dX4_copy_164 : decode cX4_copy 164 = .ok (.iadd, 1) := by decide +kernel
theorem dX4_copy_165 : decode cX4_copy 165 = .ok (.aload_n 0, 1) := by decide +kernel
theorem dX4_copy_166 : decode cX4_copy 166 = .ok (.getfield 60, 3) := by decide +kernel
theorem dX4_copy_169 : decode cX4_copy 169 = .ok (.iload 6, 2) := by decide +kernel
theorem dX4_copy_171 : decode cX4_copy 171 = .ok (.iaload, 1) := by decide +kernel
theorem dX4_copy_172 : decode cX4_copy 172 = .ok (.iastore, 1) := by decide +kernel
theorem dX4_copy_173 : decode cX4_copy 173 = .ok (.iinc 6 1, 3) := by decide +kernel
theorem dX4_copy_176 : decode cX4_copy 176 = .ok (.goto (-32), 3) := by decide +kernel
theorem dX4_copy_179 : decode cX4_copy 179 = .ok (.aload_n 0, 1) := by decide +kernel
theorem dX4_copy_180 : decode cX4_copy 180 = .ok (.iload 5, 2) := by decide +kernel
theorem dX4_copy_182 : decode cX4_copy 182 = .ok (.invokevirtual 123, 3) := by decide +kernel
theorem dX4_copy_185 : decode cX4_copy 185 = .ok (.ireturn, 1) := by decide +kernel
theorem dX4_traced_0 : decode cX4_traced 0 = .ok (.aload_n 0, 1) := by decide +kernel
theorem dX4_traced_1 : decode cX4_traced 1 = .ok (.bipush 31, 2) := by decide +kernel
theorem dX4_traced_3 : decode cX4_traced 3 = .ok (.aload_n 0, 1) := by decide +kernel
theorem dX4_traced_4 : decode cX4_traced 4 = .ok (.getfield 208, 3) := by decide +kernel
theorem dX4_traced_7 : decode cX4_traced 7 = .ok (.imul, 1) := by decide +kernel
theorem dX4_traced_8 : decode cX4_traced 8 = .ok (.iload_n 1, 1) := by decide +kernel
theorem dX4_traced_9 : decode cX4_traced 9 = .ok (.iadd, 1) := by decide +kernel
theorem dX4_traced_10 : decode cX4_traced 10 = .ok (.putfield 208, 3) := by decide +kernel
theorem dX4_traced_13 : decode cX4_traced 13 = .ok (.return_, 1) := by decide +kernel
theorem dX4_tell_0 : decode cX4_tell 0 = .ok (.aload_n 0, 1) := by decide +kernel
theorem dX4_tell_1 : decode cX4_tell 1 = .ok (.iload_n 1, 1) := by decide +kernel
theorem dX4_tell_2 : decode cX4_tell 2 = .ok (.invokevirtual 150, 3) := by decide +kernel
theorem dX4_tell_5 : decode cX4_tell 5 = .ok (.ifCond .eq 5, 3) := by decide +kernel
theorem dX4_tell_8 : decode cX4_tell 8 = .ok (.iconst (-1), 1) := by decide +kernel
theorem dX4_tell_9 : decode cX4_tell 9 = .ok (.ireturn, 1) := by decide +kernel
theorem dX4_tell_10 : decode cX4_tell 10 = .ok (.aload_n 0, 1) := by decide +kernel
theorem dX4_tell_11 : decode cX4_tell 11 = .ok (.getfield 16, 3) := by decide +kernel
theorem dX4_tell_14 : decode cX4_tell 14 = .ok (.iload_n 1, 1) := by decide +kernel
theorem dX4_tell_15 : decode cX4_tell 15 = .ok (.iaload, 1) := by decide +kernel
theorem dX4_tell_16 : decode cX4_tell 16 = .ok (.istore_n 2, 1) := by decide +kernel
theorem dX4_tell_17 : decode cX4_tell 17 = .ok (.iload_n 2, 1) := by decide +kernel
theorem dX4_tell_18 : decode cX4_tell 18 = .ok (.iconst 2, 1) := by decide +kernel
theorem dX4_tell_19 : decode cX4_tell 19 = .ok (.if_icmp .ne 8, 3) := by decide +kernel
theorem dX4_tell_22 : decode cX4_tell 22 = .ok (.aload_n 0, 1) := by decide +kernel
theorem dX4_tell_23 : decode cX4_tell 23 = .ok (.iconst 3, 1) := by decide +kernel
theorem dX4_tell_24 : decode cX4_tell 24 = .ok (.invokevirtual 211, 3) := by decide +kernel
theorem dX4_tell_27 : decode cX4_tell 27 = .ok (.iload_n 2, 1) := by decide +kernel
theorem dX4_tell_28 : decode cX4_tell 28 = .ok (.ifCond .le 8, 3) := by decide +kernel
theorem dX4_tell_31 : decode cX4_tell 31 = .ok (.aload_n 0, 1) := by decide +kernel
theorem dX4_tell_32 : decode cX4_tell 32 = .ok (.iconst 2, 1) := by decide +kernel
theorem dX4_tell_33 : decode cX4_tell 33 = .ok (.invokevirtual 211, 3) := by decide +kernel
theorem dX4_tell_36 : decode cX4_tell 36 = .ok (.aload_n 0, 1) := by decide +kernel
theorem dX4_tell_37 : decode cX4_tell 37 = .ok (.iconst 1, 1) := by decide +kernel
theorem dX4_tell_38 : decode cX4_tell 38 = .ok (.invokevirtual 211, 3) := by decide +kernel
theorem dX4_tell_41 : decode cX4_tell 41 = .ok (.iload_n 2, 1) := by decide +kernel
theorem dX4_tell_42 : decode cX4_tell 42 = .ok (.iconst 2, 1) := by decide +kernel
theorem dX4_tell_43 : decode cX4_tell 43 = .ok (.if_icmp .ne 8, 3) := by decide +kernel
theorem dX4_tell_46 : decode cX4_tell 46 = .ok (.aload_n 0, 1) := by decide +kernel
theorem dX4_tell_47 : decode cX4_tell 47 = .ok (.iconst 1, 1) := by decide +kernel
theorem dX4_tell_48 : decode cX4_tell 48 = .ok (.invokevirtual 211, 3) := by decide +kernel
theorem dX4_tell_51 : decode cX4_tell 51 = .ok (.aload_n 0, 1) := by decide +kernel
theorem dX4_tell_52 : decode cX4_tell 52 = .ok (.getfield 22, 3) := by decide +kernel
theorem dX4_tell_55 : decode cX4_tell 55 = .ok (.iload_n 1, 1) := by decide +kernel
theorem dX4_tell_56 : decode cX4_tell 56 = .ok (.iaload, 1) := by decide +kernel
theorem dX4_tell_57 : decode cX4_tell 57 = .ok (.istore_n 3, 1) := by decide +kernel
theorem dX4_tell_58 : decode cX4_tell 58 = .ok (.iload_n 2, 1) := by decide +kernel
theorem dX4_tell_59 : decode cX4_tell 59 = .ok (.ifCond .ne 7, 3) := by decide +kernel
theorem dX4_tell_62 : decode cX4_tell 62 = .ok (.iload_n 3, 1) := by decide +kernel
theorem dX4_tell_63 : decode cX4_tell 63 = .ok (.goto 21, 3) := by decide +kernel
theorem dX4_tell_66 : decode cX4_tell 66 = .ok (.iload_n 2, 1) := by decide +kernel
theorem dX4_tell_67 : decode cX4_tell 67 = .ok (.iconst 1, 1) := by decide +kernel
theorem dX4_tell_68 : decode cX4_tell 68 = .ok (.if_icmp .ne 10, 3) := by decide +kernel
theorem dX4_tell_71 : decode cX4_tell 71 = .ok (.iload_n 3, 1) := by decide +kernel
theorem dX4_tell_72 : decode cX4_tell 72 = .ok (.bipush 100, 2) := by decide +kernel
theorem dX4_tell_74 : decode cX4_tell 74 = .ok (.iadd, 1) := by decide +kernel
theorem dX4_tell_75 : decode cX4_tell 75 = .ok (.goto 9, 3) := by decide +kernel
theorem dX4_tell_78 : decode cX4_tell 78 = .ok (.iconst 2, 1) := by decide +kernel
theorem dX4_tell_79 : decode cX4_tell 79 = .ok (.iload_n 3, 1) := by decide +kernel
theorem dX4_tell_80 : decode cX4_tell 80 = .ok (.imul, 1) := by decide +kernel
theorem dX4_tell_81 : decode cX4_tell 81 = .ok (.bipush 100, 2) := by decide +kernel
theorem dX4_tell_83 : decode cX4_tell 83 = .ok (.iadd, 1) := by decide +kernel
theorem dX4_tell_84 : decode cX4_tell 84 = .ok (.ireturn, 1) := by decide +kernel
theorem dX4_tend_0 : decode cX4_tend 0 = .ok (.aload_n 0, 1) := by decide +kernel
theorem dX4_tend_1 : decode cX4_tend 1 = .ok (.iload_n 1, 1) := by decide +kernel
theorem dX4_tend_2 : decode cX4_tend 2 = .ok (.invokevirtual 150, 3) := by decide +kernel
theorem dX4_tend_5 : decode cX4_tend 5 = .ok (.ifCond .eq 5, 3) := by decide +kernel
theorem dX4_tend_8 : decode cX4_tend 8 = .ok (.iconst (-1), 1) := by decide +kernel
theorem dX4_tend_9 : decode cX4_tend 9 = .ok (.ireturn, 1) := by decide +kernel
theorem dX4_tend_10 : decode cX4_tend 10 = .ok (.aload_n 0, 1) := by decide +kernel
theorem dX4_tend_11 : decode cX4_tend 11 = .ok (.aload_n 0, 1) := by decide +kernel
theorem dX4_tend_12 : decode cX4_tend 12 = .ok (.getfield 16, 3) := by decide +kernel
theorem dX4_tend_15 : decode cX4_tend 15 = .ok (.iload_n 1, 1) := by decide +kernel
theorem dX4_tend_16 : decode cX4_tend 16 = .ok (.iaload, 1) := by decide +kernel
theorem dX4_tend_17 : decode cX4_tend 17 = .ok (.iconst 2, 1) := by decide +kernel
theorem dX4_tend_18 : decode cX4_tend 18 = .ok (.if_icmp .ne 7, 3) := by decide +kernel
theorem dX4_tend_21 : decode cX4_tend 21 = .ok (.iconst 5, 1) := by decide +kernel
theorem dX4_tend_22 : decode cX4_tend 22 = .ok (.goto 4, 3) := by decide +kernel
theorem dX4_tend_25 : decode cX4_tend 25 = .ok (.iconst 4, 1) := by decide +kernel
theorem dX4_tend_26 : decode cX4_tend 26 = .ok (.invokevirtual 211, 3) := by decide +kernel
theorem dX4_tend_29 : decode cX4_tend 29 = .ok (.aload_n 0, 1) := by decide +kernel
theorem dX4_tend_30 : decode cX4_tend 30 = .ok (.getfield 16, 3) := by decide +kernel
theorem dX4_tend_33 : decode cX4_tend 33 = .ok (.iload_n 1, 1) := by decide +kernel
theorem dX4_tend_34 : decode cX4_tend 34 = .ok (.iaload, 1) := by decide +kernel
theorem dX4_tend_35 : decode cX4_tend 35 = .ok (.iconst 2, 1) := by decide +kernel
theorem dX4_tend_36 : decode cX4_tend 36 = .ok (.if_icmp .ne 8, 3) := by decide +kernel
theorem dX4_tend_39 : decode cX4_tend 39 = .ok (.bipush 40, 2) := by decide +kernel
theorem dX4_tend_41 : decode cX4_tend 41 = .ok (.goto 4, 3) := by decide +kernel
theorem dX4_tend_44 : decode cX4_tend 44 = .ok (.iload_n 1, 1) := by decide +kernel
theorem dX4_tend_45 : decode cX4_tend 45 = .ok (.ireturn, 1) := by decide +kernel
theorem dX4_as_0 : decode cX4_as 0 = .ok (.aload_n 0, 1) := by decide +kernel
theorem dX4_as_1 : decode cX4_as 1 = .ok (.iload_n 1, 1) := by decide +kernel
theorem dX4_as_2 : decode cX4_as 2 = .ok (.invokevirtual 150, 3) := by decide +kernel
theorem dX4_as_5 : decode cX4_as 5 = .ok (.ifCond .eq 9, 3) := by decide +kernel
theorem dX4_as_8 : decode cX4_as 8 = .ok (.aload_n 0, 1) := by decide +kernel
theorem dX4_as_9 : decode cX4_as 9 = .ok (.iconst (-1), 1) := by decide +kernel
theorem dX4_as_10 : decode cX4_as 10 = .ok (.invokevirtual 123, 3) := by decide +kernel
theorem dX4_as_13 : decode cX4_as 13 = .ok (.ireturn, 1) := by decide +kernel
theorem dX4_as_14 : decode cX4_as 14 = .ok (.iload_n 2, 1) := by decide +kernel
theorem dX4_as_15 : decode cX4_as 15 = .ok (.i2l, 1) := by decide +kernel
theorem dX4_as_16 : decode cX4_as 16 = .ok (.lconst 0, 1) := by decide +kernel
theorem dX4_as_17 : decode cX4_as 17 = .ok (.ldc2_w 127, 3) := by decide +kernel
theorem dX4_as_20 : decode cX4_as 20 = .ok (.invokestatic 82, 3) := by decide +kernel
theorem dX4_as_23 : decode cX4_as 23 = .ok (.ifCond .ne 10, 3) := by decide +kernel
theorem dX4_as_26 : decode cX4_as 26 = .ok (.aload_n 0, 1) := by decide +kernel
theorem dX4_as_27 : decode cX4_as 27 = .ok (.bipush (-2), 2) := by decide +kernel
theorem dX4_as_29 : decode cX4_as 29 = .ok (.invokevirtual 123, 3) := by decide +kernel
theorem dX4_as_32 : decode cX4_as 32 = .ok (.ireturn, 1) := by decide +kernel
theorem dX4_as_33 : decode cX4_as 33 = .ok (.aload_n 0, 1) := by decide +kernel
theorem dX4_as_34 : decode cX4_as 34 = .ok (.getfield 16, 3) := by decide +kernel
theorem dX4_as_37 : decode cX4_as 37 = .ok (.iload_n 1, 1) := by decide +kernel
theorem dX4_as_38 : decode cX4_as 38 = .ok (.iaload, 1) := by decide +kernel
theorem dX4_as_39 : decode cX4_as 39 = .ok (.iload_n 2, 1) := by decide +kernel
theorem dX4_as_40 : decode cX4_as 40 = .ok (.if_icmp .lt 11, 3) := by decide +kernel
theorem dX4_as_43 : decode cX4_as 43 = .ok (.aload_n 0, 1) := by decide +kernel
theorem dX4_as_44 : decode cX4_as 44 = .ok (.iconst 1, 1) := by decide +kernel
theorem dX4_as_45 : decode cX4_as 45 = .ok (.invokevirtual 123, 3) := by decide +kernel
theorem dX4_as_48 : decode cX4_as 48 = .ok (.goto 8, 3) := by decide +kernel
theorem dX4_as_51 : decode cX4_as 51 = .ok (.aload_n 0, 1) := by decide +kernel
theorem dX4_as_52 : decode cX4_as 52 = .ok (.iconst 2, 1) := by decide +kernel
theorem dX4_as_53 : decode cX4_as 53 = .ok (.invokevirtual 129, 3) := by decide +kernel
theorem dX4_as_56 : decode cX4_as 56 = .ok (.ireturn, 1) := by decide +kernel
theorem dX4_trace_0 : decode cX4_trace 0 = .ok (.aload_n 0, 1) := by decide +kernel
theorem dX4_trace_1 : decode cX4_trace 1 = .ok (.getfield 208, 3) := by decide +kernel
theorem dX4_trace_4 : decode cX4_trace 4 = .ok (.ireturn, 1) := by decide +kernel
theorem dX4_fault_0 : decode cX4_fault 0 = .ok (.aload_n 0, 1) := by decide +kernel
theorem dX4_fault_1 : decode cX4_fault 1 = .ok (.getfield 65, 3) := by decide +kernel
theorem dX4_fault_4 : decode cX4_fault 4 = .ok (.ireturn, 1) := by decide +kernel
theorem dX4_many_0 : decode cX4_many 0 = .ok (.iload_n 1, 1) := by decide +kernel
theorem dX4_many_1 : decode cX4_many 1 = .ok (.tableswitch 60 0 4 #[35, 40, 45, 50, 55], 35) := by decide +kernel
theorem dX4_many_36 : decode cX4_many 36 = .ok (.aload_n 0, 1) := by decide +kernel
theorem dX4_many_37 : decode cX4_many 37 = .ok (.invokevirtual 78, 3) := by decide +kernel
theorem dX4_many_40 : decode cX4_many 40 = .ok (.ireturn, 1) := by decide +kernel
theorem dX4_many_41 : decode cX4_many 41 = .ok (.aload_n 0, 1) := by decide +kernel
theorem dX4_many_42 : decode cX4_many 42 = .ok (.getfield 75, 3) := by decide +kernel
theorem dX4_many_45 : decode cX4_many 45 = .ok (.ireturn, 1) := by decide +kernel
theorem dX4_many_46 : decode cX4_many 46 = .ok (.aload_n 0, 1) := by decide +kernel
theorem dX4_many_47 : decode cX4_many 47 = .ok (.getfield 89, 3) := by decide +kernel
theorem dX4_many_50 : decode cX4_many 50 = .ok (.ireturn, 1) := by decide +kernel
theorem dX4_many_51 : decode cX4_many 51 = .ok (.aload_n 0, 1) := by decide +kernel
theorem dX4_many_52 : decode cX4_many 52 = .ok (.getfield 86, 3) := by decide +kernel
theorem dX4_many_55 : decode cX4_many 55 = .ok (.ireturn, 1) := by decide +kernel
theorem dX4_many_56 : decode cX4_many 56 = .ok (.aload_n 0, 1) := by decide +kernel
theorem dX4_many_57 : decode cX4_many 57 = .ok (.getfield 140, 3) := by decide +kernel
theorem dX4_many_60 : decode cX4_many 60 = .ok (.ireturn, 1) := by decide +kernel
theorem dX4_many_61 : decode cX4_many 61 = .ok (.bipush (-2), 2) := by decide +kernel
theorem dX4_many_63 : decode cX4_many 63 = .ok (.ireturn, 1) := by decide +kernel
theorem dJ6_bitCount_0f7a4_0 : decode cJ6_bitCount_0f7a4 0 = .ok (.iload_n 0, 1) := by decide +kernel
theorem dJ6_bitCount_0f7a4_1 : decode cJ6_bitCount_0f7a4 1 = .ok (.iload_n 0, 1) := by decide +kernel
theorem dJ6_bitCount_0f7a4_2 : decode cJ6_bitCount_0f7a4 2 = .ok (.iconst 1, 1) := by decide +kernel
theorem dJ6_bitCount_0f7a4_3 : decode cJ6_bitCount_0f7a4 3 = .ok (.iushr, 1) := by decide +kernel
theorem dJ6_bitCount_0f7a4_4 : decode cJ6_bitCount_0f7a4 4 = .ok (.ldc_w 265, 3) := by decide +kernel
theorem dJ6_bitCount_0f7a4_7 : decode cJ6_bitCount_0f7a4 7 = .ok (.iand, 1) := by decide +kernel
theorem dJ6_bitCount_0f7a4_8 : decode cJ6_bitCount_0f7a4 8 = .ok (.isub, 1) := by decide +kernel
theorem dJ6_bitCount_0f7a4_9 : decode cJ6_bitCount_0f7a4 9 = .ok (.istore_n 0, 1) := by decide +kernel
theorem dJ6_bitCount_0f7a4_10 : decode cJ6_bitCount_0f7a4 10 = .ok (.iload_n 0, 1) := by decide +kernel
theorem dJ6_bitCount_0f7a4_11 : decode cJ6_bitCount_0f7a4 11 = .ok (.ldc_w 266, 3) := by decide +kernel
theorem dJ6_bitCount_0f7a4_14 : decode cJ6_bitCount_0f7a4 14 = .ok (.iand, 1) := by decide +kernel
theorem dJ6_bitCount_0f7a4_15 : decode cJ6_bitCount_0f7a4 15 = .ok (.iload_n 0, 1) := by decide +kernel
theorem dJ6_bitCount_0f7a4_16 : decode cJ6_bitCount_0f7a4 16 = .ok (.iconst 2, 1) := by decide +kernel
theorem dJ6_bitCount_0f7a4_17 : decode cJ6_bitCount_0f7a4 17 = .ok (.iushr, 1) := by decide +kernel
theorem dJ6_bitCount_0f7a4_18 : decode cJ6_bitCount_0f7a4 18 = .ok (.ldc_w 266, 3) := by decide +kernel
theorem dJ6_bitCount_0f7a4_21 : decode cJ6_bitCount_0f7a4 21 = .ok (.iand, 1) := by decide +kernel
theorem dJ6_bitCount_0f7a4_22 : decode cJ6_bitCount_0f7a4 22 = .ok (.iadd, 1) := by decide +kernel
theorem dJ6_bitCount_0f7a4_23 : decode cJ6_bitCount_0f7a4 23 = .ok (.istore_n 0, 1) := by decide +kernel
theorem dJ6_bitCount_0f7a4_24 : decode cJ6_bitCount_0f7a4 24 = .ok (.iload_n 0, 1) := by decide +kernel
theorem dJ6_bitCount_0f7a4_25 : decode cJ6_bitCount_0f7a4 25 = .ok (.iload_n 0, 1) := by decide +kernel
theorem dJ6_bitCount_0f7a4_26 : decode cJ6_bitCount_0f7a4 26 = .ok (.iconst 4, 1) := by decide +kernel
theorem dJ6_bitCount_0f7a4_27 : decode cJ6_bitCount_0f7a4 27 = .ok (.iushr, 1) := by decide +kernel
theorem dJ6_bitCount_0f7a4_28 : decode cJ6_bitCount_0f7a4 28 = .ok (.iadd, 1) := by decide +kernel
theorem dJ6_bitCount_0f7a4_29 : decode cJ6_bitCount_0f7a4 29 = .ok (.ldc_w 267, 3) := by decide +kernel
theorem dJ6_bitCount_0f7a4_32 : decode cJ6_bitCount_0f7a4 32 = .ok (.iand, 1) := by decide +kernel
theorem dJ6_bitCount_0f7a4_33 : decode cJ6_bitCount_0f7a4 33 = .ok (.istore_n 0, 1) := by decide +kernel
theorem dJ6_bitCount_0f7a4_34 : decode cJ6_bitCount_0f7a4 34 = .ok (.iload_n 0, 1) := by decide +kernel
theorem dJ6_bitCount_0f7a4_35 : decode cJ6_bitCount_0f7a4 35 = .ok (.iload_n 0, 1) := by decide +kernel
theorem dJ6_bitCount_0f7a4_36 : decode cJ6_bitCount_0f7a4 36 = .ok (.bipush 8, 2) := by decide +kernel
theorem dJ6_bitCount_0f7a4_38 : decode cJ6_bitCount_0f7a4 38 = .ok (.iushr, 1) := by decide +kernel
theorem dJ6_bitCount_0f7a4_39 : decode cJ6_bitCount_0f7a4 39 = .ok (.iadd, 1) := by decide +kernel
theorem dJ6_bitCount_0f7a4_40 : decode cJ6_bitCount_0f7a4 40 = .ok (.istore_n 0, 1) := by decide +kernel
theorem dJ6_bitCount_0f7a4_41 : decode cJ6_bitCount_0f7a4 41 = .ok (.iload_n 0, 1) := by decide +kernel
theorem dJ6_bitCount_0f7a4_42 : decode cJ6_bitCount_0f7a4 42 = .ok (.iload_n 0, 1) := by decide +kernel
theorem dJ6_bitCount_0f7a4_43 : decode cJ6_bitCount_0f7a4 43 = .ok (.bipush 16, 2) := by decide +kernel
theorem dJ6_bitCount_0f7a4_45 : decode cJ6_bitCount_0f7a4 45 = .ok (.iushr, 1) := by decide +kernel
theorem dJ6_bitCount_0f7a4_46 : decode cJ6_bitCount_0f7a4 46 = .ok (.iadd, 1) := by decide +kernel
theorem dJ6_bitCount_0f7a4_47 : decode cJ6_bitCount_0f7a4 47 = .ok (.istore_n 0, 1) := by decide +kernel
theorem dJ6_bitCount_0f7a4_48 : decode cJ6_bitCount_0f7a4 48 = .ok (.iload_n 0, 1) := by decide +kernel
theorem dJ6_bitCount_0f7a4_49 : decode cJ6_bitCount_0f7a4 49 = .ok (.bipush 63, 2) := by decide +kernel
theorem dJ6_bitCount_0f7a4_51 : decode cJ6_bitCount_0f7a4 51 = .ok (.iand, 1) := by decide +kernel
theorem dJ6_bitCount_0f7a4_52 : decode cJ6_bitCount_0f7a4 52 = .ok (.ireturn, 1) := by decide +kernel
theorem dJ9_abs_0f7a4_0 : decode cJ9_abs_0f7a4 0 = .ok (.iload_n 0, 1) := by decide +kernel
theorem dJ9_abs_0f7a4_1 : decode cJ9_abs_0f7a4 1 = .ok (.ifCond .ge 8, 3) := by decide +kernel
theorem dJ9_abs_0f7a4_4 : decode cJ9_abs_0f7a4 4 = .ok (.iload_n 0, 1) := by decide +kernel
theorem dJ9_abs_0f7a4_5 : decode cJ9_abs_0f7a4 5 = .ok (.ineg, 1) := by decide +kernel
theorem dJ9_abs_0f7a4_6 : decode cJ9_abs_0f7a4 6 = .ok (.goto 4, 3) := by decide +kernel
theorem dJ9_abs_0f7a4_9 : decode cJ9_abs_0f7a4 9 = .ok (.iload_n 0, 1) := by decide +kernel
theorem dJ9_abs_0f7a4_10 : decode cJ9_abs_0f7a4 10 = .ok (.ireturn, 1) := by decide +kernel
theorem dJ9_max_7cf53_0 : decode cJ9_max_7cf53 0 = .ok (.iload_n 0, 1) := by decide +kernel
theorem dJ9_max_7cf53_1 : decode cJ9_max_7cf53 1 = .ok (.iload_n 1, 1) := by decide +kernel
theorem dJ9_max_7cf53_2 : decode cJ9_max_7cf53 2 = .ok (.if_icmp .lt 7, 3) := by decide +kernel
theorem dJ9_max_7cf53_5 : decode cJ9_max_7cf53 5 = .ok (.iload_n 0, 1) := by decide +kernel
theorem dJ9_max_7cf53_6 : decode cJ9_max_7cf53 6 = .ok (.goto 4, 3) := by decide +kernel
theorem dJ9_max_7cf53_9 : decode cJ9_max_7cf53 9 = .ok (.iload_n 1, 1) := by decide +kernel
theorem dJ9_max_7cf53_10 : decode cJ9_max_7cf53 10 = .ok (.ireturn, 1) := by decide +kernel
end
section
/-! plain facts on numbers and arrays, to paste: each family by itself; over the kit's rows on nI and upd -/
/-! ===== order of ints, in all its forms, and through longs ===== -/
theorem fa_lt (a b : Int32) : a < b ↔ a.toInt < b.toInt := Int32.lt_iff_toInt_lt
theorem fa_le (a b : Int32) : a ≤ b ↔ a.toInt ≤ b.toInt := Int32.le_iff_toInt_le
theorem fa_eq (a b : Int32) : a = b ↔ a.toInt = b.toInt := Int32.toInt_inj.symm
theorem fa_lt64 (a b : Int64) : a < b ↔ a.toInt < b.toInt := Int64.lt_iff_toInt_lt
theorem fa_le64 (a b : Int64) : a ≤ b ↔ a.toInt ≤ b.toInt := Int64.le_iff_toInt_le
theorem fa_eq64 (a b : Int64) : a = b ↔ a.toInt = b.toInt := Int64.toInt_inj.symm
/-- a comparison of two ints taken as longs -/
theorem fa_wide_lt (a b : Int32) : a.toInt64 < b.toInt64 ↔ a < b := by rw [fa_lt64, fa_lt, Int32.toInt_toInt64, Int32.toInt_toInt64]
theorem fa_wide_le (a b : Int32) : a.toInt64 ≤ b.toInt64 ↔ a ≤ b := by rw [fa_le64, fa_le, Int32.toInt_toInt64, Int32.toInt_toInt64]
theorem fa_wide_eq (a b : Int32) : a.toInt64 = b.toInt64 ↔ a = b := by rw [fa_eq64, fa_eq, Int32.toInt_toInt64, Int32.toInt_toInt64]
/-- one strict comparison gives all the others -/
theorem fa_of_lt {a b : Int32} (h : a < b) : a ≤ b ∧ ¬ b ≤ a ∧ ¬ b < a ∧ a ≠ b ∧ b ≠ a := by
  rw [fa_lt] at h
  refine ⟨?_, ?_, ?_, ?_, ?_⟩
  · rw [fa_le]; omega
  · rw [fa_le]; omega
  · rw [fa_lt]; omega
  · intro e; rw [fa_eq] at e; omega
  · intro e; rw [fa_eq] at e; omega
theorem fa_of_nlt {a b : Int32} (h : ¬ a < b) : b ≤ a := by
  rw [fa_lt] at h
  rw [fa_le]
  omega
theorem fa_of_nle {a b : Int32} (h : ¬ a ≤ b) : b < a := by
  rw [fa_le] at h
  rw [fa_lt]
  omega
theorem fa_le_ne {a b : Int32} (h : a ≤ b) (h2 : a ≠ b) : a < b := by
  rw [fa_le] at h
  rw [fa_lt]
  have h3 : a.toInt ≠ b.toInt := fun e => h2 ((fa_eq a b).mpr e)
  omega
theorem fa_three (a b : Int32) : a < b ∨ a = b ∨ b < a := by
  rw [fa_lt, fa_lt, fa_eq]
  omega
theorem fa_trans {a b c : Int32} (h : a < b) (h2 : b ≤ c) : a < c := by
  rw [fa_lt] at *
  rw [fa_le] at h2
  omega
/-! ===== small literals as numbers ===== -/
theorem fa_lit (n : Nat) : (OfNat.ofNat n : Int32) = nI n := rfl
theorem fa_litL (n : Nat) : (OfNat.ofNat n : Int64) = lN n := rfl
/-! ===== bits of a number: 'or', masks, one bit ===== -/
theorem fa_and (a b : Nat) : nI a &&& nI b = nI (a &&& b) := by
  apply Int32.toBitVec_inj.1
  show BitVec.ofNat 32 a &&& BitVec.ofNat 32 b = BitVec.ofNat 32 (a &&& b)
  apply BitVec.eq_of_getLsbD_eq
  intro i hi
  simp [hi]
theorem fa_or (a b : Nat) : nI a ||| nI b = nI (a ||| b) := by
  apply Int32.toBitVec_inj.1
  show BitVec.ofNat 32 a ||| BitVec.ofNat 32 b = BitVec.ofNat 32 (a ||| b)
  apply BitVec.eq_of_getLsbD_eq
  intro i hi
  simp [hi]
/-- a remainder by a power of two, as a mask -/
theorem fa_mask (n k : Nat) : nI n &&& nI (2 ^ k - 1) = nI (n % 2 ^ k) := by rw [fa_and, Nat.and_two_pow_sub_one_eq_mod]
/-- 'or' of a high part and a low one that don't meet is their sum -/
theorem fa_or_sum {a k : Nat} (b : Nat) (h : a < 2 ^ k) : nI (2 ^ k * b) ||| nI a = nI (2 ^ k * b + a) := by rw [fa_or, Nat.two_pow_add_eq_or_of_lt h]
/-- one bit, by 'and' with a power of two -/
theorem fa_bit {n j : Nat} (hj : j < 31) : nI n &&& nI (2 ^ j) = 0 ↔ n.testBit j = false := by
  have h2 : (2 : Nat) ^ j < 2 ^ 31 := Nat.pow_lt_pow_right (by decide) hj
  have hle : n &&& 2 ^ j ≤ 2 ^ j := Nat.and_le_right
  have e : n &&& 2 ^ j = 0 ↔ n.testBit j = false := by
    constructor
    · intro h
      have h1 : (n &&& 2 ^ j).testBit j = false := by rw [h]; simp
      rw [Nat.testBit_and] at h1
      first | simpa using h1 | simpa [Nat.testBit_two_pow_self] using h1 | simpa [Nat.testBit_two_pow] using h1
    · intro h
      apply Nat.eq_of_testBit_eq
      intro i
      rw [Nat.testBit_and]
      by_cases hi : j = i
      · subst hi; simp [h]
      · first | (simp [Nat.testBit_two_pow, hi]; done) | (simp [Nat.testBit_two_pow_of_ne hi]; done)
  rw [fa_and]
  constructor
  · intro h
    apply e.mp
    rcases Nat.eq_zero_or_pos (n &&& 2 ^ j) with z | z
    · exact z
    · exact absurd h (nI_ne0 z (Nat.lt_of_le_of_lt hle h2))
  · intro h
    rw [e.mpr h]; exact nI_0
/-- a remainder by a power of two of a number that isn't negative, as Java divides -/
theorem fa_rem {a k : Nat} (ha : a < 2 ^ 31) (hk : k < 31) : nI a - nI a / nI (2 ^ k) * nI (2 ^ k) = nI (a % 2 ^ k) := pk_rem ha (Nat.two_pow_pos k) (Nat.pow_lt_pow_right (by decide) hk)
/-! ===== cuts to a byte, a short ===== -/
theorem fa_byte_xor (x y : Int32) : (x ^^^ y).toInt8 = x.toInt8 ^^^ y.toInt8 := by
  apply Int8.toBitVec_inj.1
  apply BitVec.eq_of_getLsbD_eq
  intro i hi
  first | (simp [hi]; done) | (simp [hi, BitVec.getLsbD_setWidth, BitVec.getLsbD_signExtend]; done)
theorem fa_short_xor (x y : Int32) : (x ^^^ y).toInt16 = x.toInt16 ^^^ y.toInt16 := by
  apply Int16.toBitVec_inj.1
  apply BitVec.eq_of_getLsbD_eq
  intro i hi
  first | (simp [hi]; done) | (simp [hi, BitVec.getLsbD_setWidth, BitVec.getLsbD_signExtend]; done)
/-- the cut to a byte sees the low byte alone -/
theorem fa_byte_low (x : Int32) : (x &&& 255).toInt8 = x.toInt8 := by
  apply Int8.toBitVec_inj.1
  apply BitVec.eq_of_getLsbD_eq
  intro i hi
  have h2 : (255 : Int32).toBitVec.getLsbD i = true := by
    have : ∀ j : Fin 8, (255 : Int32).toBitVec.getLsbD j.val = true := by decide +kernel
    exact this ⟨i, hi⟩
  have h4 : (x &&& 255).toBitVec.getLsbD i = x.toBitVec.getLsbD i := by
    show (x.toBitVec &&& (255 : Int32).toBitVec).getLsbD i = _
    rw [BitVec.getLsbD_and, h2, Bool.and_true]
  have h3 : i < 32 := by omega
  first
    | (show (((x &&& 255).toBitVec).signExtend 8).getLsbD i = (x.toBitVec.signExtend 8).getLsbD i; rw [BitVec.getLsbD_signExtend, BitVec.getLsbD_signExtend, if_pos h3, if_pos h3, h4])
    | (show (((x &&& 255).toBitVec).setWidth 8).getLsbD i = (x.toBitVec.setWidth 8).getLsbD i; rw [BitVec.getLsbD_setWidth, BitVec.getLsbD_setWidth, h4])
    | (simp [hi, h3, h4]; done)
theorem fa_short_low (x : Int32) : (x &&& 65535).toInt16 = x.toInt16 := by
  apply Int16.toBitVec_inj.1
  apply BitVec.eq_of_getLsbD_eq
  intro i hi
  have h2 : (65535 : Int32).toBitVec.getLsbD i = true := by
    have : ∀ j : Fin 16, (65535 : Int32).toBitVec.getLsbD j.val = true := by decide +kernel
    exact this ⟨i, hi⟩
  have h4 : (x &&& 65535).toBitVec.getLsbD i = x.toBitVec.getLsbD i := by
    show (x.toBitVec &&& (65535 : Int32).toBitVec).getLsbD i = _
    rw [BitVec.getLsbD_and, h2, Bool.and_true]
  have h3 : i < 32 := by omega
  first
    | (show (((x &&& 65535).toBitVec).signExtend 16).getLsbD i = (x.toBitVec.signExtend 16).getLsbD i; rw [BitVec.getLsbD_signExtend, BitVec.getLsbD_signExtend, if_pos h3, if_pos h3, h4])
    | (show (((x &&& 65535).toBitVec).setWidth 16).getLsbD i = (x.toBitVec.setWidth 16).getLsbD i; rw [BitVec.getLsbD_setWidth, BitVec.getLsbD_setWidth, h4])
    | (simp [hi, h3, h4]; done)
/-- a small number is its own byte, its own short -/
theorem fa_byte_small {n : Nat} (h : n < 128) : (nI n).toInt8.toInt32 = nI n := by
  have : ∀ j : Fin 128, (nI j.val).toInt8.toInt32 = nI j.val := by decide +kernel
  exact this ⟨n, h⟩
/-! ===== absolute difference ===== -/
theorem fa_absdiff {a b : Nat} (ha : a < 2 ^ 31) (hb : b < 2 ^ 31) : (if nI a < nI b then nI b - nI a else nI a - nI b) = nI (if a < b then b - a else a - b) := by
  by_cases h : a < b
  · rw [if_pos (nI_lt h hb), if_pos h]
    exact pk_sub (Nat.le_of_lt h)
  · rw [if_neg (nI_nlt (Nat.le_of_not_lt h) ha), if_neg h]
    exact pk_sub (Nat.le_of_not_lt h)
/-! ===== an array behind i stores, a conditional store, a row copied ===== -/
/-- f where k < i, what stood there else -/
def fa_fill {α : Type} (f g : Nat → α) (i : Nat) : Nat → α := fun k => if k < i then f k else g k
theorem fa_fill_0 {α : Type} (f g : Nat → α) : fa_fill f g 0 = g := funext fun k => if_neg (Nat.not_lt_zero k)
theorem fa_fill_in {α : Type} {f g : Nat → α} {i k : Nat} (h : k < i) : fa_fill f g i k = f k := if_pos h
theorem fa_fill_out {α : Type} {f g : Nat → α} {i k : Nat} (h : i ≤ k) : fa_fill f g i k = g k := if_neg (Nat.not_lt.mpr h)
theorem fa_fill_succ (f g : Nat → Int32) (i : Nat) : upd (fa_fill f g i) i (f i) = fa_fill f g (i + 1) := by
  funext k
  by_cases e : k = i
  · subst e
    rw [pk_us]
    exact (if_pos (Nat.lt_succ_self k)).symm
  · rw [pk_un e]
    by_cases h : k < i
    · rw [fa_fill_in h, fa_fill_in (Nat.lt_succ_of_lt h)]
    · rw [fa_fill_out (Nat.le_of_not_lt h), fa_fill_out (by omega)]
/-- a store that changes nothing -/
theorem fa_upd_same {f : Nat → Int32} {i : Nat} {x : Int32} (h : f i = x) : upd f i x = f := by
  funext k
  by_cases e : k = i
  · subst e
    rw [pk_us, h]
  · rw [pk_un e]
/-- a store under a condition, told as one -/
theorem fa_upd_if (c : Prop) [Decidable c] (f : Nat → Int32) (i : Nat) (x : Int32) : (if c then upd f i x else f) = upd f i (if c then x else f i) := by
  by_cases h : c
  · rw [if_pos h, if_pos h]
  · rw [if_neg h, if_neg h, fa_upd_same rfl]
/-- two stores at one place, at two -/
theorem fa_upd_twice (f : Nat → Int32) (i : Nat) (x y : Int32) : upd (upd f i x) i y = upd f i y := by
  funext k
  by_cases e : k = i
  · subst e
    rw [pk_us, pk_us]
  · rw [pk_un e, pk_un e, pk_un e]
theorem fa_upd_swap (f : Nat → Int32) {i j : Nat} (h : i ≠ j) (x y : Int32) : upd (upd f i x) j y = upd (upd f j y) i x := by
  funext k
  by_cases e : k = i
  · subst e
    rw [pk_un h, pk_us, pk_us]
  · by_cases e2 : k = j
    · subst e2
      rw [pk_us, pk_un e, pk_us]
    · rw [pk_un e2, pk_un e, pk_un e, pk_un e2]
/-! ===== the first index with a property; a count ===== -/
/-- the first k < n with p k, n if there is none -/
def fa_first (p : Nat → Bool) : Nat → Nat
  | 0 => 0
  | n + 1 => if fa_first p n < n then fa_first p n else if p n then n else n + 1
theorem fa_first_le (p : Nat → Bool) : ∀ n, fa_first p n ≤ n
  | 0 => Nat.le_refl 0
  | n + 1 => by
    have ih := fa_first_le p n
    unfold fa_first
    split
    · omega
    · split
      · omega
      · omega
theorem fa_first_no (p : Nat → Bool) : ∀ n k, k < fa_first p n → p k = false
  | 0, k, h => absurd h (Nat.not_lt_zero k)
  | n + 1, k, h => by
    have ih := fa_first_no p n
    have hl := fa_first_le p n
    unfold fa_first at h
    split at h
    · exact ih k h
    · rename_i h1
      split at h
      · exact ih k (by omega)
      · rename_i h2
        by_cases e : k = n
        · subst e
          exact Bool.eq_false_iff.mpr h2
        · exact ih k (by omega)
theorem fa_first_yes (p : Nat → Bool) : ∀ n, fa_first p n < n → p (fa_first p n) = true
  | 0, h => absurd h (Nat.not_lt_zero _)
  | n + 1, h => by
    have ih := fa_first_yes p n
    have hl := fa_first_le p n
    unfold fa_first at h ⊢
    split at h
    · rename_i h1
      rw [if_pos h1]
      exact ih h1
    · rename_i h1
      rw [if_neg h1]
      split at h
      · rename_i h2
        rw [if_pos h2]
        exact h2
      · omega
/-- how many k < n have p k -/
def fa_cnt (p : Nat → Bool) : Nat → Nat
  | 0 => 0
  | n + 1 => fa_cnt p n + if p n then 1 else 0
theorem fa_cnt_le (p : Nat → Bool) : ∀ n, fa_cnt p n ≤ n
  | 0 => Nat.le_refl 0
  | n + 1 => by
    have ih := fa_cnt_le p n
    unfold fa_cnt
    split
    · omega
    · omega
theorem fa_cnt_yes {p : Nat → Bool} {n : Nat} (h : p n = true) : fa_cnt p (n + 1) = fa_cnt p n + 1 := by rw [fa_cnt, if_pos h]
theorem fa_cnt_no {p : Nat → Bool} {n : Nat} (h : p n = false) : fa_cnt p (n + 1) = fa_cnt p n := by rw [fa_cnt, if_neg (by rw [h]; decide)]; rfl
theorem fa_cnt_cong {p q : Nat → Bool} : ∀ {n : Nat}, (∀ k, k < n → p k = q k) → fa_cnt p n = fa_cnt q n
  | 0, _ => rfl
  | n + 1, h => by rw [fa_cnt, fa_cnt, fa_cnt_cong (fun k hk => h k (Nat.lt_succ_of_lt hk)), h n (Nat.lt_succ_self n)]
/-! ===== an answer carried into a post; a branch on a boolean answer ===== -/
theorem fa_post {α : Type} {P : α → Prop} {x y : α} (h : x = y) (hp : P y) : P x := h ▸ hp
theorem fa_post2 {α β : Type} {P : α → β → Prop} {x y : α} {u v : β} (h : x = y) (h2 : u = v) (hp : P y v) : P x u := h ▸ h2 ▸ hp
theorem fa_bool {r : Int32} {b : Bool} (h : r = if b then 1 else 0) : (r = 0 ↔ b = false) ∧ (¬ r = 0 ↔ b = true) := by
  subst h
  cases b
  · exact ⟨⟨fun _ => rfl, fun _ => rfl⟩, ⟨fun h => absurd rfl h, fun h => absurd h (by decide)⟩⟩
  · exact ⟨⟨fun h => absurd h (by decide), fun h => absurd h (by decide)⟩, ⟨fun _ => rfl, fun _ => by decide⟩⟩
/-- a boolean's narrowing changes nothing -/
theorem fa_bool_and {r : Int32} (h : r = 0 ∨ r = 1) : r &&& 1 = r := by
  rcases h with rfl | rfl
  · decide
  · decide
theorem fa_bool_prop {c : Prop} [Decidable c] {r : Int32} (h : r = if c then 1 else 0) : (r = 0 ↔ ¬ c) ∧ (¬ r = 0 ↔ c) := by
  subst h
  by_cases hc : c
  · rw [if_pos hc]
    exact ⟨⟨fun h => absurd h (by decide), fun h => absurd hc h⟩, ⟨fun _ => hc, fun _ => by decide⟩⟩
  · rw [if_neg hc]
    exact ⟨⟨fun _ => hc, fun _ => rfl⟩, ⟨fun h => absurd rfl h, fun h => absurd h hc⟩⟩
end
section
/-! plain facts to paste, each family by itself; over the kit's nI, lN and upd -/
/-! ===== drawers: more things than places ===== -/
theorem fb_holes : ∀ (m n : Nat) (f : Nat → Nat), (∀ i, i < n → f i < m) → (∀ i j, i < j → j < n → f i ≠ f j) → n ≤ m := by
  intro m
  induction m with
  | zero =>
    intro n f h1 _
    rcases Nat.eq_zero_or_pos n with h | h
    · omega
    · exact absurd (h1 0 h) (Nat.not_lt_zero _)
  | succ m ih =>
    intro n f h1 h2
    by_cases hx : ∃ i, i < n ∧ f i = m
    · obtain ⟨a, ha, hfa⟩ := hx
      have hg := ih (n - 1) (fun i => if i < a then f i else f (i + 1)) (by
        intro i hi
        by_cases q : i < a
        · simp only [if_pos q]
          have b1 := h1 i (by omega)
          have b2 := h2 i a q ha
          omega
        · simp only [if_neg q]
          have b1 := h1 (i + 1) (by omega)
          have b2 := h2 a (i + 1) (by omega) (by omega)
          omega) (by
        intro i j hij hj
        by_cases q : i < a
        · by_cases r : j < a
          · simp only [if_pos q, if_pos r]
            exact h2 i j hij (by omega)
          · simp only [if_pos q, if_neg r]
            exact h2 i (j + 1) (by omega) (by omega)
        · have r : ¬ j < a := by omega
          simp only [if_neg q, if_neg r]
          exact h2 (i + 1) (j + 1) (by omega) (by omega))
      omega
    · have hg := ih n f (fun i hi => by
        have b1 := h1 i hi
        have b2 : f i ≠ m := fun e => hx ⟨i, hi, e⟩
        omega) h2
      omega
/-- two of them in one place -/
theorem fb_twice {m n : Nat} {f : Nat → Nat} (h : ∀ i, i < n → f i < m) (hm : m < n) : ∃ i j, i < j ∧ j < n ∧ f i = f j := by
  refine Classical.byContradiction fun hx => ?_
  have := fb_holes m n f h (fun i j hij hj e => hx ⟨i, j, hij, hj, e⟩)
  omega
/-- as many as places, none twice: each place is taken -/
theorem fb_onto {n : Nat} {f : Nat → Nat} (h : ∀ i, i < n → f i < n) (h2 : ∀ i j, i < j → j < n → f i ≠ f j) {y : Nat} (hy : y < n) : ∃ i, i < n ∧ f i = y := by
  refine Classical.byContradiction fun hx => ?_
  have hne : ∀ i, i < n → f i ≠ y := fun i hi e => hx ⟨i, hi, e⟩
  have := fb_holes (n - 1) n (fun i => if f i < y then f i else f i - 1) (by
    intro i hi
    have b1 := h i hi
    have b2 := hne i hi
    by_cases q : f i < y
    · simp only [if_pos q]; omega
    · simp only [if_neg q]; omega) (by
    intro i j hij hj
    have b1 := hne i (by omega)
    have b2 := hne j hj
    have b3 := h2 i j hij hj
    by_cases q : f i < y
    · by_cases r : f j < y
      · simp only [if_pos q, if_pos r]; exact b3
      · simp only [if_pos q, if_neg r]; omega
    · by_cases r : f j < y
      · simp only [if_neg q, if_pos r]; omega
      · simp only [if_neg q, if_neg r]; omega)
  omega
/-! ===== how many places have a property ===== -/
def fb_ct (p : Nat → Bool) : Nat → Nat
  | 0 => 0
  | n + 1 => fb_ct p n + (if p n then 1 else 0)
theorem fb_ct_succ (p : Nat → Bool) (n : Nat) : fb_ct p (n + 1) = fb_ct p n + (if p n then 1 else 0) := rfl
theorem fb_ct_le (p : Nat → Bool) : ∀ n, fb_ct p n ≤ n
  | 0 => Nat.le_refl _
  | n + 1 => by
    have h := fb_ct_le p n
    rw [fb_ct_succ]
    split <;> omega
theorem fb_ct_step (p : Nat → Bool) (m : Nat) : ∀ n, fb_ct p m ≤ fb_ct p (m + n)
  | 0 => Nat.le_refl _
  | n + 1 => by
    have h := fb_ct_step p m n
    show fb_ct p m ≤ fb_ct p (m + n + 1)
    rw [fb_ct_succ]
    omega
theorem fb_ct_mono (p : Nat → Bool) {m n : Nat} (h : m ≤ n) : fb_ct p m ≤ fb_ct p n := by
  have := fb_ct_step p m (n - m)
  rwa [Nat.add_sub_cancel' h] at this
theorem fb_ct_cong {p q : Nat → Bool} : ∀ {n : Nat}, (∀ k, k < n → p k = q k) → fb_ct p n = fb_ct q n
  | 0, _ => rfl
  | n + 1, h => by
    rw [fb_ct_succ, fb_ct_succ, fb_ct_cong (fun k hk => h k (by omega)), h n (by omega)]
/-- one place changed -/
theorem fb_ct_out (p : Nat → Bool) (b : Bool) {i n : Nat} (h : n ≤ i) : fb_ct (fun k => if k = i then b else p k) n = fb_ct p n :=
  fb_ct_cong fun k hk => if_neg (by omega)
theorem fb_ct_upd (p : Nat → Bool) (b : Bool) {i : Nat} : ∀ {n : Nat}, i < n → fb_ct (fun k => if k = i then b else p k) n + (if p i then 1 else 0) = fb_ct p n + (if b then 1 else 0)
  | 0, h => absurd h (Nat.not_lt_zero i)
  | n + 1, h => by
    rw [fb_ct_succ, fb_ct_succ]
    rcases Nat.lt_or_ge i n with q | q
    · have := fb_ct_upd p b q
      have e : (if n = i then b else p n) = p n := if_neg (by omega)
      rw [e]
      omega
    · have e : i = n := by omega
      subst e
      rw [fb_ct_out p b (Nat.le_refl _)]
      simp only [if_true]
      omega
theorem fb_ct_sub {p q : Nat → Bool} : ∀ {n : Nat}, (∀ k, k < n → p k = true → q k = true) → fb_ct p n ≤ fb_ct q n
  | 0, _ => Nat.le_refl _
  | n + 1, h => by
    have h1 := fb_ct_sub (n := n) (p := p) (q := q) (fun k hk => h k (by omega))
    have h2 := h n (by omega)
    rw [fb_ct_succ, fb_ct_succ]
    cases hp : p n <;> cases hq : q n <;> simp_all <;> omega
theorem fb_ct_or {p q : Nat → Bool} : ∀ {n : Nat}, (∀ k, k < n → ¬ (p k = true ∧ q k = true)) → fb_ct (fun k => p k || q k) n = fb_ct p n + fb_ct q n
  | 0, _ => rfl
  | n + 1, h => by
    have h1 := fb_ct_or (n := n) (p := p) (q := q) (fun k hk => h k (by omega))
    have h2 := h n (by omega)
    rw [fb_ct_succ, fb_ct_succ, fb_ct_succ, h1]
    cases hp : p n <;> cases hq : q n <;> simp_all <;> omega
theorem fb_ct_not (p : Nat → Bool) : ∀ n, fb_ct p n + fb_ct (fun k => !p k) n = n
  | 0 => rfl
  | n + 1 => by
    have h := fb_ct_not p n
    rw [fb_ct_succ, fb_ct_succ]
    cases p n <;> simp <;> omega
theorem fb_ct_split (p : Nat → Bool) (m : Nat) : ∀ n, fb_ct p (m + n) = fb_ct p m + fb_ct (fun k => p (m + k)) n
  | 0 => rfl
  | n + 1 => by
    have h := fb_ct_split p m n
    show fb_ct p (m + n + 1) = _
    rw [fb_ct_succ, fb_ct_succ, h, Nat.add_assoc]
theorem fb_ct_zero {p : Nat → Bool} : ∀ {n : Nat}, fb_ct p n = 0 ↔ ∀ k, k < n → p k = false
  | 0 => ⟨fun _ k hk => absurd hk (Nat.not_lt_zero k), fun _ => rfl⟩
  | n + 1 => by
    have h := fb_ct_zero (p := p) (n := n)
    rw [fb_ct_succ]
    constructor
    · intro e k hk
      have e1 : fb_ct p n = 0 := by omega
      rcases Nat.lt_or_ge k n with q | q
      · exact h.mp e1 k q
      · have ek : k = n := by omega
        subst ek
        cases hp : p k
        · rfl
        · simp [hp] at e
    · intro a
      rw [h.mpr (fun k hk => a k (by omega)), a n (by omega)]
      rfl
theorem fb_ct_pos {p : Nat → Bool} {n : Nat} : 0 < fb_ct p n ↔ ∃ k, k < n ∧ p k = true := by
  constructor
  · intro h
    refine Classical.byContradiction fun hx => ?_
    have := fb_ct_zero.mpr (fun k hk => by
      cases hp : p k
      · rfl
      · exact absurd ⟨k, hk, hp⟩ hx : ∀ k, k < n → p k = false)
    omega
  · rintro ⟨k, hk, hp⟩
    rcases Nat.eq_zero_or_pos (fb_ct p n) with e | e
    · have := fb_ct_zero.mp e k hk
      rw [this] at hp
      cases hp
    · exact e
theorem fb_ct_all {p : Nat → Bool} {n : Nat} : fb_ct p n = n ↔ ∀ k, k < n → p k = true := by
  have h := fb_ct_not p n
  constructor
  · intro e k hk
    have z : fb_ct (fun k => !p k) n = 0 := by omega
    have := fb_ct_zero.mp z k hk
    cases hp : p k
    · simp [hp] at this
    · rfl
  · intro a
    have z : fb_ct (fun k => !p k) n = 0 := fb_ct_zero.mpr (fun k hk => by simp [a k hk])
    omega
/-- the k-th place with the property -/
theorem fb_ct_kth {p : Nat → Bool} {k : Nat} : ∀ {n : Nat}, k < fb_ct p n → ∃ i, i < n ∧ p i = true ∧ fb_ct p i = k
  | 0, h => absurd h (Nat.not_lt_zero k)
  | n + 1, h => by
    rcases Nat.lt_or_ge k (fb_ct p n) with q | q
    · obtain ⟨i, h1, h2⟩ := fb_ct_kth q
      exact ⟨i, by omega, h2⟩
    · rw [fb_ct_succ] at h
      cases hp : p n
      · simp [hp] at h; omega
      · simp [hp] at h
        exact ⟨n, by omega, hp, by omega⟩
theorem fb_ct_kth_one {p : Nat → Bool} {i j : Nat} (hi : p i = true) (hj : p j = true) (e : fb_ct p i = fb_ct p j) : i = j := by
  have key : ∀ a b : Nat, a < b → p a = true → fb_ct p a < fb_ct p b := by
    intro a b hab ha
    have h := fb_ct_mono p (show a + 1 ≤ b from hab)
    rw [fb_ct_succ, ha] at h
    simp at h
    omega
  rcases Nat.lt_trichotomy i j with q | q | q
  · have := key i j q hi; omega
  · exact q
  · have := key j i q hj; omega
/-! ===== sums over a range: one place changed, parts, bounds ===== -/
def fb_sm (f : Nat → Nat) : Nat → Nat
  | 0 => 0
  | n + 1 => fb_sm f n + f n
theorem fb_sm_succ (f : Nat → Nat) (n : Nat) : fb_sm f (n + 1) = fb_sm f n + f n := rfl
theorem fb_sm_cong {f g : Nat → Nat} : ∀ {n : Nat}, (∀ k, k < n → f k = g k) → fb_sm f n = fb_sm g n
  | 0, _ => rfl
  | n + 1, h => by rw [fb_sm_succ, fb_sm_succ, fb_sm_cong (fun k hk => h k (by omega)), h n (by omega)]
theorem fb_sm_out (f : Nat → Nat) (v : Nat) {i n : Nat} (h : n ≤ i) : fb_sm (fun k => if k = i then v else f k) n = fb_sm f n :=
  fb_sm_cong fun k hk => if_neg (by omega)
theorem fb_sm_upd (f : Nat → Nat) (v : Nat) {i : Nat} : ∀ {n : Nat}, i < n → fb_sm (fun k => if k = i then v else f k) n + f i = fb_sm f n + v
  | 0, h => absurd h (Nat.not_lt_zero i)
  | n + 1, h => by
    rw [fb_sm_succ, fb_sm_succ]
    rcases Nat.lt_or_ge i n with q | q
    · have := fb_sm_upd f v q
      have e : (if n = i then v else f n) = f n := if_neg (by omega)
      rw [e]
      omega
    · have e : i = n := by omega
      subst e
      rw [fb_sm_out f v (Nat.le_refl _)]
      simp only [if_true]
      omega
theorem fb_sm_add (f g : Nat → Nat) : ∀ n, fb_sm (fun k => f k + g k) n = fb_sm f n + fb_sm g n
  | 0 => rfl
  | n + 1 => by
    have h := fb_sm_add f g n
    rw [fb_sm_succ, fb_sm_succ, fb_sm_succ, h]
    omega
theorem fb_sm_le {f g : Nat → Nat} : ∀ {n : Nat}, (∀ k, k < n → f k ≤ g k) → fb_sm f n ≤ fb_sm g n
  | 0, _ => Nat.le_refl _
  | n + 1, h => by
    have h1 := fb_sm_le (n := n) (f := f) (g := g) (fun k hk => h k (by omega))
    have h2 := h n (by omega)
    rw [fb_sm_succ, fb_sm_succ]
    omega
theorem fb_sm_const (c : Nat) : ∀ n, fb_sm (fun _ => c) n = n * c
  | 0 => by rw [Nat.zero_mul]; rfl
  | n + 1 => by rw [fb_sm_succ, fb_sm_const c n, Nat.succ_mul]
theorem fb_sm_bound {f : Nat → Nat} {c n : Nat} (h : ∀ k, k < n → f k ≤ c) : fb_sm f n ≤ n * c := by
  rw [← fb_sm_const c n]
  exact fb_sm_le h
theorem fb_sm_mono (f : Nat → Nat) (m : Nat) : ∀ n, fb_sm f m ≤ fb_sm f (m + n)
  | 0 => Nat.le_refl _
  | n + 1 => by
    have h := fb_sm_mono f m n
    show fb_sm f m ≤ fb_sm f (m + n + 1)
    rw [fb_sm_succ]
    omega
theorem fb_sm_part (f : Nat → Nat) {i n : Nat} (h : i < n) : fb_sm f i + f i ≤ fb_sm f n := by
  have := fb_sm_mono f (i + 1) (n - (i + 1))
  rw [fb_sm_succ, show i + 1 + (n - (i + 1)) = n by omega] at this
  exact this
theorem fb_sm_split (f : Nat → Nat) (m : Nat) : ∀ n, fb_sm f (m + n) = fb_sm f m + fb_sm (fun k => f (m + k)) n
  | 0 => rfl
  | n + 1 => by
    have h := fb_sm_split f m n
    show fb_sm f (m + n + 1) = _
    rw [fb_sm_succ, fb_sm_succ, h, Nat.add_assoc]
theorem fb_sm_zero {f : Nat → Nat} {n : Nat} (h : fb_sm f n = 0) : ∀ k, k < n → f k = 0 := fun k hk => by
  have := fb_sm_part f hk
  omega
/-- the same over whole numbers -/
def fb_si (f : Nat → Int) : Nat → Int
  | 0 => 0
  | n + 1 => fb_si f n + f n
theorem fb_si_succ (f : Nat → Int) (n : Nat) : fb_si f (n + 1) = fb_si f n + f n := rfl
theorem fb_si_cong {f g : Nat → Int} : ∀ {n : Nat}, (∀ k, k < n → f k = g k) → fb_si f n = fb_si g n
  | 0, _ => rfl
  | n + 1, h => by rw [fb_si_succ, fb_si_succ, fb_si_cong (fun k hk => h k (by omega)), h n (by omega)]
theorem fb_si_out (f : Nat → Int) (v : Int) {i n : Nat} (h : n ≤ i) : fb_si (fun k => if k = i then v else f k) n = fb_si f n :=
  fb_si_cong fun k hk => if_neg (by omega)
theorem fb_si_upd (f : Nat → Int) (v : Int) {i : Nat} : ∀ {n : Nat}, i < n → fb_si (fun k => if k = i then v else f k) n = fb_si f n - f i + v
  | 0, h => absurd h (Nat.not_lt_zero i)
  | n + 1, h => by
    rw [fb_si_succ, fb_si_succ]
    rcases Nat.lt_or_ge i n with q | q
    · have := fb_si_upd f v q
      have e : (if n = i then v else f n) = f n := if_neg (by omega)
      rw [e]
      omega
    · have e : i = n := by omega
      subst e
      rw [fb_si_out f v (Nat.le_refl _)]
      simp only [if_true]
      omega
theorem fb_si_add (f g : Nat → Int) : ∀ n, fb_si (fun k => f k + g k) n = fb_si f n + fb_si g n
  | 0 => rfl
  | n + 1 => by
    have h := fb_si_add f g n
    rw [fb_si_succ, fb_si_succ, fb_si_succ, h]
    omega
theorem fb_si_sub (f g : Nat → Int) : ∀ n, fb_si (fun k => f k - g k) n = fb_si f n - fb_si g n
  | 0 => rfl
  | n + 1 => by
    have h := fb_si_sub f g n
    rw [fb_si_succ, fb_si_succ, fb_si_succ, h]
    omega
theorem fb_si_mul (c : Int) (f : Nat → Int) : ∀ n, fb_si (fun k => c * f k) n = c * fb_si f n
  | 0 => (Int.mul_zero c).symm
  | n + 1 => by
    have h := fb_si_mul c f n
    rw [fb_si_succ, fb_si_succ, h, Int.mul_add]
theorem fb_si_split (f : Nat → Int) (m : Nat) : ∀ n, fb_si f (m + n) = fb_si f m + fb_si (fun k => f (m + k)) n
  | 0 => (Int.add_zero _).symm
  | n + 1 => by
    have h := fb_si_split f m n
    show fb_si f (m + n + 1) = _
    rw [fb_si_succ, fb_si_succ, h, Int.add_assoc]
theorem fb_si_nat (f : Nat → Nat) : ∀ n, fb_si (fun k => (f k : Int)) n = (fb_sm f n : Int)
  | 0 => rfl
  | n + 1 => by
    have h := fb_si_nat f n
    rw [fb_si_succ, fb_sm_succ, h]
    omega
theorem fb_si_bound {f : Nat → Int} {c : Int} (hc : 0 ≤ c) : ∀ {n : Nat}, (∀ k, k < n → -c ≤ f k ∧ f k ≤ c) → -(n * c) ≤ fb_si f n ∧ fb_si f n ≤ n * c
  | 0, _ => by simp [fb_si]
  | n + 1, h => by
    have h1 := fb_si_bound (n := n) (f := f) hc (fun k hk => h k (by omega))
    have h2 := h n (by omega)
    have e : ((n + 1 : Nat) : Int) * c = n * c + c := by rw [Int.natCast_add, Int.add_mul]; simp
    rw [fb_si_succ, e]
    omega
/-! ===== bits of a long that isn't negative ===== -/
theorem fb_andL (a b : Nat) : lN a &&& lN b = lN (a &&& b) := by
  apply Int64.toBitVec_inj.1
  show BitVec.ofNat 64 a &&& BitVec.ofNat 64 b = BitVec.ofNat 64 (a &&& b)
  apply BitVec.eq_of_getLsbD_eq
  intro i hi
  simp [hi]
theorem fb_orL (a b : Nat) : lN a ||| lN b = lN (a ||| b) := by
  apply Int64.toBitVec_inj.1
  show BitVec.ofNat 64 a ||| BitVec.ofNat 64 b = BitVec.ofNat 64 (a ||| b)
  apply BitVec.eq_of_getLsbD_eq
  intro i hi
  simp [hi]
theorem fb_xorL (a b : Nat) : lN a ^^^ lN b = lN (a ^^^ b) := by
  apply Int64.toBitVec_inj.1
  show BitVec.ofNat 64 a ^^^ BitVec.ofNat 64 b = BitVec.ofNat 64 (a ^^^ b)
  apply BitVec.eq_of_getLsbD_eq
  intro i hi
  simp [hi]
theorem fb_xorI (a b : Nat) : nI a ^^^ nI b = nI (a ^^^ b) := by
  apply Int32.toBitVec_inj.1
  show BitVec.ofNat 32 a ^^^ BitVec.ofNat 32 b = BitVec.ofNat 32 (a ^^^ b)
  apply BitVec.eq_of_getLsbD_eq
  intro i hi
  simp [hi]
theorem fb_maskL (n k : Nat) : lN n &&& lN (2 ^ k - 1) = lN (n % 2 ^ k) := by rw [fb_andL, Nat.and_two_pow_sub_one_eq_mod]
theorem fb_or_sumL {a k : Nat} (b : Nat) (h : a < 2 ^ k) : lN (2 ^ k * b) ||| lN a = lN (2 ^ k * b + a) := by rw [fb_orL, Nat.two_pow_add_eq_or_of_lt h]
theorem fb_lN_inj {a b : Nat} (ha : a < 2 ^ 63) (hb : b < 2 ^ 63) : lN a = lN b ↔ a = b := by
  constructor
  · intro h
    have h1 : (BitVec.ofNat 64 a).toNat = (BitVec.ofNat 64 b).toNat := congrArg (fun x : Int64 => x.toBitVec.toNat) h
    rw [BitVec.toNat_ofNat, BitVec.toNat_ofNat, Nat.mod_eq_of_lt (by omega), Nat.mod_eq_of_lt (by omega)] at h1
    exact h1
  · rintro rfl; rfl
theorem fb_bit_nat (n j : Nat) : n &&& 2 ^ j = 0 ↔ n.testBit j = false := by
  constructor
  · intro h
    have h1 : (n &&& 2 ^ j).testBit j = false := by rw [h]; simp
    rw [Nat.testBit_and] at h1
    simpa using h1
  · intro h
    apply Nat.eq_of_testBit_eq
    intro i
    rw [Nat.testBit_and]
    by_cases hi : j = i
    · subst hi; simp [h]
    · first | (simp [Nat.testBit_two_pow, hi]; done) | (simp [Nat.testBit_two_pow_of_ne hi]; done)
/-- one bit of a long -/
theorem fb_bitL {n j : Nat} (hj : j < 63) : lN n &&& lN (2 ^ j) = 0 ↔ n.testBit j = false := by
  have h2 : (2 : Nat) ^ j < 2 ^ 63 := Nat.pow_lt_pow_right (by decide) hj
  have hle : n &&& 2 ^ j ≤ 2 ^ j := Nat.and_le_right
  rw [fb_andL, ← fb_bit_nat, show (0 : Int64) = lN 0 from rfl]
  exact fb_lN_inj (by omega) (by decide)
/-- a bit set, a bit taken off -/
theorem fb_bit_set (n j i : Nat) : (n ||| 2 ^ j).testBit i = (n.testBit i || decide (i = j)) := by
  rw [Nat.testBit_or]
  by_cases h : j = i
  · subst h; simp
  · have h2 : ¬ i = j := fun e => h e.symm
    first | (simp [Nat.testBit_two_pow, h, h2]; done) | (simp [Nat.testBit_two_pow_of_ne h, h2]; done)
theorem fb_bit_flip (n j i : Nat) : (n ^^^ 2 ^ j).testBit i = (n.testBit i ^^ decide (i = j)) := by
  rw [Nat.testBit_xor]
  by_cases h : j = i
  · subst h; simp
  · have h2 : ¬ i = j := fun e => h e.symm
    first | (simp [Nat.testBit_two_pow, h, h2]; done) | (simp [Nat.testBit_two_pow_of_ne h, h2]; done)
/-! ===== a stretch of an array written over by a function ===== -/
def fb_put {α : Type} (f g : Nat → α) (a n : Nat) : Nat → α := fun k => if a ≤ k ∧ k < a + n then g (k - a) else f k
theorem fb_put_0 {α : Type} (f g : Nat → α) (a : Nat) : fb_put f g a 0 = f := funext fun k => if_neg (by omega)
theorem fb_put_in {α : Type} {f g : Nat → α} {a n k : Nat} (h1 : a ≤ k) (h2 : k < a + n) : fb_put f g a n k = g (k - a) := if_pos ⟨h1, h2⟩
theorem fb_put_out {α : Type} {f g : Nat → α} {a n k : Nat} (h : k < a ∨ a + n ≤ k) : fb_put f g a n k = f k := if_neg (by omega)
theorem fb_put_succ (f g : Nat → Int32) (a n : Nat) : upd (fb_put f g a n) (a + n) (g n) = fb_put f g a (n + 1) := by
  funext k
  by_cases h : k = a + n
  · subst h
    simp [upd, fb_put]
  · by_cases h1 : a ≤ k ∧ k < a + n
    · have h2 : a ≤ k ∧ k < a + (n + 1) := by omega
      simp only [upd, fb_put, if_neg h, if_pos h1, if_pos h2]
    · have h2 : ¬ (a ≤ k ∧ k < a + (n + 1)) := by omega
      simp only [upd, fb_put, if_neg h, if_neg h1, if_neg h2]
/-- .. from the far end down -/
theorem fb_put_down (f g : Nat → Int32) {a n m : Nat} (h : m < n) : upd (fb_put f (fun k => g (k + (m + 1))) (a + (m + 1)) (n - (m + 1))) (a + m) (g m) = fb_put f (fun k => g (k + m)) (a + m) (n - m) := by
  funext k
  by_cases h0 : k = a + m
  · subst h0
    simp only [upd, if_true]
    rw [fb_put_in (by omega) (by omega)]
    exact congrArg g (by omega)
  · simp only [upd, if_neg h0]
    by_cases h1 : a + (m + 1) ≤ k ∧ k < a + (m + 1) + (n - (m + 1))
    · rw [fb_put_in h1.1 h1.2, fb_put_in (by omega) (by omega)]
      exact congrArg g (by omega)
    · rw [fb_put_out (by omega), fb_put_out (by omega)]
theorem fb_put_cong {α : Type} {f f2 g g2 : Nat → α} {a n : Nat} (hf : ∀ k, (k < a ∨ a + n ≤ k) → f k = f2 k) (hg : ∀ k, k < n → g k = g2 k) : fb_put f g a n = fb_put f2 g2 a n := by
  funext k
  by_cases h : a ≤ k ∧ k < a + n
  · rw [fb_put_in h.1 h.2, fb_put_in h.1 h.2, hg _ (by omega)]
  · rw [fb_put_out (by omega), fb_put_out (by omega), hf _ (by omega)]
/-! ===== the least, the first, the best so far; that there is one alone ===== -/
theorem fb_first {p : Nat → Prop} [DecidablePred p] : ∀ {n : Nat}, (∃ i, i < n ∧ p i) → ∃ i, i < n ∧ p i ∧ ∀ j, j < i → ¬ p j
  | 0, h => by obtain ⟨i, hi, -⟩ := h; exact absurd hi (Nat.not_lt_zero i)
  | n + 1, h => by
    by_cases q : ∃ i, i < n ∧ p i
    · obtain ⟨i, h1, h2⟩ := fb_first q
      exact ⟨i, by omega, h2⟩
    · obtain ⟨i, h1, h2⟩ := h
      have e : i = n := by
        rcases Nat.lt_or_ge i n with r | r
        · exact absurd ⟨i, r, h2⟩ q
        · omega
      subst e
      exact ⟨i, by omega, h2, fun j hj hp => q ⟨j, hj, hp⟩⟩
theorem fb_first_one {p : Nat → Prop} {i j : Nat} (hi : p i) (hi2 : ∀ k, k < i → ¬ p k) (hj : p j) (hj2 : ∀ k, k < j → ¬ p k) : i = j := by
  rcases Nat.lt_trichotomy i j with q | q | q
  · exact absurd hi (hj2 i q)
  · exact q
  · exact absurd hj (hi2 j q)
theorem fb_last {p : Nat → Prop} [DecidablePred p] : ∀ {n : Nat}, (∃ i, i < n ∧ p i) → ∃ i, i < n ∧ p i ∧ ∀ j, i < j → j < n → ¬ p j
  | 0, h => by obtain ⟨i, hi, -⟩ := h; exact absurd hi (Nat.not_lt_zero i)
  | n + 1, h => by
    by_cases q : p n
    · exact ⟨n, by omega, q, fun j h1 h2 => by omega⟩
    · obtain ⟨i, h1, h2⟩ := h
      have hi : i < n := by
        rcases Nat.lt_or_ge i n with r | r
        · exact r
        · have e : i = n := by omega
          subst e
          exact absurd h2 q
      obtain ⟨i2, a1, a2, a3⟩ := fb_last (n := n) ⟨i, hi, h2⟩
      refine ⟨i2, by omega, a2, fun j b1 b2 => ?_⟩
      rcases Nat.lt_or_ge j n with r | r
      · exact a3 j b1 r
      · have e : j = n := by omega
        subst e
        exact q
/-- the first greatest -/
theorem fb_best (f : Nat → Int) : ∀ {n : Nat}, 0 < n → ∃ i, i < n ∧ (∀ j, j < n → f j ≤ f i) ∧ ∀ j, j < i → f j < f i
  | 0, h => absurd h (Nat.lt_irrefl 0)
  | 1, _ => ⟨0, by omega, fun j hj => by have e : j = 0 := by omega
                                         subst e; exact Int.le_refl _, fun j hj => absurd hj (Nat.not_lt_zero j)⟩
  | n + 2, _ => by
    obtain ⟨i, h1, h2, h3⟩ := fb_best f (n := n + 1) (by omega)
    by_cases q : f i < f (n + 1)
    · refine ⟨n + 1, by omega, fun j hj => ?_, fun j hj => ?_⟩
      · rcases Nat.lt_or_ge j (n + 1) with r | r
        · have := h2 j r; omega
        · have e : j = n + 1 := by omega
          subst e; exact Int.le_refl _
      · have := h2 j hj; omega
    · refine ⟨i, by omega, fun j hj => ?_, h3⟩
      rcases Nat.lt_or_ge j (n + 1) with r | r
      · exact h2 j r
      · have e : j = n + 1 := by omega
        subst e; omega
theorem fb_best_one {f : Nat → Int} {n i j : Nat} (hi : i < n) (hi2 : ∀ k, k < n → f k ≤ f i) (hi3 : ∀ k, k < i → f k < f i) (hj : j < n) (hj2 : ∀ k, k < n → f k ≤ f j) (hj3 : ∀ k, k < j → f k < f j) : i = j := by
  rcases Nat.lt_trichotomy i j with q | q | q
  · have a := hj3 i q
    have b := hi2 j hj
    omega
  · exact q
  · have a := hi3 j q
    have b := hj2 i hi
    omega
/-- the first least -/
theorem fb_low (f : Nat → Int) {n : Nat} (h : 0 < n) : ∃ i, i < n ∧ (∀ j, j < n → f i ≤ f j) ∧ ∀ j, j < i → f i < f j := by
  obtain ⟨i, h1, h2, h3⟩ := fb_best (fun k => -f k) h
  exact ⟨i, h1, fun j hj => by have := h2 j hj; omega, fun j hj => by have := h3 j hj; omega⟩
/-! ===== signed ints as whole numbers, within bounds ===== -/
theorem fb_rng (x : Int32) : -2147483648 ≤ x.toInt ∧ x.toInt < 2147483648 := by
  have h1 := Int32.le_toInt x
  have h2 := Int32.toInt_lt x
  omega
theorem fb_bmod {z : Int} (h1 : -2147483648 ≤ z) (h2 : z < 2147483648) : z.bmod (2 ^ 32) = z := by
  rw [Int.bmod_eq_of_le (by omega) (by omega)]
theorem fb_addI {x y : Int32} (h1 : -2147483648 ≤ x.toInt + y.toInt) (h2 : x.toInt + y.toInt < 2147483648) : (x + y).toInt = x.toInt + y.toInt := by
  rw [Int32.toInt_add, fb_bmod h1 h2]
theorem fb_subI {x y : Int32} (h1 : -2147483648 ≤ x.toInt - y.toInt) (h2 : x.toInt - y.toInt < 2147483648) : (x - y).toInt = x.toInt - y.toInt := by
  rw [Int32.toInt_sub, fb_bmod h1 h2]
theorem fb_mulI {x y : Int32} (h1 : -2147483648 ≤ x.toInt * y.toInt) (h2 : x.toInt * y.toInt < 2147483648) : (x * y).toInt = x.toInt * y.toInt := by
  rw [Int32.toInt_mul, fb_bmod h1 h2]
theorem fb_negI {x : Int32} (h : x.toInt ≠ -2147483648) : (-x).toInt = -x.toInt := by
  have := fb_rng x
  rw [Int32.toInt_neg, fb_bmod (by omega) (by omega)]
theorem fb_ofI {z : Int} (h1 : -2147483648 ≤ z) (h2 : z < 2147483648) : (Int32.ofInt z).toInt = z := by
  rw [Int32.toInt_ofInt, fb_bmod h1 h2]
theorem fb_asI (x : Int32) : Int32.ofInt x.toInt = x := Int32.ofInt_toInt x
theorem fb_rngL (x : Int64) : -9223372036854775808 ≤ x.toInt ∧ x.toInt < 9223372036854775808 := by
  have h1 := Int64.le_toInt x
  have h2 := Int64.toInt_lt x
  omega
theorem fb_bmodL {z : Int} (h1 : -9223372036854775808 ≤ z) (h2 : z < 9223372036854775808) : z.bmod (2 ^ 64) = z := by
  rw [Int.bmod_eq_of_le (by omega) (by omega)]
theorem fb_addL {x y : Int64} (h1 : -9223372036854775808 ≤ x.toInt + y.toInt) (h2 : x.toInt + y.toInt < 9223372036854775808) : (x + y).toInt = x.toInt + y.toInt := by
  rw [Int64.toInt_add, fb_bmodL h1 h2]
theorem fb_subL {x y : Int64} (h1 : -9223372036854775808 ≤ x.toInt - y.toInt) (h2 : x.toInt - y.toInt < 9223372036854775808) : (x - y).toInt = x.toInt - y.toInt := by
  rw [Int64.toInt_sub, fb_bmodL h1 h2]
theorem fb_mulL {x y : Int64} (h1 : -9223372036854775808 ≤ x.toInt * y.toInt) (h2 : x.toInt * y.toInt < 9223372036854775808) : (x * y).toInt = x.toInt * y.toInt := by
  rw [Int64.toInt_mul, fb_bmodL h1 h2]
/-! ===== cuts of what is narrow already ===== -/
theorem fb_byte {x : Int32} (h1 : -128 ≤ x.toInt) (h2 : x.toInt < 128) : x.toInt8.toInt32 = x := by
  apply Int32.toInt_inj.1
  rw [Int8.toInt_toInt32, Int32.toInt_toInt8, Int.bmod_eq_of_le (by omega) (by omega)]
theorem fb_short {x : Int32} (h1 : -32768 ≤ x.toInt) (h2 : x.toInt < 32768) : x.toInt16.toInt32 = x := by
  apply Int32.toInt_inj.1
  rw [Int16.toInt_toInt32, Int32.toInt_toInt16, Int.bmod_eq_of_le (by omega) (by omega)]
theorem fb_byte_rng (x : Int32) : -128 ≤ x.toInt8.toInt32.toInt ∧ x.toInt8.toInt32.toInt < 128 := by
  rw [Int8.toInt_toInt32]
  have h1 := Int8.le_toInt x.toInt8
  have h2 := Int8.toInt_lt x.toInt8
  omega
theorem fb_short_rng (x : Int32) : -32768 ≤ x.toInt16.toInt32.toInt ∧ x.toInt16.toInt32.toInt < 32768 := by
  rw [Int16.toInt_toInt32]
  have h1 := Int16.le_toInt x.toInt16
  have h2 := Int16.toInt_lt x.toInt16
  omega
theorem fb_byte_twice (x : Int32) : x.toInt8.toInt32.toInt8.toInt32 = x.toInt8.toInt32 := fb_byte (fb_byte_rng x).1 (fb_byte_rng x).2
theorem fb_short_twice (x : Int32) : x.toInt16.toInt32.toInt16.toInt32 = x.toInt16.toInt32 := fb_short (fb_short_rng x).1 (fb_short_rng x).2
theorem fb_char {n : Nat} (h : n < 65536) : (nI n).toUInt32.toUInt16.toUInt32.toInt32 = nI n := by
  apply Int32.toBitVec_inj.1
  apply BitVec.eq_of_toNat_eq
  have e1 : (nI n).toBitVec.toNat = n := by
    show (BitVec.ofNat 32 n).toNat = n
    rw [BitVec.toNat_ofNat, Nat.mod_eq_of_lt (by omega)]
  have e2 : ((nI n).toUInt32.toUInt16.toUInt32).toNat = n := by
    rw [UInt16.toNat_toUInt32, UInt32.toNat_toUInt16]
    show (nI n).toBitVec.toNat % 2 ^ 16 = n
    rw [e1, Nat.mod_eq_of_lt (by omega)]
  rw [e1]
  exact e2
end
section
/-! the shapes of my contracts: ro (nothing old is written), rw (the method's own cells are) -/
def bI (b : Bool) : Int32 := if b then 1 else 0
theorem bI_t : bI true = 1 := rfl
theorem bI_f : bI false = 0 := rfl
theorem bI_01 (b : Bool) : bI b = 0 ∨ bI b = 1 := by cases b <;> simp [bI]
theorem bI_eq0 {b : Bool} : bI b = 0 ↔ b = false := by cases b <;> simp [bI]
theorem bI_nar (b : Bool) : narrow .boolean (.int (bI b)) = .int (bI b) := by cases b <;> decide
theorem bI_fit (b : Bool) : fits .boolean (.int (bI b)) = true := by cases b <;> decide
abbrev roP (av : List Value) (sz : Nat) (D : va_G) (tys : List (ClassId × FieldType)) (wd : va_W) : Array Value → State → Prop := va_Pc av (fun U => U.heap.size = sz ∧ va_P D vwCl wd U.heap ∧ va_K D vwCl tys U)
abbrev roQi (v : Int32) (sz : Nat) : Array Value → State → Outcome → State → Prop := va_Qi (fun r (_ : Unit) => r = v) (fun _ _ => True) (va_A [] sz)
abbrev roQl (v : Int64) (sz : Nat) : Array Value → State → Outcome → State → Prop := va_Ql (fun r (_ : Unit) => r = v) (fun _ _ => True) (va_A [] sz)
abbrev rwP (av : List Value) (sz : Nat) (D : va_G) (tys : List (ClassId × FieldType)) (wd : va_W) : Array Value → State → Prop := va_Pc av (fun U => U.heap.size = sz ∧ va_P D vwCl wd U.heap ∧ va_K D vwCl tys U ∧ va_D (fun _ => True) wd)
abbrev rwQi (v : Int32) (D : va_G) (wd w' : va_W) (sz : Nat) : Array Value → State → Outcome → State → Prop := va_Qi (fun r (_ : Unit) => r = v) (fun _ t => va_P D vwCl w' t.heap) (va_A wd sz)
abbrev rwQl (v : Int64) (D : va_G) (wd w' : va_W) (sz : Nat) : Array Value → State → Outcome → State → Prop := va_Ql (fun r (_ : Unit) => r = v) (fun _ t => va_P D vwCl w' t.heap) (va_A wd sz)
abbrev rwQv (D : va_G) (wd w' : va_W) (sz : Nat) : Array Value → State → Outcome → State → Prop := va_Qv (fun (_ : Unit) => True) (fun _ t => va_P D vwCl w' t.heap) (va_A wd sz)
theorem blind_ro {av : List Value} {sz : Nat} {D : va_G} {tys : List (ClassId × FieldType)} {wd : va_W} : FrameBlind (roP av sz D tys wd) := fun a U g mk q => by
  obtain ⟨q0, q1, qP, qK⟩ := q
  exact ⟨q0, q1, qP, va_K.moved (u := U) (U := U.calling g mk a) (Vm.Alike.refl U.vm) qK⟩
theorem blind_rw {av : List Value} {sz : Nat} {D : va_G} {tys : List (ClassId × FieldType)} {wd : va_W} : FrameBlind (rwP av sz D tys wd) := fun a U g mk q => by
  obtain ⟨q0, q1, qP, qK, qD⟩ := q
  exact ⟨q0, q1, qP, va_K.moved (u := U) (U := U.calling g mk a) (Vm.Alike.refl U.vm) qK, qD⟩
/-- only addresses count -/
theorem va_D.same {A : Nat → Prop} {ws ws' : va_W} (h : va_D A ws) (e : ws'.map (fun q => q.1) = ws.map (fun q => q.1)) : va_D A ws' := by
  have key : ∀ (k : Nat) (q : Nat × va_E), ws'[k]? = some q → ∃ q0, ws[k]? = some q0 ∧ q0.1 = q.1 := by
    intro k q hk
    have h1 : (ws'.map (fun q => q.1))[k]? = some q.1 := by rw [List.getElem?_map, hk]; rfl
    rw [e, List.getElem?_map] at h1
    cases hi : ws[k]? with
    | none => rw [hi] at h1; cases h1
    | some q0 => rw [hi] at h1; exact ⟨q0, rfl, Option.some.inj h1⟩
  refine ⟨fun i j x y hi hj hxy => ?_, fun k q hk => ?_⟩
  · obtain ⟨x0, a1, a2⟩ := key i x hi
    obtain ⟨y0, b1, b2⟩ := key j y hj
    exact h.1 i j x0 y0 a1 b1 (by rw [a2, b2]; exact hxy)
  · obtain ⟨q0, a1, a2⟩ := key k q hk
    rw [← a2]; exact h.2 k q0 a1
section MET
variable {l : Launch} {y : MethodName} {ws ws' : List Cond} {rm : Room} {cc : ByteArray} {maxL sz : Nat} {D : va_G} {tys : List (ClassId × FieldType)} {wd w' : va_W} {av : List Value}
theorem ro_met_i {v : Int32} (hy : plainName y.cls = true) (hw : ws = Cond.code y cc maxL (some .int) :: ws') (hn : (lg_sl av).length ≤ maxL)
    (body : ∀ (p : Program) (e : Env) (s : State) (m : MethodId) (args : Array Value) (below : List Frame) (meth : Method) (c : Code) (R : Room) (Q : State → Prop) (A : Nat → Prop),
      p.tables.exec = Jvm.exec → c.code = cc → c.maxLocals = maxL → s.vm.findClass y.cls = some m.cls → (∀ w ∈ ws, w.before args s = true) → rm.frames ≤ R.frames → rm.locals ≤ R.locals →
      va_P D vwCl wd s.heap → va_K D vwCl tys s → (∀ q, s.heap.size ≤ q → A q) → va_S A s.heap s.heap [] →
      (∀ (r : Int32) (H : Heap) (locs : List Loc) (pc : Nat) (ls : Array Slot), r = v → va_S A s.heap H locs → decode cc pc = .ok (.ireturn, 1) → W p l e R s m args below meth c H locs 0 0 Q (F0 m pc ls [.int r])) →
      ∀ ls, lv_has ls maxL (lv_args 0 av) → W p l e R s m args below meth c s.heap [] 0 0 Q (F0 m 0 ls [])) : Met l y ws rm (roP av sz D tys wd) (roQi v sz) 0 0 (va_A [] sz) := by
  refine Met.ofW (cc := cc) (maxL := maxL) (ret := some .int) hy hw ?_
  intro p e s m args below meth c s₁ B hml hv
  obtain ⟨rfl, hsz, hP, hK⟩ := hv
  subst hsz
  rw [lg_entry_eq]
  exact body p e s m av.toArray below meth c (headSpec ws rm).room _ (va_A [] s.heap.size) B.exec B.bytes hml (findClass_of_methodNamed B.named) (atoms_spec (ws := ws) B.pre) (Nat.le_refl _) (Nat.le_refl _) hP hK (fun q h => Or.inr h) va_S.rf
    (fun r H locs pc ls hp hS hd => W.iret B.exec B.bytes B.returns (fun t ht hW => ⟨⟨r, (), rfl, hp, trivial⟩, hS.F ht⟩) hS.2.2 hd B.notSynchronized) _ (lv_entry av hn)
theorem ro_met_z {v : Bool} (hy : plainName y.cls = true) (hw : ws = Cond.code y cc maxL (some .boolean) :: ws') (hn : (lg_sl av).length ≤ maxL)
    (body : ∀ (p : Program) (e : Env) (s : State) (m : MethodId) (args : Array Value) (below : List Frame) (meth : Method) (c : Code) (R : Room) (Q : State → Prop) (A : Nat → Prop),
      p.tables.exec = Jvm.exec → c.code = cc → c.maxLocals = maxL → s.vm.findClass y.cls = some m.cls → (∀ w ∈ ws, w.before args s = true) → rm.frames ≤ R.frames → rm.locals ≤ R.locals →
      va_P D vwCl wd s.heap → va_K D vwCl tys s → (∀ q, s.heap.size ≤ q → A q) → va_S A s.heap s.heap [] →
      (∀ (r : Int32) (H : Heap) (locs : List Loc) (pc : Nat) (ls : Array Slot), r = bI v → va_S A s.heap H locs → decode cc pc = .ok (.ireturn, 1) → W p l e R s m args below meth c H locs 0 0 Q (F0 m pc ls [.int r])) →
      ∀ ls, lv_has ls maxL (lv_args 0 av) → W p l e R s m args below meth c s.heap [] 0 0 Q (F0 m 0 ls [])) : Met l y ws rm (roP av sz D tys wd) (roQi (bI v) sz) 0 0 (va_A [] sz) := by
  refine Met.ofW (cc := cc) (maxL := maxL) (ret := some .boolean) hy hw ?_
  intro p e s m args below meth c s₁ B hml hv
  obtain ⟨rfl, hsz, hP, hK⟩ := hv
  subst hsz
  rw [lg_entry_eq]
  exact body p e s m av.toArray below meth c (headSpec ws rm).room _ (va_A [] s.heap.size) B.exec B.bytes hml (findClass_of_methodNamed B.named) (atoms_spec (ws := ws) B.pre) (Nat.le_refl _) (Nat.le_refl _) hP hK (fun q h => Or.inr h) va_S.rf
    (fun r H locs pc ls hp hS hd => W.zret B.exec B.bytes B.returns (by rw [hp]; exact bI_nar v) (fun t ht hW => ⟨⟨r, (), rfl, hp, trivial⟩, hS.F ht⟩) hS.2.2 hd B.notSynchronized) _ (lv_entry av hn)
theorem ro_met_l {v : Int64} (hy : plainName y.cls = true) (hw : ws = Cond.code y cc maxL (some .long) :: ws') (hn : (lg_sl av).length ≤ maxL)
    (body : ∀ (p : Program) (e : Env) (s : State) (m : MethodId) (args : Array Value) (below : List Frame) (meth : Method) (c : Code) (R : Room) (Q : State → Prop) (A : Nat → Prop),
      p.tables.exec = Jvm.exec → c.code = cc → c.maxLocals = maxL → s.vm.findClass y.cls = some m.cls → (∀ w ∈ ws, w.before args s = true) → rm.frames ≤ R.frames → rm.locals ≤ R.locals →
      va_P D vwCl wd s.heap → va_K D vwCl tys s → (∀ q, s.heap.size ≤ q → A q) → va_S A s.heap s.heap [] →
      (∀ (r : Int64) (H : Heap) (locs : List Loc) (pc : Nat) (ls : Array Slot), r = v → va_S A s.heap H locs → decode cc pc = .ok (.lreturn, 1) → W p l e R s m args below meth c H locs 0 0 Q (F0 m pc ls [.long r])) →
      ∀ ls, lv_has ls maxL (lv_args 0 av) → W p l e R s m args below meth c s.heap [] 0 0 Q (F0 m 0 ls [])) : Met l y ws rm (roP av sz D tys wd) (roQl v sz) 0 0 (va_A [] sz) := by
  refine Met.ofW (cc := cc) (maxL := maxL) (ret := some .long) hy hw ?_
  intro p e s m args below meth c s₁ B hml hv
  obtain ⟨rfl, hsz, hP, hK⟩ := hv
  subst hsz
  rw [lg_entry_eq]
  exact body p e s m av.toArray below meth c (headSpec ws rm).room _ (va_A [] s.heap.size) B.exec B.bytes hml (findClass_of_methodNamed B.named) (atoms_spec (ws := ws) B.pre) (Nat.le_refl _) (Nat.le_refl _) hP hK (fun q h => Or.inr h) va_S.rf
    (fun r H locs pc ls hp hS hd => W.lret B.exec B.bytes B.returns (fun t ht hW => ⟨⟨r, (), rfl, hp, trivial⟩, hS.F ht⟩) hS.2.2 hd B.notSynchronized) _ (lv_entry av hn)
theorem rw_met_i {v : Int32} (hy : plainName y.cls = true) (hw : ws = Cond.code y cc maxL (some .int) :: ws') (hn : (lg_sl av).length ≤ maxL)
    (body : ∀ (p : Program) (e : Env) (s : State) (m : MethodId) (args : Array Value) (below : List Frame) (meth : Method) (c : Code) (R : Room) (Q : State → Prop) (A : Nat → Prop),
      p.tables.exec = Jvm.exec → c.code = cc → c.maxLocals = maxL → s.vm.findClass y.cls = some m.cls → (∀ w ∈ ws, w.before args s = true) → rm.frames ≤ R.frames → rm.locals ≤ R.locals →
      va_P D vwCl wd s.heap → va_K D vwCl tys s → va_D A wd → (∀ q, s.heap.size ≤ q → A q) → va_S A s.heap s.heap [] →
      (∀ (r : Int32) (w : va_W) (H : Heap) (locs : List Loc) (pc : Nat) (ls : Array Slot), r = v → w = w' → va_P D vwCl w H → va_S A s.heap H locs → decode cc pc = .ok (.ireturn, 1) → W p l e R s m args below meth c H locs 0 0 Q (F0 m pc ls [.int r])) →
      ∀ ls, lv_has ls maxL (lv_args 0 av) → W p l e R s m args below meth c s.heap [] 0 0 Q (F0 m 0 ls [])) : Met l y ws rm (rwP av sz D tys wd) (rwQi v D wd w' sz) 0 0 (va_A wd sz) := by
  refine Met.ofW (cc := cc) (maxL := maxL) (ret := some .int) hy hw ?_
  intro p e s m args below meth c s₁ B hml hv
  obtain ⟨rfl, hsz, hP, hK, hD⟩ := hv
  subst hsz
  rw [lg_entry_eq]
  exact body p e s m av.toArray below meth c (headSpec ws rm).room _ (va_A wd s.heap.size) B.exec B.bytes hml (findClass_of_methodNamed B.named) (atoms_spec (ws := ws) B.pre) (Nat.le_refl _) (Nat.le_refl _) hP hK hD.self (fun q h => Or.inr h) va_S.rf
    (fun r w H locs pc ls hp hw hP hS hd => W.iret B.exec B.bytes B.returns (fun t ht hW => ⟨⟨r, (), rfl, hp, by show va_P D vwCl w' t.heap; rw [ht, ← hw]; exact hP⟩, hS.F ht⟩) hS.2.2 hd B.notSynchronized) _ (lv_entry av hn)
theorem rw_met_z {v : Bool} (hy : plainName y.cls = true) (hw : ws = Cond.code y cc maxL (some .boolean) :: ws') (hn : (lg_sl av).length ≤ maxL)
    (body : ∀ (p : Program) (e : Env) (s : State) (m : MethodId) (args : Array Value) (below : List Frame) (meth : Method) (c : Code) (R : Room) (Q : State → Prop) (A : Nat → Prop),
      p.tables.exec = Jvm.exec → c.code = cc → c.maxLocals = maxL → s.vm.findClass y.cls = some m.cls → (∀ w ∈ ws, w.before args s = true) → rm.frames ≤ R.frames → rm.locals ≤ R.locals →
      va_P D vwCl wd s.heap → va_K D vwCl tys s → va_D A wd → (∀ q, s.heap.size ≤ q → A q) → va_S A s.heap s.heap [] →
      (∀ (r : Int32) (w : va_W) (H : Heap) (locs : List Loc) (pc : Nat) (ls : Array Slot), r = bI v → w = w' → va_P D vwCl w H → va_S A s.heap H locs → decode cc pc = .ok (.ireturn, 1) → W p l e R s m args below meth c H locs 0 0 Q (F0 m pc ls [.int r])) →
      ∀ ls, lv_has ls maxL (lv_args 0 av) → W p l e R s m args below meth c s.heap [] 0 0 Q (F0 m 0 ls [])) : Met l y ws rm (rwP av sz D tys wd) (rwQi (bI v) D wd w' sz) 0 0 (va_A wd sz) := by
  refine Met.ofW (cc := cc) (maxL := maxL) (ret := some .boolean) hy hw ?_
  intro p e s m args below meth c s₁ B hml hv
  obtain ⟨rfl, hsz, hP, hK, hD⟩ := hv
  subst hsz
  rw [lg_entry_eq]
  exact body p e s m av.toArray below meth c (headSpec ws rm).room _ (va_A wd s.heap.size) B.exec B.bytes hml (findClass_of_methodNamed B.named) (atoms_spec (ws := ws) B.pre) (Nat.le_refl _) (Nat.le_refl _) hP hK hD.self (fun q h => Or.inr h) va_S.rf
    (fun r w H locs pc ls hp hw hP hS hd => W.zret B.exec B.bytes B.returns (by rw [hp]; exact bI_nar v) (fun t ht hW => ⟨⟨r, (), rfl, hp, by show va_P D vwCl w' t.heap; rw [ht, ← hw]; exact hP⟩, hS.F ht⟩) hS.2.2 hd B.notSynchronized) _ (lv_entry av hn)
theorem rw_met_l {v : Int64} (hy : plainName y.cls = true) (hw : ws = Cond.code y cc maxL (some .long) :: ws') (hn : (lg_sl av).length ≤ maxL)
    (body : ∀ (p : Program) (e : Env) (s : State) (m : MethodId) (args : Array Value) (below : List Frame) (meth : Method) (c : Code) (R : Room) (Q : State → Prop) (A : Nat → Prop),
      p.tables.exec = Jvm.exec → c.code = cc → c.maxLocals = maxL → s.vm.findClass y.cls = some m.cls → (∀ w ∈ ws, w.before args s = true) → rm.frames ≤ R.frames → rm.locals ≤ R.locals →
      va_P D vwCl wd s.heap → va_K D vwCl tys s → va_D A wd → (∀ q, s.heap.size ≤ q → A q) → va_S A s.heap s.heap [] →
      (∀ (r : Int64) (w : va_W) (H : Heap) (locs : List Loc) (pc : Nat) (ls : Array Slot), r = v → w = w' → va_P D vwCl w H → va_S A s.heap H locs → decode cc pc = .ok (.lreturn, 1) → W p l e R s m args below meth c H locs 0 0 Q (F0 m pc ls [.long r])) →
      ∀ ls, lv_has ls maxL (lv_args 0 av) → W p l e R s m args below meth c s.heap [] 0 0 Q (F0 m 0 ls [])) : Met l y ws rm (rwP av sz D tys wd) (rwQl v D wd w' sz) 0 0 (va_A wd sz) := by
  refine Met.ofW (cc := cc) (maxL := maxL) (ret := some .long) hy hw ?_
  intro p e s m args below meth c s₁ B hml hv
  obtain ⟨rfl, hsz, hP, hK, hD⟩ := hv
  subst hsz
  rw [lg_entry_eq]
  exact body p e s m av.toArray below meth c (headSpec ws rm).room _ (va_A wd s.heap.size) B.exec B.bytes hml (findClass_of_methodNamed B.named) (atoms_spec (ws := ws) B.pre) (Nat.le_refl _) (Nat.le_refl _) hP hK hD.self (fun q h => Or.inr h) va_S.rf
    (fun r w H locs pc ls hp hw hP hS hd => W.lret B.exec B.bytes B.returns (fun t ht hW => ⟨⟨r, (), rfl, hp, by show va_P D vwCl w' t.heap; rw [ht, ← hw]; exact hP⟩, hS.F ht⟩) hS.2.2 hd B.notSynchronized) _ (lv_entry av hn)
theorem rw_met_v (hy : plainName y.cls = true) (hw : ws = Cond.code y cc maxL none :: ws') (hn : (lg_sl av).length ≤ maxL)
    (body : ∀ (p : Program) (e : Env) (s : State) (m : MethodId) (args : Array Value) (below : List Frame) (meth : Method) (c : Code) (R : Room) (Q : State → Prop) (A : Nat → Prop),
      p.tables.exec = Jvm.exec → c.code = cc → c.maxLocals = maxL → s.vm.findClass y.cls = some m.cls → (∀ w ∈ ws, w.before args s = true) → rm.frames ≤ R.frames → rm.locals ≤ R.locals →
      va_P D vwCl wd s.heap → va_K D vwCl tys s → va_D A wd → (∀ q, s.heap.size ≤ q → A q) → va_S A s.heap s.heap [] →
      (∀ (w : va_W) (H : Heap) (locs : List Loc) (pc : Nat) (ls : Array Slot), w = w' → va_P D vwCl w H → va_S A s.heap H locs → decode cc pc = .ok (.return_, 1) → W p l e R s m args below meth c H locs 0 0 Q (F0 m pc ls [])) →
      ∀ ls, lv_has ls maxL (lv_args 0 av) → W p l e R s m args below meth c s.heap [] 0 0 Q (F0 m 0 ls [])) : Met l y ws rm (rwP av sz D tys wd) (rwQv D wd w' sz) 0 0 (va_A wd sz) := by
  refine Met.ofW (cc := cc) (maxL := maxL) (ret := none) hy hw ?_
  intro p e s m args below meth c s₁ B hml hv
  obtain ⟨rfl, hsz, hP, hK, hD⟩ := hv
  subst hsz
  rw [lg_entry_eq]
  exact body p e s m av.toArray below meth c (headSpec ws rm).room _ (va_A wd s.heap.size) B.exec B.bytes hml (findClass_of_methodNamed B.named) (atoms_spec (ws := ws) B.pre) (Nat.le_refl _) (Nat.le_refl _) hP hK hD.self (fun q h => Or.inr h) va_S.rf
    (fun w H locs pc ls hw hP hS hd => W.vret B.exec B.bytes B.returns (fun t ht hW => ⟨⟨(), rfl, trivial, by show va_P D vwCl w' t.heap; rw [ht, ← hw]; exact hP⟩, hS.F ht⟩) hS.2.2 hd B.notSynchronized) _ (lv_entry av hn)
end MET
section CALL
variable {p : Program} {l : Launch} {e : Env} {R : Room} {s : State} {m : MethodId} {args : Array Value} {below : List Frame} {meth : Method} {c : Code} {H : Heap} {locs : List Loc} {cells slots : Nat} {Q : State → Prop} {A : Nat → Prop}
variable {y : MethodName} {bytes cc : ByteArray} {maxL nL n index pc b : Nat} {ret : Option FieldType} {ws : List Cond} {rm : Room} {Ts : List Cond} {own C : String} {As rest st : List Value} {ls : Array Slot} {D : va_G} {tc : List (ClassId × FieldType)} {wc w1 wd : va_W}
theorem zeroA : ∀ q : Nat, q < H.size → ¬ va_A [] H.size q := fun q h h2 => by
  rcases h2 with ⟨k, e, h2⟩ | h2
  · cases h2
  · omega
theorem freeA (hS : va_S A s.heap H locs) (hA : ∀ q, s.heap.size ≤ q → A q) : ∀ q, va_A [] H.size q → A q := fun q h => by
  rcases h with ⟨k, e, h⟩ | h
  · cases h
  · exact hA q (Nat.le_trans hS.1 h)
theorem keptA {H1 : Heap} (hP : va_P D vwCl wd H) (hk : ∀ q : Nat, q < H.size → ¬ va_A [] H.size q → H1[q]? = H[q]?) : va_P D vwCl wd H1 := hP.kept (fun k q hq => hk q.1 (hP k q hq).lt (zeroA q.1 (hP k q hq).lt))
theorem roV_i {v : Int32} (S : CallFix p m c cc nL s args Ts own) (hM : Met l y ws rm (roP (.ref b :: As) H.size D tc wc) (roQi v H.size) 0 0 (va_A [] H.size)) (cw : CallW R s args own C index y bytes maxL ret ws rm 0 0 n)
    (hrec : ∃ cellB : Cell, H[b]? = some cellB ∧ cellB.vm.isStatics = false ∧ s.vm.findClass C = some cellB.cls) (hKc : va_K D vwCl tc s) (hPc : va_P D vwCl wc H) (hn : As.length = n) (hsize : ls.size = nL) (hst : st = As.reverse ++ .ref b :: rest) (hroom : (rest.map fun v => v.category).sum ≤ 8) (hdg : decode cc pc = .ok (.invokevirtual index, 3)) (hcap : cells ≤ R.cells ∧ slots ≤ R.slots)
    (hP : va_P D vwCl wd H) (hS : va_S A s.heap H locs) (hA : ∀ q, s.heap.size ≤ q → A q)
    (kk : ∀ (H1 : Heap) (locs1 : List Loc), va_P D vwCl wd H1 → va_S A s.heap H1 locs1 → W p l e R s m args below meth c H1 locs1 cells slots Q (F0 m (pc + 3) ls (.int v :: rest))) : W p l e R s m args below meth c H locs cells slots Q (F0 m pc ls st) := by
  refine va_calli (va_runV S hM cw ⟨blind_ro, hrec, fun U hU hW => ⟨rfl, by rw [hU], by rw [hU]; exact hPc, va_K.moved hW.alike hKc⟩⟩ rfl hn hsize hst (lv_room (m := m) (pc := pc) (ls := ls) (rest := st) hroom) hdg hcap) hS (fun q _ h => freeA hS hA q h) (freeA hS hA) (fun r u t H1 locs1 ht hvm hw hB hz hk hS1 => ?_)
  subst hw
  exact kk H1 locs1 (keptA hP hk) hS1
theorem roV_l {v : Int64} (S : CallFix p m c cc nL s args Ts own) (hM : Met l y ws rm (roP (.ref b :: As) H.size D tc wc) (roQl v H.size) 0 0 (va_A [] H.size)) (cw : CallW R s args own C index y bytes maxL ret ws rm 0 0 n)
    (hrec : ∃ cellB : Cell, H[b]? = some cellB ∧ cellB.vm.isStatics = false ∧ s.vm.findClass C = some cellB.cls) (hKc : va_K D vwCl tc s) (hPc : va_P D vwCl wc H) (hn : As.length = n) (hsize : ls.size = nL) (hst : st = As.reverse ++ .ref b :: rest) (hroom : (rest.map fun v => v.category).sum ≤ 8) (hdg : decode cc pc = .ok (.invokevirtual index, 3)) (hcap : cells ≤ R.cells ∧ slots ≤ R.slots)
    (hP : va_P D vwCl wd H) (hS : va_S A s.heap H locs) (hA : ∀ q, s.heap.size ≤ q → A q)
    (kk : ∀ (H1 : Heap) (locs1 : List Loc), va_P D vwCl wd H1 → va_S A s.heap H1 locs1 → W p l e R s m args below meth c H1 locs1 cells slots Q (F0 m (pc + 3) ls (.long v :: rest))) : W p l e R s m args below meth c H locs cells slots Q (F0 m pc ls st) := by
  refine va_calll (va_runV S hM cw ⟨blind_ro, hrec, fun U hU hW => ⟨rfl, by rw [hU], by rw [hU]; exact hPc, va_K.moved hW.alike hKc⟩⟩ rfl hn hsize hst (lv_room (m := m) (pc := pc) (ls := ls) (rest := st) hroom) hdg hcap) hS (fun q _ h => freeA hS hA q h) (freeA hS hA) (fun r u t H1 locs1 ht hvm hw hB hz hk hS1 => ?_)
  subst hw
  exact kk H1 locs1 (keptA hP hk) hS1
theorem roS_i {v : Int32} (S : CallFix p m c cc nL s args Ts own) (hM : Met l y ws rm (roP As H.size D tc wc) (roQi v H.size) 0 0 (va_A [] H.size)) (cw : CallB R s args own index y bytes maxL ret ws rm 0 0 n ∧ (Cond.static y).before args s = true)
    (hKc : va_K D vwCl tc s) (hPc : va_P D vwCl wc H) (hn : As.length = n) (hsize : ls.size = nL) (hst : st = As.reverse ++ rest) (hroom : (rest.map fun v => v.category).sum ≤ 8) (hdg : decode cc pc = .ok (.invokestatic index, 3)) (hcap : cells ≤ R.cells ∧ slots ≤ R.slots)
    (hP : va_P D vwCl wd H) (hS : va_S A s.heap H locs) (hA : ∀ q, s.heap.size ≤ q → A q)
    (kk : ∀ (H1 : Heap) (locs1 : List Loc), va_P D vwCl wd H1 → va_S A s.heap H1 locs1 → W p l e R s m args below meth c H1 locs1 cells slots Q (F0 m (pc + 3) ls (.int v :: rest))) : W p l e R s m args below meth c H locs cells slots Q (F0 m pc ls st) := by
  refine va_calli (va_runS S hM cw ⟨blind_ro, fun U hU hW => ⟨rfl, by rw [hU], by rw [hU]; exact hPc, va_K.moved hW.alike hKc⟩⟩ rfl hn hsize hst (lv_room (m := m) (pc := pc) (ls := ls) (rest := st) hroom) hdg hcap) hS (fun q _ h => freeA hS hA q h) (freeA hS hA) (fun r u t H1 locs1 ht hvm hw hB hz hk hS1 => ?_)
  subst hw
  exact kk H1 locs1 (keptA hP hk) hS1
theorem roS_l {v : Int64} (S : CallFix p m c cc nL s args Ts own) (hM : Met l y ws rm (roP As H.size D tc wc) (roQl v H.size) 0 0 (va_A [] H.size)) (cw : CallB R s args own index y bytes maxL ret ws rm 0 0 n ∧ (Cond.static y).before args s = true)
    (hKc : va_K D vwCl tc s) (hPc : va_P D vwCl wc H) (hn : As.length = n) (hsize : ls.size = nL) (hst : st = As.reverse ++ rest) (hroom : (rest.map fun v => v.category).sum ≤ 8) (hdg : decode cc pc = .ok (.invokestatic index, 3)) (hcap : cells ≤ R.cells ∧ slots ≤ R.slots)
    (hP : va_P D vwCl wd H) (hS : va_S A s.heap H locs) (hA : ∀ q, s.heap.size ≤ q → A q)
    (kk : ∀ (H1 : Heap) (locs1 : List Loc), va_P D vwCl wd H1 → va_S A s.heap H1 locs1 → W p l e R s m args below meth c H1 locs1 cells slots Q (F0 m (pc + 3) ls (.long v :: rest))) : W p l e R s m args below meth c H locs cells slots Q (F0 m pc ls st) := by
  refine va_calll (va_runS S hM cw ⟨blind_ro, fun U hU hW => ⟨rfl, by rw [hU], by rw [hU]; exact hPc, va_K.moved hW.alike hKc⟩⟩ rfl hn hsize hst (lv_room (m := m) (pc := pc) (ls := ls) (rest := st) hroom) hdg hcap) hS (fun q _ h => freeA hS hA q h) (freeA hS hA) (fun r u t H1 locs1 ht hvm hw hB hz hk hS1 => ?_)
  subst hw
  exact kk H1 locs1 (keptA hP hk) hS1
/-- a callee that writes its cells wc (places isC of the caller's world), which become w1; the caller's world becomes wn: the places isN of (the rest ++ w1) -/
theorem rwV_i {v : Int32} {wr wn : va_W} (S : CallFix p m c cc nL s args Ts own) (hM : Met l y ws rm (rwP (.ref b :: As) H.size D tc wc) (rwQi v D wc w1 H.size) 0 0 (va_A wc H.size)) (cw : CallW R s args own C index y bytes maxL ret ws rm 0 0 n)
    (hrec : ∃ cellB : Cell, H[b]? = some cellB ∧ cellB.vm.isStatics = false ∧ s.vm.findClass C = some cellB.cls) (hKc : va_K D vwCl tc s) (hn : As.length = n) (hsize : ls.size = nL) (hst : st = As.reverse ++ .ref b :: rest) (hroom : (rest.map fun v => v.category).sum ≤ 8) (hdg : decode cc pc = .ok (.invokevirtual index, 3)) (hcap : cells ≤ R.cells ∧ slots ≤ R.slots)
    (hP : va_P D vwCl wd H) (hD : va_D A wd) (hS : va_S A s.heap H locs) (hA : ∀ q, s.heap.size ≤ q → A q)
    (isC isR isN : List Nat) (hC : isC.map (fun i => wd[i]?) = wc.map some) (hR : isR.map (fun i => wd[i]?) = wr.map some) (hnC : va_nd isC = true) (hnR : va_nd isR = true) (hdis : ∀ i ∈ isR, i ∉ isC) (hsame : w1.map (fun q => q.1) = wc.map (fun q => q.1)) (hN : isN.filterMap (fun i => (wr ++ w1)[i]?) = wn)
    (kk : ∀ (H1 : Heap) (locs1 : List Loc), va_P D vwCl wn H1 → va_S A s.heap H1 locs1 → W p l e R s m args below meth c H1 locs1 cells slots Q (F0 m (pc + 3) ls (.int v :: rest))) : W p l e R s m args below meth c H locs cells slots Q (F0 m pc ls st) := by
  have hDc : va_D A wc := hD.sub isC hnC hC
  have hPc : va_P D vwCl wc H := hP.sub isC (by
    have h1 : isC.filterMap (fun i => wd[i]?) = (isC.map (fun i => wd[i]?)).filterMap id := by rw [List.filterMap_map]; rfl
    rw [h1, hC, List.filterMap_map]; simp)
  have hFc := va_free (wc := wc) hD hS hA isC hC
  refine va_calli (va_runV S hM cw ⟨blind_rw, hrec, fun U hU hW => ⟨rfl, by rw [hU], by rw [hU]; exact hPc, va_K.moved hW.alike hKc, hDc.weaken (fun _ _ _ _ => trivial)⟩⟩ rfl hn hsize hst (lv_room (m := m) (pc := pc) (ls := ls) (rest := st) hroom) hdg hcap) hS (fun q _ h => hFc q h) hFc (fun r u t H1 locs1 ht hvm hw hB hz hk hS1 => ?_)
  subst hw
  rw [ht] at hB
  exact kk H1 locs1 ((va_join hP hD isC isR hC hR hnR hdis hk hFc hB (hDc.self.same hsame)).1.sub isN hN) hS1
theorem rwV_l {v : Int64} {wr wn : va_W} (S : CallFix p m c cc nL s args Ts own) (hM : Met l y ws rm (rwP (.ref b :: As) H.size D tc wc) (rwQl v D wc w1 H.size) 0 0 (va_A wc H.size)) (cw : CallW R s args own C index y bytes maxL ret ws rm 0 0 n)
    (hrec : ∃ cellB : Cell, H[b]? = some cellB ∧ cellB.vm.isStatics = false ∧ s.vm.findClass C = some cellB.cls) (hKc : va_K D vwCl tc s) (hn : As.length = n) (hsize : ls.size = nL) (hst : st = As.reverse ++ .ref b :: rest) (hroom : (rest.map fun v => v.category).sum ≤ 8) (hdg : decode cc pc = .ok (.invokevirtual index, 3)) (hcap : cells ≤ R.cells ∧ slots ≤ R.slots)
    (hP : va_P D vwCl wd H) (hD : va_D A wd) (hS : va_S A s.heap H locs) (hA : ∀ q, s.heap.size ≤ q → A q)
    (isC isR isN : List Nat) (hC : isC.map (fun i => wd[i]?) = wc.map some) (hR : isR.map (fun i => wd[i]?) = wr.map some) (hnC : va_nd isC = true) (hnR : va_nd isR = true) (hdis : ∀ i ∈ isR, i ∉ isC) (hsame : w1.map (fun q => q.1) = wc.map (fun q => q.1)) (hN : isN.filterMap (fun i => (wr ++ w1)[i]?) = wn)
    (kk : ∀ (H1 : Heap) (locs1 : List Loc), va_P D vwCl wn H1 → va_S A s.heap H1 locs1 → W p l e R s m args below meth c H1 locs1 cells slots Q (F0 m (pc + 3) ls (.long v :: rest))) : W p l e R s m args below meth c H locs cells slots Q (F0 m pc ls st) := by
  have hDc : va_D A wc := hD.sub isC hnC hC
  have hPc : va_P D vwCl wc H := hP.sub isC (by
    have h1 : isC.filterMap (fun i => wd[i]?) = (isC.map (fun i => wd[i]?)).filterMap id := by rw [List.filterMap_map]; rfl
    rw [h1, hC, List.filterMap_map]; simp)
  have hFc := va_free (wc := wc) hD hS hA isC hC
  refine va_calll (va_runV S hM cw ⟨blind_rw, hrec, fun U hU hW => ⟨rfl, by rw [hU], by rw [hU]; exact hPc, va_K.moved hW.alike hKc, hDc.weaken (fun _ _ _ _ => trivial)⟩⟩ rfl hn hsize hst (lv_room (m := m) (pc := pc) (ls := ls) (rest := st) hroom) hdg hcap) hS (fun q _ h => hFc q h) hFc (fun r u t H1 locs1 ht hvm hw hB hz hk hS1 => ?_)
  subst hw
  rw [ht] at hB
  exact kk H1 locs1 ((va_join hP hD isC isR hC hR hnR hdis hk hFc hB (hDc.self.same hsame)).1.sub isN hN) hS1
theorem rwV_v {wr wn : va_W} (S : CallFix p m c cc nL s args Ts own) (hM : Met l y ws rm (rwP (.ref b :: As) H.size D tc wc) (rwQv D wc w1 H.size) 0 0 (va_A wc H.size)) (cw : CallW R s args own C index y bytes maxL ret ws rm 0 0 n)
    (hrec : ∃ cellB : Cell, H[b]? = some cellB ∧ cellB.vm.isStatics = false ∧ s.vm.findClass C = some cellB.cls) (hKc : va_K D vwCl tc s) (hn : As.length = n) (hsize : ls.size = nL) (hst : st = As.reverse ++ .ref b :: rest) (hroom : (rest.map fun v => v.category).sum ≤ 8) (hdg : decode cc pc = .ok (.invokevirtual index, 3)) (hcap : cells ≤ R.cells ∧ slots ≤ R.slots)
    (hP : va_P D vwCl wd H) (hD : va_D A wd) (hS : va_S A s.heap H locs) (hA : ∀ q, s.heap.size ≤ q → A q)
    (isC isR isN : List Nat) (hC : isC.map (fun i => wd[i]?) = wc.map some) (hR : isR.map (fun i => wd[i]?) = wr.map some) (hnC : va_nd isC = true) (hnR : va_nd isR = true) (hdis : ∀ i ∈ isR, i ∉ isC) (hsame : w1.map (fun q => q.1) = wc.map (fun q => q.1)) (hN : isN.filterMap (fun i => (wr ++ w1)[i]?) = wn)
    (kk : ∀ (H1 : Heap) (locs1 : List Loc), va_P D vwCl wn H1 → va_S A s.heap H1 locs1 → W p l e R s m args below meth c H1 locs1 cells slots Q (F0 m (pc + 3) ls rest)) : W p l e R s m args below meth c H locs cells slots Q (F0 m pc ls st) := by
  have hDc : va_D A wc := hD.sub isC hnC hC
  have hPc : va_P D vwCl wc H := hP.sub isC (by
    have h1 : isC.filterMap (fun i => wd[i]?) = (isC.map (fun i => wd[i]?)).filterMap id := by rw [List.filterMap_map]; rfl
    rw [h1, hC, List.filterMap_map]; simp)
  have hFc := va_free (wc := wc) hD hS hA isC hC
  refine va_callv (va_runV S hM cw ⟨blind_rw, hrec, fun U hU hW => ⟨rfl, by rw [hU], by rw [hU]; exact hPc, va_K.moved hW.alike hKc, hDc.weaken (fun _ _ _ _ => trivial)⟩⟩ rfl hn hsize hst (lv_room (m := m) (pc := pc) (ls := ls) (rest := st) hroom) hdg hcap) hS (fun q _ h => hFc q h) hFc (fun u t H1 locs1 ht hvm hw hB hz hk hS1 => ?_)
  rw [ht] at hB
  exact kk H1 locs1 ((va_join hP hD isC isR hC hR hnR hdis hk hFc hB (hDc.self.same hsame)).1.sub isN hN) hS1
end CALL
end
section
/-! numbers: rows over nI -/
theorem nI_lit (n : Nat) : (OfNat.ofNat n : Int32) = nI n := rfl
theorem nI_or (a b : Nat) : nI a ||| nI b = nI (a ||| b) := by
  apply Int32.toBitVec_inj.1
  show BitVec.ofNat 32 a ||| BitVec.ofNat 32 b = BitVec.ofNat 32 (a ||| b)
  apply BitVec.eq_of_getLsbD_eq
  intro i hi
  simp [hi]
theorem nI_and (a b : Nat) : nI a &&& nI b = nI (a &&& b) := by
  apply Int32.toBitVec_inj.1
  show BitVec.ofNat 32 a &&& BitVec.ofNat 32 b = BitVec.ofNat 32 (a &&& b)
  apply BitVec.eq_of_getLsbD_eq
  intro i hi
  simp [hi]
theorem nI_s31 : ∀ k, k < 32 → ((nI k &&& 31).toBitVec.smod 32).toNat = k := by decide +kernel
theorem nI_shl1 {k : Nat} (hk : k < 32) : nI 1 <<< (nI k &&& 31) = nI (2 ^ k) := by
  have h := pk_shlN (n := 1) (nI k &&& 31) k (nI_s31 k hk) (by rw [Nat.one_mul]; exact Nat.pow_lt_pow_right (by decide) hk)
  rw [h, Nat.one_mul]
theorem nI_shr {n k : Nat} (hn : n < 2 ^ 31) (hk : k < 32) : nI n >>> (nI k &&& 31) = nI (n / 2 ^ k) := pk_shrN hn _ k (nI_s31 k hk)
theorem nI_eq0 {a : Nat} (h : a < 2 ^ 31) : nI a = 0 ↔ a = 0 := by
  have := nI_eq (a := a) (b := 0) h (by decide)
  exact this
section INS
variable {p : Program} {l : Launch} {e : Env} {R : Room} {s : State} {m : MethodId} {args : Array Value} {below : List Frame} {meth : Method} {c : Code} {H : Heap} {locs : List Loc} {cells slots : Nat} {Q : State → Prop}
variable {cc : ByteArray} {pc : Nat} {ls : Array Slot} {rest : List Value} {D : va_G} {cl : List vw_C} {A : Nat → Prop} {a : Nat} {tys : List (ClassId × FieldType)} {ws : va_W} {H0 : Heap}
theorem x_top {x y : Int32} (h : x = y) (k : W p l e R s m args below meth c H locs cells slots Q (F0 m pc ls (.int y :: rest))) : W p l e R s m args below meth c H locs cells slots Q (F0 m pc ls (.int x :: rest)) := by rw [h]; exact k
theorem x_topl {x y : Int64} (h : x = y) (k : W p l e R s m args below meth c H locs cells slots Q (F0 m pc ls (.long y :: rest))) : W p l e R s m args below meth c H locs cells slots Q (F0 m pc ls (.long x :: rest)) := by rw [h]; exact k
theorem x_iadd (hx : p.tables.exec = Jvm.exec) (hb : c.code = cc) {u v : Nat} (hdg : decode cc pc = .ok (.iadd, 1)) (k : W p l e R s m args below meth c H locs cells slots Q (F0 m (pc + 1) ls (.int (nI (u + v)) :: rest))) : W p l e R s m args below meth c H locs cells slots Q (F0 m pc ls (.int (nI v) :: .int (nI u) :: rest)) := lv_iadd hx hb hdg (by rw [nI_add]; exact k)
theorem x_imul (hx : p.tables.exec = Jvm.exec) (hb : c.code = cc) {u v : Nat} (hdg : decode cc pc = .ok (.imul, 1)) (k : W p l e R s m args below meth c H locs cells slots Q (F0 m (pc + 1) ls (.int (nI (u * v)) :: rest))) : W p l e R s m args below meth c H locs cells slots Q (F0 m pc ls (.int (nI v) :: .int (nI u) :: rest)) := lv_imul hx hb hdg (by rw [pk_mul]; exact k)
theorem x_isub (hx : p.tables.exec = Jvm.exec) (hb : c.code = cc) {u v : Nat} (h : v ≤ u) (hdg : decode cc pc = .ok (.isub, 1)) (k : W p l e R s m args below meth c H locs cells slots Q (F0 m (pc + 1) ls (.int (nI (u - v)) :: rest))) : W p l e R s m args below meth c H locs cells slots Q (F0 m pc ls (.int (nI v) :: .int (nI u) :: rest)) := lv_isub hx hb hdg (by rw [pk_sub h]; exact k)
theorem x_ior (hx : p.tables.exec = Jvm.exec) (hb : c.code = cc) {u v : Nat} (hdg : decode cc pc = .ok (.ior, 1)) (k : W p l e R s m args below meth c H locs cells slots Q (F0 m (pc + 1) ls (.int (nI (u ||| v)) :: rest))) : W p l e R s m args below meth c H locs cells slots Q (F0 m pc ls (.int (nI v) :: .int (nI u) :: rest)) := lv_ior hx hb hdg (by rw [nI_or]; exact k)
theorem x_iand (hx : p.tables.exec = Jvm.exec) (hb : c.code = cc) {u v : Nat} (hdg : decode cc pc = .ok (.iand, 1)) (k : W p l e R s m args below meth c H locs cells slots Q (F0 m (pc + 1) ls (.int (nI (u &&& v)) :: rest))) : W p l e R s m args below meth c H locs cells slots Q (F0 m pc ls (.int (nI v) :: .int (nI u) :: rest)) := lv_iand hx hb hdg (by rw [nI_and]; exact k)
theorem x_idiv (hx : p.tables.exec = Jvm.exec) (hb : c.code = cc) {u v : Nat} (h1 : u < 2 ^ 31) (h2 : 0 < v) (h3 : v < 2 ^ 31) (hdg : decode cc pc = .ok (.idiv, 1)) (k : W p l e R s m args below meth c H locs cells slots Q (F0 m (pc + 1) ls (.int (nI (u / v)) :: rest))) : W p l e R s m args below meth c H locs cells slots Q (F0 m pc ls (.int (nI v) :: .int (nI u) :: rest)) := lv_idiv hx hb hdg (nI_ne0 h2 h3) (by rw [pk_div h1 h2 h3]; exact k)
theorem x_irem (hx : p.tables.exec = Jvm.exec) (hb : c.code = cc) {u v : Nat} (h1 : u < 2 ^ 31) (h2 : 0 < v) (h3 : v < 2 ^ 31) (hdg : decode cc pc = .ok (.irem, 1)) (k : W p l e R s m args below meth c H locs cells slots Q (F0 m (pc + 1) ls (.int (nI (u % v)) :: rest))) : W p l e R s m args below meth c H locs cells slots Q (F0 m pc ls (.int (nI v) :: .int (nI u) :: rest)) := lv_irem hx hb hdg (nI_ne0 h2 h3) (by rw [pk_rem h1 h2 h3]; exact k)
theorem x_shl1 (hx : p.tables.exec = Jvm.exec) (hb : c.code = cc) {u : Nat} (h : u < 32) (hdg : decode cc pc = .ok (.ishl, 1)) (k : W p l e R s m args below meth c H locs cells slots Q (F0 m (pc + 1) ls (.int (nI (2 ^ u)) :: rest))) : W p l e R s m args below meth c H locs cells slots Q (F0 m pc ls (.int (nI u) :: .int (nI 1) :: rest)) := lv_ishl hx hb hdg (by rw [nI_shl1 h]; exact k)
theorem x_ishr (hx : p.tables.exec = Jvm.exec) (hb : c.code = cc) {u v : Nat} (h1 : u < 2 ^ 31) (h2 : v < 32) (hdg : decode cc pc = .ok (.ishr, 1)) (k : W p l e R s m args below meth c H locs cells slots Q (F0 m (pc + 1) ls (.int (nI (u / 2 ^ v)) :: rest))) : W p l e R s m args below meth c H locs cells slots Q (F0 m pc ls (.int (nI v) :: .int (nI u) :: rest)) := lv_ishr hx hb hdg (by rw [nI_shr h1 h2]; exact k)
theorem x_icmp_lt (hx : p.tables.exec = Jvm.exec) (hb : c.code = cc) {u v : Nat} {off : Int} {tgt : Nat} (h1 : u < 2 ^ 31) (h2 : v < 2 ^ 31) (hdg : decode cc pc = .ok (.if_icmp .lt off, 3)) (ht : (pc : Int) + off = (tgt : Int)) (kt : u < v → W p l e R s m args below meth c H locs cells slots Q (F0 m tgt ls rest)) (kf : v ≤ u → W p l e R s m args below meth c H locs cells slots Q (F0 m (pc + 3) ls rest)) : W p l e R s m args below meth c H locs cells slots Q (F0 m pc ls (.int (nI v) :: .int (nI u) :: rest)) := lv_icmp_lt hx hb hdg ht (fun h => kt ((nI_ltI h1 h2).mp h)) (fun h => kf (Nat.not_lt.mp fun q => h ((nI_ltI h1 h2).mpr q)))
theorem x_icmp_ge (hx : p.tables.exec = Jvm.exec) (hb : c.code = cc) {u v : Nat} {off : Int} {tgt : Nat} (h1 : u < 2 ^ 31) (h2 : v < 2 ^ 31) (hdg : decode cc pc = .ok (.if_icmp .ge off, 3)) (ht : (pc : Int) + off = (tgt : Int)) (kt : v ≤ u → W p l e R s m args below meth c H locs cells slots Q (F0 m tgt ls rest)) (kf : u < v → W p l e R s m args below meth c H locs cells slots Q (F0 m (pc + 3) ls rest)) : W p l e R s m args below meth c H locs cells slots Q (F0 m pc ls (.int (nI v) :: .int (nI u) :: rest)) := lv_icmp_ge hx hb hdg ht (fun h => kt ((nI_leI h2 h1).mp h)) (fun h => kf (Nat.not_le.mp fun q => h ((nI_leI h2 h1).mpr q)))
theorem x_icmp_gt (hx : p.tables.exec = Jvm.exec) (hb : c.code = cc) {u v : Nat} {off : Int} {tgt : Nat} (h1 : u < 2 ^ 31) (h2 : v < 2 ^ 31) (hdg : decode cc pc = .ok (.if_icmp .gt off, 3)) (ht : (pc : Int) + off = (tgt : Int)) (kt : v < u → W p l e R s m args below meth c H locs cells slots Q (F0 m tgt ls rest)) (kf : u ≤ v → W p l e R s m args below meth c H locs cells slots Q (F0 m (pc + 3) ls rest)) : W p l e R s m args below meth c H locs cells slots Q (F0 m pc ls (.int (nI v) :: .int (nI u) :: rest)) := lv_icmp_gt hx hb hdg ht (fun h => kt ((nI_ltI h2 h1).mp h)) (fun h => kf (Nat.not_lt.mp fun q => h ((nI_ltI h2 h1).mpr q)))
theorem x_icmp_le (hx : p.tables.exec = Jvm.exec) (hb : c.code = cc) {u v : Nat} {off : Int} {tgt : Nat} (h1 : u < 2 ^ 31) (h2 : v < 2 ^ 31) (hdg : decode cc pc = .ok (.if_icmp .le off, 3)) (ht : (pc : Int) + off = (tgt : Int)) (kt : u ≤ v → W p l e R s m args below meth c H locs cells slots Q (F0 m tgt ls rest)) (kf : v < u → W p l e R s m args below meth c H locs cells slots Q (F0 m (pc + 3) ls rest)) : W p l e R s m args below meth c H locs cells slots Q (F0 m pc ls (.int (nI v) :: .int (nI u) :: rest)) := lv_icmp_le hx hb hdg ht (fun h => kt ((nI_leI h1 h2).mp h)) (fun h => kf (Nat.not_le.mp fun q => h ((nI_leI h1 h2).mpr q)))
theorem x_icmp_eq (hx : p.tables.exec = Jvm.exec) (hb : c.code = cc) {u v : Nat} {off : Int} {tgt : Nat} (h1 : u < 2 ^ 31) (h2 : v < 2 ^ 31) (hdg : decode cc pc = .ok (.if_icmp .eq off, 3)) (ht : (pc : Int) + off = (tgt : Int)) (kt : u = v → W p l e R s m args below meth c H locs cells slots Q (F0 m tgt ls rest)) (kf : ¬ u = v → W p l e R s m args below meth c H locs cells slots Q (F0 m (pc + 3) ls rest)) : W p l e R s m args below meth c H locs cells slots Q (F0 m pc ls (.int (nI v) :: .int (nI u) :: rest)) := lv_icmp_eq hx hb hdg ht (fun h => kt ((nI_eq h1 h2).mp h)) (fun h => kf (fun q => h ((nI_eq h1 h2).mpr q)))
theorem x_icmp_ne (hx : p.tables.exec = Jvm.exec) (hb : c.code = cc) {u v : Nat} {off : Int} {tgt : Nat} (h1 : u < 2 ^ 31) (h2 : v < 2 ^ 31) (hdg : decode cc pc = .ok (.if_icmp .ne off, 3)) (ht : (pc : Int) + off = (tgt : Int)) (kt : ¬ u = v → W p l e R s m args below meth c H locs cells slots Q (F0 m tgt ls rest)) (kf : u = v → W p l e R s m args below meth c H locs cells slots Q (F0 m (pc + 3) ls rest)) : W p l e R s m args below meth c H locs cells slots Q (F0 m pc ls (.int (nI v) :: .int (nI u) :: rest)) := lv_icmp_ne hx hb hdg ht (fun h => kt (fun q => h ((nI_eq h1 h2).mpr q))) (fun h => kf ((nI_eq h1 h2).mp h))
theorem x_if_eq (hx : p.tables.exec = Jvm.exec) (hb : c.code = cc) {u : Nat} {off : Int} {tgt : Nat} (h1 : u < 2 ^ 31) (hdg : decode cc pc = .ok (.ifCond .eq off, 3)) (ht : (pc : Int) + off = (tgt : Int)) (kt : u = 0 → W p l e R s m args below meth c H locs cells slots Q (F0 m tgt ls rest)) (kf : ¬ u = 0 → W p l e R s m args below meth c H locs cells slots Q (F0 m (pc + 3) ls rest)) : W p l e R s m args below meth c H locs cells slots Q (F0 m pc ls (.int (nI u) :: rest)) := lv_if_eq hx hb hdg ht (fun h => kt ((nI_eq0 h1).mp h)) (fun h => kf (fun q => h ((nI_eq0 h1).mpr q)))
theorem x_if_ne (hx : p.tables.exec = Jvm.exec) (hb : c.code = cc) {u : Nat} {off : Int} {tgt : Nat} (h1 : u < 2 ^ 31) (hdg : decode cc pc = .ok (.ifCond .ne off, 3)) (ht : (pc : Int) + off = (tgt : Int)) (kt : ¬ u = 0 → W p l e R s m args below meth c H locs cells slots Q (F0 m tgt ls rest)) (kf : u = 0 → W p l e R s m args below meth c H locs cells slots Q (F0 m (pc + 3) ls rest)) : W p l e R s m args below meth c H locs cells slots Q (F0 m pc ls (.int (nI u) :: rest)) := lv_if_ne hx hb hdg ht (fun h => kt (fun q => h ((nI_eq0 h1).mpr q))) (fun h => kf ((nI_eq0 h1).mp h))
theorem x_if_gt (hx : p.tables.exec = Jvm.exec) (hb : c.code = cc) {u : Nat} {off : Int} {tgt : Nat} (h1 : u < 2 ^ 31) (hdg : decode cc pc = .ok (.ifCond .gt off, 3)) (ht : (pc : Int) + off = (tgt : Int)) (kt : 0 < u → W p l e R s m args below meth c H locs cells slots Q (F0 m tgt ls rest)) (kf : u = 0 → W p l e R s m args below meth c H locs cells slots Q (F0 m (pc + 3) ls rest)) : W p l e R s m args below meth c H locs cells slots Q (F0 m pc ls (.int (nI u) :: rest)) := lv_if_gt hx hb hdg ht (fun h => kt (Nat.pos_of_ne_zero fun q => by rw [q] at h; exact absurd h (by decide))) (fun h => kf (Nat.eq_zero_of_not_pos fun q => h (by have := nI_lt (a := 0) (b := u) q h1; exact this)))
theorem x_if_le (hx : p.tables.exec = Jvm.exec) (hb : c.code = cc) {u : Nat} {off : Int} {tgt : Nat} (h1 : u < 2 ^ 31) (hdg : decode cc pc = .ok (.ifCond .le off, 3)) (ht : (pc : Int) + off = (tgt : Int)) (kt : u = 0 → W p l e R s m args below meth c H locs cells slots Q (F0 m tgt ls rest)) (kf : 0 < u → W p l e R s m args below meth c H locs cells slots Q (F0 m (pc + 3) ls rest)) : W p l e R s m args below meth c H locs cells slots Q (F0 m pc ls (.int (nI u) :: rest)) := lv_if_le hx hb hdg ht (fun h => kt (Nat.eq_zero_of_not_pos fun q => absurd h (nI_nle q h1))) (fun h => kf (Nat.pos_of_ne_zero fun q => by rw [q] at h; exact h (by decide)))
theorem x_if_ge (hx : p.tables.exec = Jvm.exec) (hb : c.code = cc) {u : Nat} {off : Int} {tgt : Nat} (h1 : u < 2 ^ 31) (hdg : decode cc pc = .ok (.ifCond .ge off, 3)) (ht : (pc : Int) + off = (tgt : Int)) (kt : W p l e R s m args below meth c H locs cells slots Q (F0 m tgt ls rest)) : W p l e R s m args below meth c H locs cells slots Q (F0 m pc ls (.int (nI u) :: rest)) := lv_if_ge hx hb hdg ht (fun _ => kt) (fun h => absurd (nI_pos' h1) h)
theorem x_if_lt (hx : p.tables.exec = Jvm.exec) (hb : c.code = cc) {u : Nat} {off : Int} {tgt : Nat} (h1 : u < 2 ^ 31) (hdg : decode cc pc = .ok (.ifCond .lt off, 3)) (ht : (pc : Int) + off = (tgt : Int)) (kf : W p l e R s m args below meth c H locs cells slots Q (F0 m (pc + 3) ls rest)) : W p l e R s m args below meth c H locs cells slots Q (F0 m pc ls (.int (nI u) :: rest)) := lv_if_lt hx hb hdg ht (fun h => absurd h (nI_pos h1)) (fun _ => kf)
theorem x_ifb_eq (hx : p.tables.exec = Jvm.exec) (hb : c.code = cc) {u : Bool} {off : Int} {tgt : Nat} (hdg : decode cc pc = .ok (.ifCond .eq off, 3)) (ht : (pc : Int) + off = (tgt : Int)) (kt : u = false → W p l e R s m args below meth c H locs cells slots Q (F0 m tgt ls rest)) (kf : u = true → W p l e R s m args below meth c H locs cells slots Q (F0 m (pc + 3) ls rest)) : W p l e R s m args below meth c H locs cells slots Q (F0 m pc ls (.int (bI u) :: rest)) := lv_if_eq hx hb hdg ht (fun h => kt (bI_eq0.mp h)) (fun h => kf (by cases u <;> simp_all [bI]))
theorem x_ifb_ne (hx : p.tables.exec = Jvm.exec) (hb : c.code = cc) {u : Bool} {off : Int} {tgt : Nat} (hdg : decode cc pc = .ok (.ifCond .ne off, 3)) (ht : (pc : Int) + off = (tgt : Int)) (kt : u = true → W p l e R s m args below meth c H locs cells slots Q (F0 m tgt ls rest)) (kf : u = false → W p l e R s m args below meth c H locs cells slots Q (F0 m (pc + 3) ls rest)) : W p l e R s m args below meth c H locs cells slots Q (F0 m pc ls (.int (bI u) :: rest)) := lv_if_ne hx hb hdg ht (fun h => kt (by cases u <;> simp_all [bI])) (fun h => kf (bI_eq0.mp h))
theorem x_get (hx : p.tables.exec = Jvm.exec) (hb : c.code = cc) {own ref C : String} {T : u_T} {N ci index : Nat} {Ts : List Cond} (hts : ∀ w ∈ Ts, w.before args s = true) (hin : ∀ w ∈ u_ws C T N, w ∈ Ts) (hown : s.vm.findClass own = some m.cls) (hK : va_K D cl tys s) (hP : va_P D cl ws H) (q0 : Nat) {fs : List Value} (he : ws[q0]? = some (a, .inr (ci, fs))) (hc : cl[ci]? = some (C, T, N)) (k : Nat) (hk : k < N) (hlink : (Cond.fieldLink own index ref (T k).2.1 (T k).2.2.1).before args s = true) (hr : (T k).1 = ref) {v : Value} (hv : fs[k]? = some v) (hdg : decode cc pc = .ok (.getfield index, 3))
    (kk : W p l e R s m args below meth c H locs cells slots Q (F0 m (pc + 3) ls (v :: rest))) : W p l e R s m args below meth c H locs cells slots Q (F0 m pc ls (.ref a :: rest)) := va_get hx hb hts hin hown hK hP q0 he hc k hk hlink (fun _ h => hr ▸ h) hv hdg kk
theorem x_put (hx : p.tables.exec = Jvm.exec) (hb : c.code = cc) {own ref C : String} {T : u_T} {N ci index : Nat} {Ts : List Cond} (hts : ∀ w ∈ Ts, w.before args s = true) (hin : ∀ w ∈ u_ws C T N, w ∈ Ts) (ty0 : Nat → FieldType) (hty : ∀ k, k < N → parseFieldDescriptor (T k).2.2.1 = some (ty0 k)) (hnm : ∀ a, a < N → ∀ b, b < N → a ≠ b → (T a).2.1 ≠ (T b).2.1) (hown : s.vm.findClass own = some m.cls) (hK : va_K D cl tys s) (hP : va_P D cl ws H) (hD : va_D A ws) (hS0 : va_S A H0 H locs) (q0 : Nat) {fs : List Value} (he : ws[q0]? = some (a, .inr (ci, fs))) (hc : cl[ci]? = some (C, T, N)) (k : Nat) (hk : k < N) (hlink : (Cond.fieldLink own index ref (T k).2.1 (T k).2.2.1).before args s = true) (hr : (T k).1 = ref) (hfin : (T k).2.2.2 = false) {v : Value} (hn : narrow (ty0 k) v = v) (hfit : fits (ty0 k) v = true) (hl : k < fs.length) {wn : va_W} (hwn : ws.set q0 (a, .inr (ci, fs.set k v)) = wn)
    (hdg : decode cc pc = .ok (.putfield index, 3)) (kk : ∀ (H1 : Heap) (locs1 : List Loc), va_P D cl wn H1 → va_S A H0 H1 locs1 → W p l e R s m args below meth c H1 locs1 cells slots Q (F0 m (pc + 3) ls rest)) : W p l e R s m args below meth c H locs cells slots Q (F0 m pc ls (v :: .ref a :: rest)) := by
  subst hwn
  exact va_put hx hb hts hin ty0 hty hnm hown hK hP hD hS0 q0 he hc k hk hlink (fun _ h => hr ▸ h) hfin (hty k hk) hn hfit hl hdg (fun H1 locs1 hP1 _ hS1 => kk H1 locs1 hP1 hS1)
theorem x_iald (hx : p.tables.exec = Jvm.exec) (hb : c.code = cc) (hK : va_K D cl tys s) (hP : va_P D cl ws H) (q0 t0 : Nat) {cA : ClassId} {n : Nat} {f : Nat → Int32} (ha : ws[q0]? = some (a, .inl (cA, n, .inl f))) (ht : tys[t0]? = some (cA, .int)) {j : Nat} (hj : j < n) (hn : n < 2 ^ 31) {v : Int32} (hv : f j = v) (hdg : decode cc pc = .ok (.iaload, 1))
    (kk : W p l e R s m args below meth c H locs cells slots Q (F0 m (pc + 1) ls (.int v :: rest))) : W p l e R s m args below meth c H locs cells slots Q (F0 m pc ls (.int (nI j) :: .ref a :: rest)) := va_iald hx hb hK hP q0 t0 ha ht (vp_in_nI hj hn) hdg (by rw [nI_clamp (Nat.lt_trans hj hn), hv]; exact kk)
theorem x_zald (hx : p.tables.exec = Jvm.exec) (hb : c.code = cc) (hK : va_K D cl tys s) (hP : va_P D cl ws H) (q0 t0 : Nat) {cA : ClassId} {n : Nat} {f : Nat → Int32} (ha : ws[q0]? = some (a, .inl (cA, n, .inl f))) (ht : tys[t0]? = some (cA, .boolean)) {j : Nat} (hj : j < n) (hn : n < 2 ^ 31) {v : Int32} (hv : f j = v) (hdg : decode cc pc = .ok (.baload, 1))
    (kk : W p l e R s m args below meth c H locs cells slots Q (F0 m (pc + 1) ls (.int v :: rest))) : W p l e R s m args below meth c H locs cells slots Q (F0 m pc ls (.int (nI j) :: .ref a :: rest)) := va_zald hx hb hK hP q0 t0 ha ht (vp_in_nI hj hn) hdg (by rw [nI_clamp (Nat.lt_trans hj hn), hv]; exact kk)
theorem x_iast (hx : p.tables.exec = Jvm.exec) (hb : c.code = cc) (hK : va_K D cl tys s) (hP : va_P D cl ws H) (hD : va_D A ws) (hS : va_S A H0 H locs) (q0 t0 : Nat) {cA : ClassId} {n : Nat} {f : Nat → Int32} (ha : ws[q0]? = some (a, .inl (cA, n, .inl f))) (ht : tys[t0]? = some (cA, .int)) {j : Nat} {x : Int32} (hj : j < n) (hn : n < 2 ^ 31) {wn : va_W} (hwn : ws.set q0 (a, .inl (cA, n, .inl (upd f j x))) = wn) (hdg : decode cc pc = .ok (.iastore, 1))
    (kk : ∀ (H1 : Heap) (locs1 : List Loc), va_P D cl wn H1 → va_S A H0 H1 locs1 → W p l e R s m args below meth c H1 locs1 cells slots Q (F0 m (pc + 1) ls rest)) : W p l e R s m args below meth c H locs cells slots Q (F0 m pc ls (.int x :: .int (nI j) :: .ref a :: rest)) := by
  subst hwn
  refine va_iast hx hb hK hP hD hS q0 t0 ha ht (vp_in_nI hj hn) hdg (fun H1 locs1 hP1 _ hS1 => kk H1 locs1 ?_ hS1)
  rw [nI_clamp (Nat.lt_trans hj hn)] at hP1
  exact hP1
end INS
end
section
/-! the ground's state as numbers: n 0 high, 1 wide, 2 benches, 3 things, 4 year, 5 winter, 6 the statue's cell and one more (0: none), 7 block, 8 what is cut; A 0 what a cell has, 1 a bench's cell, 2 kind, 3 a thing's cell, 4 tall at first, 5 price -/
def stI : Nat → Int32
  | 0 => -9
  | k + 1 => nI k
def wG (cI : ClassId) (q : Nat → Nat) (n : Nat → Nat) (X : Nat → Nat → Int32) : va_W := [(q 0, .inr (0, [.int (nI (n 1)), .int (nI (n 0 * n 1)), .int (nI (n 2)), .int (nI (n 3)), .ref (q 1), .ref (q 2), .ref (q 3), .ref (q 4), .ref (q 5), .ref (q 6), .ref (q 7), .ref (q 8), .int (nI (n 8)), .int (nI (n 4)), .int (nI (n 5)), .int (stI (n 6)), .int (nI (n 7))])), (q 1, .inl (cI, 42, .inl (X 0))), (q 2, .inl (cI, 42, .inl (X 1))), (q 3, .inl (cI, 42, .inl (X 2))), (q 4, .inl (cI, 12, .inl (X 3))), (q 5, .inl (cI, 10, .inl (X 4))), (q 6, .inl (cI, 10, .inl (X 5))), (q 7, .inl (cI, 10, .inl (X 6))), (q 8, .inl (cI, 10, .inl (X 7)))]
def WF (n : Nat → Nat) (A : Nat → Nat → Nat) : Prop := n 0 ≤ 6 ∧ n 1 ≤ 7 ∧ n 2 ≤ 12 ∧ n 3 ≤ 10 ∧ n 4 ≤ 30 ∧ n 5 ≤ 1 ∧ n 6 ≤ n 0 * n 1 ∧ n 7 ≤ 9 ∧ n 8 < 1024 ∧ (∀ c, c < n 0 * n 1 → A 0 c ≤ 1 ∨ (10 ≤ A 0 c ∧ A 0 c < 10 + n 3)) ∧ (∀ b, b < n 2 → A 1 b < n 0 * n 1) ∧ (∀ t, t < n 3 → A 2 t ≤ 2 ∧ A 3 t < n 0 * n 1 ∧ 1 ≤ A 4 t ∧ A 4 t ≤ 9 ∧ 1 ≤ A 5 t ∧ A 5 t ≤ 9)
def RG (n : Nat → Nat) (A : Nat → Nat → Nat) (X : Nat → Nat → Int32) : Prop := (∀ c, c < n 0 * n 1 → X 0 c = nI (A 0 c) ∧ X 1 c = nI (c / n 1) ∧ X 2 c = nI (c % n 1)) ∧ (∀ b, b < n 2 → X 3 b = nI (A 1 b)) ∧ (∀ t, t < n 3 → X 4 t = nI (A 2 t) ∧ X 5 t = nI (A 3 t) ∧ X 6 t = nI (A 4 t) ∧ X 7 t = nI (A 5 t))
def sThere (n : Nat → Nat) (t : Nat) : Bool := !(n 8).testBit t
theorem tb_0 {a t : Nat} : a / 2 ^ t &&& 1 = 0 ↔ a.testBit t = false := by
  rw [Nat.and_one_is_mod, Nat.testBit_eq_decide_div_mod_eq]
  simp
theorem and1_lt (a : Nat) : a &&& 1 < 2 ^ 31 := Nat.lt_of_le_of_lt Nat.and_le_right (by decide)
theorem n1_b {b : Bool} (h : b = true) : nI 1 = bI b := by rw [h]; rfl
theorem n0_b {b : Bool} (h : b = false) : nI 0 = bI b := by rw [h]; rfl
def sTall (n : Nat → Nat) (A : Nat → Nat → Nat) (y t : Nat) : Nat := if A 2 t = 0 then A 4 t else if A 2 t = 2 then (if n 5 = 0 then A 4 t + 1 + y / 3 else (A 4 t + y / 3) / 2) else (if n 5 = 0 then A 4 t + 1 else A 4 t)
end
section
/-! pure: sets by bits, counts, the line's cells -/
def orB (f : Nat → Bool) : Nat → Nat
  | 0 => 0
  | k + 1 => orB f k ||| (if f k then 2 ^ k else 0)
def orM (f : Nat → Nat) : Nat → Nat
  | 0 => 0
  | k + 1 => orM f k ||| f k
def cntB (f : Nat → Bool) : Nat → Nat
  | 0 => 0
  | k + 1 => cntB f k + (if f k then 1 else 0)
def sumN (f : Nat → Nat) : Nat → Nat
  | 0 => 0
  | k + 1 => sumN f k + f k
theorem orB_t {f : Nat → Bool} {k : Nat} (h : f k = true) : orB f k ||| 2 ^ k = orB f (k + 1) := by simp [orB, h]
theorem orB_f {f : Nat → Bool} {k : Nat} (h : f k = false) : orB f k = orB f (k + 1) := by simp [orB, h]
theorem orB_lt (f : Nat → Bool) : ∀ k, orB f k < 2 ^ k
  | 0 => by simp [orB]
  | k + 1 => by
    have ih := orB_lt f k
    have h1 : orB f k < 2 ^ (k + 1) := Nat.lt_of_lt_of_le ih (Nat.pow_le_pow_right (by decide) (by omega))
    have h2 : (if f k then 2 ^ k else 0) < 2 ^ (k + 1) := by
      have := Nat.pow_lt_pow_right (a := 2) (by decide) (Nat.lt_succ_self k)
      split
      · exact this
      · exact Nat.two_pow_pos _
    exact Nat.or_lt_two_pow h1 h2
theorem orB_bit (f : Nat → Bool) : ∀ k i, (orB f k).testBit i = (decide (i < k) && f i)
  | 0, i => by simp [orB]
  | k + 1, i => by
    rw [orB, Nat.testBit_or, orB_bit f k i]
    by_cases hi : i = k
    · subst hi
      cases h : f i <;> simp [h, Nat.testBit_two_pow_self]
    · have hk : (if f k then 2 ^ k else 0).testBit i = false := by
        split
        · rw [Nat.testBit_two_pow]; simp; omega
        · simp
      rw [hk, Bool.or_false]
      congr 1
      have : (i < k) = (i < k + 1) := propext ⟨fun h => by omega, fun h => by omega⟩
      simp [this]
theorem orB_cong {f g : Nat → Bool} : ∀ {k : Nat}, (∀ i, i < k → f i = g i) → orB f k = orB g k
  | 0, _ => rfl
  | k + 1, h => by rw [orB, orB, orB_cong (fun i hi => h i (by omega)), h k (by omega)]
theorem orM_lt {f : Nat → Nat} {e : Nat} : ∀ {k : Nat}, (∀ i, i < k → f i < 2 ^ e) → orM f k < 2 ^ e
  | 0, _ => Nat.two_pow_pos _
  | k + 1, h => Nat.or_lt_two_pow (orM_lt (fun i hi => h i (by omega))) (h k (by omega))
theorem orM_bit (f : Nat → Nat) (j : Nat) : ∀ k, (orM f k).testBit j = true ↔ ∃ i, i < k ∧ (f i).testBit j = true
  | 0 => by simp [orM]
  | k + 1 => by
    rw [orM, Nat.testBit_or, Bool.or_eq_true, orM_bit f j k]
    constructor
    · rintro (⟨i, hi, h⟩ | h)
      · exact ⟨i, by omega, h⟩
      · exact ⟨k, by omega, h⟩
    · rintro ⟨i, hi, h⟩
      by_cases hik : i = k
      · subst hik; exact Or.inr h
      · exact Or.inl ⟨i, by omega, h⟩
theorem orM_cong {f g : Nat → Nat} : ∀ {k : Nat}, (∀ i, i < k → f i = g i) → orM f k = orM g k
  | 0, _ => rfl
  | k + 1, h => by rw [orM, orM, orM_cong (fun i hi => h i (by omega)), h k (by omega)]
theorem cntB_le (f : Nat → Bool) : ∀ k, cntB f k ≤ k
  | 0 => Nat.le_refl _
  | k + 1 => by
    have := cntB_le f k
    rw [cntB]; split <;> omega
theorem cntB_t {f : Nat → Bool} {k : Nat} (h : f k = true) : cntB f k + 1 = cntB f (k + 1) := by simp [cntB, h]
theorem cntB_f {f : Nat → Bool} {k : Nat} (h : f k = false) : cntB f k = cntB f (k + 1) := by simp [cntB, h]
theorem cntB_cong {f g : Nat → Bool} : ∀ {k : Nat}, (∀ i, i < k → f i = g i) → cntB f k = cntB g k
  | 0, _ => rfl
  | k + 1, h => by rw [cntB, cntB, cntB_cong (fun i hi => h i (by omega)), h k (by omega)]
theorem sumN_le {f : Nat → Nat} {b : Nat} : ∀ {k : Nat}, (∀ i, i < k → f i ≤ b) → sumN f k ≤ k * b
  | 0, _ => by simp [sumN]
  | k + 1, h => by
    have := sumN_le (k := k) (fun i hi => h i (by omega))
    have h2 := h k (by omega)
    rw [sumN, Nat.succ_mul]; omega
theorem sumN_cong {f g : Nat → Nat} : ∀ {k : Nat}, (∀ i, i < k → f i = g i) → sumN f k = sumN g k
  | 0, _ => rfl
  | k + 1, h => by rw [sumN, sumN, sumN_cong (fun i hi => h i (by omega)), h k (by omega)]
def dd (a b : Nat) : Nat := if a < b then b - a else a - b
theorem dd_comm (a b : Nat) : dd a b = dd b a := by unfold dd; split <;> split <;> omega
theorem dd_le {a b k : Nat} (ha : a ≤ k) (hb : b ≤ k) : dd a b ≤ k := by unfold dd; split <;> omega
theorem abs_sub {a b : Nat} (ha : a < 2 ^ 30) (hb : b < 2 ^ 30) : (if 0 ≤ nI a - nI b then nI a - nI b else 0 - (nI a - nI b)) = nI (dd a b) := by
  have h := pk_sub_toInt ha hb
  unfold dd
  split
  · next h0 =>
    have h1 : (0 : Int32).toInt ≤ (nI a - nI b).toInt := Int32.le_iff_toInt_le.mp h0
    rw [h, show (0 : Int32).toInt = 0 from rfl] at h1
    rw [if_neg (by omega)]
    exact pk_sub (by omega)
  · next h0 =>
    have h1 : (nI a - nI b).toInt < (0 : Int32).toInt := Int32.lt_iff_toInt_lt.mp (Int32.not_le.mp h0)
    rw [h, show (0 : Int32).toInt = 0 from rfl] at h1
    rw [if_pos (by omega)]
    apply Int32.toInt_inj.mp
    rw [nI_toInt (by omega), fb_subI (by rw [h, show (0 : Int32).toInt = 0 from rfl]; omega) (by rw [h, show (0 : Int32).toInt = 0 from rfl]; omega), h, show (0 : Int32).toInt = 0 from rfl]
    omega
theorem max_nI {a b : Nat} (ha : a < 2 ^ 31) (hb : b < 2 ^ 31) : (if nI a < nI b then nI b else nI a) = nI (max a b) := by
  by_cases h : a < b
  · rw [if_pos (nI_lt h hb)]; congr 1; omega
  · rw [if_neg (nI_nlt (by omega) ha)]; congr 1; omega
/-- like steps from one cell's midst to another's -/
def sG (n : Nat → Nat) (f c : Nat) : Nat := Nat.gcd (dd (f / n 1) (c / n 1)) (dd (f % n 1) (c % n 1))
def sSt (n : Nat → Nat) (f c : Nat) : Nat := max 1 (sG n f c)
theorem gcd_ret {r c k : Nat} (hk : 1 < k) (h1 : r % k = 0) (h2 : c % k = 0) (hno : ∀ j, k < j → j ≤ max r c → ¬ (r % j = 0 ∧ c % j = 0)) (h0 : ¬ (r = 0 ∧ c = 0)) : k = max 1 (Nat.gcd r c) := by
  have hd : k ∣ Nat.gcd r c := Nat.dvd_gcd (Nat.dvd_of_mod_eq_zero h1) (Nat.dvd_of_mod_eq_zero h2)
  have hg0 : 0 < Nat.gcd r c := by
    rcases Nat.eq_zero_or_pos (Nat.gcd r c) with h | h
    · exact absurd (Nat.gcd_eq_zero_iff.mp h) h0
    · exact h
  have hle : k ≤ Nat.gcd r c := Nat.le_of_dvd hg0 hd
  have hgm : Nat.gcd r c ≤ max r c := by
    by_cases hr : r = 0
    · subst hr; rw [Nat.gcd_zero_left]; omega
    · have := Nat.gcd_le_left c (Nat.pos_of_ne_zero hr); omega
  by_cases he : k = Nat.gcd r c
  · omega
  · exact absurd ⟨Nat.mod_eq_zero_of_dvd (Nat.gcd_dvd_left r c), Nat.mod_eq_zero_of_dvd (Nat.gcd_dvd_right r c)⟩ (hno _ (by omega) hgm)
theorem gcd_one {r c k : Nat} (hk : k ≤ 1) (hno : ∀ j, k < j → j ≤ max r c → ¬ (r % j = 0 ∧ c % j = 0)) : 1 = max 1 (Nat.gcd r c) := by
  have hgm : Nat.gcd r c ≤ max r c := by
    by_cases hr : r = 0
    · subst hr; rw [Nat.gcd_zero_left]; omega
    · have := Nat.gcd_le_left c (Nat.pos_of_ne_zero hr); omega
  by_cases h : Nat.gcd r c ≤ 1
  · omega
  · exact absurd ⟨Nat.mod_eq_zero_of_dvd (Nat.gcd_dvd_left r c), Nat.mod_eq_zero_of_dvd (Nat.gcd_dvd_right r c)⟩ (hno _ (by omega) hgm)
theorem dd_int {a b g : Nat} (h : g ∣ dd a b) : ∃ t : Int, (b : Int) - a = g * t := by
  obtain ⟨k, hk⟩ := h
  unfold dd at hk
  split at hk
  · exact ⟨k, by rw [← Int.natCast_mul, ← hk]; omega⟩
  · exact ⟨-k, by rw [Int.mul_neg, ← Int.natCast_mul, ← hk]; omega⟩
theorem sSt_div (n : Nat → Nat) (f c : Nat) : ∃ tr tc : Int, ((c / n 1 : Nat) : Int) - ((f / n 1 : Nat) : Int) = (sSt n f c : Int) * tr ∧ ((c % n 1 : Nat) : Int) - ((f % n 1 : Nat) : Int) = (sSt n f c : Int) * tc := by
  by_cases h : 1 ≤ sG n f c
  · have e : sSt n f c = sG n f c := by unfold sSt; omega
    rw [e]
    obtain ⟨t1, h1⟩ := dd_int (a := f / n 1) (b := c / n 1) (g := sG n f c) (Nat.gcd_dvd_left _ _)
    obtain ⟨t2, h2⟩ := dd_int (a := f % n 1) (b := c % n 1) (g := sG n f c) (Nat.gcd_dvd_right _ _)
    exact ⟨t1, t2, h1, h2⟩
  · have e : sSt n f c = 1 := by unfold sSt; omega
    rw [e]
    exact ⟨_, _, (Int.one_mul _).symm, (Int.one_mul _).symm⟩
theorem sSt_div' (n : Nat → Nat) (f c : Nat) : ∃ t : Int, (c : Int) - f = (sSt n f c : Int) * t := by
  obtain ⟨tr, tc, h1, h2⟩ := sSt_div n f c
  refine ⟨tr * n 1 + tc, ?_⟩
  have ec : (c : Int) = (n 1 : Int) * ((c / n 1 : Nat) : Int) + ((c % n 1 : Nat) : Int) := by
    rw [← Int.natCast_mul, ← Int.natCast_add, Nat.div_add_mod]
  have ef : (f : Int) = (n 1 : Int) * ((f / n 1 : Nat) : Int) + ((f % n 1 : Nat) : Int) := by
    rw [← Int.natCast_mul, ← Int.natCast_add, Nat.div_add_mod]
  rw [ec, ef]
  grind
theorem sSt_pos (n : Nat → Nat) (f c : Nat) : 0 < sSt n f c := by unfold sSt; omega
theorem sSt_le {n : Nat → Nat} {f c : Nat} (h0 : n 0 ≤ 6) (h1 : n 1 ≤ 7) (hf : f < n 0 * n 1) (hc : c < n 0 * n 1) : sSt n f c ≤ 6 := by
  have hw : 0 < n 1 := Nat.pos_of_ne_zero fun h => by rw [h] at hf; omega
  have a1 : f / n 1 < n 0 := (Nat.div_lt_iff_lt_mul hw).mpr hf
  have a2 : c / n 1 < n 0 := (Nat.div_lt_iff_lt_mul hw).mpr hc
  have a3 : f % n 1 < n 1 := Nat.mod_lt _ hw
  have a4 : c % n 1 < n 1 := Nat.mod_lt _ hw
  have b1 : dd (f / n 1) (c / n 1) ≤ 5 := dd_le (by omega) (by omega)
  have b2 : dd (f % n 1) (c % n 1) ≤ 6 := dd_le (by omega) (by omega)
  unfold sSt sG
  generalize dd (f / n 1) (c / n 1) = x at *
  generalize dd (f % n 1) (c % n 1) = y at *
  by_cases hx : x = 0
  · subst hx; rw [Nat.gcd_zero_left]; omega
  · have := Nat.gcd_le_left y (Nat.pos_of_ne_zero hx); omega
def sAt (f c g m : Nat) : Nat := (f * (g - m) + c * m) / g
theorem sAt_int {f c g m : Nat} {t : Int} (hg : 0 < g) (hm : m ≤ g) (ht : (c : Int) - f = g * t) : ((sAt f c g m : Nat) : Int) = f + m * t := by
  have e : ((f * (g - m) + c * m : Nat) : Int) = g * (f + m * t) := by
    have h1 : ((g - m : Nat) : Int) = (g : Int) - m := by omega
    rw [Int.natCast_add, Int.natCast_mul, Int.natCast_mul, h1]
    have : (c : Int) = f + g * t := by omega
    rw [this]
    grind
  unfold sAt
  rw [Int.natCast_ediv, e]
  exact Int.mul_ediv_cancel_left _ (by omega)
theorem sAt_le {f c g m : Nat} (hg : 0 < g) (hm : m ≤ g) {N : Nat} (hf : f < N) (hc : c < N) : sAt f c g m < N := by
  unfold sAt
  rw [Nat.div_lt_iff_lt_mul hg]
  have h1 : f * (g - m) ≤ (N - 1) * (g - m) := Nat.mul_le_mul_right _ (by omega)
  have h2 : c * m ≤ (N - 1) * m := Nat.mul_le_mul_right _ (by omega)
  have h3 : (N - 1) * (g - m) + (N - 1) * m = (N - 1) * g := by rw [← Nat.mul_add]; congr 1; omega
  have h4 : (N - 1) * g < N * g := Nat.mul_lt_mul_of_pos_right (by omega) hg
  omega
theorem div_int {x g : Int32} {t : Int} (hg : g.toInt ≠ 0) (h : x.toInt = g.toInt * t) (h1 : -1000 ≤ t) (h2 : t ≤ 1000) : (x / g).toInt = t := by
  rw [Int32.toInt_div, h, Int.mul_tdiv_cancel_left _ hg]
  exact fb_bmod (by omega) (by omega)
theorem at_eq {n : Nat → Nat} {f c m : Nat} (hf : f < 42) (hc : c < 42) (hm : m ≤ sSt n f c) (hg : sSt n f c ≤ 6) : nI f + nI m * ((nI c - nI f) / nI (sSt n f c)) = nI (sAt f c (sSt n f c) m) := by
  obtain ⟨t, ht⟩ := sSt_div' n f c
  have hg0 := sSt_pos n f c
  have hA := sAt_int hg0 hm ht
  have hlt := sAt_le (N := 42) hg0 hm hf hc
  generalize sSt n f c = g at *
  have ti : (nI c - nI f).toInt = (c : Int) - f := pk_sub_toInt (by omega) (by omega)
  have tg : (nI g).toInt = (g : Int) := nI_toInt (by omega)
  have hb : -1000 ≤ t ∧ t ≤ 1000 := by
    constructor
    · rcases Int.lt_or_le t (-1000) with q | q
      · have : (g : Int) * t ≤ 1 * t := Int.mul_le_mul_of_nonpos_right (by omega) (by omega)
        omega
      · exact q
    · rcases Int.lt_or_le 1000 t with q | q
      · have : 1 * t ≤ (g : Int) * t := Int.mul_le_mul_of_nonneg_right (by omega) (by omega)
        omega
      · exact q
  have td : ((nI c - nI f) / nI g).toInt = t := div_int (by rw [tg]; omega) (by rw [ti, tg]; exact ht) hb.1 hb.2
  have tm : (nI m).toInt = (m : Int) := nI_toInt (by omega)
  have hmt : -6000 ≤ (m : Int) * t ∧ (m : Int) * t ≤ 6000 := by omega
  have tp : (nI m * ((nI c - nI f) / nI g)).toInt = (m : Int) * t := by
    rw [fb_mulI (by rw [tm, td]; omega) (by rw [tm, td]; omega), tm, td]
  apply Int32.toInt_inj.mp
  rw [nI_toInt (by omega), fb_addI (by rw [tp, nI_toInt (by omega)]; omega) (by rw [tp, nI_toInt (by omega)]; omega), tp, nI_toInt (by omega), hA]

/-- what a thing on the m-th of g steps hides -/
def sBit (n : Nat → Nat) (A : Nat → Nat → Nat) (f c g h y m : Nat) : Nat := if 10 ≤ A 0 (sAt f c g m) ∧ sThere n (A 0 (sAt f c g m) - 10) = true ∧ 2 * g + m * h ≤ sTall n A y (A 0 (sAt f c g m) - 10) * g + 2 * m then 2 ^ (A 0 (sAt f c g m) - 10) else 0
def sWay (n : Nat → Nat) (A : Nat → Nat → Nat) (b c h y : Nat) : Nat := orM (fun i => sBit n A (A 1 b) c (sSt n (A 1 b) c) h y (i + 1)) (sSt n (A 1 b) c - 1)
theorem sTall_le {n : Nat → Nat} {A : Nat → Nat → Nat} {y t : Nat} (h : A 4 t ≤ 9) (hy : y ≤ 30) : sTall n A y t ≤ 20 := by
  unfold sTall; split
  · omega
  · split <;> split <;> omega
theorem sBit_lt {n : Nat → Nat} {A : Nat → Nat → Nat} {f c g h y m : Nat} (hW : WF n A) (hg : 0 < g) (hm : m ≤ g) (hf : f < n 0 * n 1) (hc : c < n 0 * n 1) : sBit n A f c g h y m < 2 ^ 10 := by
  obtain ⟨w0, w1, w2, w3, w4, w5, w6, w7, w8, wA0, wA1, wA2⟩ := hW
  have := wA0 _ (sAt_le hg hm hf hc)
  unfold sBit; split
  · exact Nat.pow_lt_pow_right (by decide) (by omega)
  · decide
theorem sWay_lt {n : Nat → Nat} {A : Nat → Nat → Nat} {b c h y : Nat} (hW : WF n A) (hb : b < n 2) (hc : c < n 0 * n 1) : sWay n A b c h y < 2 ^ 10 := by
  have hf := hW.2.2.2.2.2.2.2.2.2.2.1 b hb
  exact orM_lt (fun i hi => sBit_lt hW (sSt_pos _ _ _) (by omega) hf hc)
theorem line_lt {T g m h : Nat} (hT : T ≤ 20) (hg : g ≤ 6) (hm : m ≤ 6) (hh : h ≤ 20) : nI (T * g) < nI (2 * g) + nI m * (nI h - nI 2) ↔ T * g + 2 * m < 2 * g + m * h := by
  have a1 : T * g ≤ 20 * 6 := Nat.mul_le_mul hT hg
  have a2 : m * h ≤ 6 * 20 := Nat.mul_le_mul hm hh
  have ts : (nI h - nI 2).toInt = (h : Int) - 2 := pk_sub_toInt (by omega) (by decide)
  have tm : (nI m).toInt = (m : Int) := nI_toInt (by omega)
  have e : (m : Int) * ((h : Int) - 2) = ((m * h : Nat) : Int) - 2 * m := by rw [Int.natCast_mul]; grind
  have tp : (nI m * (nI h - nI 2)).toInt = ((m * h : Nat) : Int) - 2 * m := by
    rw [fb_mulI (by rw [tm, ts, e]; omega) (by rw [tm, ts, e]; omega), tm, ts, e]
  have tq : (nI (2 * g) + nI m * (nI h - nI 2)).toInt = ((2 * g : Nat) : Int) + (((m * h : Nat) : Int) - 2 * m) := by
    rw [fb_addI (by rw [tp, nI_toInt (by omega)]; omega) (by rw [tp, nI_toInt (by omega)]; omega), tp, nI_toInt (by omega)]
  rw [Int32.lt_iff_toInt_lt, nI_toInt (by omega), tq]
  omega
theorem stI_pos {k : Nat} (h : 0 < k) : stI k = nI (k - 1) := by
  cases k with
  | zero => omega
  | succ k => rfl
theorem stI_ne {k : Nat} (h : k ≤ 42) : stI k = -9 ↔ k = 0 := by
  cases k with
  | zero => simp [stI]
  | succ k =>
    simp only [stI]
    constructor
    · intro q
      have := congrArg Int32.toInt q
      rw [nI_toInt (by omega)] at this
      have e : (-9 : Int32).toInt = -9 := rfl
      omega
    · intro q; omega
theorem sAt_lt {n : Nat → Nat} {A : Nat → Nat → Nat} {b c m : Nat} (hW : WF n A) (hb : b < n 2) (hc : c < n 0 * n 1) (hm : m ≤ sSt n (A 1 b) c) : sAt (A 1 b) c (sSt n (A 1 b) c) m < n 0 * n 1 := sAt_le (sSt_pos _ _ _) hm (hW.2.2.2.2.2.2.2.2.2.2.1 b hb) hc
end
section
/-! the ground's answers -/
def andn (w wo : Nat) : Nat := w &&& (wo ^^^ 4294967295)
theorem nI_xor (a b : Nat) : nI a ^^^ nI b = nI (a ^^^ b) := fb_xorI a b
theorem m1_nI : (-1 : Int32) = nI 4294967295 := by decide
theorem andn_bit {w wo i : Nat} (hi : i < 32) : (andn w wo).testBit i = (w.testBit i && !wo.testBit i) := by
  unfold andn
  rw [Nat.testBit_and, Nat.testBit_xor, show (4294967295 : Nat) = 2 ^ 32 - 1 from rfl, Nat.testBit_two_pow_sub_one]
  simp [hi]
theorem andn_lt {w wo e : Nat} (h : w < 2 ^ e) : andn w wo < 2 ^ e := Nat.lt_of_le_of_lt Nat.and_le_left h
theorem andn_zero {w : Nat} (h : w < 2 ^ 32) : andn w 0 = w := by
  unfold andn
  rw [Nat.zero_xor, show (4294967295 : Nat) = 2 ^ 32 - 1 from rfl, Nat.and_two_pow_sub_one_eq_mod, Nat.mod_eq_of_lt h]
def pop4 (m : Nat) : Nat := m % 2 + m / 2 % 2 + m / 4 % 2 + m / 8 % 2
theorem pop4_le (m : Nat) : pop4 m ≤ 4 := by unfold pop4; omega
def sSeen (n : Nat → Nat) (A : Nat → Nat → Nat) (b c : Nat) : Nat := orB (fun p => decide (sWay n A b c (n 7 + (1 + 2 * p)) (n 4) = 0)) 4
theorem sSeen_lt (n : Nat → Nat) (A : Nat → Nat → Nat) (b c : Nat) : sSeen n A b c < 2 ^ 4 := orB_lt _ _
def sAll (n : Nat → Nat) (A : Nat → Nat → Nat) : Nat := sumN (fun b => pop4 (sSeen n A b (n 6 - 1))) (n 2)
def sFoot (n : Nat → Nat) (A : Nat → Nat → Nat) (b y : Nat) : Nat := sWay n A b (n 6 - 1) (n 7 + 1) y
def sHid (n : Nat → Nat) (A : Nat → Nat → Nat) : Nat := orM (fun b => sFoot n A b (n 4)) (n 2)
def sCost (n : Nat → Nat) (A : Nat → Nat → Nat) (ts : Nat) : Nat := sumN (fun t => if ts.testBit t then A 5 t else 0) (n 3)
def sComp (n : Nat → Nat) (A : Nat → Nat → Nat) (wo y : Nat) : Nat := orB (fun b => decide (¬ andn (sFoot n A b y) wo = 0)) (n 2)
def sWhole (n : Nat → Nat) (A : Nat → Nat → Nat) : Nat := orB (fun b => decide (sFoot n A b (n 4) = 0)) (n 2)
def sCnt (n : Nat → Nat) (A : Nat → Nat → Nat) (c bl : Nat) : Nat := cntB (fun b => decide (sWay n A b c (bl + 1) (n 4) = 0)) (n 2)
def bst (fr : Nat → Bool) (ct : Nat → Nat) : Nat → Nat × Nat
  | 0 => (0, 0)
  | k + 1 => if fr k = true ∧ (bst fr ct k).2 < ct k + 1 then (k + 1, ct k + 1) else bst fr ct k
def pI : Nat → Int32
  | 0 => -1
  | k + 1 => nI k
def sBest (n : Nat → Nat) (A : Nat → Nat → Nat) (bl : Nat) : Nat → Nat × Nat := bst (fun c => decide (A 0 c = 0)) (fun c => sCnt n A c bl)
def sLeast (n : Nat → Nat) (A : Nat → Nat → Nat) (c : Nat) : Nat → Nat × Nat := bst (fun _ => true) (fun bl => sCnt n A c bl)
def sMoved (n : Nat → Nat) (A : Nat → Nat → Nat) (told : Nat) : Nat := orB (fun t => sThere n t && decide (sComp n A (2 ^ t) (n 4) = told)) (n 3)
def fyr (n : Nat → Nat) (A : Nat → Nat → Nat) : Nat → Nat → Int32
  | 0, _ => -9
  | k + 1, y => if sComp n A 0 y = 0 then fyr n A k (y + 1) else nI y
def sAny (n : Nat → Nat) (A : Nat → Nat → Nat) (bs c : Nat) : Nat := orB (fun b => bs.testBit b && decide (¬ sSeen n A b c = 0)) (n 2)
def sSec (n : Nat → Nat) (A : Nat → Nat → Nat) : Nat := orB (fun c => decide (A 0 c = 0) && (decide (¬ c = n 6 - 1) && decide (sAny n A (sWhole n A) c = 0))) (n 0 * n 1)
def sLitP (n : Nat → Nat) (A : Nat → Nat → Nat) (t : Nat) : Nat := orB (fun p => decide (n 7 + (1 + 2 * p) ≤ sTall n A (n 4) t)) 4
def sLit (n : Nat → Nat) (A : Nat → Nat → Nat) (t : Nat) : Nat := if A 2 t = 0 ∧ sThere n t = true ∧ dd (A 3 t / n 1) ((n 6 - 1) / n 1) ≤ 3 ∧ dd (A 3 t % n 1) ((n 6 - 1) % n 1) ≤ 3 then sLitP n A t else 0
theorem sLit_lt (n : Nat → Nat) (A : Nat → Nat → Nat) (t : Nat) : sLit n A t < 2 ^ 4 := by
  unfold sLit; split
  · exact orB_lt _ _
  · decide
def sLits (n : Nat → Nat) (A : Nat → Nat → Nat) : Nat := orM (sLit n A) (n 3)
def fstB (p : Nat → Bool) : Nat → Nat
  | 0 => 0
  | k + 1 => if fstB p k = 0 then (if p k then k + 1 else 0) else fstB p k
def p2 : Nat → Nat
  | 0 => 0
  | t + 1 => 2 ^ t
def sFew (n : Nat → Nat) (A : Nat → Nat → Nat) : Nat := if sLits n A = 0 then 0 else p2 (fstB (fun t => decide (sLit n A t = sLits n A)) (n 3))
theorem fstB_no {p : Nat → Bool} : ∀ {k : Nat}, (∀ j, j < k → p j = false) → fstB p k = 0
  | 0, _ => rfl
  | k + 1, h => by simp [fstB, fstB_no (k := k) (fun j hj => h j (by omega)), h k (by omega)]
theorem fstB_yes {p : Nat → Bool} {k : Nat} (h : ∀ j, j < k → p j = false) (hk : p k = true) : ∀ {m : Nat}, k < m → fstB p m = k + 1
  | 0, hm => by omega
  | m + 1, hm => by
    by_cases e : k = m
    · subst e; simp [fstB, fstB_no h, hk]
    · simp [fstB, fstB_yes h hk (m := m) (by omega)]
theorem orB_ne {f : Nat → Bool} {k m : Nat} (h : f k = true) (hk : k < m) : ¬ orB f m = 0 := by
  intro e
  have := orB_bit f m k
  rw [e, h] at this
  simp at this
  omega
theorem comp_of {f : Nat → Bool} {k : Nat} (hk : k < 32) : andn (2 ^ k - 1) (orB f k) = orB (fun b => !f b) k := by
  apply Nat.eq_of_testBit_eq
  intro i
  by_cases hi : i < 32
  · rw [andn_bit hi, orB_bit, orB_bit, Nat.testBit_two_pow_sub_one]
    by_cases h : i < k <;> simp [h]
  · have h1 : andn (2 ^ k - 1) (orB f k) < 2 ^ i := Nat.lt_of_lt_of_le (andn_lt (e := k) (by have := Nat.two_pow_pos k; omega)) (Nat.pow_le_pow_right (by decide) (by omega))
    have h2 : orB (fun b => !f b) k < 2 ^ i := Nat.lt_of_lt_of_le (orB_lt _ k) (Nat.pow_le_pow_right (by decide) (by omega))
    rw [Nat.testBit_lt_two_pow h1, Nat.testBit_lt_two_pow h2]
theorem bst_le {fr : Nat → Bool} {ct : Nat → Nat} {b : Nat} (h : ∀ k, ct k ≤ b) : ∀ k, (bst fr ct k).1 ≤ k ∧ (bst fr ct k).2 ≤ b + 1
  | 0 => by simp [bst]
  | k + 1 => by
    have ih := bst_le (fr := fr) h k
    have := h k
    rw [bst]; split
    · simp; omega
    · omega
theorem pI_lt {a b : Nat} (ha : a < 2 ^ 31) (hb : b < 2 ^ 31) : nI a ≤ pI b ↔ a + 1 ≤ b := by
  cases b with
  | zero =>
    constructor
    · intro h
      have h1 := Int32.le_iff_toInt_le.mp h
      rw [nI_toInt ha] at h1
      have e : (pI 0).toInt = -1 := rfl
      omega
    · intro h; omega
  | succ b => rw [show pI (b + 1) = nI b from rfl, nI_leI ha (by omega)]; omega
theorem sCnt_le (n : Nat → Nat) (A : Nat → Nat → Nat) (c bl : Nat) : sCnt n A c bl ≤ n 2 := cntB_le _ _
theorem fyr_end {n : Nat → Nat} {A : Nat → Nat → Nat} {k : Nat} (y : Nat) (h : k = 0) : (-9 : Int32) = fyr n A k y := by subst h; rfl
end
section
theorem whole_of {n : Nat → Nat} {A : Nat → Nat → Nat} (hW : WF n A) (hst : 0 < n 6) : 2 ^ n 2 - 1 &&& (sComp n A 0 (n 4) ^^^ 4294967295) = sWhole n A := by
  have h2 : n 2 ≤ 12 := hW.2.2.1
  show andn (2 ^ n 2 - 1) (orB _ (n 2)) = _
  rw [comp_of (by omega)]
  apply orB_cong
  intro b hb
  have hc : n 6 - 1 < n 0 * n 1 := by have := hW.2.2.2.2.2.2.1; omega
  have hlt := sWay_lt (h := n 7 + 1) (y := n 4) hW hb hc
  have e : andn (sFoot n A b (n 4)) 0 = sFoot n A b (n 4) := andn_zero (Nat.lt_trans hlt (by decide))
  show (!decide (¬ andn (sFoot n A b (n 4)) 0 = 0)) = decide (sFoot n A b (n 4) = 0)
  rw [e]
  by_cases q : sFoot n A b (n 4) = 0 <;> simp [q]
end
section
theorem pI_ge (k : Nat) : (-1 : Int32) ≤ pI k ∨ k = k := Or.inr rfl
theorem pI_min {k : Nat} (h : k < 2 ^ 31) : (-1 : Int32) ≤ pI k := by
  cases k with
  | zero => decide
  | succ k =>
    rw [Int32.le_iff_toInt_le, show pI (k + 1) = nI k from rfl, nI_toInt (by omega)]
    have : (-1 : Int32).toInt = -1 := rfl
    omega
theorem lN_shl {k : Nat} (hk : k < 63) : (1 : Int64) <<< ((nI k).toInt64 &&& 63) = lN (2 ^ k) := by
  have h : ∀ k, k < 63 → (1 : Int64) <<< ((nI k).toInt64 &&& 63) = lN (2 ^ k) := by decide +kernel
  exact h k hk
theorem sec_or {f : Nat → Bool} {k : Nat} (h : f k = true) (hk : k < 63) : lN (orB f k) ||| (1 : Int64) <<< ((nI k).toInt64 &&& 63) = lN (orB f (k + 1)) := by
  rw [lN_shl hk, fb_orL, orB_t h]
end
section
/-! contracts that read the table of the parts' heights -/
def phF : Nat → Value := fun j => .int (nI (1 + 2 * j))
def hpS (tH : Nat) (B : Nat → Prop) (U : State) (H : Heap) : Prop := va_Z "StatueSquare$Ground" "PART_HEIGHTS" "[I" (.ref tH) B U H ∧ va_T .int tH 4 phF B U H
theorem hpS.moved {tH : Nat} {B : Nat → Prop} {u U : State} {H : Heap} (hvm : u.vm.Alike U.vm) (h : hpS tH B u H) : hpS tH B U H := ⟨h.1.moved hvm, h.2.moved hvm⟩
theorem hpS.kept {tH : Nat} {B : Nat → Prop} {U : State} {H H1 : Heap} (h : hpS tH B U H) (hq : ∀ a : Nat, a < H.size → ¬ B a → H1[a]? = H[a]?) : hpS tH B U H1 := ⟨h.1.kept hq, h.2.kept hq⟩
theorem hpS.narrow {tH : Nat} {B C : Nat → Prop} {U : State} {H : Heap} (h : hpS tH B U H) (hAB : ∀ q, C q → B q) : hpS tH C U H := ⟨h.1.narrow hAB, h.2.narrow hAB⟩
abbrev rsP (tH : Nat) (av : List Value) (sz : Nat) (D : va_G) (tys : List (ClassId × FieldType)) (wd : va_W) : Array Value → State → Prop := va_Pc av (fun U => U.heap.size = sz ∧ va_P D vwCl wd U.heap ∧ va_K D vwCl tys U ∧ hpS tH (va_A [] sz) U U.heap)
theorem blind_rs {tH : Nat} {av : List Value} {sz : Nat} {D : va_G} {tys : List (ClassId × FieldType)} {wd : va_W} : FrameBlind (rsP tH av sz D tys wd) := fun a U g mk q => by
  obtain ⟨q0, q1, qP, qK, qS⟩ := q
  exact ⟨q0, q1, qP, va_K.moved (u := U) (U := U.calling g mk a) (Vm.Alike.refl U.vm) qK, hpS.moved (u := U) (U := U.calling g mk a) (Vm.Alike.refl U.vm) qS⟩
section METS
variable {l : Launch} {y : MethodName} {ws ws' : List Cond} {rm : Room} {cc : ByteArray} {maxL sz tH : Nat} {D : va_G} {tys : List (ClassId × FieldType)} {wd w' : va_W} {av : List Value}
theorem rs_met_i {v : Int32} (hy : plainName y.cls = true) (hw : ws = Cond.code y cc maxL (some .int) :: ws') (hn : (lg_sl av).length ≤ maxL)
    (body : ∀ (p : Program) (e : Env) (s : State) (m : MethodId) (args : Array Value) (below : List Frame) (meth : Method) (c : Code) (R : Room) (Q : State → Prop) (A : Nat → Prop),
      p.tables.exec = Jvm.exec → c.code = cc → c.maxLocals = maxL → s.vm.findClass y.cls = some m.cls → (∀ w ∈ ws, w.before args s = true) → rm.frames ≤ R.frames → rm.locals ≤ R.locals →
      va_P D vwCl wd s.heap → va_K D vwCl tys s → (∀ q, s.heap.size ≤ q → A q) → va_S A s.heap s.heap [] → hpS tH A s s.heap →
      (∀ (r : Int32) (H : Heap) (locs : List Loc) (pc : Nat) (ls : Array Slot), r = v → va_S A s.heap H locs → decode cc pc = .ok (.ireturn, 1) → W p l e R s m args below meth c H locs 0 0 Q (F0 m pc ls [.int r])) →
      ∀ ls, lv_has ls maxL (lv_args 0 av) → W p l e R s m args below meth c s.heap [] 0 0 Q (F0 m 0 ls [])) : Met l y ws rm (rsP tH av sz D tys wd) (roQi v sz) 0 0 (va_A [] sz) := by
  refine Met.ofW (cc := cc) (maxL := maxL) (ret := some .int) hy hw ?_
  intro p e s m args below meth c s₁ B hml hv
  obtain ⟨rfl, hsz, hP, hK, hZT⟩ := hv
  subst hsz
  rw [lg_entry_eq]
  exact body p e s m av.toArray below meth c (headSpec ws rm).room _ (va_A [] s.heap.size) B.exec B.bytes hml (findClass_of_methodNamed B.named) (atoms_spec (ws := ws) B.pre) (Nat.le_refl _) (Nat.le_refl _) hP hK (fun q h => Or.inr h) va_S.rf hZT
    (fun r H locs pc ls hp hS hd => W.iret B.exec B.bytes B.returns (fun t ht hW => ⟨⟨r, (), rfl, hp, trivial⟩, hS.F ht⟩) hS.2.2 hd B.notSynchronized) _ (lv_entry av hn)
theorem rs_met_z {v : Bool} (hy : plainName y.cls = true) (hw : ws = Cond.code y cc maxL (some .boolean) :: ws') (hn : (lg_sl av).length ≤ maxL)
    (body : ∀ (p : Program) (e : Env) (s : State) (m : MethodId) (args : Array Value) (below : List Frame) (meth : Method) (c : Code) (R : Room) (Q : State → Prop) (A : Nat → Prop),
      p.tables.exec = Jvm.exec → c.code = cc → c.maxLocals = maxL → s.vm.findClass y.cls = some m.cls → (∀ w ∈ ws, w.before args s = true) → rm.frames ≤ R.frames → rm.locals ≤ R.locals →
      va_P D vwCl wd s.heap → va_K D vwCl tys s → (∀ q, s.heap.size ≤ q → A q) → va_S A s.heap s.heap [] → hpS tH A s s.heap →
      (∀ (r : Int32) (H : Heap) (locs : List Loc) (pc : Nat) (ls : Array Slot), r = bI v → va_S A s.heap H locs → decode cc pc = .ok (.ireturn, 1) → W p l e R s m args below meth c H locs 0 0 Q (F0 m pc ls [.int r])) →
      ∀ ls, lv_has ls maxL (lv_args 0 av) → W p l e R s m args below meth c s.heap [] 0 0 Q (F0 m 0 ls [])) : Met l y ws rm (rsP tH av sz D tys wd) (roQi (bI v) sz) 0 0 (va_A [] sz) := by
  refine Met.ofW (cc := cc) (maxL := maxL) (ret := some .boolean) hy hw ?_
  intro p e s m args below meth c s₁ B hml hv
  obtain ⟨rfl, hsz, hP, hK, hZT⟩ := hv
  subst hsz
  rw [lg_entry_eq]
  exact body p e s m av.toArray below meth c (headSpec ws rm).room _ (va_A [] s.heap.size) B.exec B.bytes hml (findClass_of_methodNamed B.named) (atoms_spec (ws := ws) B.pre) (Nat.le_refl _) (Nat.le_refl _) hP hK (fun q h => Or.inr h) va_S.rf hZT
    (fun r H locs pc ls hp hS hd => W.zret B.exec B.bytes B.returns (by rw [hp]; exact bI_nar v) (fun t ht hW => ⟨⟨r, (), rfl, hp, trivial⟩, hS.F ht⟩) hS.2.2 hd B.notSynchronized) _ (lv_entry av hn)
theorem rs_met_l {v : Int64} (hy : plainName y.cls = true) (hw : ws = Cond.code y cc maxL (some .long) :: ws') (hn : (lg_sl av).length ≤ maxL)
    (body : ∀ (p : Program) (e : Env) (s : State) (m : MethodId) (args : Array Value) (below : List Frame) (meth : Method) (c : Code) (R : Room) (Q : State → Prop) (A : Nat → Prop),
      p.tables.exec = Jvm.exec → c.code = cc → c.maxLocals = maxL → s.vm.findClass y.cls = some m.cls → (∀ w ∈ ws, w.before args s = true) → rm.frames ≤ R.frames → rm.locals ≤ R.locals →
      va_P D vwCl wd s.heap → va_K D vwCl tys s → (∀ q, s.heap.size ≤ q → A q) → va_S A s.heap s.heap [] → hpS tH A s s.heap →
      (∀ (r : Int64) (H : Heap) (locs : List Loc) (pc : Nat) (ls : Array Slot), r = v → va_S A s.heap H locs → decode cc pc = .ok (.lreturn, 1) → W p l e R s m args below meth c H locs 0 0 Q (F0 m pc ls [.long r])) →
      ∀ ls, lv_has ls maxL (lv_args 0 av) → W p l e R s m args below meth c s.heap [] 0 0 Q (F0 m 0 ls [])) : Met l y ws rm (rsP tH av sz D tys wd) (roQl v sz) 0 0 (va_A [] sz) := by
  refine Met.ofW (cc := cc) (maxL := maxL) (ret := some .long) hy hw ?_
  intro p e s m args below meth c s₁ B hml hv
  obtain ⟨rfl, hsz, hP, hK, hZT⟩ := hv
  subst hsz
  rw [lg_entry_eq]
  exact body p e s m av.toArray below meth c (headSpec ws rm).room _ (va_A [] s.heap.size) B.exec B.bytes hml (findClass_of_methodNamed B.named) (atoms_spec (ws := ws) B.pre) (Nat.le_refl _) (Nat.le_refl _) hP hK (fun q h => Or.inr h) va_S.rf hZT
    (fun r H locs pc ls hp hS hd => W.lret B.exec B.bytes B.returns (fun t ht hW => ⟨⟨r, (), rfl, hp, trivial⟩, hS.F ht⟩) hS.2.2 hd B.notSynchronized) _ (lv_entry av hn)
end METS
section CALLS
variable {p : Program} {l : Launch} {e : Env} {R : Room} {s : State} {m : MethodId} {args : Array Value} {below : List Frame} {meth : Method} {c : Code} {H : Heap} {locs : List Loc} {cells slots : Nat} {Q : State → Prop} {A : Nat → Prop}
variable {y : MethodName} {bytes cc : ByteArray} {maxL nL n index pc b tH : Nat} {ret : Option FieldType} {ws : List Cond} {rm : Room} {Ts : List Cond} {own C : String} {As rest st : List Value} {ls : Array Slot} {D : va_G} {tc : List (ClassId × FieldType)} {wc w1 wd : va_W}
theorem rsV_i {v : Int32} (S : CallFix p m c cc nL s args Ts own) (hM : Met l y ws rm (rsP tH (.ref b :: As) H.size D tc wc) (roQi v H.size) 0 0 (va_A [] H.size)) (cw : CallW R s args own C index y bytes maxL ret ws rm 0 0 n)
    (hrec : ∃ cellB : Cell, H[b]? = some cellB ∧ cellB.vm.isStatics = false ∧ s.vm.findClass C = some cellB.cls) (hKc : va_K D vwCl tc s) (hPc : va_P D vwCl wc H) (hn : As.length = n) (hsize : ls.size = nL) (hst : st = As.reverse ++ .ref b :: rest) (hroom : (rest.map fun v => v.category).sum ≤ 8) (hdg : decode cc pc = .ok (.invokevirtual index, 3)) (hcap : cells ≤ R.cells ∧ slots ≤ R.slots)
    (hP : va_P D vwCl wd H) (hS : va_S A s.heap H locs) (hA : ∀ q, s.heap.size ≤ q → A q) (hZT : hpS tH A s s.heap)
    (kk : ∀ (H1 : Heap) (locs1 : List Loc), va_P D vwCl wd H1 → va_S A s.heap H1 locs1 → W p l e R s m args below meth c H1 locs1 cells slots Q (F0 m (pc + 3) ls (.int v :: rest))) : W p l e R s m args below meth c H locs cells slots Q (F0 m pc ls st) := by
  refine va_calli (va_runV S hM cw ⟨blind_rs, hrec, fun U hU hW => ⟨rfl, by rw [hU], by rw [hU]; exact hPc, va_K.moved hW.alike hKc, by rw [hU]; exact ((hZT.kept hS.2.1).moved hW.alike).narrow (freeA hS hA)⟩⟩ rfl hn hsize hst (lv_room (m := m) (pc := pc) (ls := ls) (rest := st) hroom) hdg hcap) hS (fun q _ h => freeA hS hA q h) (freeA hS hA) (fun r u t H1 locs1 ht hvm hw hB hz hk hS1 => ?_)
  subst hw
  exact kk H1 locs1 (keptA hP hk) hS1
theorem rsV_l {v : Int64} (S : CallFix p m c cc nL s args Ts own) (hM : Met l y ws rm (rsP tH (.ref b :: As) H.size D tc wc) (roQl v H.size) 0 0 (va_A [] H.size)) (cw : CallW R s args own C index y bytes maxL ret ws rm 0 0 n)
    (hrec : ∃ cellB : Cell, H[b]? = some cellB ∧ cellB.vm.isStatics = false ∧ s.vm.findClass C = some cellB.cls) (hKc : va_K D vwCl tc s) (hPc : va_P D vwCl wc H) (hn : As.length = n) (hsize : ls.size = nL) (hst : st = As.reverse ++ .ref b :: rest) (hroom : (rest.map fun v => v.category).sum ≤ 8) (hdg : decode cc pc = .ok (.invokevirtual index, 3)) (hcap : cells ≤ R.cells ∧ slots ≤ R.slots)
    (hP : va_P D vwCl wd H) (hS : va_S A s.heap H locs) (hA : ∀ q, s.heap.size ≤ q → A q) (hZT : hpS tH A s s.heap)
    (kk : ∀ (H1 : Heap) (locs1 : List Loc), va_P D vwCl wd H1 → va_S A s.heap H1 locs1 → W p l e R s m args below meth c H1 locs1 cells slots Q (F0 m (pc + 3) ls (.long v :: rest))) : W p l e R s m args below meth c H locs cells slots Q (F0 m pc ls st) := by
  refine va_calll (va_runV S hM cw ⟨blind_rs, hrec, fun U hU hW => ⟨rfl, by rw [hU], by rw [hU]; exact hPc, va_K.moved hW.alike hKc, by rw [hU]; exact ((hZT.kept hS.2.1).moved hW.alike).narrow (freeA hS hA)⟩⟩ rfl hn hsize hst (lv_room (m := m) (pc := pc) (ls := ls) (rest := st) hroom) hdg hcap) hS (fun q _ h => freeA hS hA q h) (freeA hS hA) (fun r u t H1 locs1 ht hvm hw hB hz hk hS1 => ?_)
  subst hw
  exact kk H1 locs1 (keptA hP hk) hS1
theorem x_getph {own : String} (hx : p.tables.exec = Jvm.exec) (hb : c.code = cc) (hZT : hpS tH A s s.heap) (hS : va_S A s.heap H locs) (hown : s.vm.findClass own = some m.cls) (hlink : (Cond.fieldLink own index "StatueSquare$Ground" "PART_HEIGHTS" "[I").before args s = true) (hdg : decode cc pc = .ok (.getstatic index, 3))
    (kk : W p l e R s m args below meth c H locs cells slots Q (F0 m (pc + 3) ls (.ref tH :: rest))) : W p l e R s m args below meth c H locs cells slots Q (F0 m pc ls rest) := va_gets hx hb hZT.1 hS hown hlink (fun _ h => h) hdg kk
theorem x_phald (hx : p.tables.exec = Jvm.exec) (hb : c.code = cc) (hZT : hpS tH A s s.heap) (hS : va_S A s.heap H locs) {j : Nat} (hj : j < 4) (hdg : decode cc pc = .ok (.iaload, 1))
    (kk : W p l e R s m args below meth c H locs cells slots Q (F0 m (pc + 1) ls (.int (nI (1 + 2 * j)) :: rest))) : W p l e R s m args below meth c H locs cells slots Q (F0 m pc ls (.int (nI j) :: .ref tH :: rest)) := va_ti hx hb hZT.2 hS (vp_in_nI hj (by decide)) (by rw [nI_clamp (by omega)]; rfl) hdg kk
end CALLS
theorem pk_dec {k : Nat} (h : 0 < k) : nI k + Int32.ofInt (-1) = nI (k - 1) := sb_m1 h
theorem mod_b {a k N : Nat} (h : a < N) : a % k < N := Nat.lt_of_le_of_lt (Nat.mod_le _ _) h
end
section
set_option maxHeartbeats 4000000 in
set_option maxRecDepth 100000 in
theorem kX0_isLaid (l : Launch) (dC : Nat → ClassId) (dI : Nat → Nat → Nat) (cI : ClassId) (q n : Nat → Nat) (A : Nat → Nat → Nat) (X : Nat → Nat → Int32) (hW : WF n A) (hR : RG n A X) (sz : Nat) : Met l yX0_isLaid wsX0_isLaid ({ frames := 0, cells := 0, slots := 0, locals := 0 }) (roP [.ref (q 0)] sz (dC, dI) [(cI, .int)] (wG cI q n X)) (roQi (bI (decide (0 < n 0 * n 1))) sz) 0 0 (va_A [] sz) := by
  refine ro_met_z (by decide) rfl (Nat.le_of_ble_eq_true rfl) ?_
  intro pp ee ss mm aa bb me cd RR QQ Z hx hb hml hown hts hRf hRl hP hK hA hS hend ls hl
  have hown : ss.vm.findClass RX0 = some mm.cls := hown
  have hRf : 0 ≤ RR.frames := hRf
  have hRl : 0 ≤ RR.locals := hRl
  have hl : lv_has ls 1 [(0, .ref (q 0))] := hl
  obtain ⟨w0, w1, w2, w3, w4, w5, w6, w7, w8, wA0, wA1, wA2⟩ := id hW
  have wC : n 0 * n 1 ≤ 42 := Nat.mul_le_mul w0 w1
  have hf46 := hts (.fieldLink RX0 46 "StatueSquare$Ground" "cellCount" "I") (List.mem_of_getElem? (i := 1) rfl)
  have hinX0 : ∀ w ∈ u_ws RX0 TX0 17, w ∈ wsX0_isLaid := fun _ h => List.mem_cons_of_mem _ (List.mem_append_right _ h)
  refine lv_aload_n hx hb dX0_isLaid_0 rfl (lv_at hl 0 rfl) ?_
  refine x_get (D := (dC, dI)) (ci := 0) (v := .int (nI (n 0 * n 1))) (C := RX0) (T := TX0) (N := 17) hx hb hts hinX0 hown hK hP 0 rfl rfl 1 (Nat.le_of_ble_eq_true rfl) hf46 rfl rfl dX0_isLaid_1 ?_
  refine x_if_le (tgt := 11) hx hb (by omega) dX0_isLaid_4 (by decide) (fun c4 => ?_) (fun c4 => ?_)
  · skip
    refine lv_iconst (v := nI 0) hx hb dX0_isLaid_11 rfl ?_
    exact hend _ _ _ _ _ (by first | exact n1_b (by simp; omega) | exact n0_b (by simp; omega)) hS dX0_isLaid_12
  · skip
    refine lv_iconst (v := nI 1) hx hb dX0_isLaid_7 rfl ?_
    refine lv_goto (tgt := 12) hx hb dX0_isLaid_8 (by decide) ?_
    exact hend _ _ _ _ _ (by first | exact n1_b (by simp; omega) | exact n0_b (by simp; omega)) hS dX0_isLaid_12
set_option maxHeartbeats 4000000 in
set_option maxRecDepth 100000 in
theorem kX0_hasStatue (l : Launch) (dC : Nat → ClassId) (dI : Nat → Nat → Nat) (cI : ClassId) (q n : Nat → Nat) (A : Nat → Nat → Nat) (X : Nat → Nat → Int32) (hW : WF n A) (hR : RG n A X) (sz : Nat) : Met l yX0_hasStatue wsX0_hasStatue ({ frames := 0, cells := 0, slots := 0, locals := 0 }) (roP [.ref (q 0)] sz (dC, dI) [(cI, .int)] (wG cI q n X)) (roQi (bI (decide (0 < n 6))) sz) 0 0 (va_A [] sz) := by
  refine ro_met_z (by decide) rfl (Nat.le_of_ble_eq_true rfl) ?_
  intro pp ee ss mm aa bb me cd RR QQ Z hx hb hml hown hts hRf hRl hP hK hA hS hend ls hl
  have hown : ss.vm.findClass RX0 = some mm.cls := hown
  have hRf : 0 ≤ RR.frames := hRf
  have hRl : 0 ≤ RR.locals := hRl
  have hl : lv_has ls 1 [(0, .ref (q 0))] := hl
  obtain ⟨w0, w1, w2, w3, w4, w5, w6, w7, w8, wA0, wA1, wA2⟩ := id hW
  have wC : n 0 * n 1 ≤ 42 := Nat.mul_le_mul w0 w1
  have hf36 := hts (.fieldLink RX0 36 "StatueSquare$Ground" "statueCell" "I") (List.mem_of_getElem? (i := 1) rfl)
  have hinX0 : ∀ w ∈ u_ws RX0 TX0 17, w ∈ wsX0_hasStatue := fun _ h => List.mem_cons_of_mem _ (List.mem_append_right _ h)
  refine lv_aload_n hx hb dX0_hasStatue_0 rfl (lv_at hl 0 rfl) ?_
  refine x_get (D := (dC, dI)) (ci := 0) (v := .int (stI (n 6))) (C := RX0) (T := TX0) (N := 17) hx hb hts hinX0 hown hK hP 0 rfl rfl 15 (Nat.le_of_ble_eq_true rfl) hf36 rfl rfl dX0_hasStatue_1 ?_
  refine lv_bipush (v := -9) hx hb dX0_hasStatue_4 rfl ?_
  refine lv_icmp_eq (tgt := 13) hx hb dX0_hasStatue_6 (by decide) (fun c6 => ?_) (fun c6 => ?_)
  · skip
    refine lv_iconst (v := nI 0) hx hb dX0_hasStatue_13 rfl ?_
    exact hend _ _ _ _ _ (n0_b (by have := (stI_ne (by omega)).mp c6; simp; omega)) hS dX0_hasStatue_14
  · skip
    refine lv_iconst (v := nI 1) hx hb dX0_hasStatue_9 rfl ?_
    refine lv_goto (tgt := 14) hx hb dX0_hasStatue_10 (by decide) ?_
    exact hend _ _ _ _ _ (n1_b (by have := mt (stI_ne (by omega)).mpr c6; simp; omega)) hS dX0_hasStatue_14
set_option maxHeartbeats 4000000 in
set_option maxRecDepth 100000 in
theorem kX0_isFree (l : Launch) (dC : Nat → ClassId) (dI : Nat → Nat → Nat) (cI : ClassId) (q n : Nat → Nat) (A : Nat → Nat → Nat) (X : Nat → Nat → Int32) (hW : WF n A) (hR : RG n A X) (c : Nat) (sz : Nat) (hc : c < n 0 * n 1) : Met l yX0_isFree wsX0_isFree ({ frames := 0, cells := 0, slots := 0, locals := 0 }) (roP [.ref (q 0), .int (nI c)] sz (dC, dI) [(cI, .int)] (wG cI q n X)) (roQi (bI (decide (A 0 c = 0))) sz) 0 0 (va_A [] sz) := by
  refine ro_met_z (by decide) rfl (Nat.le_of_ble_eq_true rfl) ?_
  intro pp ee ss mm aa bb me cd RR QQ Z hx hb hml hown hts hRf hRl hP hK hA hS hend ls hl
  have hown : ss.vm.findClass RX0 = some mm.cls := hown
  have hRf : 0 ≤ RR.frames := hRf
  have hRl : 0 ≤ RR.locals := hRl
  have hl : lv_has ls 2 [(0, .ref (q 0)), (1, .int (nI c))] := hl
  obtain ⟨w0, w1, w2, w3, w4, w5, w6, w7, w8, wA0, wA1, wA2⟩ := id hW
  have wC : n 0 * n 1 ≤ 42 := Nat.mul_le_mul w0 w1
  have hf9 := hts (.fieldLink RX0 9 "StatueSquare$Ground" "has" "[I") (List.mem_of_getElem? (i := 1) rfl)
  have hinX0 : ∀ w ∈ u_ws RX0 TX0 17, w ∈ wsX0_isFree := fun _ h => List.mem_cons_of_mem _ (List.mem_append_right _ h)
  refine lv_aload_n hx hb dX0_isFree_0 rfl (lv_at hl 0 rfl) ?_
  refine x_get (D := (dC, dI)) (ci := 0) (v := .ref (q 1)) (C := RX0) (T := TX0) (N := 17) hx hb hts hinX0 hown hK hP 0 rfl rfl 4 (Nat.le_of_ble_eq_true rfl) hf9 rfl rfl dX0_isFree_1 ?_
  refine lv_iload_n hx hb dX0_isFree_4 rfl (lv_at hl 1 rfl) ?_
  refine x_iald (v := (nI (A 0 c))) hx hb hK hP 1 0 rfl rfl (by omega) (by decide) (hR.1 _ (by omega)).1 dX0_isFree_5 ?_
  refine x_if_ne (tgt := 13) hx hb (by have := wA0 c hc; omega) dX0_isFree_6 (by decide) (fun c6 => ?_) (fun c6 => ?_)
  · skip
    refine lv_iconst (v := nI 0) hx hb dX0_isFree_13 rfl ?_
    exact hend _ _ _ _ _ (by first | exact n1_b (by simp; omega) | exact n0_b (by simp; omega)) hS dX0_isFree_14
  · skip
    refine lv_iconst (v := nI 1) hx hb dX0_isFree_9 rfl ?_
    refine lv_goto (tgt := 14) hx hb dX0_isFree_10 (by decide) ?_
    exact hend _ _ _ _ _ (by first | exact n1_b (by simp; omega) | exact n0_b (by simp; omega)) hS dX0_isFree_14
set_option maxHeartbeats 4000000 in
set_option maxRecDepth 100000 in
theorem kX0_isThere (l : Launch) (dC : Nat → ClassId) (dI : Nat → Nat → Nat) (cI : ClassId) (q n : Nat → Nat) (A : Nat → Nat → Nat) (X : Nat → Nat → Int32) (hW : WF n A) (hR : RG n A X) (t : Nat) (sz : Nat) (ht : t < n 3) : Met l yX0_isThere wsX0_isThere ({ frames := 0, cells := 0, slots := 0, locals := 0 }) (roP [.ref (q 0), .int (nI t)] sz (dC, dI) [(cI, .int)] (wG cI q n X)) (roQi (bI (sThere n t)) sz) 0 0 (va_A [] sz) := by
  refine ro_met_z (by decide) rfl (Nat.le_of_ble_eq_true rfl) ?_
  intro pp ee ss mm aa bb me cd RR QQ Z hx hb hml hown hts hRf hRl hP hK hA hS hend ls hl
  have hown : ss.vm.findClass RX0 = some mm.cls := hown
  have hRf : 0 ≤ RR.frames := hRf
  have hRl : 0 ≤ RR.locals := hRl
  have hl : lv_has ls 2 [(0, .ref (q 0)), (1, .int (nI t))] := hl
  obtain ⟨w0, w1, w2, w3, w4, w5, w6, w7, w8, wA0, wA1, wA2⟩ := id hW
  have wC : n 0 * n 1 ≤ 42 := Nat.mul_le_mul w0 w1
  have hf68 := hts (.fieldLink RX0 68 "StatueSquare$Ground" "cutThings" "I") (List.mem_of_getElem? (i := 1) rfl)
  have hinX0 : ∀ w ∈ u_ws RX0 TX0 17, w ∈ wsX0_isThere := fun _ h => List.mem_cons_of_mem _ (List.mem_append_right _ h)
  refine lv_aload_n hx hb dX0_isThere_0 rfl (lv_at hl 0 rfl) ?_
  refine x_get (D := (dC, dI)) (ci := 0) (v := .int (nI (n 8))) (C := RX0) (T := TX0) (N := 17) hx hb hts hinX0 hown hK hP 0 rfl rfl 12 (Nat.le_of_ble_eq_true rfl) hf68 rfl rfl dX0_isThere_1 ?_
  refine lv_iload_n hx hb dX0_isThere_4 rfl (lv_at hl 1 rfl) ?_
  refine x_ishr hx hb (by omega) (by omega) dX0_isThere_5 ?_
  refine lv_iconst (v := nI 1) hx hb dX0_isThere_6 rfl ?_
  refine x_iand hx hb dX0_isThere_7 ?_
  refine x_if_ne (tgt := 15) hx hb (and1_lt _) dX0_isThere_8 (by decide) (fun c8 => ?_) (fun c8 => ?_)
  · skip
    refine lv_iconst (v := nI 0) hx hb dX0_isThere_15 rfl ?_
    exact hend _ _ _ _ _ (by first | exact n1_b (by simp [sThere]; first | exact tb_0.mp c8) | exact n0_b (by simp [sThere]; exact (by have := mt tb_0.mpr c8; simpa using this))) hS dX0_isThere_16
  · skip
    refine lv_iconst (v := nI 1) hx hb dX0_isThere_11 rfl ?_
    refine lv_goto (tgt := 16) hx hb dX0_isThere_12 (by decide) ?_
    exact hend _ _ _ _ _ (by first | exact n1_b (by simp [sThere]; first | exact tb_0.mp c8) | exact n0_b (by simp [sThere]; exact (by have := mt tb_0.mpr c8; simpa using this))) hS dX0_isThere_16
set_option maxHeartbeats 4000000 in
set_option maxRecDepth 100000 in
theorem kX0_tallIn (l : Launch) (dC : Nat → ClassId) (dI : Nat → Nat → Nat) (cI : ClassId) (q n : Nat → Nat) (A : Nat → Nat → Nat) (X : Nat → Nat → Int32) (hW : WF n A) (hR : RG n A X) (t : Nat) (y : Nat) (sz : Nat) (ht : t < n 3) (hy : y ≤ 30) : Met l yX0_tallIn wsX0_tallIn ({ frames := 0, cells := 0, slots := 0, locals := 0 }) (roP [.ref (q 0), .int (nI t), .int (nI y)] sz (dC, dI) [(cI, .int)] (wG cI q n X)) (roQi (nI (sTall n A y t)) sz) 0 0 (va_A [] sz) := by
  refine ro_met_i (by decide) rfl (Nat.le_of_ble_eq_true rfl) ?_
  intro pp ee ss mm aa bb me cd RR QQ Z hx hb hml hown hts hRf hRl hP hK hA hS hend ls hl
  have hown : ss.vm.findClass RX0 = some mm.cls := hown
  have hRf : 0 ≤ RR.frames := hRf
  have hRl : 0 ≤ RR.locals := hRl
  have hl : lv_has ls 4 [(0, .ref (q 0)), (1, .int (nI t)), (2, .int (nI y))] := hl
  obtain ⟨w0, w1, w2, w3, w4, w5, w6, w7, w8, wA0, wA1, wA2⟩ := id hW
  have wC : n 0 * n 1 ≤ 42 := Nat.mul_le_mul w0 w1
  have wt := wA2 t ht
  have hf30 := hts (.fieldLink RX0 30 "StatueSquare$Ground" "tallAtFirst" "[I") (List.mem_of_getElem? (i := 1) rfl)
  have hinX0 : ∀ w ∈ u_ws RX0 TX0 17, w ∈ wsX0_tallIn := fun _ h => List.mem_cons_of_mem _ (List.mem_append_right _ h)
  have hf24 := hts (.fieldLink RX0 24 "StatueSquare$Ground" "kind" "[I") (List.mem_of_getElem? (i := 2) rfl)
  have hf74 := hts (.fieldLink RX0 74 "StatueSquare$Ground" "isWinter" "Z") (List.mem_of_getElem? (i := 3) rfl)
  refine lv_aload_n hx hb dX0_tallIn_0 rfl (lv_at hl 0 rfl) ?_
  refine x_get (D := (dC, dI)) (ci := 0) (v := .ref (q 7)) (C := RX0) (T := TX0) (N := 17) hx hb hts hinX0 hown hK hP 0 rfl rfl 10 (Nat.le_of_ble_eq_true rfl) hf30 rfl rfl dX0_tallIn_1 ?_
  refine lv_iload_n hx hb dX0_tallIn_4 rfl (lv_at hl 1 rfl) ?_
  refine x_iald (v := (nI (A 4 t))) hx hb hK hP 7 0 rfl rfl (by omega) (by decide) (hR.2.2 _ (by omega)).2.2.1 dX0_tallIn_5 ?_
  refine lv_istore_n (lv' := [(3, .int (nI (A 4 t))), (0, .ref (q 0)), (1, .int (nI t)), (2, .int (nI y))]) hx hb dX0_tallIn_6 rfl hl (by decide) rfl (fun ls hl => ?_)
  refine lv_aload_n hx hb dX0_tallIn_7 rfl (lv_at hl 1 rfl) ?_
  refine x_get (D := (dC, dI)) (ci := 0) (v := .ref (q 5)) (C := RX0) (T := TX0) (N := 17) hx hb hts hinX0 hown hK hP 0 rfl rfl 8 (Nat.le_of_ble_eq_true rfl) hf24 rfl rfl dX0_tallIn_8 ?_
  refine lv_iload_n hx hb dX0_tallIn_11 rfl (lv_at hl 2 rfl) ?_
  refine x_iald (v := (nI (A 2 t))) hx hb hK hP 5 0 rfl rfl (by omega) (by decide) (hR.2.2 _ (by omega)).1 dX0_tallIn_12 ?_
  refine x_if_eq (tgt := 26) hx hb (by omega) dX0_tallIn_13 (by decide) (fun c13 => ?_) (fun c13 => ?_)
  · skip
    refine lv_aload_n hx hb dX0_tallIn_26 rfl (lv_at hl 1 rfl) ?_
    refine x_get (D := (dC, dI)) (ci := 0) (v := .ref (q 5)) (C := RX0) (T := TX0) (N := 17) hx hb hts hinX0 hown hK hP 0 rfl rfl 8 (Nat.le_of_ble_eq_true rfl) hf24 rfl rfl dX0_tallIn_27 ?_
    refine lv_iload_n hx hb dX0_tallIn_30 rfl (lv_at hl 2 rfl) ?_
    refine x_iald (v := (nI (A 2 t))) hx hb hK hP 5 0 rfl rfl (by omega) (by decide) (hR.2.2 _ (by omega)).1 dX0_tallIn_31 ?_
    refine lv_iconst (v := nI 2) hx hb dX0_tallIn_32 rfl ?_
    refine x_icmp_ne (tgt := 53) hx hb (by omega) (by omega) dX0_tallIn_33 (by decide) (fun c33 => ?_) (fun c33 => ?_)
    · skip
      refine lv_iload_n hx hb dX0_tallIn_53 rfl (lv_at hl 0 rfl) ?_
      exact hend _ _ _ _ _ (by congr 1; simp [sTall, *]; try omega) hS dX0_tallIn_54
    · skip
      refine lv_iload_n hx hb dX0_tallIn_36 rfl (lv_at hl 0 rfl) ?_
      refine lv_iload_n hx hb dX0_tallIn_37 rfl (lv_at hl 3 rfl) ?_
      refine lv_iconst (v := nI 3) hx hb dX0_tallIn_38 rfl ?_
      refine x_idiv hx hb (by omega) (by omega) (by omega) dX0_tallIn_39 ?_
      refine x_iadd hx hb dX0_tallIn_40 ?_
      refine lv_istore_n (lv' := [(3, .int (nI ((A 4 t) + (y / 3)))), (0, .ref (q 0)), (1, .int (nI t)), (2, .int (nI y))]) hx hb dX0_tallIn_41 rfl hl (by decide) rfl (fun ls hl => ?_)
      refine lv_aload_n hx hb dX0_tallIn_42 rfl (lv_at hl 1 rfl) ?_
      refine x_get (D := (dC, dI)) (ci := 0) (v := .int (nI (n 5))) (C := RX0) (T := TX0) (N := 17) hx hb hts hinX0 hown hK hP 0 rfl rfl 14 (Nat.le_of_ble_eq_true rfl) hf74 rfl rfl dX0_tallIn_43 ?_
      refine x_if_eq (tgt := 53) hx hb (by omega) dX0_tallIn_46 (by decide) (fun c46 => ?_) (fun c46 => ?_)
      · skip
        refine lv_iload_n hx hb dX0_tallIn_53 rfl (lv_at hl 0 rfl) ?_
        exact hend _ _ _ _ _ (by congr 1; simp [sTall, *]; try omega) hS dX0_tallIn_54
      · skip
        refine lv_iload_n hx hb dX0_tallIn_49 rfl (lv_at hl 0 rfl) ?_
        refine lv_iconst (v := nI 2) hx hb dX0_tallIn_50 rfl ?_
        refine x_idiv hx hb (by omega) (by omega) (by omega) dX0_tallIn_51 ?_
        refine lv_istore_n (lv' := [(3, .int (nI (((A 4 t) + (y / 3)) / 2))), (0, .ref (q 0)), (1, .int (nI t)), (2, .int (nI y))]) hx hb dX0_tallIn_52 rfl hl (by decide) rfl (fun ls hl => ?_)
        refine lv_iload_n hx hb dX0_tallIn_53 rfl (lv_at hl 0 rfl) ?_
        exact hend _ _ _ _ _ (by congr 1; simp [sTall, *]; try omega) hS dX0_tallIn_54
  · skip
    refine lv_aload_n hx hb dX0_tallIn_16 rfl (lv_at hl 1 rfl) ?_
    refine x_get (D := (dC, dI)) (ci := 0) (v := .int (nI (n 5))) (C := RX0) (T := TX0) (N := 17) hx hb hts hinX0 hown hK hP 0 rfl rfl 14 (Nat.le_of_ble_eq_true rfl) hf74 rfl rfl dX0_tallIn_17 ?_
    refine x_if_ne (tgt := 26) hx hb (by omega) dX0_tallIn_20 (by decide) (fun c20 => ?_) (fun c20 => ?_)
    · skip
      refine lv_aload_n hx hb dX0_tallIn_26 rfl (lv_at hl 1 rfl) ?_
      refine x_get (D := (dC, dI)) (ci := 0) (v := .ref (q 5)) (C := RX0) (T := TX0) (N := 17) hx hb hts hinX0 hown hK hP 0 rfl rfl 8 (Nat.le_of_ble_eq_true rfl) hf24 rfl rfl dX0_tallIn_27 ?_
      refine lv_iload_n hx hb dX0_tallIn_30 rfl (lv_at hl 2 rfl) ?_
      refine x_iald (v := (nI (A 2 t))) hx hb hK hP 5 0 rfl rfl (by omega) (by decide) (hR.2.2 _ (by omega)).1 dX0_tallIn_31 ?_
      refine lv_iconst (v := nI 2) hx hb dX0_tallIn_32 rfl ?_
      refine x_icmp_ne (tgt := 53) hx hb (by omega) (by omega) dX0_tallIn_33 (by decide) (fun c33 => ?_) (fun c33 => ?_)
      · skip
        refine lv_iload_n hx hb dX0_tallIn_53 rfl (lv_at hl 0 rfl) ?_
        exact hend _ _ _ _ _ (by congr 1; simp [sTall, *]; try omega) hS dX0_tallIn_54
      · skip
        refine lv_iload_n hx hb dX0_tallIn_36 rfl (lv_at hl 0 rfl) ?_
        refine lv_iload_n hx hb dX0_tallIn_37 rfl (lv_at hl 3 rfl) ?_
        refine lv_iconst (v := nI 3) hx hb dX0_tallIn_38 rfl ?_
        refine x_idiv hx hb (by omega) (by omega) (by omega) dX0_tallIn_39 ?_
        refine x_iadd hx hb dX0_tallIn_40 ?_
        refine lv_istore_n (lv' := [(3, .int (nI ((A 4 t) + (y / 3)))), (0, .ref (q 0)), (1, .int (nI t)), (2, .int (nI y))]) hx hb dX0_tallIn_41 rfl hl (by decide) rfl (fun ls hl => ?_)
        refine lv_aload_n hx hb dX0_tallIn_42 rfl (lv_at hl 1 rfl) ?_
        refine x_get (D := (dC, dI)) (ci := 0) (v := .int (nI (n 5))) (C := RX0) (T := TX0) (N := 17) hx hb hts hinX0 hown hK hP 0 rfl rfl 14 (Nat.le_of_ble_eq_true rfl) hf74 rfl rfl dX0_tallIn_43 ?_
        refine x_if_eq (tgt := 53) hx hb (by omega) dX0_tallIn_46 (by decide) (fun c46 => ?_) (fun c46 => ?_)
        · skip
          refine lv_iload_n hx hb dX0_tallIn_53 rfl (lv_at hl 0 rfl) ?_
          exact hend _ _ _ _ _ (by congr 1; simp [sTall, *]; try omega) hS dX0_tallIn_54
        · skip
          refine lv_iload_n hx hb dX0_tallIn_49 rfl (lv_at hl 0 rfl) ?_
          refine lv_iconst (v := nI 2) hx hb dX0_tallIn_50 rfl ?_
          refine x_idiv hx hb (by omega) (by omega) (by omega) dX0_tallIn_51 ?_
          refine lv_istore_n (lv' := [(3, .int (nI (((A 4 t) + (y / 3)) / 2))), (0, .ref (q 0)), (1, .int (nI t)), (2, .int (nI y))]) hx hb dX0_tallIn_52 rfl hl (by decide) rfl (fun ls hl => ?_)
          refine lv_iload_n hx hb dX0_tallIn_53 rfl (lv_at hl 0 rfl) ?_
          exact hend _ _ _ _ _ (by congr 1; simp [sTall, *]; try omega) hS dX0_tallIn_54
    · skip
      refine lv_iinc (v := (nI (A 4 t + 1))) (lv' := [(3, .int (nI (A 4 t + 1))), (0, .ref (q 0)), (1, .int (nI t)), (2, .int (nI y))]) hx hb dX0_tallIn_23 hl (k := 0) rfl (nI_add _ _) (by decide) rfl (fun ls hl => ?_)
      refine lv_aload_n hx hb dX0_tallIn_26 rfl (lv_at hl 1 rfl) ?_
      refine x_get (D := (dC, dI)) (ci := 0) (v := .ref (q 5)) (C := RX0) (T := TX0) (N := 17) hx hb hts hinX0 hown hK hP 0 rfl rfl 8 (Nat.le_of_ble_eq_true rfl) hf24 rfl rfl dX0_tallIn_27 ?_
      refine lv_iload_n hx hb dX0_tallIn_30 rfl (lv_at hl 2 rfl) ?_
      refine x_iald (v := (nI (A 2 t))) hx hb hK hP 5 0 rfl rfl (by omega) (by decide) (hR.2.2 _ (by omega)).1 dX0_tallIn_31 ?_
      refine lv_iconst (v := nI 2) hx hb dX0_tallIn_32 rfl ?_
      refine x_icmp_ne (tgt := 53) hx hb (by omega) (by omega) dX0_tallIn_33 (by decide) (fun c33 => ?_) (fun c33 => ?_)
      · skip
        refine lv_iload_n hx hb dX0_tallIn_53 rfl (lv_at hl 0 rfl) ?_
        exact hend _ _ _ _ _ (by congr 1; simp [sTall, *]; try omega) hS dX0_tallIn_54
      · skip
        refine lv_iload_n hx hb dX0_tallIn_36 rfl (lv_at hl 0 rfl) ?_
        refine lv_iload_n hx hb dX0_tallIn_37 rfl (lv_at hl 3 rfl) ?_
        refine lv_iconst (v := nI 3) hx hb dX0_tallIn_38 rfl ?_
        refine x_idiv hx hb (by omega) (by omega) (by omega) dX0_tallIn_39 ?_
        refine x_iadd hx hb dX0_tallIn_40 ?_
        refine lv_istore_n (lv' := [(3, .int (nI ((A 4 t + 1) + (y / 3)))), (0, .ref (q 0)), (1, .int (nI t)), (2, .int (nI y))]) hx hb dX0_tallIn_41 rfl hl (by decide) rfl (fun ls hl => ?_)
        refine lv_aload_n hx hb dX0_tallIn_42 rfl (lv_at hl 1 rfl) ?_
        refine x_get (D := (dC, dI)) (ci := 0) (v := .int (nI (n 5))) (C := RX0) (T := TX0) (N := 17) hx hb hts hinX0 hown hK hP 0 rfl rfl 14 (Nat.le_of_ble_eq_true rfl) hf74 rfl rfl dX0_tallIn_43 ?_
        refine x_if_eq (tgt := 53) hx hb (by omega) dX0_tallIn_46 (by decide) (fun c46 => ?_) (fun c46 => ?_)
        · skip
          refine lv_iload_n hx hb dX0_tallIn_53 rfl (lv_at hl 0 rfl) ?_
          exact hend _ _ _ _ _ (by congr 1; simp [sTall, *]; try omega) hS dX0_tallIn_54
        · skip
          refine lv_iload_n hx hb dX0_tallIn_49 rfl (lv_at hl 0 rfl) ?_
          refine lv_iconst (v := nI 2) hx hb dX0_tallIn_50 rfl ?_
          refine x_idiv hx hb (by omega) (by omega) (by omega) dX0_tallIn_51 ?_
          refine lv_istore_n (lv' := [(3, .int (nI (((A 4 t + 1) + (y / 3)) / 2))), (0, .ref (q 0)), (1, .int (nI t)), (2, .int (nI y))]) hx hb dX0_tallIn_52 rfl hl (by decide) rfl (fun ls hl => ?_)
          refine lv_iload_n hx hb dX0_tallIn_53 rfl (lv_at hl 0 rfl) ?_
          exact hend _ _ _ _ _ (by congr 1; simp [sTall, *]; try omega) hS dX0_tallIn_54
set_option maxHeartbeats 4000000 in
set_option maxRecDepth 100000 in
theorem kX0_stepsBetween (l : Launch) (dC : Nat → ClassId) (dI : Nat → Nat → Nat) (cI : ClassId) (q n : Nat → Nat) (A : Nat → Nat → Nat) (X : Nat → Nat → Int32) (hW : WF n A) (hR : RG n A X) (c : Nat) (d : Nat) (sz : Nat) (hc : c < n 0 * n 1) (hd : d < n 0 * n 1) : Met l yX0_stepsBetween wsX0_stepsBetween ({ frames := 1, cells := 0, slots := 0, locals := 21 }) (roP [.ref (q 0), .int (nI c), .int (nI d)] sz (dC, dI) [(cI, .int)] (wG cI q n X)) (roQi (nI (sSt n c d)) sz) 0 0 (va_A [] sz) := by
  refine ro_met_i (by decide) rfl (Nat.le_of_ble_eq_true rfl) ?_
  intro pp ee ss mm aa bb me cd RR QQ Z hx hb hml hown hts hRf hRl hP hK hA hS hend ls hl
  have hown : ss.vm.findClass RX0 = some mm.cls := hown
  have hRf : 1 ≤ RR.frames := hRf
  have hRl : 21 ≤ RR.locals := hRl
  have hl : lv_has ls 6 [(0, .ref (q 0)), (1, .int (nI c)), (2, .int (nI d))] := hl
  obtain ⟨w0, w1, w2, w3, w4, w5, w6, w7, w8, wA0, wA1, wA2⟩ := id hW
  have wC : n 0 * n 1 ≤ 42 := Nat.mul_le_mul w0 w1
  have b1 : c / n 1 ≤ 42 := Nat.le_trans (Nat.div_le_self _ _) (by omega)
  have b2 : d / n 1 ≤ 42 := Nat.le_trans (Nat.div_le_self _ _) (by omega)
  have b3 : c % n 1 ≤ 42 := Nat.le_trans (Nat.mod_le _ _) (by omega)
  have b4 : d % n 1 ≤ 42 := Nat.le_trans (Nat.mod_le _ _) (by omega)
  have b5 : dd (c / n 1) (d / n 1) ≤ 42 := dd_le b1 b2
  have b6 : dd (c % n 1) (d % n 1) ≤ 42 := dd_le b3 b4
  have hf15 := hts (.fieldLink RX0 15 "StatueSquare$Ground" "rowOf" "[I") (List.mem_of_getElem? (i := 1) rfl)
  have hinX0 : ∀ w ∈ u_ws RX0 TX0 17, w ∈ wsX0_stepsBetween := fun _ h => List.mem_cons_of_mem _ (List.mem_append_right _ h)
  have hl88 := hts (.methodLink RX0 88 Lib.Math.abs.name) (List.mem_of_getElem? (i := 2) rfl)
  have hsabs := hts (.static Lib.Math.abs.name) (List.mem_of_getElem? (i := 3) rfl)
  have hiMath := hts (.initialized "java/lang/Math") (List.mem_of_getElem? (i := 4) rfl)
  have hcabs := hts (.code Lib.Math.abs.name Lib.Math.abs.code 1 (some .int)) (List.mem_of_getElem? (i := 5) rfl)
  have hf18 := hts (.fieldLink RX0 18 "StatueSquare$Ground" "columnOf" "[I") (List.mem_of_getElem? (i := 6) rfl)
  have hl94 := hts (.methodLink RX0 94 Lib.Math.max.name) (List.mem_of_getElem? (i := 7) rfl)
  have hsmax := hts (.static Lib.Math.max.name) (List.mem_of_getElem? (i := 8) rfl)
  have hcmax := hts (.code Lib.Math.max.name Lib.Math.max.code 2 (some .int)) (List.mem_of_getElem? (i := 9) rfl)
  refine lv_aload_n hx hb dX0_stepsBetween_0 rfl (lv_at hl 0 rfl) ?_
  refine x_get (D := (dC, dI)) (ci := 0) (v := .ref (q 2)) (C := RX0) (T := TX0) (N := 17) hx hb hts hinX0 hown hK hP 0 rfl rfl 5 (Nat.le_of_ble_eq_true rfl) hf15 rfl rfl dX0_stepsBetween_1 ?_
  refine lv_iload_n hx hb dX0_stepsBetween_4 rfl (lv_at hl 1 rfl) ?_
  refine x_iald (v := (nI (c / n 1))) hx hb hK hP 2 0 rfl rfl (by omega) (by decide) (hR.1 _ (by omega)).2.1 dX0_stepsBetween_5 ?_
  refine lv_aload_n hx hb dX0_stepsBetween_6 rfl (lv_at hl 0 rfl) ?_
  refine x_get (D := (dC, dI)) (ci := 0) (v := .ref (q 2)) (C := RX0) (T := TX0) (N := 17) hx hb hts hinX0 hown hK hP 0 rfl rfl 5 (Nat.le_of_ble_eq_true rfl) hf15 rfl rfl dX0_stepsBetween_7 ?_
  refine lv_iload_n hx hb dX0_stepsBetween_10 rfl (lv_at hl 2 rfl) ?_
  refine x_iald (v := (nI (d / n 1))) hx hb hK hP 2 0 rfl rfl (by omega) (by decide) (hR.1 _ (by omega)).2.1 dX0_stepsBetween_11 ?_
  refine lv_isub hx hb dX0_stepsBetween_12 ?_
  refine va_mabs hx hb (hml.trans hl.1.symm) hown hl88 hsabs hiMath hcabs (Nat.le_trans (Nat.le_of_ble_eq_true rfl) hRf) (Nat.le_trans (Nat.le_of_ble_eq_true rfl) hRl) (Nat.zero_le _) (Nat.zero_le _) dX0_stepsBetween_13 ?_
  refine x_top (y := (nI (dd (c / n 1) (d / n 1)))) (abs_sub (by omega) (by omega)) ?_
  refine lv_istore_n (lv' := [(3, .int (nI (dd (c / n 1) (d / n 1)))), (0, .ref (q 0)), (1, .int (nI c)), (2, .int (nI d))]) hx hb dX0_stepsBetween_16 rfl hl (by decide) rfl (fun ls hl => ?_)
  refine lv_aload_n hx hb dX0_stepsBetween_17 rfl (lv_at hl 1 rfl) ?_
  refine x_get (D := (dC, dI)) (ci := 0) (v := .ref (q 3)) (C := RX0) (T := TX0) (N := 17) hx hb hts hinX0 hown hK hP 0 rfl rfl 6 (Nat.le_of_ble_eq_true rfl) hf18 rfl rfl dX0_stepsBetween_18 ?_
  refine lv_iload_n hx hb dX0_stepsBetween_21 rfl (lv_at hl 2 rfl) ?_
  refine x_iald (v := (nI (c % n 1))) hx hb hK hP 3 0 rfl rfl (by omega) (by decide) (hR.1 _ (by omega)).2.2 dX0_stepsBetween_22 ?_
  refine lv_aload_n hx hb dX0_stepsBetween_23 rfl (lv_at hl 1 rfl) ?_
  refine x_get (D := (dC, dI)) (ci := 0) (v := .ref (q 3)) (C := RX0) (T := TX0) (N := 17) hx hb hts hinX0 hown hK hP 0 rfl rfl 6 (Nat.le_of_ble_eq_true rfl) hf18 rfl rfl dX0_stepsBetween_24 ?_
  refine lv_iload_n hx hb dX0_stepsBetween_27 rfl (lv_at hl 3 rfl) ?_
  refine x_iald (v := (nI (d % n 1))) hx hb hK hP 3 0 rfl rfl (by omega) (by decide) (hR.1 _ (by omega)).2.2 dX0_stepsBetween_28 ?_
  refine lv_isub hx hb dX0_stepsBetween_29 ?_
  refine va_mabs hx hb (hml.trans hl.1.symm) hown hl88 hsabs hiMath hcabs (Nat.le_trans (Nat.le_of_ble_eq_true rfl) hRf) (Nat.le_trans (Nat.le_of_ble_eq_true rfl) hRl) (Nat.zero_le _) (Nat.zero_le _) dX0_stepsBetween_30 ?_
  refine x_top (y := (nI (dd (c % n 1) (d % n 1)))) (abs_sub (by omega) (by omega)) ?_
  refine lv_istore (lv' := [(4, .int (nI (dd (c % n 1) (d % n 1)))), (3, .int (nI (dd (c / n 1) (d / n 1)))), (0, .ref (q 0)), (1, .int (nI c)), (2, .int (nI d))]) hx hb dX0_stepsBetween_33 hl (by decide) rfl (fun ls hl => ?_)
  refine lv_iload_n hx hb dX0_stepsBetween_35 rfl (lv_at hl 1 rfl) ?_
  refine lv_iload hx hb dX0_stepsBetween_36 (lv_at hl 0 rfl) ?_
  refine va_mmax hx hb (hml.trans hl.1.symm) hown hl94 hsmax hiMath hcmax (Nat.le_trans (Nat.le_of_ble_eq_true rfl) hRf) (Nat.le_trans (Nat.le_of_ble_eq_true rfl) hRl) (Nat.zero_le _) (Nat.zero_le _) dX0_stepsBetween_38 ?_
  refine x_top (y := (nI (max (dd (c / n 1) (d / n 1)) (dd (c % n 1) (d % n 1))))) (max_nI (by omega) (by omega)) ?_
  refine lv_istore (lv' := [(5, .int (nI (max (dd (c / n 1) (d / n 1)) (dd (c % n 1) (d % n 1))))), (4, .int (nI (dd (c % n 1) (d % n 1)))), (3, .int (nI (dd (c / n 1) (d / n 1)))), (0, .ref (q 0)), (1, .int (nI c)), (2, .int (nI d))]) hx hb dX0_stepsBetween_41 hl (by decide) rfl (fun ls hl => ?_)
  have L43 : ∀ (fuel : Nat) (k : Nat) (hk : k ≤ max (dd (c / n 1) (d / n 1)) (dd (c % n 1) (d % n 1))) (hno : ∀ j, k < j → j ≤ max (dd (c / n 1) (d / n 1)) (dd (c % n 1) (d % n 1)) → ¬ ((dd (c / n 1) (d / n 1)) % j = 0 ∧ (dd (c % n 1) (d % n 1)) % j = 0)) (hfu : k < fuel) (H : Heap) (locs : List Loc), va_P (dC, dI) vwCl (wG cI q n X) H → va_S Z ss.heap H locs → ∀ (ls : Array Slot), lv_has ls 6 [(0, .ref (q 0)), (3, .int (nI (dd (c / n 1) (d / n 1)))), (4, .int (nI (dd (c % n 1) (d % n 1)))), (5, .int (nI k))] → W pp l ee RR ss mm aa bb me cd H locs 0 0 QQ (F0 mm 43 ls []) := by
    intro fuel
    induction fuel with
    | zero => intro k hk hno hfu; exact absurd hfu (Nat.not_lt_zero _)
    | succ fuel ih =>
      intro k hk hno hfu H locs hP hS ls hl
      refine lv_iload hx hb dX0_stepsBetween_43 (lv_at hl 3 rfl) ?_
      refine lv_iconst (v := nI 1) hx hb dX0_stepsBetween_45 rfl ?_
      refine x_icmp_le (tgt := 73) hx hb (by omega) (by omega) dX0_stepsBetween_46 (by decide) (fun c46 => ?_) (fun c46 => ?_)
      · skip
        refine lv_iconst (v := nI 1) hx hb dX0_stepsBetween_73 rfl ?_
        exact hend _ _ _ _ _ (congrArg nI (gcd_one (by omega) hno)) hS dX0_stepsBetween_74
      · skip
        refine lv_iload_n hx hb dX0_stepsBetween_49 rfl (lv_at hl 1 rfl) ?_
        refine lv_iload hx hb dX0_stepsBetween_50 (lv_at hl 3 rfl) ?_
        refine x_irem hx hb (by omega) (by omega) (by omega) dX0_stepsBetween_52 ?_
        refine x_if_ne (tgt := 67) hx hb (mod_b (by omega)) dX0_stepsBetween_53 (by decide) (fun c53 => ?_) (fun c53 => ?_)
        · skip
          have hbad : ¬ ((dd (c / n 1) (d / n 1)) % k = 0 ∧ (dd (c % n 1) (d % n 1)) % k = 0) := fun h => c53 h.1
          refine lv_iinc (v := (nI (k - 1))) (lv' := [(5, .int (nI (k - 1))), (0, .ref (q 0)), (3, .int (nI (dd (c / n 1) (d / n 1)))), (4, .int (nI (dd (c % n 1) (d % n 1))))]) hx hb dX0_stepsBetween_67 hl (k := 3) rfl (pk_dec (by omega)) (by decide) rfl (fun ls hl => ?_)
          refine lv_goto (tgt := 43) hx hb dX0_stepsBetween_70 (by decide) ?_
          exact ih (k - 1) (by omega) (fun j h1 h2 h3 => if e : j = k then hbad (e ▸ h3) else hno j (by omega) h2 h3) (by omega) _ _ hP hS _ (lv_sub hl [1, 2, 3, 0] rfl)
        · skip
          refine lv_iload hx hb dX0_stepsBetween_56 (lv_at hl 2 rfl) ?_
          refine lv_iload hx hb dX0_stepsBetween_58 (lv_at hl 3 rfl) ?_
          refine x_irem hx hb (by omega) (by omega) (by omega) dX0_stepsBetween_60 ?_
          refine x_if_ne (tgt := 67) hx hb (mod_b (by omega)) dX0_stepsBetween_61 (by decide) (fun c61 => ?_) (fun c61 => ?_)
          · skip
            have hbad : ¬ ((dd (c / n 1) (d / n 1)) % k = 0 ∧ (dd (c % n 1) (d % n 1)) % k = 0) := fun h => c61 h.2
            refine lv_iinc (v := (nI (k - 1))) (lv' := [(5, .int (nI (k - 1))), (0, .ref (q 0)), (3, .int (nI (dd (c / n 1) (d / n 1)))), (4, .int (nI (dd (c % n 1) (d % n 1))))]) hx hb dX0_stepsBetween_67 hl (k := 3) rfl (pk_dec (by omega)) (by decide) rfl (fun ls hl => ?_)
            refine lv_goto (tgt := 43) hx hb dX0_stepsBetween_70 (by decide) ?_
            exact ih (k - 1) (by omega) (fun j h1 h2 h3 => if e : j = k then hbad (e ▸ h3) else hno j (by omega) h2 h3) (by omega) _ _ hP hS _ (lv_sub hl [1, 2, 3, 0] rfl)
          · skip
            refine lv_iload hx hb dX0_stepsBetween_64 (lv_at hl 3 rfl) ?_
            exact hend _ _ _ _ _ (congrArg nI (gcd_ret (by omega) c53 c61 hno (fun h => by omega))) hS dX0_stepsBetween_66
  exact L43 _ (max (dd (c / n 1) (d / n 1)) (dd (c % n 1) (d % n 1))) (by omega) (fun j h1 h2 => absurd h2 (by omega)) (Nat.lt_succ_self _) _ _ hP hS _ (lv_sub hl [3, 2, 1, 0] rfl)
theorem hdX0_isThere : yX0_isThere.cls = RX0 ∧ yX0_isThere.cls ≠ "java/lang/invoke/MethodHandle" ∧ yX0_isThere.cls ≠ "java/lang/invoke/VarHandle" ∧ (parseMethodDescriptor yX0_isThere.desc).map (fun d => d.parameters.length) = some 1 := by decide +kernel
theorem hdX0_stepsBetween : yX0_stepsBetween.cls = RX0 ∧ yX0_stepsBetween.cls ≠ "java/lang/invoke/MethodHandle" ∧ yX0_stepsBetween.cls ≠ "java/lang/invoke/VarHandle" ∧ (parseMethodDescriptor yX0_stepsBetween.desc).map (fun d => d.parameters.length) = some 2 := by decide +kernel
theorem hdX0_tallIn : yX0_tallIn.cls = RX0 ∧ yX0_tallIn.cls ≠ "java/lang/invoke/MethodHandle" ∧ yX0_tallIn.cls ≠ "java/lang/invoke/VarHandle" ∧ (parseMethodDescriptor yX0_tallIn.desc).map (fun d => d.parameters.length) = some 2 := by decide +kernel
set_option maxRecDepth 20000 in
theorem ggX0_inTheWay_X0_stepsBetween : GoodIn wsX0_inTheWay wsX0_stepsBetween := goodIn_r _ [7, 8, 9, 10, 11, 12, 13, 14, 15, 16, 29, 30, 31, 32, 33, 34, 35, 36, 37, 38, 39, 40, 41, 42, 43, 44, 45] (by decide +kernel) (by decide +kernel)
set_option maxRecDepth 20000 in
theorem gX0_inTheWay_X0_stepsBetween : GoodIn wsX0_inTheWay (wsV RX0 98 RX0 yX0_stepsBetween wsX0_stepsBetween) := goodIn_app (goodIn_of _ (by decide +kernel)) ggX0_inTheWay_X0_stepsBetween
set_option maxRecDepth 20000 in
theorem ggX0_inTheWay_X0_isThere : GoodIn wsX0_inTheWay wsX0_isThere := goodIn_r _ [20, 21, 29, 30, 31, 32, 33, 34, 35, 36, 37, 38, 39, 40, 41, 42, 43, 44, 45] (by decide +kernel) (by decide +kernel)
set_option maxRecDepth 20000 in
theorem gX0_inTheWay_X0_isThere : GoodIn wsX0_inTheWay (wsV RX0 101 RX0 yX0_isThere wsX0_isThere) := goodIn_app (goodIn_of _ (by decide +kernel)) ggX0_inTheWay_X0_isThere
set_option maxRecDepth 20000 in
theorem ggX0_inTheWay_X0_tallIn : GoodIn wsX0_inTheWay wsX0_tallIn := goodIn_r _ [25, 26, 27, 28, 29, 30, 31, 32, 33, 34, 35, 36, 37, 38, 39, 40, 41, 42, 43, 44, 45] (by decide +kernel) (by decide +kernel)
set_option maxRecDepth 20000 in
theorem gX0_inTheWay_X0_tallIn : GoodIn wsX0_inTheWay (wsV RX0 105 RX0 yX0_tallIn wsX0_tallIn) := goodIn_app (goodIn_of _ (by decide +kernel)) ggX0_inTheWay_X0_tallIn
set_option maxHeartbeats 4000000 in
set_option maxRecDepth 100000 in
theorem kX0_inTheWay (l : Launch) (dC : Nat → ClassId) (dI : Nat → Nat → Nat) (cI : ClassId) (q n : Nat → Nat) (A : Nat → Nat → Nat) (X : Nat → Nat → Int32) (hW : WF n A) (hR : RG n A X) (b : Nat) (c : Nat) (h : Nat) (y : Nat) (sz : Nat) (hb0 : b < n 2) (hc : c < n 0 * n 1) (hh : h ≤ 20) (hy : y ≤ 30) : Met l yX0_inTheWay wsX0_inTheWay ({ frames := 2, cells := 0, slots := 0, locals := 46 }) (roP [.ref (q 0), .int (nI b), .int (nI c), .int (nI h), .int (nI y)] sz (dC, dI) [(cI, .int)] (wG cI q n X)) (roQi (nI (sWay n A b c h y)) sz) 0 0 (va_A [] sz) := by
  refine ro_met_i (by decide) rfl (Nat.le_of_ble_eq_true rfl) ?_
  intro pp ee ss mm aa bb me cd RR QQ Z hx hb hml hown hts hRf hRl hP hK hA hS hend ls hl
  have hown : ss.vm.findClass RX0 = some mm.cls := hown
  have hRf : 2 ≤ RR.frames := hRf
  have hRl : 46 ≤ RR.locals := hRl
  have hl : lv_has ls 12 [(0, .ref (q 0)), (1, .int (nI b)), (2, .int (nI c)), (3, .int (nI h)), (4, .int (nI y))] := hl
  obtain ⟨w0, w1, w2, w3, w4, w5, w6, w7, w8, wA0, wA1, wA2⟩ := id hW
  have wC : n 0 * n 1 ≤ 42 := Nat.mul_le_mul w0 w1
  have hf := wA1 b hb0
  have hg0 : 0 < sSt n (A 1 b) c := sSt_pos _ _ _
  have hg6 : sSt n (A 1 b) c ≤ 6 := sSt_le w0 w1 hf hc
  have hf21 := hts (.fieldLink RX0 21 "StatueSquare$Ground" "benchCell" "[I") (List.mem_of_getElem? (i := 1) rfl)
  have hinX0 : ∀ w ∈ u_ws RX0 TX0 17, w ∈ wsX0_inTheWay := fun _ h => List.mem_cons_of_mem _ (List.mem_append_right _ h)
  have hf9 := hts (.fieldLink RX0 9 "StatueSquare$Ground" "has" "[I") (List.mem_of_getElem? (i := 2) rfl)
  refine lv_aload_n hx hb dX0_inTheWay_0 rfl (lv_at hl 0 rfl) ?_
  refine x_get (D := (dC, dI)) (ci := 0) (v := .ref (q 4)) (C := RX0) (T := TX0) (N := 17) hx hb hts hinX0 hown hK hP 0 rfl rfl 7 (Nat.le_of_ble_eq_true rfl) hf21 rfl rfl dX0_inTheWay_1 ?_
  refine lv_iload_n hx hb dX0_inTheWay_4 rfl (lv_at hl 1 rfl) ?_
  refine x_iald (v := (nI (A 1 b))) hx hb hK hP 4 0 rfl rfl (by omega) (by decide) (hR.2.1 _ (by omega)) dX0_inTheWay_5 ?_
  refine lv_istore (lv' := [(5, .int (nI (A 1 b))), (0, .ref (q 0)), (1, .int (nI b)), (2, .int (nI c)), (3, .int (nI h)), (4, .int (nI y))]) hx hb dX0_inTheWay_6 hl (by decide) rfl (fun ls hl => ?_)
  refine lv_aload_n hx hb dX0_inTheWay_8 rfl (lv_at hl 1 rfl) ?_
  refine lv_iload hx hb dX0_inTheWay_9 (lv_at hl 0 rfl) ?_
  refine lv_iload_n hx hb dX0_inTheWay_11 rfl (lv_at hl 3 rfl) ?_
  refine roV_i (As := [.int (nI (A 1 b)), .int (nI c)]) (rest := []) ⟨hx, hb, hml, hown, hts⟩ (kX0_stepsBetween l dC dI cI q n A X hW hR (A 1 b) c _ (by omega) (by omega)) (cwV 2 hts gX0_inTheWay_X0_stepsBetween rfl rfl rfl hdX0_stepsBetween ⟨Nat.le_trans (Nat.le_of_ble_eq_true rfl) hRf, Nat.le_trans (Nat.le_of_ble_eq_true rfl) hRl⟩) (va_recv hK hP (ci := 0) (q0 := 0) rfl rfl) hK hP rfl hl.1 rfl (Nat.le_of_ble_eq_true rfl) dX0_inTheWay_12 ⟨Nat.zero_le _, Nat.zero_le _⟩ hP hS hA (fun H locs hP hS => ?_)
  refine lv_istore (lv' := [(6, .int (nI (sSt n (A 1 b) c))), (5, .int (nI (A 1 b))), (0, .ref (q 0)), (1, .int (nI b)), (2, .int (nI c)), (3, .int (nI h)), (4, .int (nI y))]) hx hb dX0_inTheWay_15 hl (by decide) rfl (fun ls hl => ?_)
  refine lv_iload_n hx hb dX0_inTheWay_17 rfl (lv_at hl 4 rfl) ?_
  refine lv_iload hx hb dX0_inTheWay_18 (lv_at hl 1 rfl) ?_
  refine lv_isub hx hb dX0_inTheWay_20 ?_
  refine lv_iload hx hb dX0_inTheWay_21 (lv_at hl 0 rfl) ?_
  refine lv_idiv hx hb dX0_inTheWay_23 (nI_ne0 hg0 (by omega)) ?_
  refine lv_istore (lv' := [(7, .int (((nI c) - (nI (A 1 b))) / (nI (sSt n (A 1 b) c)))), (6, .int (nI (sSt n (A 1 b) c))), (5, .int (nI (A 1 b))), (0, .ref (q 0)), (1, .int (nI b)), (2, .int (nI c)), (3, .int (nI h)), (4, .int (nI y))]) hx hb dX0_inTheWay_24 hl (by decide) rfl (fun ls hl => ?_)
  refine lv_iconst (v := nI 0) hx hb dX0_inTheWay_26 rfl ?_
  refine lv_istore (lv' := [(8, .int (nI 0)), (7, .int (((nI c) - (nI (A 1 b))) / (nI (sSt n (A 1 b) c)))), (6, .int (nI (sSt n (A 1 b) c))), (5, .int (nI (A 1 b))), (0, .ref (q 0)), (1, .int (nI b)), (2, .int (nI c)), (3, .int (nI h)), (4, .int (nI y))]) hx hb dX0_inTheWay_27 hl (by decide) rfl (fun ls hl => ?_)
  refine lv_iconst (v := nI 1) hx hb dX0_inTheWay_29 rfl ?_
  refine lv_istore (lv' := [(9, .int (nI 1)), (8, .int (nI 0)), (7, .int (((nI c) - (nI (A 1 b))) / (nI (sSt n (A 1 b) c)))), (6, .int (nI (sSt n (A 1 b) c))), (5, .int (nI (A 1 b))), (0, .ref (q 0)), (1, .int (nI b)), (2, .int (nI c)), (3, .int (nI h)), (4, .int (nI y))]) hx hb dX0_inTheWay_30 hl (by decide) rfl (fun ls hl => ?_)
  have L32 : ∀ (fuel : Nat) (k : Nat) (hk : k + 1 ≤ sSt n (A 1 b) c) (hfu : sSt n (A 1 b) c - k < fuel) (H : Heap) (locs : List Loc), va_P (dC, dI) vwCl (wG cI q n X) H → va_S Z ss.heap H locs → ∀ (ls : Array Slot), lv_has ls 12 [(0, .ref (q 0)), (2, .int (nI c)), (3, .int (nI h)), (4, .int (nI y)), (5, .int (nI (A 1 b))), (6, .int (nI (sSt n (A 1 b) c))), (7, .int ((nI c - nI (A 1 b)) / nI (sSt n (A 1 b) c))), (8, .int (nI (orM (fun i => sBit n A (A 1 b) c (sSt n (A 1 b) c) h y (i + 1)) k))), (9, .int (nI (k + 1)))] → W pp l ee RR ss mm aa bb me cd H locs 0 0 QQ (F0 mm 32 ls []) := by
    intro fuel
    induction fuel with
    | zero => intro k hk hfu; exact absurd hfu (Nat.not_lt_zero _)
    | succ fuel ih =>
      intro k hk hfu H locs hP hS ls hl
      refine lv_iload hx hb dX0_inTheWay_32 (lv_at hl 8 rfl) ?_
      refine lv_iload hx hb dX0_inTheWay_34 (lv_at hl 5 rfl) ?_
      refine x_icmp_ge (tgt := 115) hx hb (by omega) (by omega) dX0_inTheWay_36 (by decide) (fun c36 => ?_) (fun c36 => ?_)
      · skip
        refine lv_iload hx hb dX0_inTheWay_115 (lv_at hl 7 rfl) ?_
        exact hend _ _ _ _ _ (congrArg nI (show orM (fun i => sBit n A (A 1 b) c (sSt n (A 1 b) c) h y (i + 1)) k = orM (fun i => sBit n A (A 1 b) c (sSt n (A 1 b) c) h y (i + 1)) (sSt n (A 1 b) c - 1) from by congr 1; omega)) hS dX0_inTheWay_117
      · skip
        have hat : sAt (A 1 b) c (sSt n (A 1 b) c) (k + 1) < n 0 * n 1 := sAt_lt hW hb0 hc (by omega)
        have ha := wA0 _ hat
        refine lv_aload_n hx hb dX0_inTheWay_39 rfl (lv_at hl 0 rfl) ?_
        refine x_get (D := (dC, dI)) (ci := 0) (v := .ref (q 1)) (C := RX0) (T := TX0) (N := 17) hx hb hts hinX0 hown hK hP 0 rfl rfl 4 (Nat.le_of_ble_eq_true rfl) hf9 rfl rfl dX0_inTheWay_40 ?_
        refine lv_iload hx hb dX0_inTheWay_43 (lv_at hl 4 rfl) ?_
        refine lv_iload hx hb dX0_inTheWay_45 (lv_at hl 8 rfl) ?_
        refine lv_iload hx hb dX0_inTheWay_47 (lv_at hl 6 rfl) ?_
        refine lv_imul hx hb dX0_inTheWay_49 ?_
        refine lv_iadd hx hb dX0_inTheWay_50 ?_
        refine x_top (y := (nI (sAt (A 1 b) c (sSt n (A 1 b) c) (k + 1)))) (at_eq (by omega) (by omega) (by omega) hg6) ?_
        refine x_iald (v := (nI (A 0 (sAt (A 1 b) c (sSt n (A 1 b) c) (k + 1))))) hx hb hK hP 1 0 rfl rfl (by omega) (by decide) (hR.1 _ hat).1 dX0_inTheWay_51 ?_
        refine lv_bipush (v := nI 10) hx hb dX0_inTheWay_52 rfl ?_
        refine lv_isub hx hb dX0_inTheWay_54 ?_
        rcases Nat.lt_or_ge (A 0 (sAt (A 1 b) c (sSt n (A 1 b) c) (k + 1))) 10 with hlt | hge
        · skip
          have hz : sBit n A (A 1 b) c (sSt n (A 1 b) c) h y (k + 1) = 0 := if_neg (fun q => by omega)
          refine lv_istore (lv' := [(10, .int ((nI (A 0 (sAt (A 1 b) c (sSt n (A 1 b) c) (k + 1)))) - (nI 10))), (0, .ref (q 0)), (2, .int (nI c)), (3, .int (nI h)), (4, .int (nI y)), (5, .int (nI (A 1 b))), (6, .int (nI (sSt n (A 1 b) c))), (7, .int ((nI c - nI (A 1 b)) / nI (sSt n (A 1 b) c))), (8, .int (nI (orM (fun i => sBit n A (A 1 b) c (sSt n (A 1 b) c) h y (i + 1)) k))), (9, .int (nI (k + 1)))]) hx hb dX0_inTheWay_55 hl (by decide) rfl (fun ls hl => ?_)
          refine lv_iload hx hb dX0_inTheWay_57 (lv_at hl 0 rfl) ?_
          refine lv_if_lt (tgt := 109) hx hb dX0_inTheWay_59 (by decide) (fun c59 => ?_) (fun c59 => ?_)
          · skip
            refine lv_iinc (v := (nI (k + 1 + 1))) (lv' := [(9, .int (nI (k + 1 + 1))), (10, .int ((nI (A 0 (sAt (A 1 b) c (sSt n (A 1 b) c) (k + 1)))) - (nI 10))), (0, .ref (q 0)), (2, .int (nI c)), (3, .int (nI h)), (4, .int (nI y)), (5, .int (nI (A 1 b))), (6, .int (nI (sSt n (A 1 b) c))), (7, .int ((nI c - nI (A 1 b)) / nI (sSt n (A 1 b) c))), (8, .int (nI (orM (fun i => sBit n A (A 1 b) c (sSt n (A 1 b) c) h y (i + 1)) k)))]) hx hb dX0_inTheWay_109 hl (k := 9) rfl (nI_add _ _) (by decide) rfl (fun ls hl => ?_)
            refine lv_goto (tgt := 32) hx hb dX0_inTheWay_112 (by decide) ?_
            exact ih (k + 1) (by omega) (by omega) _ _ hP hS _ (by rw [show orM (fun i => sBit n A (A 1 b) c (sSt n (A 1 b) c) h y (i + 1)) (k + 1) = orM (fun i => sBit n A (A 1 b) c (sSt n (A 1 b) c) h y (i + 1)) k from by rw [orM, hz, Nat.or_zero]]; exact lv_sub hl [2, 3, 4, 5, 6, 7, 8, 9, 0] rfl)
          · skip
            exact absurd (pk_sneg (by decide) hlt) c59
        · skip
          refine x_top (y := nI (A 0 (sAt (A 1 b) c (sSt n (A 1 b) c) (k + 1)) - 10)) (pk_sub hge) ?_
          have htn : A 0 (sAt (A 1 b) c (sSt n (A 1 b) c) (k + 1)) - 10 < n 3 := by omega
          refine lv_istore (lv' := [(10, .int (nI (A 0 (sAt (A 1 b) c (sSt n (A 1 b) c) (k + 1)) - 10))), (0, .ref (q 0)), (2, .int (nI c)), (3, .int (nI h)), (4, .int (nI y)), (5, .int (nI (A 1 b))), (6, .int (nI (sSt n (A 1 b) c))), (7, .int ((nI c - nI (A 1 b)) / nI (sSt n (A 1 b) c))), (8, .int (nI (orM (fun i => sBit n A (A 1 b) c (sSt n (A 1 b) c) h y (i + 1)) k))), (9, .int (nI (k + 1)))]) hx hb dX0_inTheWay_55 hl (by decide) rfl (fun ls hl => ?_)
          refine lv_iload hx hb dX0_inTheWay_57 (lv_at hl 0 rfl) ?_
          refine x_if_lt (tgt := 109) hx hb (by omega) dX0_inTheWay_59 (by decide) ?_
          refine lv_aload_n hx hb dX0_inTheWay_62 rfl (lv_at hl 1 rfl) ?_
          refine lv_iload hx hb dX0_inTheWay_63 (lv_at hl 0 rfl) ?_
          refine roV_i (As := [.int (nI (A 0 (sAt (A 1 b) c (sSt n (A 1 b) c) (k + 1)) - 10))]) (rest := []) ⟨hx, hb, hml, hown, hts⟩ (kX0_isThere l dC dI cI q n A X hW hR (A 0 (sAt (A 1 b) c (sSt n (A 1 b) c) (k + 1)) - 10) _ (by omega)) (cwV 1 hts gX0_inTheWay_X0_isThere rfl rfl rfl hdX0_isThere ⟨Nat.le_trans (Nat.le_of_ble_eq_true rfl) hRf, Nat.le_trans (Nat.le_of_ble_eq_true rfl) hRl⟩) (va_recv hK hP (ci := 0) (q0 := 0) rfl rfl) hK hP rfl hl.1 rfl (Nat.le_of_ble_eq_true rfl) dX0_inTheWay_65 ⟨Nat.zero_le _, Nat.zero_le _⟩ hP hS hA (fun H locs hP hS => ?_)
          refine x_ifb_eq (tgt := 109) hx hb dX0_inTheWay_68 (by decide) (fun c68 => ?_) (fun c68 => ?_)
          · skip
            have hz : sBit n A (A 1 b) c (sSt n (A 1 b) c) h y (k + 1) = 0 := if_neg (fun q => by rw [c68] at q; simp at q)
            refine lv_iinc (v := (nI (k + 1 + 1))) (lv' := [(9, .int (nI (k + 1 + 1))), (10, .int (nI (A 0 (sAt (A 1 b) c (sSt n (A 1 b) c) (k + 1)) - 10))), (0, .ref (q 0)), (2, .int (nI c)), (3, .int (nI h)), (4, .int (nI y)), (5, .int (nI (A 1 b))), (6, .int (nI (sSt n (A 1 b) c))), (7, .int ((nI c - nI (A 1 b)) / nI (sSt n (A 1 b) c))), (8, .int (nI (orM (fun i => sBit n A (A 1 b) c (sSt n (A 1 b) c) h y (i + 1)) k)))]) hx hb dX0_inTheWay_109 hl (k := 9) rfl (nI_add _ _) (by decide) rfl (fun ls hl => ?_)
            refine lv_goto (tgt := 32) hx hb dX0_inTheWay_112 (by decide) ?_
            exact ih (k + 1) (by omega) (by omega) _ _ hP hS _ (by rw [show orM (fun i => sBit n A (A 1 b) c (sSt n (A 1 b) c) h y (i + 1)) (k + 1) = orM (fun i => sBit n A (A 1 b) c (sSt n (A 1 b) c) h y (i + 1)) k from by rw [orM, hz, Nat.or_zero]]; exact lv_sub hl [2, 3, 4, 5, 6, 7, 8, 9, 0] rfl)
          · skip
            refine lv_iconst (v := nI 2) hx hb dX0_inTheWay_71 rfl ?_
            refine lv_iload hx hb dX0_inTheWay_72 (lv_at hl 6 rfl) ?_
            refine x_imul hx hb dX0_inTheWay_74 ?_
            refine lv_iload hx hb dX0_inTheWay_75 (lv_at hl 9 rfl) ?_
            refine lv_iload_n hx hb dX0_inTheWay_77 rfl (lv_at hl 3 rfl) ?_
            refine lv_iconst (v := nI 2) hx hb dX0_inTheWay_78 rfl ?_
            refine lv_isub hx hb dX0_inTheWay_79 ?_
            refine lv_imul hx hb dX0_inTheWay_80 ?_
            refine lv_iadd hx hb dX0_inTheWay_81 ?_
            refine lv_istore (lv' := [(11, .int ((nI (2 * (sSt n (A 1 b) c))) + ((nI (k + 1)) * ((nI h) - (nI 2))))), (10, .int (nI (A 0 (sAt (A 1 b) c (sSt n (A 1 b) c) (k + 1)) - 10))), (0, .ref (q 0)), (2, .int (nI c)), (3, .int (nI h)), (4, .int (nI y)), (5, .int (nI (A 1 b))), (6, .int (nI (sSt n (A 1 b) c))), (7, .int ((nI c - nI (A 1 b)) / nI (sSt n (A 1 b) c))), (8, .int (nI (orM (fun i => sBit n A (A 1 b) c (sSt n (A 1 b) c) h y (i + 1)) k))), (9, .int (nI (k + 1)))]) hx hb dX0_inTheWay_82 hl (by decide) rfl (fun ls hl => ?_)
            refine lv_aload_n hx hb dX0_inTheWay_84 rfl (lv_at hl 2 rfl) ?_
            refine lv_iload hx hb dX0_inTheWay_85 (lv_at hl 1 rfl) ?_
            refine lv_iload hx hb dX0_inTheWay_87 (lv_at hl 5 rfl) ?_
            refine roV_i (As := [.int (nI (A 0 (sAt (A 1 b) c (sSt n (A 1 b) c) (k + 1)) - 10)), .int (nI y)]) (rest := []) ⟨hx, hb, hml, hown, hts⟩ (kX0_tallIn l dC dI cI q n A X hW hR (A 0 (sAt (A 1 b) c (sSt n (A 1 b) c) (k + 1)) - 10) y _ (by omega) (by omega)) (cwV 2 hts gX0_inTheWay_X0_tallIn rfl rfl rfl hdX0_tallIn ⟨Nat.le_trans (Nat.le_of_ble_eq_true rfl) hRf, Nat.le_trans (Nat.le_of_ble_eq_true rfl) hRl⟩) (va_recv hK hP (ci := 0) (q0 := 0) rfl rfl) hK hP rfl hl.1 rfl (Nat.le_of_ble_eq_true rfl) dX0_inTheWay_89 ⟨Nat.zero_le _, Nat.zero_le _⟩ hP hS hA (fun H locs hP hS => ?_)
            refine lv_iload hx hb dX0_inTheWay_92 (lv_at hl 7 rfl) ?_
            refine x_imul hx hb dX0_inTheWay_94 ?_
            refine lv_iload hx hb dX0_inTheWay_95 (lv_at hl 0 rfl) ?_
            refine lv_icmp_lt (tgt := 109) hx hb dX0_inTheWay_97 (by decide) (fun c97 => ?_) (fun c97 => ?_)
            · skip
              have hlin := (line_lt (sTall_le (wA2 _ htn).2.2.2.1 hy) hg6 (by omega) hh).mp c97
              have hz : sBit n A (A 1 b) c (sSt n (A 1 b) c) h y (k + 1) = 0 := if_neg (fun q => by have := q.2.2; omega)
              refine lv_iinc (v := (nI (k + 1 + 1))) (lv' := [(9, .int (nI (k + 1 + 1))), (11, .int ((nI (2 * (sSt n (A 1 b) c))) + ((nI (k + 1)) * ((nI h) - (nI 2))))), (10, .int (nI (A 0 (sAt (A 1 b) c (sSt n (A 1 b) c) (k + 1)) - 10))), (0, .ref (q 0)), (2, .int (nI c)), (3, .int (nI h)), (4, .int (nI y)), (5, .int (nI (A 1 b))), (6, .int (nI (sSt n (A 1 b) c))), (7, .int ((nI c - nI (A 1 b)) / nI (sSt n (A 1 b) c))), (8, .int (nI (orM (fun i => sBit n A (A 1 b) c (sSt n (A 1 b) c) h y (i + 1)) k)))]) hx hb dX0_inTheWay_109 hl (k := 10) rfl (nI_add _ _) (by decide) rfl (fun ls hl => ?_)
              refine lv_goto (tgt := 32) hx hb dX0_inTheWay_112 (by decide) ?_
              exact ih (k + 1) (by omega) (by omega) _ _ hP hS _ (by rw [show orM (fun i => sBit n A (A 1 b) c (sSt n (A 1 b) c) h y (i + 1)) (k + 1) = orM (fun i => sBit n A (A 1 b) c (sSt n (A 1 b) c) h y (i + 1)) k from by rw [orM, hz, Nat.or_zero]]; exact lv_sub hl [3, 4, 5, 6, 7, 8, 9, 10, 0] rfl)
            · skip
              have hlin := mt (line_lt (sTall_le (wA2 _ htn).2.2.2.1 hy) hg6 (by omega) hh).mpr c97
              have hz : sBit n A (A 1 b) c (sSt n (A 1 b) c) h y (k + 1) = 2 ^ (A 0 (sAt (A 1 b) c (sSt n (A 1 b) c) (k + 1)) - 10) := if_pos ⟨hge, c68, by omega⟩
              refine lv_iload hx hb dX0_inTheWay_100 (lv_at hl 9 rfl) ?_
              refine lv_iconst (v := nI 1) hx hb dX0_inTheWay_102 rfl ?_
              refine lv_iload hx hb dX0_inTheWay_103 (lv_at hl 1 rfl) ?_
              refine x_shl1 hx hb (by omega) dX0_inTheWay_105 ?_
              refine x_ior hx hb dX0_inTheWay_106 ?_
              refine lv_istore (lv' := [(8, .int (nI ((orM (fun i => sBit n A (A 1 b) c (sSt n (A 1 b) c) h y (i + 1)) k) ||| (2 ^ (A 0 (sAt (A 1 b) c (sSt n (A 1 b) c) (k + 1)) - 10))))), (11, .int ((nI (2 * (sSt n (A 1 b) c))) + ((nI (k + 1)) * ((nI h) - (nI 2))))), (10, .int (nI (A 0 (sAt (A 1 b) c (sSt n (A 1 b) c) (k + 1)) - 10))), (0, .ref (q 0)), (2, .int (nI c)), (3, .int (nI h)), (4, .int (nI y)), (5, .int (nI (A 1 b))), (6, .int (nI (sSt n (A 1 b) c))), (7, .int ((nI c - nI (A 1 b)) / nI (sSt n (A 1 b) c))), (9, .int (nI (k + 1)))]) hx hb dX0_inTheWay_107 hl (by decide) rfl (fun ls hl => ?_)
              refine lv_iinc (v := (nI (k + 1 + 1))) (lv' := [(9, .int (nI (k + 1 + 1))), (8, .int (nI ((orM (fun i => sBit n A (A 1 b) c (sSt n (A 1 b) c) h y (i + 1)) k) ||| (2 ^ (A 0 (sAt (A 1 b) c (sSt n (A 1 b) c) (k + 1)) - 10))))), (11, .int ((nI (2 * (sSt n (A 1 b) c))) + ((nI (k + 1)) * ((nI h) - (nI 2))))), (10, .int (nI (A 0 (sAt (A 1 b) c (sSt n (A 1 b) c) (k + 1)) - 10))), (0, .ref (q 0)), (2, .int (nI c)), (3, .int (nI h)), (4, .int (nI y)), (5, .int (nI (A 1 b))), (6, .int (nI (sSt n (A 1 b) c))), (7, .int ((nI c - nI (A 1 b)) / nI (sSt n (A 1 b) c)))]) hx hb dX0_inTheWay_109 hl (k := 10) rfl (nI_add _ _) (by decide) rfl (fun ls hl => ?_)
              refine lv_goto (tgt := 32) hx hb dX0_inTheWay_112 (by decide) ?_
              exact ih (k + 1) (by omega) (by omega) _ _ hP hS _ (by rw [show orM (fun i => sBit n A (A 1 b) c (sSt n (A 1 b) c) h y (i + 1)) (k + 1) = ((orM (fun i => sBit n A (A 1 b) c (sSt n (A 1 b) c) h y (i + 1)) k) ||| (2 ^ (A 0 (sAt (A 1 b) c (sSt n (A 1 b) c) (k + 1)) - 10))) from by rw [orM, hz]; try rfl]; exact lv_sub hl [4, 5, 6, 7, 8, 9, 10, 1, 0] rfl)
  exact L32 _ 0 (by omega) (Nat.lt_succ_self _) _ _ hP hS _ (lv_sub hl [5, 7, 8, 9, 4, 3, 2, 1, 0] rfl)
theorem hdX0_inTheWay : yX0_inTheWay.cls = RX0 ∧ yX0_inTheWay.cls ≠ "java/lang/invoke/MethodHandle" ∧ yX0_inTheWay.cls ≠ "java/lang/invoke/VarHandle" ∧ (parseMethodDescriptor yX0_inTheWay.desc).map (fun d => d.parameters.length) = some 4 := by decide +kernel
set_option maxRecDepth 20000 in
theorem ggX0_partsSeen_X0_inTheWay : GoodIn wsX0_partsSeen wsX0_inTheWay := goodIn_r _ [8, 9, 10, 11, 12, 13, 7, 14, 15, 16, 17, 18, 19, 20, 21, 22, 23, 24, 25, 26, 27, 28, 29, 30, 31, 32, 33, 34, 35, 36, 37, 38, 39, 40, 41, 42, 43, 44, 45, 46, 47, 48, 49, 50, 51, 52] (by decide +kernel) (by decide +kernel)
set_option maxRecDepth 20000 in
theorem gX0_partsSeen_X0_inTheWay : GoodIn wsX0_partsSeen (wsV RX0 111 RX0 yX0_inTheWay wsX0_inTheWay) := goodIn_app (goodIn_of _ (by decide +kernel)) ggX0_partsSeen_X0_inTheWay
set_option maxHeartbeats 4000000 in
set_option maxRecDepth 100000 in
theorem kX0_partsSeen (l : Launch) (dC : Nat → ClassId) (dI : Nat → Nat → Nat) (cI : ClassId) (q n : Nat → Nat) (A : Nat → Nat → Nat) (X : Nat → Nat → Int32) (hW : WF n A) (hR : RG n A X) (tH : Nat) (b : Nat) (c : Nat) (sz : Nat) (hb0 : b < n 2) (hc : c < n 0 * n 1) : Met l yX0_partsSeen wsX0_partsSeen ({ frames := 3, cells := 0, slots := 0, locals := 77 }) (rsP tH [.ref (q 0), .int (nI b), .int (nI c)] sz (dC, dI) [(cI, .int)] (wG cI q n X)) (roQi (nI (sSeen n A b c)) sz) 0 0 (va_A [] sz) := by
  refine rs_met_i (by decide) rfl (Nat.le_of_ble_eq_true rfl) ?_
  intro pp ee ss mm aa bb me cd RR QQ Z hx hb hml hown hts hRf hRl hP hK hA hS hZT hend ls hl
  have hown : ss.vm.findClass RX0 = some mm.cls := hown
  have hRf : 3 ≤ RR.frames := hRf
  have hRl : 77 ≤ RR.locals := hRl
  have hl : lv_has ls 5 [(0, .ref (q 0)), (1, .int (nI b)), (2, .int (nI c))] := hl
  obtain ⟨w0, w1, w2, w3, w4, w5, w6, w7, w8, wA0, wA1, wA2⟩ := id hW
  have wC : n 0 * n 1 ≤ 42 := Nat.mul_le_mul w0 w1
  have hf78 := hts (.fieldLink RX0 78 "StatueSquare$Ground" "statueBlock" "I") (List.mem_of_getElem? (i := 1) rfl)
  have hinX0 : ∀ w ∈ u_ws RX0 TX0 17, w ∈ wsX0_partsSeen := fun _ h => List.mem_cons_of_mem _ (List.mem_append_right _ h)
  have hf108 := hts (.fieldLink RX0 108 "StatueSquare$Ground" "PART_HEIGHTS" "[I") (List.mem_of_getElem? (i := 2) rfl)
  have hf71 := hts (.fieldLink RX0 71 "StatueSquare$Ground" "yearNow" "I") (List.mem_of_getElem? (i := 3) rfl)
  refine lv_iconst (v := nI 0) hx hb dX0_partsSeen_0 rfl ?_
  refine lv_istore_n (lv' := [(3, .int (nI 0)), (0, .ref (q 0)), (1, .int (nI b)), (2, .int (nI c))]) hx hb dX0_partsSeen_1 rfl hl (by decide) rfl (fun ls hl => ?_)
  refine lv_iconst (v := nI 0) hx hb dX0_partsSeen_2 rfl ?_
  refine lv_istore (lv' := [(4, .int (nI 0)), (3, .int (nI 0)), (0, .ref (q 0)), (1, .int (nI b)), (2, .int (nI c))]) hx hb dX0_partsSeen_3 hl (by decide) rfl (fun ls hl => ?_)
  have L5 : ∀ (fuel : Nat) (k : Nat) (hk : k ≤ 4) (hfu : 4 - k < fuel) (H : Heap) (locs : List Loc), va_P (dC, dI) vwCl (wG cI q n X) H → va_S Z ss.heap H locs → ∀ (ls : Array Slot), lv_has ls 5 [(0, .ref (q 0)), (1, .int (nI b)), (2, .int (nI c)), (3, .int (nI (orB (fun p => decide (sWay n A b c (n 7 + (1 + 2 * p)) (n 4) = 0)) k))), (4, .int (nI k))] → W pp l ee RR ss mm aa bb me cd H locs 0 0 QQ (F0 mm 5 ls []) := by
    intro fuel
    induction fuel with
    | zero => intro k hk hfu; exact absurd hfu (Nat.not_lt_zero _)
    | succ fuel ih =>
      intro k hk hfu H locs hP hS ls hl
      refine lv_iload hx hb dX0_partsSeen_5 (lv_at hl 4 rfl) ?_
      refine lv_iconst (v := nI 4) hx hb dX0_partsSeen_7 rfl ?_
      refine x_icmp_ge (tgt := 48) hx hb (by omega) (by omega) dX0_partsSeen_8 (by decide) (fun c8 => ?_) (fun c8 => ?_)
      · skip
        refine lv_iload_n hx hb dX0_partsSeen_48 rfl (lv_at hl 3 rfl) ?_
        exact hend _ _ _ _ _ (congrArg nI (show orB (fun p => decide (sWay n A b c (n 7 + (1 + 2 * p)) (n 4) = 0)) k = orB (fun p => decide (sWay n A b c (n 7 + (1 + 2 * p)) (n 4) = 0)) 4 from by congr 1; omega)) hS dX0_partsSeen_49
      · skip
        refine lv_aload_n hx hb dX0_partsSeen_11 rfl (lv_at hl 0 rfl) ?_
        refine lv_iload_n hx hb dX0_partsSeen_12 rfl (lv_at hl 1 rfl) ?_
        refine lv_iload_n hx hb dX0_partsSeen_13 rfl (lv_at hl 2 rfl) ?_
        refine lv_aload_n hx hb dX0_partsSeen_14 rfl (lv_at hl 0 rfl) ?_
        refine x_get (D := (dC, dI)) (ci := 0) (v := .int (nI (n 7))) (C := RX0) (T := TX0) (N := 17) hx hb hts hinX0 hown hK hP 0 rfl rfl 16 (Nat.le_of_ble_eq_true rfl) hf78 rfl rfl dX0_partsSeen_15 ?_
        refine x_getph hx hb hZT hS hown hf108 dX0_partsSeen_18 ?_
        refine lv_iload hx hb dX0_partsSeen_21 (lv_at hl 4 rfl) ?_
        refine x_phald hx hb hZT hS (by omega) dX0_partsSeen_23 ?_
        refine x_iadd hx hb dX0_partsSeen_24 ?_
        refine lv_aload_n hx hb dX0_partsSeen_25 rfl (lv_at hl 0 rfl) ?_
        refine x_get (D := (dC, dI)) (ci := 0) (v := .int (nI (n 4))) (C := RX0) (T := TX0) (N := 17) hx hb hts hinX0 hown hK hP 0 rfl rfl 13 (Nat.le_of_ble_eq_true rfl) hf71 rfl rfl dX0_partsSeen_26 ?_
        refine roV_i (As := [.int (nI b), .int (nI c), .int (nI ((n 7) + (1 + 2 * k))), .int (nI (n 4))]) (rest := []) ⟨hx, hb, hml, hown, hts⟩ (kX0_inTheWay l dC dI cI q n A X hW hR b c ((n 7) + (1 + 2 * k)) (n 4) _ (by omega) (by omega) (by omega) (by omega)) (cwV 4 hts gX0_partsSeen_X0_inTheWay rfl rfl rfl hdX0_inTheWay ⟨Nat.le_trans (Nat.le_of_ble_eq_true rfl) hRf, Nat.le_trans (Nat.le_of_ble_eq_true rfl) hRl⟩) (va_recv hK hP (ci := 0) (q0 := 0) rfl rfl) hK hP rfl hl.1 rfl (Nat.le_of_ble_eq_true rfl) dX0_partsSeen_29 ⟨Nat.zero_le _, Nat.zero_le _⟩ hP hS hA (fun H locs hP hS => ?_)
        refine x_if_ne (tgt := 42) hx hb (Nat.lt_trans (sWay_lt hW (by omega) (by omega)) (by decide)) dX0_partsSeen_32 (by decide) (fun c32 => ?_) (fun c32 => ?_)
        · skip
          have hz : (fun p => decide (sWay n A b c (n 7 + (1 + 2 * p)) (n 4) = 0)) k = false := decide_eq_false c32
          refine lv_iinc (v := (nI (k + 1))) (lv' := [(4, .int (nI (k + 1))), (0, .ref (q 0)), (1, .int (nI b)), (2, .int (nI c)), (3, .int (nI (orB (fun p => decide (sWay n A b c (n 7 + (1 + 2 * p)) (n 4) = 0)) k)))]) hx hb dX0_partsSeen_42 hl (k := 4) rfl (nI_add _ _) (by decide) rfl (fun ls hl => ?_)
          refine lv_goto (tgt := 5) hx hb dX0_partsSeen_45 (by decide) ?_
          exact ih (k + 1) (by omega) (by omega) _ _ hP hS _ (by rw [show orB (fun p => decide (sWay n A b c (n 7 + (1 + 2 * p)) (n 4) = 0)) (k + 1) = orB (fun p => decide (sWay n A b c (n 7 + (1 + 2 * p)) (n 4) = 0)) k from (orB_f hz).symm]; exact lv_sub hl [1, 2, 3, 4, 0] rfl)
        · skip
          have hz : (fun p => decide (sWay n A b c (n 7 + (1 + 2 * p)) (n 4) = 0)) k = true := decide_eq_true c32
          refine lv_iload_n hx hb dX0_partsSeen_35 rfl (lv_at hl 3 rfl) ?_
          refine lv_iconst (v := nI 1) hx hb dX0_partsSeen_36 rfl ?_
          refine lv_iload hx hb dX0_partsSeen_37 (lv_at hl 4 rfl) ?_
          refine x_shl1 hx hb (by omega) dX0_partsSeen_39 ?_
          refine x_ior hx hb dX0_partsSeen_40 ?_
          refine lv_istore_n (lv' := [(3, .int (nI ((orB (fun p => decide (sWay n A b c (n 7 + (1 + 2 * p)) (n 4) = 0)) k) ||| (2 ^ k)))), (0, .ref (q 0)), (1, .int (nI b)), (2, .int (nI c)), (4, .int (nI k))]) hx hb dX0_partsSeen_41 rfl hl (by decide) rfl (fun ls hl => ?_)
          refine lv_iinc (v := (nI (k + 1))) (lv' := [(4, .int (nI (k + 1))), (3, .int (nI ((orB (fun p => decide (sWay n A b c (n 7 + (1 + 2 * p)) (n 4) = 0)) k) ||| (2 ^ k)))), (0, .ref (q 0)), (1, .int (nI b)), (2, .int (nI c))]) hx hb dX0_partsSeen_42 hl (k := 4) rfl (nI_add _ _) (by decide) rfl (fun ls hl => ?_)
          refine lv_goto (tgt := 5) hx hb dX0_partsSeen_45 (by decide) ?_
          exact ih (k + 1) (by omega) (by omega) _ _ hP hS _ (by rw [show orB (fun p => decide (sWay n A b c (n 7 + (1 + 2 * p)) (n 4) = 0)) (k + 1) = ((orB (fun p => decide (sWay n A b c (n 7 + (1 + 2 * p)) (n 4) = 0)) k) ||| (2 ^ k)) from (orB_t hz).symm]; exact lv_sub hl [2, 3, 4, 1, 0] rfl)
  exact L5 _ 0 (by omega) (Nat.lt_succ_self _) _ _ hP hS _ (lv_sub hl [2, 3, 4, 1, 0] rfl)
end
section
set_option maxHeartbeats 4000000 in
set_option maxRecDepth 100000 in
theorem kJ6_bitCount_0f7a4 (l : Launch) (dC : Nat → ClassId) (dI : Nat → Nat → Nat) (v : Nat) (sz : Nat) (hv : v < 16) : Met l yJ6_bitCount_0f7a4 wsJ6_bitCount_0f7a4 ({ frames := 0, cells := 0, slots := 0, locals := 0 }) (roP [.int (nI v)] sz (dC, dI) [] ([] : va_W)) (roQi (nI (pop4 v)) sz) 0 0 (va_A [] sz) := by
  refine ro_met_i (by decide) rfl (Nat.le_of_ble_eq_true rfl) ?_
  intro pp ee ss mm aa bb me cd RR QQ Z hx hb hml hown hts hRf hRl hP hK hA hS hend ls hl
  have hown : ss.vm.findClass RJ6 = some mm.cls := hown
  have hRf : 0 ≤ RR.frames := hRf
  have hRl : 0 ≤ RR.locals := hRl
  have hl : lv_has ls 1 [(0, .int (nI v))] := hl
  have hk265 := hts (.constant RJ6 265 (1431655765)) (List.mem_of_getElem? (i := 1) rfl)
  have hk266 := hts (.constant RJ6 266 (858993459)) (List.mem_of_getElem? (i := 2) rfl)
  have hk267 := hts (.constant RJ6 267 (252645135)) (List.mem_of_getElem? (i := 3) rfl)
  refine lv_iload_n hx hb dJ6_bitCount_0f7a4_0 rfl (lv_at hl 0 rfl) ?_
  refine lv_iload_n hx hb dJ6_bitCount_0f7a4_1 rfl (lv_at hl 0 rfl) ?_
  refine lv_iconst (v := nI 1) hx hb dJ6_bitCount_0f7a4_2 rfl ?_
  refine lv_iushr hx hb dJ6_bitCount_0f7a4_3 rfl ?_
  refine lv_ldcw hx hb hown hk265 dJ6_bitCount_0f7a4_4 ?_
  refine lv_iand hx hb dJ6_bitCount_0f7a4_7 ?_
  refine lv_isub hx hb dJ6_bitCount_0f7a4_8 ?_
  refine lv_istore_n (lv' := [(0, .int ((nI v) - ((((nI v).toUInt32 >>> ((nI 1).toUInt32 &&& Int32.toUInt32 31)).toInt32) &&& (nI 1431655765))))]) hx hb dJ6_bitCount_0f7a4_9 rfl hl (by decide) rfl (fun ls hl => ?_)
  refine lv_iload_n hx hb dJ6_bitCount_0f7a4_10 rfl (lv_at hl 0 rfl) ?_
  refine lv_ldcw hx hb hown hk266 dJ6_bitCount_0f7a4_11 ?_
  refine lv_iand hx hb dJ6_bitCount_0f7a4_14 ?_
  refine lv_iload_n hx hb dJ6_bitCount_0f7a4_15 rfl (lv_at hl 0 rfl) ?_
  refine lv_iconst (v := nI 2) hx hb dJ6_bitCount_0f7a4_16 rfl ?_
  refine lv_iushr hx hb dJ6_bitCount_0f7a4_17 rfl ?_
  refine lv_ldcw hx hb hown hk266 dJ6_bitCount_0f7a4_18 ?_
  refine lv_iand hx hb dJ6_bitCount_0f7a4_21 ?_
  refine lv_iadd hx hb dJ6_bitCount_0f7a4_22 ?_
  refine lv_istore_n (lv' := [(0, .int ((((nI v) - ((((nI v).toUInt32 >>> ((nI 1).toUInt32 &&& Int32.toUInt32 31)).toInt32) &&& (nI 1431655765))) &&& (nI 858993459)) + (((((nI v) - ((((nI v).toUInt32 >>> ((nI 1).toUInt32 &&& Int32.toUInt32 31)).toInt32) &&& (nI 1431655765))).toUInt32 >>> ((nI 2).toUInt32 &&& Int32.toUInt32 31)).toInt32) &&& (nI 858993459))))]) hx hb dJ6_bitCount_0f7a4_23 rfl hl (by decide) rfl (fun ls hl => ?_)
  refine lv_iload_n hx hb dJ6_bitCount_0f7a4_24 rfl (lv_at hl 0 rfl) ?_
  refine lv_iload_n hx hb dJ6_bitCount_0f7a4_25 rfl (lv_at hl 0 rfl) ?_
  refine lv_iconst (v := nI 4) hx hb dJ6_bitCount_0f7a4_26 rfl ?_
  refine lv_iushr hx hb dJ6_bitCount_0f7a4_27 rfl ?_
  refine lv_iadd hx hb dJ6_bitCount_0f7a4_28 ?_
  refine lv_ldcw hx hb hown hk267 dJ6_bitCount_0f7a4_29 ?_
  refine lv_iand hx hb dJ6_bitCount_0f7a4_32 ?_
  refine lv_istore_n (lv' := [(0, .int ((((((nI v) - ((((nI v).toUInt32 >>> ((nI 1).toUInt32 &&& Int32.toUInt32 31)).toInt32) &&& (nI 1431655765))) &&& (nI 858993459)) + (((((nI v) - ((((nI v).toUInt32 >>> ((nI 1).toUInt32 &&& Int32.toUInt32 31)).toInt32) &&& (nI 1431655765))).toUInt32 >>> ((nI 2).toUInt32 &&& Int32.toUInt32 31)).toInt32) &&& (nI 858993459))) + ((((((nI v) - ((((nI v).toUInt32 >>> ((nI 1).toUInt32 &&& Int32.toUInt32 31)).toInt32) &&& (nI 1431655765))) &&& (nI 858993459)) + (((((nI v) - ((((nI v).toUInt32 >>> ((nI 1).toUInt32 &&& Int32.toUInt32 31)).toInt32) &&& (nI 1431655765))).toUInt32 >>> ((nI 2).toUInt32 &&& Int32.toUInt32 31)).toInt32) &&& (nI 858993459))).toUInt32 >>> ((nI 4).toUInt32 &&& Int32.toUInt32 31)).toInt32)) &&& (nI 252645135)))]) hx hb dJ6_bitCount_0f7a4_33 rfl hl (by decide) rfl (fun ls hl => ?_)
  refine lv_iload_n hx hb dJ6_bitCount_0f7a4_34 rfl (lv_at hl 0 rfl) ?_
  refine lv_iload_n hx hb dJ6_bitCount_0f7a4_35 rfl (lv_at hl 0 rfl) ?_
  refine lv_bipush (v := nI 8) hx hb dJ6_bitCount_0f7a4_36 rfl ?_
  refine lv_iushr hx hb dJ6_bitCount_0f7a4_38 rfl ?_
  refine lv_iadd hx hb dJ6_bitCount_0f7a4_39 ?_
  refine lv_istore_n (lv' := [(0, .int (((((((nI v) - ((((nI v).toUInt32 >>> ((nI 1).toUInt32 &&& Int32.toUInt32 31)).toInt32) &&& (nI 1431655765))) &&& (nI 858993459)) + (((((nI v) - ((((nI v).toUInt32 >>> ((nI 1).toUInt32 &&& Int32.toUInt32 31)).toInt32) &&& (nI 1431655765))).toUInt32 >>> ((nI 2).toUInt32 &&& Int32.toUInt32 31)).toInt32) &&& (nI 858993459))) + ((((((nI v) - ((((nI v).toUInt32 >>> ((nI 1).toUInt32 &&& Int32.toUInt32 31)).toInt32) &&& (nI 1431655765))) &&& (nI 858993459)) + (((((nI v) - ((((nI v).toUInt32 >>> ((nI 1).toUInt32 &&& Int32.toUInt32 31)).toInt32) &&& (nI 1431655765))).toUInt32 >>> ((nI 2).toUInt32 &&& Int32.toUInt32 31)).toInt32) &&& (nI 858993459))).toUInt32 >>> ((nI 4).toUInt32 &&& Int32.toUInt32 31)).toInt32)) &&& (nI 252645135)) + ((((((((nI v) - ((((nI v).toUInt32 >>> ((nI 1).toUInt32 &&& Int32.toUInt32 31)).toInt32) &&& (nI 1431655765))) &&& (nI 858993459)) + (((((nI v) - ((((nI v).toUInt32 >>> ((nI 1).toUInt32 &&& Int32.toUInt32 31)).toInt32) &&& (nI 1431655765))).toUInt32 >>> ((nI 2).toUInt32 &&& Int32.toUInt32 31)).toInt32) &&& (nI 858993459))) + ((((((nI v) - ((((nI v).toUInt32 >>> ((nI 1).toUInt32 &&& Int32.toUInt32 31)).toInt32) &&& (nI 1431655765))) &&& (nI 858993459)) + (((((nI v) - ((((nI v).toUInt32 >>> ((nI 1).toUInt32 &&& Int32.toUInt32 31)).toInt32) &&& (nI 1431655765))).toUInt32 >>> ((nI 2).toUInt32 &&& Int32.toUInt32 31)).toInt32) &&& (nI 858993459))).toUInt32 >>> ((nI 4).toUInt32 &&& Int32.toUInt32 31)).toInt32)) &&& (nI 252645135)).toUInt32 >>> ((nI 8).toUInt32 &&& Int32.toUInt32 31)).toInt32)))]) hx hb dJ6_bitCount_0f7a4_40 rfl hl (by decide) rfl (fun ls hl => ?_)
  refine lv_iload_n hx hb dJ6_bitCount_0f7a4_41 rfl (lv_at hl 0 rfl) ?_
  refine lv_iload_n hx hb dJ6_bitCount_0f7a4_42 rfl (lv_at hl 0 rfl) ?_
  refine lv_bipush (v := nI 16) hx hb dJ6_bitCount_0f7a4_43 rfl ?_
  refine lv_iushr hx hb dJ6_bitCount_0f7a4_45 rfl ?_
  refine lv_iadd hx hb dJ6_bitCount_0f7a4_46 ?_
  refine lv_istore_n (lv' := [(0, .int ((((((((nI v) - ((((nI v).toUInt32 >>> ((nI 1).toUInt32 &&& Int32.toUInt32 31)).toInt32) &&& (nI 1431655765))) &&& (nI 858993459)) + (((((nI v) - ((((nI v).toUInt32 >>> ((nI 1).toUInt32 &&& Int32.toUInt32 31)).toInt32) &&& (nI 1431655765))).toUInt32 >>> ((nI 2).toUInt32 &&& Int32.toUInt32 31)).toInt32) &&& (nI 858993459))) + ((((((nI v) - ((((nI v).toUInt32 >>> ((nI 1).toUInt32 &&& Int32.toUInt32 31)).toInt32) &&& (nI 1431655765))) &&& (nI 858993459)) + (((((nI v) - ((((nI v).toUInt32 >>> ((nI 1).toUInt32 &&& Int32.toUInt32 31)).toInt32) &&& (nI 1431655765))).toUInt32 >>> ((nI 2).toUInt32 &&& Int32.toUInt32 31)).toInt32) &&& (nI 858993459))).toUInt32 >>> ((nI 4).toUInt32 &&& Int32.toUInt32 31)).toInt32)) &&& (nI 252645135)) + ((((((((nI v) - ((((nI v).toUInt32 >>> ((nI 1).toUInt32 &&& Int32.toUInt32 31)).toInt32) &&& (nI 1431655765))) &&& (nI 858993459)) + (((((nI v) - ((((nI v).toUInt32 >>> ((nI 1).toUInt32 &&& Int32.toUInt32 31)).toInt32) &&& (nI 1431655765))).toUInt32 >>> ((nI 2).toUInt32 &&& Int32.toUInt32 31)).toInt32) &&& (nI 858993459))) + ((((((nI v) - ((((nI v).toUInt32 >>> ((nI 1).toUInt32 &&& Int32.toUInt32 31)).toInt32) &&& (nI 1431655765))) &&& (nI 858993459)) + (((((nI v) - ((((nI v).toUInt32 >>> ((nI 1).toUInt32 &&& Int32.toUInt32 31)).toInt32) &&& (nI 1431655765))).toUInt32 >>> ((nI 2).toUInt32 &&& Int32.toUInt32 31)).toInt32) &&& (nI 858993459))).toUInt32 >>> ((nI 4).toUInt32 &&& Int32.toUInt32 31)).toInt32)) &&& (nI 252645135)).toUInt32 >>> ((nI 8).toUInt32 &&& Int32.toUInt32 31)).toInt32)) + (((((((((nI v) - ((((nI v).toUInt32 >>> ((nI 1).toUInt32 &&& Int32.toUInt32 31)).toInt32) &&& (nI 1431655765))) &&& (nI 858993459)) + (((((nI v) - ((((nI v).toUInt32 >>> ((nI 1).toUInt32 &&& Int32.toUInt32 31)).toInt32) &&& (nI 1431655765))).toUInt32 >>> ((nI 2).toUInt32 &&& Int32.toUInt32 31)).toInt32) &&& (nI 858993459))) + ((((((nI v) - ((((nI v).toUInt32 >>> ((nI 1).toUInt32 &&& Int32.toUInt32 31)).toInt32) &&& (nI 1431655765))) &&& (nI 858993459)) + (((((nI v) - ((((nI v).toUInt32 >>> ((nI 1).toUInt32 &&& Int32.toUInt32 31)).toInt32) &&& (nI 1431655765))).toUInt32 >>> ((nI 2).toUInt32 &&& Int32.toUInt32 31)).toInt32) &&& (nI 858993459))).toUInt32 >>> ((nI 4).toUInt32 &&& Int32.toUInt32 31)).toInt32)) &&& (nI 252645135)) + ((((((((nI v) - ((((nI v).toUInt32 >>> ((nI 1).toUInt32 &&& Int32.toUInt32 31)).toInt32) &&& (nI 1431655765))) &&& (nI 858993459)) + (((((nI v) - ((((nI v).toUInt32 >>> ((nI 1).toUInt32 &&& Int32.toUInt32 31)).toInt32) &&& (nI 1431655765))).toUInt32 >>> ((nI 2).toUInt32 &&& Int32.toUInt32 31)).toInt32) &&& (nI 858993459))) + ((((((nI v) - ((((nI v).toUInt32 >>> ((nI 1).toUInt32 &&& Int32.toUInt32 31)).toInt32) &&& (nI 1431655765))) &&& (nI 858993459)) + (((((nI v) - ((((nI v).toUInt32 >>> ((nI 1).toUInt32 &&& Int32.toUInt32 31)).toInt32) &&& (nI 1431655765))).toUInt32 >>> ((nI 2).toUInt32 &&& Int32.toUInt32 31)).toInt32) &&& (nI 858993459))).toUInt32 >>> ((nI 4).toUInt32 &&& Int32.toUInt32 31)).toInt32)) &&& (nI 252645135)).toUInt32 >>> ((nI 8).toUInt32 &&& Int32.toUInt32 31)).toInt32)).toUInt32 >>> ((nI 16).toUInt32 &&& Int32.toUInt32 31)).toInt32)))]) hx hb dJ6_bitCount_0f7a4_47 rfl hl (by decide) rfl (fun ls hl => ?_)
  refine lv_iload_n hx hb dJ6_bitCount_0f7a4_48 rfl (lv_at hl 0 rfl) ?_
  refine lv_bipush (v := nI 63) hx hb dJ6_bitCount_0f7a4_49 rfl ?_
  refine lv_iand hx hb dJ6_bitCount_0f7a4_51 ?_
  exact hend _ _ _ _ _ (show (((((((((nI v) - ((((nI v).toUInt32 >>> ((nI 1).toUInt32 &&& Int32.toUInt32 31)).toInt32) &&& (nI 1431655765))) &&& (nI 858993459)) + (((((nI v) - ((((nI v).toUInt32 >>> ((nI 1).toUInt32 &&& Int32.toUInt32 31)).toInt32) &&& (nI 1431655765))).toUInt32 >>> ((nI 2).toUInt32 &&& Int32.toUInt32 31)).toInt32) &&& (nI 858993459))) + ((((((nI v) - ((((nI v).toUInt32 >>> ((nI 1).toUInt32 &&& Int32.toUInt32 31)).toInt32) &&& (nI 1431655765))) &&& (nI 858993459)) + (((((nI v) - ((((nI v).toUInt32 >>> ((nI 1).toUInt32 &&& Int32.toUInt32 31)).toInt32) &&& (nI 1431655765))).toUInt32 >>> ((nI 2).toUInt32 &&& Int32.toUInt32 31)).toInt32) &&& (nI 858993459))).toUInt32 >>> ((nI 4).toUInt32 &&& Int32.toUInt32 31)).toInt32)) &&& (nI 252645135)) + ((((((((nI v) - ((((nI v).toUInt32 >>> ((nI 1).toUInt32 &&& Int32.toUInt32 31)).toInt32) &&& (nI 1431655765))) &&& (nI 858993459)) + (((((nI v) - ((((nI v).toUInt32 >>> ((nI 1).toUInt32 &&& Int32.toUInt32 31)).toInt32) &&& (nI 1431655765))).toUInt32 >>> ((nI 2).toUInt32 &&& Int32.toUInt32 31)).toInt32) &&& (nI 858993459))) + ((((((nI v) - ((((nI v).toUInt32 >>> ((nI 1).toUInt32 &&& Int32.toUInt32 31)).toInt32) &&& (nI 1431655765))) &&& (nI 858993459)) + (((((nI v) - ((((nI v).toUInt32 >>> ((nI 1).toUInt32 &&& Int32.toUInt32 31)).toInt32) &&& (nI 1431655765))).toUInt32 >>> ((nI 2).toUInt32 &&& Int32.toUInt32 31)).toInt32) &&& (nI 858993459))).toUInt32 >>> ((nI 4).toUInt32 &&& Int32.toUInt32 31)).toInt32)) &&& (nI 252645135)).toUInt32 >>> ((nI 8).toUInt32 &&& Int32.toUInt32 31)).toInt32)) + (((((((((nI v) - ((((nI v).toUInt32 >>> ((nI 1).toUInt32 &&& Int32.toUInt32 31)).toInt32) &&& (nI 1431655765))) &&& (nI 858993459)) + (((((nI v) - ((((nI v).toUInt32 >>> ((nI 1).toUInt32 &&& Int32.toUInt32 31)).toInt32) &&& (nI 1431655765))).toUInt32 >>> ((nI 2).toUInt32 &&& Int32.toUInt32 31)).toInt32) &&& (nI 858993459))) + ((((((nI v) - ((((nI v).toUInt32 >>> ((nI 1).toUInt32 &&& Int32.toUInt32 31)).toInt32) &&& (nI 1431655765))) &&& (nI 858993459)) + (((((nI v) - ((((nI v).toUInt32 >>> ((nI 1).toUInt32 &&& Int32.toUInt32 31)).toInt32) &&& (nI 1431655765))).toUInt32 >>> ((nI 2).toUInt32 &&& Int32.toUInt32 31)).toInt32) &&& (nI 858993459))).toUInt32 >>> ((nI 4).toUInt32 &&& Int32.toUInt32 31)).toInt32)) &&& (nI 252645135)) + ((((((((nI v) - ((((nI v).toUInt32 >>> ((nI 1).toUInt32 &&& Int32.toUInt32 31)).toInt32) &&& (nI 1431655765))) &&& (nI 858993459)) + (((((nI v) - ((((nI v).toUInt32 >>> ((nI 1).toUInt32 &&& Int32.toUInt32 31)).toInt32) &&& (nI 1431655765))).toUInt32 >>> ((nI 2).toUInt32 &&& Int32.toUInt32 31)).toInt32) &&& (nI 858993459))) + ((((((nI v) - ((((nI v).toUInt32 >>> ((nI 1).toUInt32 &&& Int32.toUInt32 31)).toInt32) &&& (nI 1431655765))) &&& (nI 858993459)) + (((((nI v) - ((((nI v).toUInt32 >>> ((nI 1).toUInt32 &&& Int32.toUInt32 31)).toInt32) &&& (nI 1431655765))).toUInt32 >>> ((nI 2).toUInt32 &&& Int32.toUInt32 31)).toInt32) &&& (nI 858993459))).toUInt32 >>> ((nI 4).toUInt32 &&& Int32.toUInt32 31)).toInt32)) &&& (nI 252645135)).toUInt32 >>> ((nI 8).toUInt32 &&& Int32.toUInt32 31)).toInt32)).toUInt32 >>> ((nI 16).toUInt32 &&& Int32.toUInt32 31)).toInt32)) &&& (nI 63)) = nI (pop4 v) from (show ∀ v, v < 16 → (((((((((nI v) - ((((nI v).toUInt32 >>> ((nI 1).toUInt32 &&& Int32.toUInt32 31)).toInt32) &&& (nI 1431655765))) &&& (nI 858993459)) + (((((nI v) - ((((nI v).toUInt32 >>> ((nI 1).toUInt32 &&& Int32.toUInt32 31)).toInt32) &&& (nI 1431655765))).toUInt32 >>> ((nI 2).toUInt32 &&& Int32.toUInt32 31)).toInt32) &&& (nI 858993459))) + ((((((nI v) - ((((nI v).toUInt32 >>> ((nI 1).toUInt32 &&& Int32.toUInt32 31)).toInt32) &&& (nI 1431655765))) &&& (nI 858993459)) + (((((nI v) - ((((nI v).toUInt32 >>> ((nI 1).toUInt32 &&& Int32.toUInt32 31)).toInt32) &&& (nI 1431655765))).toUInt32 >>> ((nI 2).toUInt32 &&& Int32.toUInt32 31)).toInt32) &&& (nI 858993459))).toUInt32 >>> ((nI 4).toUInt32 &&& Int32.toUInt32 31)).toInt32)) &&& (nI 252645135)) + ((((((((nI v) - ((((nI v).toUInt32 >>> ((nI 1).toUInt32 &&& Int32.toUInt32 31)).toInt32) &&& (nI 1431655765))) &&& (nI 858993459)) + (((((nI v) - ((((nI v).toUInt32 >>> ((nI 1).toUInt32 &&& Int32.toUInt32 31)).toInt32) &&& (nI 1431655765))).toUInt32 >>> ((nI 2).toUInt32 &&& Int32.toUInt32 31)).toInt32) &&& (nI 858993459))) + ((((((nI v) - ((((nI v).toUInt32 >>> ((nI 1).toUInt32 &&& Int32.toUInt32 31)).toInt32) &&& (nI 1431655765))) &&& (nI 858993459)) + (((((nI v) - ((((nI v).toUInt32 >>> ((nI 1).toUInt32 &&& Int32.toUInt32 31)).toInt32) &&& (nI 1431655765))).toUInt32 >>> ((nI 2).toUInt32 &&& Int32.toUInt32 31)).toInt32) &&& (nI 858993459))).toUInt32 >>> ((nI 4).toUInt32 &&& Int32.toUInt32 31)).toInt32)) &&& (nI 252645135)).toUInt32 >>> ((nI 8).toUInt32 &&& Int32.toUInt32 31)).toInt32)) + (((((((((nI v) - ((((nI v).toUInt32 >>> ((nI 1).toUInt32 &&& Int32.toUInt32 31)).toInt32) &&& (nI 1431655765))) &&& (nI 858993459)) + (((((nI v) - ((((nI v).toUInt32 >>> ((nI 1).toUInt32 &&& Int32.toUInt32 31)).toInt32) &&& (nI 1431655765))).toUInt32 >>> ((nI 2).toUInt32 &&& Int32.toUInt32 31)).toInt32) &&& (nI 858993459))) + ((((((nI v) - ((((nI v).toUInt32 >>> ((nI 1).toUInt32 &&& Int32.toUInt32 31)).toInt32) &&& (nI 1431655765))) &&& (nI 858993459)) + (((((nI v) - ((((nI v).toUInt32 >>> ((nI 1).toUInt32 &&& Int32.toUInt32 31)).toInt32) &&& (nI 1431655765))).toUInt32 >>> ((nI 2).toUInt32 &&& Int32.toUInt32 31)).toInt32) &&& (nI 858993459))).toUInt32 >>> ((nI 4).toUInt32 &&& Int32.toUInt32 31)).toInt32)) &&& (nI 252645135)) + ((((((((nI v) - ((((nI v).toUInt32 >>> ((nI 1).toUInt32 &&& Int32.toUInt32 31)).toInt32) &&& (nI 1431655765))) &&& (nI 858993459)) + (((((nI v) - ((((nI v).toUInt32 >>> ((nI 1).toUInt32 &&& Int32.toUInt32 31)).toInt32) &&& (nI 1431655765))).toUInt32 >>> ((nI 2).toUInt32 &&& Int32.toUInt32 31)).toInt32) &&& (nI 858993459))) + ((((((nI v) - ((((nI v).toUInt32 >>> ((nI 1).toUInt32 &&& Int32.toUInt32 31)).toInt32) &&& (nI 1431655765))) &&& (nI 858993459)) + (((((nI v) - ((((nI v).toUInt32 >>> ((nI 1).toUInt32 &&& Int32.toUInt32 31)).toInt32) &&& (nI 1431655765))).toUInt32 >>> ((nI 2).toUInt32 &&& Int32.toUInt32 31)).toInt32) &&& (nI 858993459))).toUInt32 >>> ((nI 4).toUInt32 &&& Int32.toUInt32 31)).toInt32)) &&& (nI 252645135)).toUInt32 >>> ((nI 8).toUInt32 &&& Int32.toUInt32 31)).toInt32)).toUInt32 >>> ((nI 16).toUInt32 &&& Int32.toUInt32 31)).toInt32)) &&& (nI 63)) = nI (pop4 v) from by decide +kernel) v hv) hS dJ6_bitCount_0f7a4_52
theorem hdJ6_bitCount_0f7a4 : yJ6_bitCount_0f7a4.cls ≠ "java/lang/invoke/MethodHandle" ∧ yJ6_bitCount_0f7a4.cls ≠ "java/lang/invoke/VarHandle" ∧ (parseMethodDescriptor yJ6_bitCount_0f7a4.desc).map (fun d => d.parameters.length) = some 1 := by decide +kernel
theorem hdX0_partsSeen : yX0_partsSeen.cls = RX0 ∧ yX0_partsSeen.cls ≠ "java/lang/invoke/MethodHandle" ∧ yX0_partsSeen.cls ≠ "java/lang/invoke/VarHandle" ∧ (parseMethodDescriptor yX0_partsSeen.desc).map (fun d => d.parameters.length) = some 2 := by decide +kernel
set_option maxRecDepth 20000 in
theorem ggX0_partsSeenInAll_X0_partsSeen : GoodIn wsX0_partsSeenInAll wsX0_partsSeen := goodIn_r _ [7, 8, 9, 10, 11, 12, 13, 6, 14, 15, 16, 17, 18, 19, 20, 21, 22, 23, 24, 25, 26, 27, 28, 29, 30, 31, 32, 33, 34, 35, 36, 37, 38, 39, 40, 41, 49, 50, 51, 52, 53, 54, 55, 56, 57, 58, 59, 60, 61, 62, 63, 64, 65] (by decide +kernel) (by decide +kernel)
set_option maxRecDepth 20000 in
theorem gX0_partsSeenInAll_X0_partsSeen : GoodIn wsX0_partsSeenInAll (wsV RX0 115 RX0 yX0_partsSeen wsX0_partsSeen) := goodIn_app (goodIn_of _ (by decide +kernel)) ggX0_partsSeenInAll_X0_partsSeen
set_option maxRecDepth 20000 in
theorem ggX0_partsSeenInAll_J6_bitCount_0f7a4 : GoodIn wsX0_partsSeenInAll wsJ6_bitCount_0f7a4 := goodIn_r _ [45, 46, 47, 48] (by decide +kernel) (by decide +kernel)
set_option maxRecDepth 20000 in
theorem gX0_partsSeenInAll_J6_bitCount_0f7a4 : GoodIn wsX0_partsSeenInAll (va_wsS RX0 118 yJ6_bitCount_0f7a4 wsJ6_bitCount_0f7a4) := goodIn_app (goodIn_of _ (by decide +kernel)) ggX0_partsSeenInAll_J6_bitCount_0f7a4
set_option maxHeartbeats 4000000 in
set_option maxRecDepth 100000 in
theorem kX0_partsSeenInAll (l : Launch) (dC : Nat → ClassId) (dI : Nat → Nat → Nat) (cI : ClassId) (q n : Nat → Nat) (A : Nat → Nat → Nat) (X : Nat → Nat → Int32) (hW : WF n A) (hR : RG n A X) (tH : Nat) (sz : Nat) (hst : 0 < n 6) : Met l yX0_partsSeenInAll wsX0_partsSeenInAll ({ frames := 4, cells := 0, slots := 0, locals := 101 }) (rsP tH [.ref (q 0)] sz (dC, dI) [(cI, .int)] (wG cI q n X)) (roQi (nI (sAll n A)) sz) 0 0 (va_A [] sz) := by
  refine rs_met_i (by decide) rfl (Nat.le_of_ble_eq_true rfl) ?_
  intro pp ee ss mm aa bb me cd RR QQ Z hx hb hml hown hts hRf hRl hP hK hA hS hZT hend ls hl
  have hown : ss.vm.findClass RX0 = some mm.cls := hown
  have hRf : 4 ≤ RR.frames := hRf
  have hRl : 101 ≤ RR.locals := hRl
  have hl : lv_has ls 3 [(0, .ref (q 0))] := hl
  obtain ⟨w0, w1, w2, w3, w4, w5, w6, w7, w8, wA0, wA1, wA2⟩ := id hW
  have wC : n 0 * n 1 ≤ 42 := Nat.mul_le_mul w0 w1
  have hf49 := hts (.fieldLink RX0 49 "StatueSquare$Ground" "benchCount" "I") (List.mem_of_getElem? (i := 1) rfl)
  have hinX0 : ∀ w ∈ u_ws RX0 TX0 17, w ∈ wsX0_partsSeenInAll := fun _ h => List.mem_cons_of_mem _ (List.mem_append_right _ h)
  have hf36 := hts (.fieldLink RX0 36 "StatueSquare$Ground" "statueCell" "I") (List.mem_of_getElem? (i := 2) rfl)
  refine lv_iconst (v := nI 0) hx hb dX0_partsSeenInAll_0 rfl ?_
  refine lv_istore_n (lv' := [(1, .int (nI 0)), (0, .ref (q 0))]) hx hb dX0_partsSeenInAll_1 rfl hl (by decide) rfl (fun ls hl => ?_)
  refine lv_iconst (v := nI 0) hx hb dX0_partsSeenInAll_2 rfl ?_
  refine lv_istore_n (lv' := [(2, .int (nI 0)), (1, .int (nI 0)), (0, .ref (q 0))]) hx hb dX0_partsSeenInAll_3 rfl hl (by decide) rfl (fun ls hl => ?_)
  have L4 : ∀ (fuel : Nat) (k : Nat) (hk : k ≤ n 2) (hfu : n 2 - k < fuel) (H : Heap) (locs : List Loc), va_P (dC, dI) vwCl (wG cI q n X) H → va_S Z ss.heap H locs → ∀ (ls : Array Slot), lv_has ls 3 [(0, .ref (q 0)), (1, .int (nI (sumN (fun b => pop4 (sSeen n A b (n 6 - 1))) k))), (2, .int (nI k))] → W pp l ee RR ss mm aa bb me cd H locs 0 0 QQ (F0 mm 4 ls []) := by
    intro fuel
    induction fuel with
    | zero => intro k hk hfu; exact absurd hfu (Nat.not_lt_zero _)
    | succ fuel ih =>
      intro k hk hfu H locs hP hS ls hl
      refine lv_iload_n hx hb dX0_partsSeenInAll_4 rfl (lv_at hl 2 rfl) ?_
      refine lv_aload_n hx hb dX0_partsSeenInAll_5 rfl (lv_at hl 0 rfl) ?_
      refine x_get (D := (dC, dI)) (ci := 0) (v := .int (nI (n 2))) (C := RX0) (T := TX0) (N := 17) hx hb hts hinX0 hown hK hP 0 rfl rfl 2 (Nat.le_of_ble_eq_true rfl) hf49 rfl rfl dX0_partsSeenInAll_6 ?_
      refine x_icmp_ge (tgt := 33) hx hb (by omega) (by omega) dX0_partsSeenInAll_9 (by decide) (fun c9 => ?_) (fun c9 => ?_)
      · skip
        refine lv_iload_n hx hb dX0_partsSeenInAll_33 rfl (lv_at hl 1 rfl) ?_
        exact hend _ _ _ _ _ (congrArg nI (show sumN (fun b => pop4 (sSeen n A b (n 6 - 1))) k = sumN (fun b => pop4 (sSeen n A b (n 6 - 1))) (n 2) from by congr 1; omega)) hS dX0_partsSeenInAll_34
      · skip
        refine lv_iload_n hx hb dX0_partsSeenInAll_12 rfl (lv_at hl 1 rfl) ?_
        refine lv_aload_n hx hb dX0_partsSeenInAll_13 rfl (lv_at hl 0 rfl) ?_
        refine lv_iload_n hx hb dX0_partsSeenInAll_14 rfl (lv_at hl 2 rfl) ?_
        refine lv_aload_n hx hb dX0_partsSeenInAll_15 rfl (lv_at hl 0 rfl) ?_
        refine x_get (D := (dC, dI)) (ci := 0) (v := .int (stI (n 6))) (C := RX0) (T := TX0) (N := 17) hx hb hts hinX0 hown hK hP 0 rfl rfl 15 (Nat.le_of_ble_eq_true rfl) hf36 rfl rfl dX0_partsSeenInAll_16 ?_
        refine x_top (stI_pos hst) ?_
        refine rsV_i (As := [.int (nI k), .int (nI (n 6 - 1))]) (rest := [.int (nI (sumN (fun b => pop4 (sSeen n A b (n 6 - 1))) k))]) ⟨hx, hb, hml, hown, hts⟩ (kX0_partsSeen l dC dI cI q n A X hW hR tH k (n 6 - 1) _ (by omega) (by omega)) (cwV 2 hts gX0_partsSeenInAll_X0_partsSeen rfl rfl rfl hdX0_partsSeen ⟨Nat.le_trans (Nat.le_of_ble_eq_true rfl) hRf, Nat.le_trans (Nat.le_of_ble_eq_true rfl) hRl⟩) (va_recv hK hP (ci := 0) (q0 := 0) rfl rfl) hK hP rfl hl.1 rfl (Nat.le_of_ble_eq_true rfl) dX0_partsSeenInAll_19 ⟨Nat.zero_le _, Nat.zero_le _⟩ hP hS hA hZT (fun H locs hP hS => ?_)
        refine roS_i (As := [.int (nI (sSeen n A k (n 6 - 1)))]) (rest := [.int (nI (sumN (fun b => pop4 (sSeen n A b (n 6 - 1))) k))]) ⟨hx, hb, hml, hown, hts⟩ (kJ6_bitCount_0f7a4 l dC dI (sSeen n A k (n 6 - 1)) _ (sSeen_lt _ _ _ _)) (va_cwS 1 hts gX0_partsSeenInAll_J6_bitCount_0f7a4 rfl rfl rfl hdJ6_bitCount_0f7a4 ⟨Nat.le_trans (Nat.le_of_ble_eq_true rfl) hRf, Nat.le_trans (Nat.le_of_ble_eq_true rfl) hRl⟩) (hK.sub [] rfl) (hP.sub [] rfl) rfl hl.1 rfl (Nat.le_of_ble_eq_true rfl) dX0_partsSeenInAll_22 ⟨Nat.zero_le _, Nat.zero_le _⟩ hP hS hA (fun H locs hP hS => ?_)
        refine x_iadd hx hb dX0_partsSeenInAll_25 ?_
        refine lv_istore_n (lv' := [(1, .int (nI ((sumN (fun b => pop4 (sSeen n A b (n 6 - 1))) k) + (pop4 (sSeen n A k (n 6 - 1)))))), (0, .ref (q 0)), (2, .int (nI k))]) hx hb dX0_partsSeenInAll_26 rfl hl (by decide) rfl (fun ls hl => ?_)
        refine lv_iinc (v := (nI (k + 1))) (lv' := [(2, .int (nI (k + 1))), (1, .int (nI ((sumN (fun b => pop4 (sSeen n A b (n 6 - 1))) k) + (pop4 (sSeen n A k (n 6 - 1)))))), (0, .ref (q 0))]) hx hb dX0_partsSeenInAll_27 hl (k := 2) rfl (nI_add _ _) (by decide) rfl (fun ls hl => ?_)
        refine lv_goto (tgt := 4) hx hb dX0_partsSeenInAll_30 (by decide) ?_
        exact ih (k + 1) (by omega) (by omega) _ _ hP hS _ (lv_sub hl [2, 1, 0] rfl)
  exact L4 _ 0 (by omega) (Nat.lt_succ_self _) _ _ hP hS _ (lv_sub hl [2, 1, 0] rfl)
set_option maxRecDepth 20000 in
theorem ggX0_hiders_X0_inTheWay : GoodIn wsX0_hiders wsX0_inTheWay := goodIn_r _ [8, 9, 10, 11, 12, 13, 7, 14, 15, 16, 17, 18, 19, 20, 21, 22, 23, 24, 25, 26, 27, 28, 29, 30, 31, 32, 33, 34, 35, 36, 37, 38, 39, 40, 41, 42, 43, 44, 45, 46, 47, 48, 49, 50, 51, 52] (by decide +kernel) (by decide +kernel)
set_option maxRecDepth 20000 in
theorem gX0_hiders_X0_inTheWay : GoodIn wsX0_hiders (wsV RX0 111 RX0 yX0_inTheWay wsX0_inTheWay) := goodIn_app (goodIn_of _ (by decide +kernel)) ggX0_hiders_X0_inTheWay
set_option maxHeartbeats 4000000 in
set_option maxRecDepth 100000 in
theorem kX0_hiders (l : Launch) (dC : Nat → ClassId) (dI : Nat → Nat → Nat) (cI : ClassId) (q n : Nat → Nat) (A : Nat → Nat → Nat) (X : Nat → Nat → Int32) (hW : WF n A) (hR : RG n A X) (b : Nat) (sz : Nat) (hst : 0 < n 6) (hb0 : b < n 2) : Met l yX0_hiders wsX0_hiders ({ frames := 3, cells := 0, slots := 0, locals := 77 }) (roP [.ref (q 0), .int (nI b)] sz (dC, dI) [(cI, .int)] (wG cI q n X)) (roQi (nI (sFoot n A b (n 4))) sz) 0 0 (va_A [] sz) := by
  refine ro_met_i (by decide) rfl (Nat.le_of_ble_eq_true rfl) ?_
  intro pp ee ss mm aa bb me cd RR QQ Z hx hb hml hown hts hRf hRl hP hK hA hS hend ls hl
  have hown : ss.vm.findClass RX0 = some mm.cls := hown
  have hRf : 3 ≤ RR.frames := hRf
  have hRl : 77 ≤ RR.locals := hRl
  have hl : lv_has ls 2 [(0, .ref (q 0)), (1, .int (nI b))] := hl
  obtain ⟨w0, w1, w2, w3, w4, w5, w6, w7, w8, wA0, wA1, wA2⟩ := id hW
  have wC : n 0 * n 1 ≤ 42 := Nat.mul_le_mul w0 w1
  have hf36 := hts (.fieldLink RX0 36 "StatueSquare$Ground" "statueCell" "I") (List.mem_of_getElem? (i := 1) rfl)
  have hinX0 : ∀ w ∈ u_ws RX0 TX0 17, w ∈ wsX0_hiders := fun _ h => List.mem_cons_of_mem _ (List.mem_append_right _ h)
  have hf78 := hts (.fieldLink RX0 78 "StatueSquare$Ground" "statueBlock" "I") (List.mem_of_getElem? (i := 2) rfl)
  have hf71 := hts (.fieldLink RX0 71 "StatueSquare$Ground" "yearNow" "I") (List.mem_of_getElem? (i := 3) rfl)
  refine lv_aload_n hx hb dX0_hiders_0 rfl (lv_at hl 0 rfl) ?_
  refine lv_iload_n hx hb dX0_hiders_1 rfl (lv_at hl 1 rfl) ?_
  refine lv_aload_n hx hb dX0_hiders_2 rfl (lv_at hl 0 rfl) ?_
  refine x_get (D := (dC, dI)) (ci := 0) (v := .int (stI (n 6))) (C := RX0) (T := TX0) (N := 17) hx hb hts hinX0 hown hK hP 0 rfl rfl 15 (Nat.le_of_ble_eq_true rfl) hf36 rfl rfl dX0_hiders_3 ?_
  refine x_top (stI_pos hst) ?_
  refine lv_aload_n hx hb dX0_hiders_6 rfl (lv_at hl 0 rfl) ?_
  refine x_get (D := (dC, dI)) (ci := 0) (v := .int (nI (n 7))) (C := RX0) (T := TX0) (N := 17) hx hb hts hinX0 hown hK hP 0 rfl rfl 16 (Nat.le_of_ble_eq_true rfl) hf78 rfl rfl dX0_hiders_7 ?_
  refine lv_iconst (v := nI 1) hx hb dX0_hiders_10 rfl ?_
  refine x_iadd hx hb dX0_hiders_11 ?_
  refine lv_aload_n hx hb dX0_hiders_12 rfl (lv_at hl 0 rfl) ?_
  refine x_get (D := (dC, dI)) (ci := 0) (v := .int (nI (n 4))) (C := RX0) (T := TX0) (N := 17) hx hb hts hinX0 hown hK hP 0 rfl rfl 13 (Nat.le_of_ble_eq_true rfl) hf71 rfl rfl dX0_hiders_13 ?_
  refine roV_i (As := [.int (nI b), .int (nI (n 6 - 1)), .int (nI ((n 7) + 1)), .int (nI (n 4))]) (rest := []) ⟨hx, hb, hml, hown, hts⟩ (kX0_inTheWay l dC dI cI q n A X hW hR b (n 6 - 1) ((n 7) + 1) (n 4) _ (by omega) (by omega) (by omega) (by omega)) (cwV 4 hts gX0_hiders_X0_inTheWay rfl rfl rfl hdX0_inTheWay ⟨Nat.le_trans (Nat.le_of_ble_eq_true rfl) hRf, Nat.le_trans (Nat.le_of_ble_eq_true rfl) hRl⟩) (va_recv hK hP (ci := 0) (q0 := 0) rfl rfl) hK hP rfl hl.1 rfl (Nat.le_of_ble_eq_true rfl) dX0_hiders_16 ⟨Nat.zero_le _, Nat.zero_le _⟩ hP hS hA (fun H locs hP hS => ?_)
  exact hend _ _ _ _ _ rfl hS dX0_hiders_19
theorem hdX0_hiders : yX0_hiders.cls = RX0 ∧ yX0_hiders.cls ≠ "java/lang/invoke/MethodHandle" ∧ yX0_hiders.cls ≠ "java/lang/invoke/VarHandle" ∧ (parseMethodDescriptor yX0_hiders.desc).map (fun d => d.parameters.length) = some 1 := by decide +kernel
set_option maxRecDepth 20000 in
theorem ggX0_allHiders_X0_hiders : GoodIn wsX0_allHiders wsX0_hiders := goodIn_r _ [6, 7, 8, 9, 10, 11, 12, 5, 13, 14, 15, 16, 17, 18, 19, 20, 21, 22, 23, 24, 25, 26, 27, 28, 29, 30, 31, 32, 33, 34, 35, 36, 37, 38, 39, 40, 41, 42, 43, 44, 45, 46, 47, 48, 49, 50, 51, 52, 53, 54, 55, 56, 57] (by decide +kernel) (by decide +kernel)
set_option maxRecDepth 20000 in
theorem gX0_allHiders_X0_hiders : GoodIn wsX0_allHiders (wsV RX0 123 RX0 yX0_hiders wsX0_hiders) := goodIn_app (goodIn_of _ (by decide +kernel)) ggX0_allHiders_X0_hiders
set_option maxHeartbeats 4000000 in
set_option maxRecDepth 100000 in
theorem kX0_allHiders (l : Launch) (dC : Nat → ClassId) (dI : Nat → Nat → Nat) (cI : ClassId) (q n : Nat → Nat) (A : Nat → Nat → Nat) (X : Nat → Nat → Int32) (hW : WF n A) (hR : RG n A X) (sz : Nat) (hst : 0 < n 6) : Met l yX0_allHiders wsX0_allHiders ({ frames := 4, cells := 0, slots := 0, locals := 98 }) (roP [.ref (q 0)] sz (dC, dI) [(cI, .int)] (wG cI q n X)) (roQi (nI (sHid n A)) sz) 0 0 (va_A [] sz) := by
  refine ro_met_i (by decide) rfl (Nat.le_of_ble_eq_true rfl) ?_
  intro pp ee ss mm aa bb me cd RR QQ Z hx hb hml hown hts hRf hRl hP hK hA hS hend ls hl
  have hown : ss.vm.findClass RX0 = some mm.cls := hown
  have hRf : 4 ≤ RR.frames := hRf
  have hRl : 98 ≤ RR.locals := hRl
  have hl : lv_has ls 3 [(0, .ref (q 0))] := hl
  obtain ⟨w0, w1, w2, w3, w4, w5, w6, w7, w8, wA0, wA1, wA2⟩ := id hW
  have wC : n 0 * n 1 ≤ 42 := Nat.mul_le_mul w0 w1
  have hf49 := hts (.fieldLink RX0 49 "StatueSquare$Ground" "benchCount" "I") (List.mem_of_getElem? (i := 1) rfl)
  have hinX0 : ∀ w ∈ u_ws RX0 TX0 17, w ∈ wsX0_allHiders := fun _ h => List.mem_cons_of_mem _ (List.mem_append_right _ h)
  refine lv_iconst (v := nI 0) hx hb dX0_allHiders_0 rfl ?_
  refine lv_istore_n (lv' := [(1, .int (nI 0)), (0, .ref (q 0))]) hx hb dX0_allHiders_1 rfl hl (by decide) rfl (fun ls hl => ?_)
  refine lv_iconst (v := nI 0) hx hb dX0_allHiders_2 rfl ?_
  refine lv_istore_n (lv' := [(2, .int (nI 0)), (1, .int (nI 0)), (0, .ref (q 0))]) hx hb dX0_allHiders_3 rfl hl (by decide) rfl (fun ls hl => ?_)
  have L4 : ∀ (fuel : Nat) (k : Nat) (hk : k ≤ n 2) (hfu : n 2 - k < fuel) (H : Heap) (locs : List Loc), va_P (dC, dI) vwCl (wG cI q n X) H → va_S Z ss.heap H locs → ∀ (ls : Array Slot), lv_has ls 3 [(0, .ref (q 0)), (1, .int (nI (orM (fun b => sFoot n A b (n 4)) k))), (2, .int (nI k))] → W pp l ee RR ss mm aa bb me cd H locs 0 0 QQ (F0 mm 4 ls []) := by
    intro fuel
    induction fuel with
    | zero => intro k hk hfu; exact absurd hfu (Nat.not_lt_zero _)
    | succ fuel ih =>
      intro k hk hfu H locs hP hS ls hl
      refine lv_iload_n hx hb dX0_allHiders_4 rfl (lv_at hl 2 rfl) ?_
      refine lv_aload_n hx hb dX0_allHiders_5 rfl (lv_at hl 0 rfl) ?_
      refine x_get (D := (dC, dI)) (ci := 0) (v := .int (nI (n 2))) (C := RX0) (T := TX0) (N := 17) hx hb hts hinX0 hown hK hP 0 rfl rfl 2 (Nat.le_of_ble_eq_true rfl) hf49 rfl rfl dX0_allHiders_6 ?_
      refine x_icmp_ge (tgt := 26) hx hb (by omega) (by omega) dX0_allHiders_9 (by decide) (fun c9 => ?_) (fun c9 => ?_)
      · skip
        refine lv_iload_n hx hb dX0_allHiders_26 rfl (lv_at hl 1 rfl) ?_
        exact hend _ _ _ _ _ (congrArg nI (show orM (fun b => sFoot n A b (n 4)) k = orM (fun b => sFoot n A b (n 4)) (n 2) from by congr 1; omega)) hS dX0_allHiders_27
      · skip
        refine lv_iload_n hx hb dX0_allHiders_12 rfl (lv_at hl 1 rfl) ?_
        refine lv_aload_n hx hb dX0_allHiders_13 rfl (lv_at hl 0 rfl) ?_
        refine lv_iload_n hx hb dX0_allHiders_14 rfl (lv_at hl 2 rfl) ?_
        refine roV_i (As := [.int (nI k)]) (rest := [.int (nI (orM (fun b => sFoot n A b (n 4)) k))]) ⟨hx, hb, hml, hown, hts⟩ (kX0_hiders l dC dI cI q n A X hW hR k _ (by omega) (by omega)) (cwV 1 hts gX0_allHiders_X0_hiders rfl rfl rfl hdX0_hiders ⟨Nat.le_trans (Nat.le_of_ble_eq_true rfl) hRf, Nat.le_trans (Nat.le_of_ble_eq_true rfl) hRl⟩) (va_recv hK hP (ci := 0) (q0 := 0) rfl rfl) hK hP rfl hl.1 rfl (Nat.le_of_ble_eq_true rfl) dX0_allHiders_15 ⟨Nat.zero_le _, Nat.zero_le _⟩ hP hS hA (fun H locs hP hS => ?_)
        refine x_ior hx hb dX0_allHiders_18 ?_
        refine lv_istore_n (lv' := [(1, .int (nI ((orM (fun b => sFoot n A b (n 4)) k) ||| (sFoot n A k (n 4))))), (0, .ref (q 0)), (2, .int (nI k))]) hx hb dX0_allHiders_19 rfl hl (by decide) rfl (fun ls hl => ?_)
        refine lv_iinc (v := (nI (k + 1))) (lv' := [(2, .int (nI (k + 1))), (1, .int (nI ((orM (fun b => sFoot n A b (n 4)) k) ||| (sFoot n A k (n 4))))), (0, .ref (q 0))]) hx hb dX0_allHiders_20 hl (k := 2) rfl (nI_add _ _) (by decide) rfl (fun ls hl => ?_)
        refine lv_goto (tgt := 4) hx hb dX0_allHiders_23 (by decide) ?_
        exact ih (k + 1) (by omega) (by omega) _ _ hP hS _ (lv_sub hl [2, 1, 0] rfl)
  exact L4 _ 0 (by omega) (Nat.lt_succ_self _) _ _ hP hS _ (lv_sub hl [2, 1, 0] rfl)
set_option maxHeartbeats 4000000 in
set_option maxRecDepth 100000 in
theorem kX0_costOf (l : Launch) (dC : Nat → ClassId) (dI : Nat → Nat → Nat) (cI : ClassId) (q n : Nat → Nat) (A : Nat → Nat → Nat) (X : Nat → Nat → Int32) (hW : WF n A) (hR : RG n A X) (ts : Nat) (sz : Nat) (hts0 : ts < 1024) : Met l yX0_costOf wsX0_costOf ({ frames := 0, cells := 0, slots := 0, locals := 0 }) (roP [.ref (q 0), .int (nI ts)] sz (dC, dI) [(cI, .int)] (wG cI q n X)) (roQi (nI (sCost n A ts)) sz) 0 0 (va_A [] sz) := by
  refine ro_met_i (by decide) rfl (Nat.le_of_ble_eq_true rfl) ?_
  intro pp ee ss mm aa bb me cd RR QQ Z hx hb hml hown hts hRf hRl hP hK hA hS hend ls hl
  have hown : ss.vm.findClass RX0 = some mm.cls := hown
  have hRf : 0 ≤ RR.frames := hRf
  have hRl : 0 ≤ RR.locals := hRl
  have hl : lv_has ls 4 [(0, .ref (q 0)), (1, .int (nI ts))] := hl
  obtain ⟨w0, w1, w2, w3, w4, w5, w6, w7, w8, wA0, wA1, wA2⟩ := id hW
  have wC : n 0 * n 1 ≤ 42 := Nat.mul_le_mul w0 w1
  have hf52 := hts (.fieldLink RX0 52 "StatueSquare$Ground" "thingCount" "I") (List.mem_of_getElem? (i := 1) rfl)
  have hinX0 : ∀ w ∈ u_ws RX0 TX0 17, w ∈ wsX0_costOf := fun _ h => List.mem_cons_of_mem _ (List.mem_append_right _ h)
  have hf33 := hts (.fieldLink RX0 33 "StatueSquare$Ground" "cost" "[I") (List.mem_of_getElem? (i := 2) rfl)
  refine lv_iconst (v := nI 0) hx hb dX0_costOf_0 rfl ?_
  refine lv_istore_n (lv' := [(2, .int (nI 0)), (0, .ref (q 0)), (1, .int (nI ts))]) hx hb dX0_costOf_1 rfl hl (by decide) rfl (fun ls hl => ?_)
  refine lv_iconst (v := nI 0) hx hb dX0_costOf_2 rfl ?_
  refine lv_istore_n (lv' := [(3, .int (nI 0)), (2, .int (nI 0)), (0, .ref (q 0)), (1, .int (nI ts))]) hx hb dX0_costOf_3 rfl hl (by decide) rfl (fun ls hl => ?_)
  have L4 : ∀ (fuel : Nat) (k : Nat) (hk : k ≤ n 3) (hfu : n 3 - k < fuel) (H : Heap) (locs : List Loc), va_P (dC, dI) vwCl (wG cI q n X) H → va_S Z ss.heap H locs → ∀ (ls : Array Slot), lv_has ls 4 [(0, .ref (q 0)), (1, .int (nI ts)), (2, .int (nI (sumN (fun t => if ts.testBit t then A 5 t else 0) k))), (3, .int (nI k))] → W pp l ee RR ss mm aa bb me cd H locs 0 0 QQ (F0 mm 4 ls []) := by
    intro fuel
    induction fuel with
    | zero => intro k hk hfu; exact absurd hfu (Nat.not_lt_zero _)
    | succ fuel ih =>
      intro k hk hfu H locs hP hS ls hl
      refine lv_iload_n hx hb dX0_costOf_4 rfl (lv_at hl 3 rfl) ?_
      refine lv_aload_n hx hb dX0_costOf_5 rfl (lv_at hl 0 rfl) ?_
      refine x_get (D := (dC, dI)) (ci := 0) (v := .int (nI (n 3))) (C := RX0) (T := TX0) (N := 17) hx hb hts hinX0 hown hK hP 0 rfl rfl 3 (Nat.le_of_ble_eq_true rfl) hf52 rfl rfl dX0_costOf_6 ?_
      refine x_icmp_ge (tgt := 35) hx hb (by omega) (by omega) dX0_costOf_9 (by decide) (fun c9 => ?_) (fun c9 => ?_)
      · skip
        refine lv_iload_n hx hb dX0_costOf_35 rfl (lv_at hl 2 rfl) ?_
        exact hend _ _ _ _ _ (congrArg nI (show sumN (fun t => if ts.testBit t then A 5 t else 0) k = sumN (fun t => if ts.testBit t then A 5 t else 0) (n 3) from by congr 1; omega)) hS dX0_costOf_36
      · skip
        refine lv_iload_n hx hb dX0_costOf_12 rfl (lv_at hl 1 rfl) ?_
        refine lv_iload_n hx hb dX0_costOf_13 rfl (lv_at hl 3 rfl) ?_
        refine x_ishr hx hb (by omega) (by omega) dX0_costOf_14 ?_
        refine lv_iconst (v := nI 1) hx hb dX0_costOf_15 rfl ?_
        refine x_iand hx hb dX0_costOf_16 ?_
        refine x_if_eq (tgt := 29) hx hb (and1_lt _) dX0_costOf_17 (by decide) (fun c17 => ?_) (fun c17 => ?_)
        · skip
          have hz : sumN (fun t => if ts.testBit t then A 5 t else 0) (k + 1) = sumN (fun t => if ts.testBit t then A 5 t else 0) k := by rw [sumN, tb_0.mp c17]; rfl
          refine lv_iinc (v := (nI (k + 1))) (lv' := [(3, .int (nI (k + 1))), (0, .ref (q 0)), (1, .int (nI ts)), (2, .int (nI (sumN (fun t => if ts.testBit t then A 5 t else 0) k)))]) hx hb dX0_costOf_29 hl (k := 3) rfl (nI_add _ _) (by decide) rfl (fun ls hl => ?_)
          refine lv_goto (tgt := 4) hx hb dX0_costOf_32 (by decide) ?_
          exact ih (k + 1) (by omega) (by omega) _ _ hP hS _ (by rw [hz]; exact lv_sub hl [1, 2, 3, 0] rfl)
        · skip
          have hz : sumN (fun t => if ts.testBit t then A 5 t else 0) (k + 1) = sumN (fun t => if ts.testBit t then A 5 t else 0) k + A 5 k := by rw [sumN, show ts.testBit k = true from by have := mt tb_0.mpr c17; simpa using this]; rfl
          refine lv_iload_n hx hb dX0_costOf_20 rfl (lv_at hl 2 rfl) ?_
          refine lv_aload_n hx hb dX0_costOf_21 rfl (lv_at hl 0 rfl) ?_
          refine x_get (D := (dC, dI)) (ci := 0) (v := .ref (q 8)) (C := RX0) (T := TX0) (N := 17) hx hb hts hinX0 hown hK hP 0 rfl rfl 11 (Nat.le_of_ble_eq_true rfl) hf33 rfl rfl dX0_costOf_22 ?_
          refine lv_iload_n hx hb dX0_costOf_25 rfl (lv_at hl 3 rfl) ?_
          refine x_iald (v := (nI (A 5 k))) hx hb hK hP 8 0 rfl rfl (by omega) (by decide) (hR.2.2 _ (by omega)).2.2.2 dX0_costOf_26 ?_
          refine x_iadd hx hb dX0_costOf_27 ?_
          refine lv_istore_n (lv' := [(2, .int (nI ((sumN (fun t => if ts.testBit t then A 5 t else 0) k) + (A 5 k)))), (0, .ref (q 0)), (1, .int (nI ts)), (3, .int (nI k))]) hx hb dX0_costOf_28 rfl hl (by decide) rfl (fun ls hl => ?_)
          refine lv_iinc (v := (nI (k + 1))) (lv' := [(3, .int (nI (k + 1))), (2, .int (nI ((sumN (fun t => if ts.testBit t then A 5 t else 0) k) + (A 5 k)))), (0, .ref (q 0)), (1, .int (nI ts))]) hx hb dX0_costOf_29 hl (k := 3) rfl (nI_add _ _) (by decide) rfl (fun ls hl => ?_)
          refine lv_goto (tgt := 4) hx hb dX0_costOf_32 (by decide) ?_
          exact ih (k + 1) (by omega) (by omega) _ _ hP hS _ (by rw [hz]; exact lv_sub hl [2, 3, 1, 0] rfl)
  exact L4 _ 0 (by omega) (Nat.lt_succ_self _) _ _ hP hS _ (lv_sub hl [2, 3, 1, 0] rfl)
set_option maxRecDepth 20000 in
theorem ggX0_complainers_X0_inTheWay : GoodIn wsX0_complainers wsX0_inTheWay := goodIn_r _ [8, 9, 10, 11, 12, 13, 7, 14, 15, 16, 17, 18, 19, 20, 21, 22, 23, 24, 25, 26, 27, 28, 29, 30, 31, 32, 33, 34, 35, 36, 37, 38, 39, 40, 41, 42, 43, 44, 45, 46, 47, 48, 49, 50, 51, 52] (by decide +kernel) (by decide +kernel)
set_option maxRecDepth 20000 in
theorem gX0_complainers_X0_inTheWay : GoodIn wsX0_complainers (wsV RX0 111 RX0 yX0_inTheWay wsX0_inTheWay) := goodIn_app (goodIn_of _ (by decide +kernel)) ggX0_complainers_X0_inTheWay
set_option maxHeartbeats 4000000 in
set_option maxRecDepth 100000 in
theorem kX0_complainers (l : Launch) (dC : Nat → ClassId) (dI : Nat → Nat → Nat) (cI : ClassId) (q n : Nat → Nat) (A : Nat → Nat → Nat) (X : Nat → Nat → Int32) (hW : WF n A) (hR : RG n A X) (wo : Nat) (y : Nat) (sz : Nat) (hst : 0 < n 6) (hy : y ≤ 30) : Met l yX0_complainers wsX0_complainers ({ frames := 3, cells := 0, slots := 0, locals := 77 }) (roP [.ref (q 0), .int (nI wo), .int (nI y)] sz (dC, dI) [(cI, .int)] (wG cI q n X)) (roQi (nI (sComp n A wo y)) sz) 0 0 (va_A [] sz) := by
  refine ro_met_i (by decide) rfl (Nat.le_of_ble_eq_true rfl) ?_
  intro pp ee ss mm aa bb me cd RR QQ Z hx hb hml hown hts hRf hRl hP hK hA hS hend ls hl
  have hown : ss.vm.findClass RX0 = some mm.cls := hown
  have hRf : 3 ≤ RR.frames := hRf
  have hRl : 77 ≤ RR.locals := hRl
  have hl : lv_has ls 5 [(0, .ref (q 0)), (1, .int (nI wo)), (2, .int (nI y))] := hl
  obtain ⟨w0, w1, w2, w3, w4, w5, w6, w7, w8, wA0, wA1, wA2⟩ := id hW
  have wC : n 0 * n 1 ≤ 42 := Nat.mul_le_mul w0 w1
  have hf49 := hts (.fieldLink RX0 49 "StatueSquare$Ground" "benchCount" "I") (List.mem_of_getElem? (i := 1) rfl)
  have hinX0 : ∀ w ∈ u_ws RX0 TX0 17, w ∈ wsX0_complainers := fun _ h => List.mem_cons_of_mem _ (List.mem_append_right _ h)
  have hf36 := hts (.fieldLink RX0 36 "StatueSquare$Ground" "statueCell" "I") (List.mem_of_getElem? (i := 2) rfl)
  have hf78 := hts (.fieldLink RX0 78 "StatueSquare$Ground" "statueBlock" "I") (List.mem_of_getElem? (i := 3) rfl)
  refine lv_iconst (v := nI 0) hx hb dX0_complainers_0 rfl ?_
  refine lv_istore_n (lv' := [(3, .int (nI 0)), (0, .ref (q 0)), (1, .int (nI wo)), (2, .int (nI y))]) hx hb dX0_complainers_1 rfl hl (by decide) rfl (fun ls hl => ?_)
  refine lv_iconst (v := nI 0) hx hb dX0_complainers_2 rfl ?_
  refine lv_istore (lv' := [(4, .int (nI 0)), (3, .int (nI 0)), (0, .ref (q 0)), (1, .int (nI wo)), (2, .int (nI y))]) hx hb dX0_complainers_3 hl (by decide) rfl (fun ls hl => ?_)
  have L5 : ∀ (fuel : Nat) (k : Nat) (hk : k ≤ n 2) (hfu : n 2 - k < fuel) (H : Heap) (locs : List Loc), va_P (dC, dI) vwCl (wG cI q n X) H → va_S Z ss.heap H locs → ∀ (ls : Array Slot), lv_has ls 5 [(0, .ref (q 0)), (1, .int (nI wo)), (2, .int (nI y)), (3, .int (nI (orB (fun b => decide (¬ andn (sFoot n A b y) wo = 0)) k))), (4, .int (nI k))] → W pp l ee RR ss mm aa bb me cd H locs 0 0 QQ (F0 mm 5 ls []) := by
    intro fuel
    induction fuel with
    | zero => intro k hk hfu; exact absurd hfu (Nat.not_lt_zero _)
    | succ fuel ih =>
      intro k hk hfu H locs hP hS ls hl
      refine lv_iload hx hb dX0_complainers_5 (lv_at hl 4 rfl) ?_
      refine lv_aload_n hx hb dX0_complainers_7 rfl (lv_at hl 0 rfl) ?_
      refine x_get (D := (dC, dI)) (ci := 0) (v := .int (nI (n 2))) (C := RX0) (T := TX0) (N := 17) hx hb hts hinX0 hown hK hP 0 rfl rfl 2 (Nat.le_of_ble_eq_true rfl) hf49 rfl rfl dX0_complainers_8 ?_
      refine x_icmp_ge (tgt := 51) hx hb (by omega) (by omega) dX0_complainers_11 (by decide) (fun c11 => ?_) (fun c11 => ?_)
      · skip
        refine lv_iload_n hx hb dX0_complainers_51 rfl (lv_at hl 3 rfl) ?_
        exact hend _ _ _ _ _ (congrArg nI (show orB (fun b => decide (¬ andn (sFoot n A b y) wo = 0)) k = orB (fun b => decide (¬ andn (sFoot n A b y) wo = 0)) (n 2) from by congr 1; omega)) hS dX0_complainers_52
      · skip
        refine lv_aload_n hx hb dX0_complainers_14 rfl (lv_at hl 0 rfl) ?_
        refine lv_iload hx hb dX0_complainers_15 (lv_at hl 4 rfl) ?_
        refine lv_aload_n hx hb dX0_complainers_17 rfl (lv_at hl 0 rfl) ?_
        refine x_get (D := (dC, dI)) (ci := 0) (v := .int (stI (n 6))) (C := RX0) (T := TX0) (N := 17) hx hb hts hinX0 hown hK hP 0 rfl rfl 15 (Nat.le_of_ble_eq_true rfl) hf36 rfl rfl dX0_complainers_18 ?_
        refine x_top (stI_pos hst) ?_
        refine lv_aload_n hx hb dX0_complainers_21 rfl (lv_at hl 0 rfl) ?_
        refine x_get (D := (dC, dI)) (ci := 0) (v := .int (nI (n 7))) (C := RX0) (T := TX0) (N := 17) hx hb hts hinX0 hown hK hP 0 rfl rfl 16 (Nat.le_of_ble_eq_true rfl) hf78 rfl rfl dX0_complainers_22 ?_
        refine lv_iconst (v := nI 1) hx hb dX0_complainers_25 rfl ?_
        refine x_iadd hx hb dX0_complainers_26 ?_
        refine lv_iload_n hx hb dX0_complainers_27 rfl (lv_at hl 2 rfl) ?_
        refine roV_i (As := [.int (nI k), .int (nI (n 6 - 1)), .int (nI ((n 7) + 1)), .int (nI y)]) (rest := []) ⟨hx, hb, hml, hown, hts⟩ (kX0_inTheWay l dC dI cI q n A X hW hR k (n 6 - 1) ((n 7) + 1) y _ (by omega) (by omega) (by omega) (by omega)) (cwV 4 hts gX0_complainers_X0_inTheWay rfl rfl rfl hdX0_inTheWay ⟨Nat.le_trans (Nat.le_of_ble_eq_true rfl) hRf, Nat.le_trans (Nat.le_of_ble_eq_true rfl) hRl⟩) (va_recv hK hP (ci := 0) (q0 := 0) rfl rfl) hK hP rfl hl.1 rfl (Nat.le_of_ble_eq_true rfl) dX0_complainers_28 ⟨Nat.zero_le _, Nat.zero_le _⟩ hP hS hA (fun H locs hP hS => ?_)
        refine lv_iload_n hx hb dX0_complainers_31 rfl (lv_at hl 1 rfl) ?_
        refine lv_iconst (v := -1) hx hb dX0_complainers_32 rfl ?_
        refine x_top (y := nI 4294967295) m1_nI ?_
        refine lv_ixor hx hb dX0_complainers_33 ?_
        refine x_top (y := nI (wo ^^^ 4294967295)) (nI_xor _ _) ?_
        refine x_iand hx hb dX0_complainers_34 ?_
        refine x_if_eq (tgt := 45) hx hb (Nat.lt_trans (andn_lt (wo := wo) (sWay_lt hW (by omega) (by omega))) (by decide)) dX0_complainers_35 (by decide) (fun c35 => ?_) (fun c35 => ?_)
        · skip
          have hz : (fun b => decide (¬ andn (sFoot n A b y) wo = 0)) k = false := decide_eq_false (fun q => q c35)
          refine lv_iinc (v := (nI (k + 1))) (lv' := [(4, .int (nI (k + 1))), (0, .ref (q 0)), (1, .int (nI wo)), (2, .int (nI y)), (3, .int (nI (orB (fun b => decide (¬ andn (sFoot n A b y) wo = 0)) k)))]) hx hb dX0_complainers_45 hl (k := 4) rfl (nI_add _ _) (by decide) rfl (fun ls hl => ?_)
          refine lv_goto (tgt := 5) hx hb dX0_complainers_48 (by decide) ?_
          exact ih (k + 1) (by omega) (by omega) _ _ hP hS _ (by rw [show orB (fun b => decide (¬ andn (sFoot n A b y) wo = 0)) (k + 1) = orB (fun b => decide (¬ andn (sFoot n A b y) wo = 0)) k from (orB_f hz).symm]; exact lv_sub hl [1, 2, 3, 4, 0] rfl)
        · skip
          have hz : (fun b => decide (¬ andn (sFoot n A b y) wo = 0)) k = true := decide_eq_true c35
          refine lv_iload_n hx hb dX0_complainers_38 rfl (lv_at hl 3 rfl) ?_
          refine lv_iconst (v := nI 1) hx hb dX0_complainers_39 rfl ?_
          refine lv_iload hx hb dX0_complainers_40 (lv_at hl 4 rfl) ?_
          refine x_shl1 hx hb (by omega) dX0_complainers_42 ?_
          refine x_ior hx hb dX0_complainers_43 ?_
          refine lv_istore_n (lv' := [(3, .int (nI ((orB (fun b => decide (¬ andn (sFoot n A b y) wo = 0)) k) ||| (2 ^ k)))), (0, .ref (q 0)), (1, .int (nI wo)), (2, .int (nI y)), (4, .int (nI k))]) hx hb dX0_complainers_44 rfl hl (by decide) rfl (fun ls hl => ?_)
          refine lv_iinc (v := (nI (k + 1))) (lv' := [(4, .int (nI (k + 1))), (3, .int (nI ((orB (fun b => decide (¬ andn (sFoot n A b y) wo = 0)) k) ||| (2 ^ k)))), (0, .ref (q 0)), (1, .int (nI wo)), (2, .int (nI y))]) hx hb dX0_complainers_45 hl (k := 4) rfl (nI_add _ _) (by decide) rfl (fun ls hl => ?_)
          refine lv_goto (tgt := 5) hx hb dX0_complainers_48 (by decide) ?_
          exact ih (k + 1) (by omega) (by omega) _ _ hP hS _ (by rw [show orB (fun b => decide (¬ andn (sFoot n A b y) wo = 0)) (k + 1) = ((orB (fun b => decide (¬ andn (sFoot n A b y) wo = 0)) k) ||| (2 ^ k)) from (orB_t hz).symm]; exact lv_sub hl [2, 3, 4, 1, 0] rfl)
  exact L5 _ 0 (by omega) (Nat.lt_succ_self _) _ _ hP hS _ (lv_sub hl [2, 3, 4, 1, 0] rfl)
theorem hdX0_complainers : yX0_complainers.cls = RX0 ∧ yX0_complainers.cls ≠ "java/lang/invoke/MethodHandle" ∧ yX0_complainers.cls ≠ "java/lang/invoke/VarHandle" ∧ (parseMethodDescriptor yX0_complainers.desc).map (fun d => d.parameters.length) = some 2 := by decide +kernel
set_option maxRecDepth 20000 in
theorem ggX0_benchesThatSeeWhole_X0_complainers : GoodIn wsX0_benchesThatSeeWhole wsX0_complainers := goodIn_r _ [7, 1, 8, 9, 10, 11, 12, 6, 13, 14, 15, 16, 17, 18, 19, 20, 21, 22, 23, 24, 25, 26, 27, 28, 29, 30, 31, 32, 33, 34, 35, 36, 37, 38, 39, 40, 41, 42, 43, 44, 45, 46, 47, 48, 49, 50, 51, 52, 53, 54, 55, 56, 57] (by decide +kernel) (by decide +kernel)
set_option maxRecDepth 20000 in
theorem gX0_benchesThatSeeWhole_X0_complainers : GoodIn wsX0_benchesThatSeeWhole (wsV RX0 126 RX0 yX0_complainers wsX0_complainers) := goodIn_app (goodIn_of _ (by decide +kernel)) ggX0_benchesThatSeeWhole_X0_complainers
set_option maxHeartbeats 4000000 in
set_option maxRecDepth 100000 in
theorem kX0_benchesThatSeeWhole (l : Launch) (dC : Nat → ClassId) (dI : Nat → Nat → Nat) (cI : ClassId) (q n : Nat → Nat) (A : Nat → Nat → Nat) (X : Nat → Nat → Int32) (hW : WF n A) (hR : RG n A X) (sz : Nat) (hst : 0 < n 6) : Met l yX0_benchesThatSeeWhole wsX0_benchesThatSeeWhole ({ frames := 4, cells := 0, slots := 0, locals := 101 }) (roP [.ref (q 0)] sz (dC, dI) [(cI, .int)] (wG cI q n X)) (roQi (nI (sWhole n A)) sz) 0 0 (va_A [] sz) := by
  refine ro_met_i (by decide) rfl (Nat.le_of_ble_eq_true rfl) ?_
  intro pp ee ss mm aa bb me cd RR QQ Z hx hb hml hown hts hRf hRl hP hK hA hS hend ls hl
  have hown : ss.vm.findClass RX0 = some mm.cls := hown
  have hRf : 4 ≤ RR.frames := hRf
  have hRl : 101 ≤ RR.locals := hRl
  have hl : lv_has ls 1 [(0, .ref (q 0))] := hl
  obtain ⟨w0, w1, w2, w3, w4, w5, w6, w7, w8, wA0, wA1, wA2⟩ := id hW
  have wC : n 0 * n 1 ≤ 42 := Nat.mul_le_mul w0 w1
  have hf49 := hts (.fieldLink RX0 49 "StatueSquare$Ground" "benchCount" "I") (List.mem_of_getElem? (i := 1) rfl)
  have hinX0 : ∀ w ∈ u_ws RX0 TX0 17, w ∈ wsX0_benchesThatSeeWhole := fun _ h => List.mem_cons_of_mem _ (List.mem_append_right _ h)
  have hf71 := hts (.fieldLink RX0 71 "StatueSquare$Ground" "yearNow" "I") (List.mem_of_getElem? (i := 2) rfl)
  refine lv_iconst (v := nI 1) hx hb dX0_benchesThatSeeWhole_0 rfl ?_
  refine lv_aload_n hx hb dX0_benchesThatSeeWhole_1 rfl (lv_at hl 0 rfl) ?_
  refine x_get (D := (dC, dI)) (ci := 0) (v := .int (nI (n 2))) (C := RX0) (T := TX0) (N := 17) hx hb hts hinX0 hown hK hP 0 rfl rfl 2 (Nat.le_of_ble_eq_true rfl) hf49 rfl rfl dX0_benchesThatSeeWhole_2 ?_
  refine x_shl1 hx hb (by omega) dX0_benchesThatSeeWhole_5 ?_
  refine lv_iconst (v := nI 1) hx hb dX0_benchesThatSeeWhole_6 rfl ?_
  refine x_isub hx hb (Nat.two_pow_pos _) dX0_benchesThatSeeWhole_7 ?_
  refine lv_aload_n hx hb dX0_benchesThatSeeWhole_8 rfl (lv_at hl 0 rfl) ?_
  refine lv_iconst (v := nI 0) hx hb dX0_benchesThatSeeWhole_9 rfl ?_
  refine lv_aload_n hx hb dX0_benchesThatSeeWhole_10 rfl (lv_at hl 0 rfl) ?_
  refine x_get (D := (dC, dI)) (ci := 0) (v := .int (nI (n 4))) (C := RX0) (T := TX0) (N := 17) hx hb hts hinX0 hown hK hP 0 rfl rfl 13 (Nat.le_of_ble_eq_true rfl) hf71 rfl rfl dX0_benchesThatSeeWhole_11 ?_
  refine roV_i (As := [.int (nI 0), .int (nI (n 4))]) (rest := [.int (nI ((2 ^ (n 2)) - 1))]) ⟨hx, hb, hml, hown, hts⟩ (kX0_complainers l dC dI cI q n A X hW hR 0 (n 4) _ (by omega) (by omega)) (cwV 2 hts gX0_benchesThatSeeWhole_X0_complainers rfl rfl rfl hdX0_complainers ⟨Nat.le_trans (Nat.le_of_ble_eq_true rfl) hRf, Nat.le_trans (Nat.le_of_ble_eq_true rfl) hRl⟩) (va_recv hK hP (ci := 0) (q0 := 0) rfl rfl) hK hP rfl hl.1 rfl (Nat.le_of_ble_eq_true rfl) dX0_benchesThatSeeWhole_14 ⟨Nat.zero_le _, Nat.zero_le _⟩ hP hS hA (fun H locs hP hS => ?_)
  refine lv_iconst (v := -1) hx hb dX0_benchesThatSeeWhole_17 rfl ?_
  refine x_top (y := nI 4294967295) m1_nI ?_
  refine lv_ixor hx hb dX0_benchesThatSeeWhole_18 ?_
  refine x_top (y := nI (sComp n A 0 (n 4) ^^^ 4294967295)) (nI_xor _ _) ?_
  refine x_iand hx hb dX0_benchesThatSeeWhole_19 ?_
  exact hend _ _ _ _ _ (congrArg nI (whole_of hW hst)) hS dX0_benchesThatSeeWhole_20
set_option maxRecDepth 20000 in
theorem ggX0_countWhole_X0_inTheWay : GoodIn wsX0_countWhole wsX0_inTheWay := goodIn_r _ [7, 8, 9, 10, 11, 12, 6, 13, 14, 15, 16, 17, 18, 19, 20, 21, 22, 23, 24, 25, 26, 27, 28, 29, 30, 31, 32, 33, 34, 35, 36, 37, 38, 39, 40, 41, 42, 43, 44, 45, 46, 47, 48, 49, 50, 51] (by decide +kernel) (by decide +kernel)
set_option maxRecDepth 20000 in
theorem gX0_countWhole_X0_inTheWay : GoodIn wsX0_countWhole (wsV RX0 111 RX0 yX0_inTheWay wsX0_inTheWay) := goodIn_app (goodIn_of _ (by decide +kernel)) ggX0_countWhole_X0_inTheWay
set_option maxHeartbeats 4000000 in
set_option maxRecDepth 100000 in
theorem kX0_countWhole (l : Launch) (dC : Nat → ClassId) (dI : Nat → Nat → Nat) (cI : ClassId) (q n : Nat → Nat) (A : Nat → Nat → Nat) (X : Nat → Nat → Int32) (hW : WF n A) (hR : RG n A X) (c : Nat) (bl : Nat) (sz : Nat) (hc : c < n 0 * n 1) (hbl : bl ≤ 9) : Met l yX0_countWhole wsX0_countWhole ({ frames := 3, cells := 0, slots := 0, locals := 77 }) (roP [.ref (q 0), .int (nI c), .int (nI bl)] sz (dC, dI) [(cI, .int)] (wG cI q n X)) (roQi (nI (sCnt n A c bl)) sz) 0 0 (va_A [] sz) := by
  refine ro_met_i (by decide) rfl (Nat.le_of_ble_eq_true rfl) ?_
  intro pp ee ss mm aa bb me cd RR QQ Z hx hb hml hown hts hRf hRl hP hK hA hS hend ls hl
  have hown : ss.vm.findClass RX0 = some mm.cls := hown
  have hRf : 3 ≤ RR.frames := hRf
  have hRl : 77 ≤ RR.locals := hRl
  have hl : lv_has ls 5 [(0, .ref (q 0)), (1, .int (nI c)), (2, .int (nI bl))] := hl
  obtain ⟨w0, w1, w2, w3, w4, w5, w6, w7, w8, wA0, wA1, wA2⟩ := id hW
  have wC : n 0 * n 1 ≤ 42 := Nat.mul_le_mul w0 w1
  have hf49 := hts (.fieldLink RX0 49 "StatueSquare$Ground" "benchCount" "I") (List.mem_of_getElem? (i := 1) rfl)
  have hinX0 : ∀ w ∈ u_ws RX0 TX0 17, w ∈ wsX0_countWhole := fun _ h => List.mem_cons_of_mem _ (List.mem_append_right _ h)
  have hf71 := hts (.fieldLink RX0 71 "StatueSquare$Ground" "yearNow" "I") (List.mem_of_getElem? (i := 2) rfl)
  refine lv_iconst (v := nI 0) hx hb dX0_countWhole_0 rfl ?_
  refine lv_istore_n (lv' := [(3, .int (nI 0)), (0, .ref (q 0)), (1, .int (nI c)), (2, .int (nI bl))]) hx hb dX0_countWhole_1 rfl hl (by decide) rfl (fun ls hl => ?_)
  refine lv_iconst (v := nI 0) hx hb dX0_countWhole_2 rfl ?_
  refine lv_istore (lv' := [(4, .int (nI 0)), (3, .int (nI 0)), (0, .ref (q 0)), (1, .int (nI c)), (2, .int (nI bl))]) hx hb dX0_countWhole_3 hl (by decide) rfl (fun ls hl => ?_)
  have L5 : ∀ (fuel : Nat) (k : Nat) (hk : k ≤ n 2) (hfu : n 2 - k < fuel) (H : Heap) (locs : List Loc), va_P (dC, dI) vwCl (wG cI q n X) H → va_S Z ss.heap H locs → ∀ (ls : Array Slot), lv_has ls 5 [(0, .ref (q 0)), (1, .int (nI c)), (2, .int (nI bl)), (3, .int (nI (cntB (fun b => decide (sWay n A b c (bl + 1) (n 4) = 0)) k))), (4, .int (nI k))] → W pp l ee RR ss mm aa bb me cd H locs 0 0 QQ (F0 mm 5 ls []) := by
    intro fuel
    induction fuel with
    | zero => intro k hk hfu; exact absurd hfu (Nat.not_lt_zero _)
    | succ fuel ih =>
      intro k hk hfu H locs hP hS ls hl
      refine lv_iload hx hb dX0_countWhole_5 (lv_at hl 4 rfl) ?_
      refine lv_aload_n hx hb dX0_countWhole_7 rfl (lv_at hl 0 rfl) ?_
      refine x_get (D := (dC, dI)) (ci := 0) (v := .int (nI (n 2))) (C := RX0) (T := TX0) (N := 17) hx hb hts hinX0 hown hK hP 0 rfl rfl 2 (Nat.le_of_ble_eq_true rfl) hf49 rfl rfl dX0_countWhole_8 ?_
      refine x_icmp_ge (tgt := 40) hx hb (by omega) (by omega) dX0_countWhole_11 (by decide) (fun c11 => ?_) (fun c11 => ?_)
      · skip
        refine lv_iload_n hx hb dX0_countWhole_40 rfl (lv_at hl 3 rfl) ?_
        exact hend _ _ _ _ _ (congrArg nI (show cntB (fun b => decide (sWay n A b c (bl + 1) (n 4) = 0)) k = cntB (fun b => decide (sWay n A b c (bl + 1) (n 4) = 0)) (n 2) from by congr 1; omega)) hS dX0_countWhole_41
      · skip
        refine lv_aload_n hx hb dX0_countWhole_14 rfl (lv_at hl 0 rfl) ?_
        refine lv_iload hx hb dX0_countWhole_15 (lv_at hl 4 rfl) ?_
        refine lv_iload_n hx hb dX0_countWhole_17 rfl (lv_at hl 1 rfl) ?_
        refine lv_iload_n hx hb dX0_countWhole_18 rfl (lv_at hl 2 rfl) ?_
        refine lv_iconst (v := nI 1) hx hb dX0_countWhole_19 rfl ?_
        refine x_iadd hx hb dX0_countWhole_20 ?_
        refine lv_aload_n hx hb dX0_countWhole_21 rfl (lv_at hl 0 rfl) ?_
        refine x_get (D := (dC, dI)) (ci := 0) (v := .int (nI (n 4))) (C := RX0) (T := TX0) (N := 17) hx hb hts hinX0 hown hK hP 0 rfl rfl 13 (Nat.le_of_ble_eq_true rfl) hf71 rfl rfl dX0_countWhole_22 ?_
        refine roV_i (As := [.int (nI k), .int (nI c), .int (nI (bl + 1)), .int (nI (n 4))]) (rest := []) ⟨hx, hb, hml, hown, hts⟩ (kX0_inTheWay l dC dI cI q n A X hW hR k c (bl + 1) (n 4) _ (by omega) (by omega) (by omega) (by omega)) (cwV 4 hts gX0_countWhole_X0_inTheWay rfl rfl rfl hdX0_inTheWay ⟨Nat.le_trans (Nat.le_of_ble_eq_true rfl) hRf, Nat.le_trans (Nat.le_of_ble_eq_true rfl) hRl⟩) (va_recv hK hP (ci := 0) (q0 := 0) rfl rfl) hK hP rfl hl.1 rfl (Nat.le_of_ble_eq_true rfl) dX0_countWhole_25 ⟨Nat.zero_le _, Nat.zero_le _⟩ hP hS hA (fun H locs hP hS => ?_)
        refine x_if_ne (tgt := 34) hx hb (Nat.lt_trans (sWay_lt hW (by omega) (by omega)) (by decide)) dX0_countWhole_28 (by decide) (fun c28 => ?_) (fun c28 => ?_)
        · skip
          have hz : (fun b => decide (sWay n A b c (bl + 1) (n 4) = 0)) k = false := decide_eq_false c28
          refine lv_iinc (v := (nI (k + 1))) (lv' := [(4, .int (nI (k + 1))), (0, .ref (q 0)), (1, .int (nI c)), (2, .int (nI bl)), (3, .int (nI (cntB (fun b => decide (sWay n A b c (bl + 1) (n 4) = 0)) k)))]) hx hb dX0_countWhole_34 hl (k := 4) rfl (nI_add _ _) (by decide) rfl (fun ls hl => ?_)
          refine lv_goto (tgt := 5) hx hb dX0_countWhole_37 (by decide) ?_
          exact ih (k + 1) (by omega) (by omega) _ _ hP hS _ (by rw [show cntB (fun b => decide (sWay n A b c (bl + 1) (n 4) = 0)) (k + 1) = cntB (fun b => decide (sWay n A b c (bl + 1) (n 4) = 0)) k from (cntB_f hz).symm]; exact lv_sub hl [1, 2, 3, 4, 0] rfl)
        · skip
          have hz : (fun b => decide (sWay n A b c (bl + 1) (n 4) = 0)) k = true := decide_eq_true c28
          refine lv_iinc (v := (nI (cntB (fun b => decide (sWay n A b c (bl + 1) (n 4) = 0)) k + 1))) (lv' := [(3, .int (nI (cntB (fun b => decide (sWay n A b c (bl + 1) (n 4) = 0)) k + 1))), (0, .ref (q 0)), (1, .int (nI c)), (2, .int (nI bl)), (4, .int (nI k))]) hx hb dX0_countWhole_31 hl (k := 3) rfl (nI_add _ _) (by decide) rfl (fun ls hl => ?_)
          refine lv_iinc (v := (nI (k + 1))) (lv' := [(4, .int (nI (k + 1))), (3, .int (nI (cntB (fun b => decide (sWay n A b c (bl + 1) (n 4) = 0)) k + 1))), (0, .ref (q 0)), (1, .int (nI c)), (2, .int (nI bl))]) hx hb dX0_countWhole_34 hl (k := 4) rfl (nI_add _ _) (by decide) rfl (fun ls hl => ?_)
          refine lv_goto (tgt := 5) hx hb dX0_countWhole_37 (by decide) ?_
          exact ih (k + 1) (by omega) (by omega) _ _ hP hS _ (by rw [show cntB (fun b => decide (sWay n A b c (bl + 1) (n 4) = 0)) (k + 1) = cntB (fun b => decide (sWay n A b c (bl + 1) (n 4) = 0)) k + 1 from (cntB_t hz).symm]; exact lv_sub hl [2, 3, 4, 1, 0] rfl)
  exact L5 _ 0 (by omega) (Nat.lt_succ_self _) _ _ hP hS _ (lv_sub hl [2, 3, 4, 1, 0] rfl)
set_option maxRecDepth 20000 in
theorem ggX0_thingsThatLeave_X0_isThere : GoodIn wsX0_thingsThatLeave wsX0_isThere := goodIn_r _ [7, 8, 42, 43, 44, 45, 46, 47, 48, 49, 50, 51, 52, 53, 54, 55, 56, 57, 58] (by decide +kernel) (by decide +kernel)
set_option maxRecDepth 20000 in
theorem gX0_thingsThatLeave_X0_isThere : GoodIn wsX0_thingsThatLeave (wsV RX0 101 RX0 yX0_isThere wsX0_isThere) := goodIn_app (goodIn_of _ (by decide +kernel)) ggX0_thingsThatLeave_X0_isThere
set_option maxRecDepth 20000 in
theorem ggX0_thingsThatLeave_X0_complainers : GoodIn wsX0_thingsThatLeave wsX0_complainers := goodIn_r _ [12, 13, 14, 15, 16, 17, 18, 6, 19, 20, 21, 22, 23, 24, 25, 26, 27, 28, 29, 30, 31, 32, 33, 34, 3, 4, 5, 7, 8, 35, 36, 37, 38, 39, 40, 41, 42, 43, 44, 45, 46, 47, 48, 49, 50, 51, 52, 53, 54, 55, 56, 57, 58] (by decide +kernel) (by decide +kernel)
set_option maxRecDepth 20000 in
theorem gX0_thingsThatLeave_X0_complainers : GoodIn wsX0_thingsThatLeave (wsV RX0 126 RX0 yX0_complainers wsX0_complainers) := goodIn_app (goodIn_of _ (by decide +kernel)) ggX0_thingsThatLeave_X0_complainers
set_option maxHeartbeats 4000000 in
set_option maxRecDepth 100000 in
theorem kX0_thingsThatLeave (l : Launch) (dC : Nat → ClassId) (dI : Nat → Nat → Nat) (cI : ClassId) (q n : Nat → Nat) (A : Nat → Nat → Nat) (X : Nat → Nat → Int32) (hW : WF n A) (hR : RG n A X) (told : Nat) (sz : Nat) (hst : 0 < n 6) (hto : told < 4096) : Met l yX0_thingsThatLeave wsX0_thingsThatLeave ({ frames := 4, cells := 0, slots := 0, locals := 101 }) (roP [.ref (q 0), .int (nI told)] sz (dC, dI) [(cI, .int)] (wG cI q n X)) (roQi (nI (sMoved n A told)) sz) 0 0 (va_A [] sz) := by
  refine ro_met_i (by decide) rfl (Nat.le_of_ble_eq_true rfl) ?_
  intro pp ee ss mm aa bb me cd RR QQ Z hx hb hml hown hts hRf hRl hP hK hA hS hend ls hl
  have hown : ss.vm.findClass RX0 = some mm.cls := hown
  have hRf : 4 ≤ RR.frames := hRf
  have hRl : 101 ≤ RR.locals := hRl
  have hl : lv_has ls 4 [(0, .ref (q 0)), (1, .int (nI told))] := hl
  obtain ⟨w0, w1, w2, w3, w4, w5, w6, w7, w8, wA0, wA1, wA2⟩ := id hW
  have wC : n 0 * n 1 ≤ 42 := Nat.mul_le_mul w0 w1
  have hf52 := hts (.fieldLink RX0 52 "StatueSquare$Ground" "thingCount" "I") (List.mem_of_getElem? (i := 1) rfl)
  have hinX0 : ∀ w ∈ u_ws RX0 TX0 17, w ∈ wsX0_thingsThatLeave := fun _ h => List.mem_cons_of_mem _ (List.mem_append_right _ h)
  have hf71 := hts (.fieldLink RX0 71 "StatueSquare$Ground" "yearNow" "I") (List.mem_of_getElem? (i := 2) rfl)
  refine lv_iconst (v := nI 0) hx hb dX0_thingsThatLeave_0 rfl ?_
  refine lv_istore_n (lv' := [(2, .int (nI 0)), (0, .ref (q 0)), (1, .int (nI told))]) hx hb dX0_thingsThatLeave_1 rfl hl (by decide) rfl (fun ls hl => ?_)
  refine lv_iconst (v := nI 0) hx hb dX0_thingsThatLeave_2 rfl ?_
  refine lv_istore_n (lv' := [(3, .int (nI 0)), (2, .int (nI 0)), (0, .ref (q 0)), (1, .int (nI told))]) hx hb dX0_thingsThatLeave_3 rfl hl (by decide) rfl (fun ls hl => ?_)
  have L4 : ∀ (fuel : Nat) (k : Nat) (hk : k ≤ n 3) (hfu : n 3 - k < fuel) (H : Heap) (locs : List Loc), va_P (dC, dI) vwCl (wG cI q n X) H → va_S Z ss.heap H locs → ∀ (ls : Array Slot), lv_has ls 4 [(0, .ref (q 0)), (1, .int (nI told)), (2, .int (nI (orB (fun t => sThere n t && decide (sComp n A (2 ^ t) (n 4) = told)) k))), (3, .int (nI k))] → W pp l ee RR ss mm aa bb me cd H locs 0 0 QQ (F0 mm 4 ls []) := by
    intro fuel
    induction fuel with
    | zero => intro k hk hfu; exact absurd hfu (Nat.not_lt_zero _)
    | succ fuel ih =>
      intro k hk hfu H locs hP hS ls hl
      refine lv_iload_n hx hb dX0_thingsThatLeave_4 rfl (lv_at hl 3 rfl) ?_
      refine lv_aload_n hx hb dX0_thingsThatLeave_5 rfl (lv_at hl 0 rfl) ?_
      refine x_get (D := (dC, dI)) (ci := 0) (v := .int (nI (n 3))) (C := RX0) (T := TX0) (N := 17) hx hb hts hinX0 hown hK hP 0 rfl rfl 3 (Nat.le_of_ble_eq_true rfl) hf52 rfl rfl dX0_thingsThatLeave_6 ?_
      refine x_icmp_ge (tgt := 47) hx hb (by omega) (by omega) dX0_thingsThatLeave_9 (by decide) (fun c9 => ?_) (fun c9 => ?_)
      · skip
        refine lv_iload_n hx hb dX0_thingsThatLeave_47 rfl (lv_at hl 2 rfl) ?_
        exact hend _ _ _ _ _ (congrArg nI (show orB (fun t => sThere n t && decide (sComp n A (2 ^ t) (n 4) = told)) k = orB (fun t => sThere n t && decide (sComp n A (2 ^ t) (n 4) = told)) (n 3) from by congr 1; omega)) hS dX0_thingsThatLeave_48
      · skip
        refine lv_aload_n hx hb dX0_thingsThatLeave_12 rfl (lv_at hl 0 rfl) ?_
        refine lv_iload_n hx hb dX0_thingsThatLeave_13 rfl (lv_at hl 3 rfl) ?_
        refine roV_i (As := [.int (nI k)]) (rest := []) ⟨hx, hb, hml, hown, hts⟩ (kX0_isThere l dC dI cI q n A X hW hR k _ (by omega)) (cwV 1 hts gX0_thingsThatLeave_X0_isThere rfl rfl rfl hdX0_isThere ⟨Nat.le_trans (Nat.le_of_ble_eq_true rfl) hRf, Nat.le_trans (Nat.le_of_ble_eq_true rfl) hRl⟩) (va_recv hK hP (ci := 0) (q0 := 0) rfl rfl) hK hP rfl hl.1 rfl (Nat.le_of_ble_eq_true rfl) dX0_thingsThatLeave_14 ⟨Nat.zero_le _, Nat.zero_le _⟩ hP hS hA (fun H locs hP hS => ?_)
        refine x_ifb_eq (tgt := 41) hx hb dX0_thingsThatLeave_17 (by decide) (fun c17 => ?_) (fun c17 => ?_)
        · skip
          have hz : (fun t => sThere n t && decide (sComp n A (2 ^ t) (n 4) = told)) k = false := by show (sThere n k && _) = false; rw [c17]; rfl
          refine lv_iinc (v := (nI (k + 1))) (lv' := [(3, .int (nI (k + 1))), (0, .ref (q 0)), (1, .int (nI told)), (2, .int (nI (orB (fun t => sThere n t && decide (sComp n A (2 ^ t) (n 4) = told)) k)))]) hx hb dX0_thingsThatLeave_41 hl (k := 3) rfl (nI_add _ _) (by decide) rfl (fun ls hl => ?_)
          refine lv_goto (tgt := 4) hx hb dX0_thingsThatLeave_44 (by decide) ?_
          exact ih (k + 1) (by omega) (by omega) _ _ hP hS _ (by rw [show orB (fun t => sThere n t && decide (sComp n A (2 ^ t) (n 4) = told)) (k + 1) = orB (fun t => sThere n t && decide (sComp n A (2 ^ t) (n 4) = told)) k from (orB_f hz).symm]; exact lv_sub hl [1, 2, 3, 0] rfl)
        · skip
          refine lv_aload_n hx hb dX0_thingsThatLeave_20 rfl (lv_at hl 0 rfl) ?_
          refine lv_iconst (v := nI 1) hx hb dX0_thingsThatLeave_21 rfl ?_
          refine lv_iload_n hx hb dX0_thingsThatLeave_22 rfl (lv_at hl 3 rfl) ?_
          refine x_shl1 hx hb (by omega) dX0_thingsThatLeave_23 ?_
          refine lv_aload_n hx hb dX0_thingsThatLeave_24 rfl (lv_at hl 0 rfl) ?_
          refine x_get (D := (dC, dI)) (ci := 0) (v := .int (nI (n 4))) (C := RX0) (T := TX0) (N := 17) hx hb hts hinX0 hown hK hP 0 rfl rfl 13 (Nat.le_of_ble_eq_true rfl) hf71 rfl rfl dX0_thingsThatLeave_25 ?_
          refine roV_i (As := [.int (nI (2 ^ k)), .int (nI (n 4))]) (rest := []) ⟨hx, hb, hml, hown, hts⟩ (kX0_complainers l dC dI cI q n A X hW hR (2 ^ k) (n 4) _ (by omega) (by omega)) (cwV 2 hts gX0_thingsThatLeave_X0_complainers rfl rfl rfl hdX0_complainers ⟨Nat.le_trans (Nat.le_of_ble_eq_true rfl) hRf, Nat.le_trans (Nat.le_of_ble_eq_true rfl) hRl⟩) (va_recv hK hP (ci := 0) (q0 := 0) rfl rfl) hK hP rfl hl.1 rfl (Nat.le_of_ble_eq_true rfl) dX0_thingsThatLeave_28 ⟨Nat.zero_le _, Nat.zero_le _⟩ hP hS hA (fun H locs hP hS => ?_)
          refine lv_iload_n hx hb dX0_thingsThatLeave_31 rfl (lv_at hl 1 rfl) ?_
          refine x_icmp_ne (tgt := 41) hx hb (Nat.lt_of_lt_of_le (orB_lt _ _) (Nat.pow_le_pow_right (by decide) (by omega))) (by omega) dX0_thingsThatLeave_32 (by decide) (fun c32 => ?_) (fun c32 => ?_)
          · skip
            have hz : (fun t => sThere n t && decide (sComp n A (2 ^ t) (n 4) = told)) k = false := by show (sThere n k && _) = false; rw [c17, decide_eq_false c32]; rfl
            refine lv_iinc (v := (nI (k + 1))) (lv' := [(3, .int (nI (k + 1))), (0, .ref (q 0)), (1, .int (nI told)), (2, .int (nI (orB (fun t => sThere n t && decide (sComp n A (2 ^ t) (n 4) = told)) k)))]) hx hb dX0_thingsThatLeave_41 hl (k := 3) rfl (nI_add _ _) (by decide) rfl (fun ls hl => ?_)
            refine lv_goto (tgt := 4) hx hb dX0_thingsThatLeave_44 (by decide) ?_
            exact ih (k + 1) (by omega) (by omega) _ _ hP hS _ (by rw [show orB (fun t => sThere n t && decide (sComp n A (2 ^ t) (n 4) = told)) (k + 1) = orB (fun t => sThere n t && decide (sComp n A (2 ^ t) (n 4) = told)) k from (orB_f hz).symm]; exact lv_sub hl [1, 2, 3, 0] rfl)
          · skip
            have hz : (fun t => sThere n t && decide (sComp n A (2 ^ t) (n 4) = told)) k = true := by show (sThere n k && _) = true; rw [c17, decide_eq_true c32]; rfl
            refine lv_iload_n hx hb dX0_thingsThatLeave_35 rfl (lv_at hl 2 rfl) ?_
            refine lv_iconst (v := nI 1) hx hb dX0_thingsThatLeave_36 rfl ?_
            refine lv_iload_n hx hb dX0_thingsThatLeave_37 rfl (lv_at hl 3 rfl) ?_
            refine x_shl1 hx hb (by omega) dX0_thingsThatLeave_38 ?_
            refine x_ior hx hb dX0_thingsThatLeave_39 ?_
            refine lv_istore_n (lv' := [(2, .int (nI ((orB (fun t => sThere n t && decide (sComp n A (2 ^ t) (n 4) = told)) k) ||| (2 ^ k)))), (0, .ref (q 0)), (1, .int (nI told)), (3, .int (nI k))]) hx hb dX0_thingsThatLeave_40 rfl hl (by decide) rfl (fun ls hl => ?_)
            refine lv_iinc (v := (nI (k + 1))) (lv' := [(3, .int (nI (k + 1))), (2, .int (nI ((orB (fun t => sThere n t && decide (sComp n A (2 ^ t) (n 4) = told)) k) ||| (2 ^ k)))), (0, .ref (q 0)), (1, .int (nI told))]) hx hb dX0_thingsThatLeave_41 hl (k := 3) rfl (nI_add _ _) (by decide) rfl (fun ls hl => ?_)
            refine lv_goto (tgt := 4) hx hb dX0_thingsThatLeave_44 (by decide) ?_
            exact ih (k + 1) (by omega) (by omega) _ _ hP hS _ (by rw [show orB (fun t => sThere n t && decide (sComp n A (2 ^ t) (n 4) = told)) (k + 1) = ((orB (fun t => sThere n t && decide (sComp n A (2 ^ t) (n 4) = told)) k) ||| (2 ^ k)) from (orB_t hz).symm]; exact lv_sub hl [2, 3, 1, 0] rfl)
  exact L4 _ 0 (by omega) (Nat.lt_succ_self _) _ _ hP hS _ (lv_sub hl [2, 3, 1, 0] rfl)
set_option maxRecDepth 20000 in
theorem ggX0_firstYearOfComplaint_X0_complainers : GoodIn wsX0_firstYearOfComplaint wsX0_complainers := goodIn_r _ [6, 7, 8, 9, 10, 11, 12, 5, 13, 14, 15, 16, 17, 18, 19, 20, 21, 22, 23, 24, 25, 26, 27, 28, 29, 30, 31, 32, 33, 34, 35, 36, 37, 38, 39, 40, 41, 42, 43, 44, 45, 46, 47, 48, 49, 50, 51, 52, 53, 54, 55, 56, 57] (by decide +kernel) (by decide +kernel)
set_option maxRecDepth 20000 in
theorem gX0_firstYearOfComplaint_X0_complainers : GoodIn wsX0_firstYearOfComplaint (wsV RX0 126 RX0 yX0_complainers wsX0_complainers) := goodIn_app (goodIn_of _ (by decide +kernel)) ggX0_firstYearOfComplaint_X0_complainers
set_option maxHeartbeats 4000000 in
set_option maxRecDepth 100000 in
theorem kX0_firstYearOfComplaint (l : Launch) (dC : Nat → ClassId) (dI : Nat → Nat → Nat) (cI : ClassId) (q n : Nat → Nat) (A : Nat → Nat → Nat) (X : Nat → Nat → Int32) (hW : WF n A) (hR : RG n A X) (sz : Nat) (hst : 0 < n 6) : Met l yX0_firstYearOfComplaint wsX0_firstYearOfComplaint ({ frames := 4, cells := 0, slots := 0, locals := 101 }) (roP [.ref (q 0)] sz (dC, dI) [(cI, .int)] (wG cI q n X)) (roQi (fyr n A (31 - n 4) (n 4)) sz) 0 0 (va_A [] sz) := by
  refine ro_met_i (by decide) rfl (Nat.le_of_ble_eq_true rfl) ?_
  intro pp ee ss mm aa bb me cd RR QQ Z hx hb hml hown hts hRf hRl hP hK hA hS hend ls hl
  have hown : ss.vm.findClass RX0 = some mm.cls := hown
  have hRf : 4 ≤ RR.frames := hRf
  have hRl : 101 ≤ RR.locals := hRl
  have hl : lv_has ls 2 [(0, .ref (q 0))] := hl
  obtain ⟨w0, w1, w2, w3, w4, w5, w6, w7, w8, wA0, wA1, wA2⟩ := id hW
  have wC : n 0 * n 1 ≤ 42 := Nat.mul_le_mul w0 w1
  have hf71 := hts (.fieldLink RX0 71 "StatueSquare$Ground" "yearNow" "I") (List.mem_of_getElem? (i := 1) rfl)
  have hinX0 : ∀ w ∈ u_ws RX0 TX0 17, w ∈ wsX0_firstYearOfComplaint := fun _ h => List.mem_cons_of_mem _ (List.mem_append_right _ h)
  refine lv_aload_n hx hb dX0_firstYearOfComplaint_0 rfl (lv_at hl 0 rfl) ?_
  refine x_get (D := (dC, dI)) (ci := 0) (v := .int (nI (n 4))) (C := RX0) (T := TX0) (N := 17) hx hb hts hinX0 hown hK hP 0 rfl rfl 13 (Nat.le_of_ble_eq_true rfl) hf71 rfl rfl dX0_firstYearOfComplaint_1 ?_
  refine lv_istore_n (lv' := [(1, .int (nI (n 4))), (0, .ref (q 0))]) hx hb dX0_firstYearOfComplaint_4 rfl hl (by decide) rfl (fun ls hl => ?_)
  have L5 : ∀ (fuel : Nat) (y : Nat) (hy : y ≤ 31) (hfy : fyr n A (31 - n 4) (n 4) = fyr n A (31 - y) y) (hfu : 31 - y < fuel) (H : Heap) (locs : List Loc), va_P (dC, dI) vwCl (wG cI q n X) H → va_S Z ss.heap H locs → ∀ (ls : Array Slot), lv_has ls 2 [(0, .ref (q 0)), (1, .int (nI y))] → W pp l ee RR ss mm aa bb me cd H locs 0 0 QQ (F0 mm 5 ls []) := by
    intro fuel
    induction fuel with
    | zero => intro y hy hfy hfu; exact absurd hfu (Nat.not_lt_zero _)
    | succ fuel ih =>
      intro y hy hfy hfu H locs hP hS ls hl
      refine lv_iload_n hx hb dX0_firstYearOfComplaint_5 rfl (lv_at hl 1 rfl) ?_
      refine lv_bipush (v := nI 30) hx hb dX0_firstYearOfComplaint_6 rfl ?_
      refine x_icmp_gt (tgt := 28) hx hb (by omega) (by omega) dX0_firstYearOfComplaint_8 (by decide) (fun c8 => ?_) (fun c8 => ?_)
      · skip
        refine lv_bipush (v := -9) hx hb dX0_firstYearOfComplaint_28 rfl ?_
        exact hend _ _ _ _ _ (by rw [hfy]; exact fyr_end _ (by omega)) hS dX0_firstYearOfComplaint_30
      · skip
        refine lv_aload_n hx hb dX0_firstYearOfComplaint_11 rfl (lv_at hl 0 rfl) ?_
        refine lv_iconst (v := nI 0) hx hb dX0_firstYearOfComplaint_12 rfl ?_
        refine lv_iload_n hx hb dX0_firstYearOfComplaint_13 rfl (lv_at hl 1 rfl) ?_
        refine roV_i (As := [.int (nI 0), .int (nI y)]) (rest := []) ⟨hx, hb, hml, hown, hts⟩ (kX0_complainers l dC dI cI q n A X hW hR 0 y _ (by omega) (by omega)) (cwV 2 hts gX0_firstYearOfComplaint_X0_complainers rfl rfl rfl hdX0_complainers ⟨Nat.le_trans (Nat.le_of_ble_eq_true rfl) hRf, Nat.le_trans (Nat.le_of_ble_eq_true rfl) hRl⟩) (va_recv hK hP (ci := 0) (q0 := 0) rfl rfl) hK hP rfl hl.1 rfl (Nat.le_of_ble_eq_true rfl) dX0_firstYearOfComplaint_14 ⟨Nat.zero_le _, Nat.zero_le _⟩ hP hS hA (fun H locs hP hS => ?_)
        refine x_if_eq (tgt := 22) hx hb (Nat.lt_of_lt_of_le (orB_lt _ _) (Nat.pow_le_pow_right (by decide) (by omega))) dX0_firstYearOfComplaint_17 (by decide) (fun c17 => ?_) (fun c17 => ?_)
        · skip
          refine lv_iinc (v := (nI (y + 1))) (lv' := [(1, .int (nI (y + 1))), (0, .ref (q 0))]) hx hb dX0_firstYearOfComplaint_22 hl (k := 1) rfl (nI_add _ _) (by decide) rfl (fun ls hl => ?_)
          refine lv_goto (tgt := 5) hx hb dX0_firstYearOfComplaint_25 (by decide) ?_
          exact ih (y + 1) (by omega) (by rw [hfy, show 31 - y = (31 - (y + 1)) + 1 from by omega, fyr, if_pos c17]) (by omega) _ _ hP hS _ (lv_sub hl [1, 0] rfl)
        · skip
          refine lv_iload_n hx hb dX0_firstYearOfComplaint_20 rfl (lv_at hl 1 rfl) ?_
          exact hend _ _ _ _ _ (by rw [hfy, show 31 - y = (31 - (y + 1)) + 1 from by omega, fyr, if_neg c17]) hS dX0_firstYearOfComplaint_21
  exact L5 _ (n 4) (by omega) rfl (Nat.lt_succ_self _) _ _ hP hS _ (lv_sub hl [1, 0] rfl)
set_option maxRecDepth 20000 in
theorem ggX0_isSeenFromAny_X0_partsSeen : GoodIn wsX0_isSeenFromAny wsX0_partsSeen := goodIn_r _ [6, 7, 8, 9, 10, 11, 12, 5, 13, 14, 15, 16, 17, 18, 19, 20, 21, 22, 23, 24, 25, 26, 27, 28, 29, 30, 31, 32, 33, 34, 35, 36, 37, 38, 39, 40, 41, 42, 43, 44, 45, 46, 47, 48, 49, 50, 51, 52, 53, 54, 55, 56, 57] (by decide +kernel) (by decide +kernel)
set_option maxRecDepth 20000 in
theorem gX0_isSeenFromAny_X0_partsSeen : GoodIn wsX0_isSeenFromAny (wsV RX0 115 RX0 yX0_partsSeen wsX0_partsSeen) := goodIn_app (goodIn_of _ (by decide +kernel)) ggX0_isSeenFromAny_X0_partsSeen
set_option maxHeartbeats 4000000 in
set_option maxRecDepth 100000 in
theorem kX0_isSeenFromAny (l : Launch) (dC : Nat → ClassId) (dI : Nat → Nat → Nat) (cI : ClassId) (q n : Nat → Nat) (A : Nat → Nat → Nat) (X : Nat → Nat → Int32) (hW : WF n A) (hR : RG n A X) (tH : Nat) (bs : Nat) (c : Nat) (sz : Nat) (hbs : bs < 4096) (hc : c < n 0 * n 1) : Met l yX0_isSeenFromAny wsX0_isSeenFromAny ({ frames := 4, cells := 0, slots := 0, locals := 101 }) (rsP tH [.ref (q 0), .int (nI bs), .int (nI c)] sz (dC, dI) [(cI, .int)] (wG cI q n X)) (roQi (bI (decide (¬ sAny n A bs c = 0))) sz) 0 0 (va_A [] sz) := by
  refine rs_met_z (by decide) rfl (Nat.le_of_ble_eq_true rfl) ?_
  intro pp ee ss mm aa bb me cd RR QQ Z hx hb hml hown hts hRf hRl hP hK hA hS hZT hend ls hl
  have hown : ss.vm.findClass RX0 = some mm.cls := hown
  have hRf : 4 ≤ RR.frames := hRf
  have hRl : 101 ≤ RR.locals := hRl
  have hl : lv_has ls 4 [(0, .ref (q 0)), (1, .int (nI bs)), (2, .int (nI c))] := hl
  obtain ⟨w0, w1, w2, w3, w4, w5, w6, w7, w8, wA0, wA1, wA2⟩ := id hW
  have wC : n 0 * n 1 ≤ 42 := Nat.mul_le_mul w0 w1
  have hf49 := hts (.fieldLink RX0 49 "StatueSquare$Ground" "benchCount" "I") (List.mem_of_getElem? (i := 1) rfl)
  have hinX0 : ∀ w ∈ u_ws RX0 TX0 17, w ∈ wsX0_isSeenFromAny := fun _ h => List.mem_cons_of_mem _ (List.mem_append_right _ h)
  refine lv_iconst (v := nI 0) hx hb dX0_isSeenFromAny_0 rfl ?_
  refine lv_istore_n (lv' := [(3, .int (nI 0)), (0, .ref (q 0)), (1, .int (nI bs)), (2, .int (nI c))]) hx hb dX0_isSeenFromAny_1 rfl hl (by decide) rfl (fun ls hl => ?_)
  have L2 : ∀ (fuel : Nat) (k : Nat) (hk : k ≤ n 2) (hno : orB (fun b => bs.testBit b && decide (¬ sSeen n A b c = 0)) k = 0) (hfu : n 2 - k < fuel) (H : Heap) (locs : List Loc), va_P (dC, dI) vwCl (wG cI q n X) H → va_S Z ss.heap H locs → ∀ (ls : Array Slot), lv_has ls 4 [(0, .ref (q 0)), (1, .int (nI bs)), (2, .int (nI c)), (3, .int (nI k))] → W pp l ee RR ss mm aa bb me cd H locs 0 0 QQ (F0 mm 2 ls []) := by
    intro fuel
    induction fuel with
    | zero => intro k hk hno hfu; exact absurd hfu (Nat.not_lt_zero _)
    | succ fuel ih =>
      intro k hk hno hfu H locs hP hS ls hl
      refine lv_iload_n hx hb dX0_isSeenFromAny_2 rfl (lv_at hl 3 rfl) ?_
      refine lv_aload_n hx hb dX0_isSeenFromAny_3 rfl (lv_at hl 0 rfl) ?_
      refine x_get (D := (dC, dI)) (ci := 0) (v := .int (nI (n 2))) (C := RX0) (T := TX0) (N := 17) hx hb hts hinX0 hown hK hP 0 rfl rfl 2 (Nat.le_of_ble_eq_true rfl) hf49 rfl rfl dX0_isSeenFromAny_4 ?_
      refine x_icmp_ge (tgt := 35) hx hb (by omega) (by omega) dX0_isSeenFromAny_7 (by decide) (fun c7 => ?_) (fun c7 => ?_)
      · skip
        refine lv_iconst (v := nI 0) hx hb dX0_isSeenFromAny_35 rfl ?_
        exact hend _ _ _ _ _ (n0_b (decide_eq_false (fun q => q (show orB (fun b => bs.testBit b && decide (¬ sSeen n A b c = 0)) (n 2) = 0 from by rw [show n 2 = k from by omega]; exact hno)))) hS dX0_isSeenFromAny_36
      · skip
        refine lv_iload_n hx hb dX0_isSeenFromAny_10 rfl (lv_at hl 1 rfl) ?_
        refine lv_iload_n hx hb dX0_isSeenFromAny_11 rfl (lv_at hl 3 rfl) ?_
        refine x_ishr hx hb (by omega) (by omega) dX0_isSeenFromAny_12 ?_
        refine lv_iconst (v := nI 1) hx hb dX0_isSeenFromAny_13 rfl ?_
        refine x_iand hx hb dX0_isSeenFromAny_14 ?_
        refine x_if_eq (tgt := 29) hx hb (and1_lt _) dX0_isSeenFromAny_15 (by decide) (fun c15 => ?_) (fun c15 => ?_)
        · skip
          have hz : (fun b => bs.testBit b && decide (¬ sSeen n A b c = 0)) k = false := by show (bs.testBit k && _) = false; rw [tb_0.mp c15]; rfl
          refine lv_iinc (v := (nI (k + 1))) (lv' := [(3, .int (nI (k + 1))), (0, .ref (q 0)), (1, .int (nI bs)), (2, .int (nI c))]) hx hb dX0_isSeenFromAny_29 hl (k := 3) rfl (nI_add _ _) (by decide) rfl (fun ls hl => ?_)
          refine lv_goto (tgt := 2) hx hb dX0_isSeenFromAny_32 (by decide) ?_
          exact ih (k + 1) (by omega) ((orB_f hz).symm.trans hno) (by omega) _ _ hP hS _ (lv_sub hl [1, 2, 3, 0] rfl)
        · skip
          have hbt : bs.testBit k = true := by have := mt tb_0.mpr c15; simpa using this
          refine lv_aload_n hx hb dX0_isSeenFromAny_18 rfl (lv_at hl 0 rfl) ?_
          refine lv_iload_n hx hb dX0_isSeenFromAny_19 rfl (lv_at hl 3 rfl) ?_
          refine lv_iload_n hx hb dX0_isSeenFromAny_20 rfl (lv_at hl 2 rfl) ?_
          refine rsV_i (As := [.int (nI k), .int (nI c)]) (rest := []) ⟨hx, hb, hml, hown, hts⟩ (kX0_partsSeen l dC dI cI q n A X hW hR tH k c _ (by omega) (by omega)) (cwV 2 hts gX0_isSeenFromAny_X0_partsSeen rfl rfl rfl hdX0_partsSeen ⟨Nat.le_trans (Nat.le_of_ble_eq_true rfl) hRf, Nat.le_trans (Nat.le_of_ble_eq_true rfl) hRl⟩) (va_recv hK hP (ci := 0) (q0 := 0) rfl rfl) hK hP rfl hl.1 rfl (Nat.le_of_ble_eq_true rfl) dX0_isSeenFromAny_21 ⟨Nat.zero_le _, Nat.zero_le _⟩ hP hS hA hZT (fun H locs hP hS => ?_)
          refine x_if_eq (tgt := 29) hx hb (Nat.lt_trans (sSeen_lt _ _ _ _) (by decide)) dX0_isSeenFromAny_24 (by decide) (fun c24 => ?_) (fun c24 => ?_)
          · skip
            have hz : (fun b => bs.testBit b && decide (¬ sSeen n A b c = 0)) k = false := by show (bs.testBit k && _) = false; rw [hbt, decide_eq_false (fun q => q c24)]; rfl
            refine lv_iinc (v := (nI (k + 1))) (lv' := [(3, .int (nI (k + 1))), (0, .ref (q 0)), (1, .int (nI bs)), (2, .int (nI c))]) hx hb dX0_isSeenFromAny_29 hl (k := 3) rfl (nI_add _ _) (by decide) rfl (fun ls hl => ?_)
            refine lv_goto (tgt := 2) hx hb dX0_isSeenFromAny_32 (by decide) ?_
            exact ih (k + 1) (by omega) ((orB_f hz).symm.trans hno) (by omega) _ _ hP hS _ (lv_sub hl [1, 2, 3, 0] rfl)
          · skip
            have hz : (fun b => bs.testBit b && decide (¬ sSeen n A b c = 0)) k = true := by show (bs.testBit k && _) = true; rw [hbt, decide_eq_true c24]; rfl
            refine lv_iconst (v := nI 1) hx hb dX0_isSeenFromAny_27 rfl ?_
            exact hend _ _ _ _ _ (n1_b (decide_eq_true (orB_ne hz (by omega)))) hS dX0_isSeenFromAny_28
  exact L2 _ 0 (by omega) rfl (Nat.lt_succ_self _) _ _ hP hS _ (lv_sub hl [1, 2, 3, 0] rfl)
theorem hdX0_countWhole : yX0_countWhole.cls = RX0 ∧ yX0_countWhole.cls ≠ "java/lang/invoke/MethodHandle" ∧ yX0_countWhole.cls ≠ "java/lang/invoke/VarHandle" ∧ (parseMethodDescriptor yX0_countWhole.desc).map (fun d => d.parameters.length) = some 2 := by decide +kernel
theorem hdX0_isFree : yX0_isFree.cls = RX0 ∧ yX0_isFree.cls ≠ "java/lang/invoke/MethodHandle" ∧ yX0_isFree.cls ≠ "java/lang/invoke/VarHandle" ∧ (parseMethodDescriptor yX0_isFree.desc).map (fun d => d.parameters.length) = some 1 := by decide +kernel
set_option maxRecDepth 20000 in
theorem ggX0_bestCell_X0_isFree : GoodIn wsX0_bestCell wsX0_isFree := goodIn_r _ [6, 7, 44, 45, 46, 47, 48, 49, 50, 51, 52, 53, 54, 55, 56, 57, 58, 59, 60] (by decide +kernel) (by decide +kernel)
set_option maxRecDepth 20000 in
theorem gX0_bestCell_X0_isFree : GoodIn wsX0_bestCell (wsV RX0 129 RX0 yX0_isFree wsX0_isFree) := goodIn_app (goodIn_of _ (by decide +kernel)) ggX0_bestCell_X0_isFree
set_option maxRecDepth 20000 in
theorem ggX0_bestCell_X0_countWhole : GoodIn wsX0_bestCell wsX0_countWhole := goodIn_r _ [11, 12, 13, 14, 15, 16, 5, 17, 18, 7, 19, 20, 21, 22, 23, 24, 25, 26, 27, 28, 29, 30, 31, 32, 33, 34, 35, 36, 37, 38, 39, 40, 41, 42, 43, 44, 45, 46, 47, 48, 49, 50, 51, 52, 53, 54, 55, 56, 57, 58, 59, 60] (by decide +kernel) (by decide +kernel)
set_option maxRecDepth 20000 in
theorem gX0_bestCell_X0_countWhole : GoodIn wsX0_bestCell (wsV RX0 132 RX0 yX0_countWhole wsX0_countWhole) := goodIn_app (goodIn_of _ (by decide +kernel)) ggX0_bestCell_X0_countWhole
set_option maxHeartbeats 4000000 in
set_option maxRecDepth 100000 in
theorem kX0_bestCell (l : Launch) (dC : Nat → ClassId) (dI : Nat → Nat → Nat) (cI : ClassId) (q n : Nat → Nat) (A : Nat → Nat → Nat) (X : Nat → Nat → Int32) (hW : WF n A) (hR : RG n A X) (bl : Nat) (sz : Nat) (hbl : bl ≤ 9) : Met l yX0_bestCell wsX0_bestCell ({ frames := 4, cells := 0, slots := 0, locals := 101 }) (roP [.ref (q 0), .int (nI bl)] sz (dC, dI) [(cI, .int)] (wG cI q n X)) (roQi (stI (sBest n A bl (n 0 * n 1)).1) sz) 0 0 (va_A [] sz) := by
  refine ro_met_i (by decide) rfl (Nat.le_of_ble_eq_true rfl) ?_
  intro pp ee ss mm aa bb me cd RR QQ Z hx hb hml hown hts hRf hRl hP hK hA hS hend ls hl
  have hown : ss.vm.findClass RX0 = some mm.cls := hown
  have hRf : 4 ≤ RR.frames := hRf
  have hRl : 101 ≤ RR.locals := hRl
  have hl : lv_has ls 6 [(0, .ref (q 0)), (1, .int (nI bl))] := hl
  obtain ⟨w0, w1, w2, w3, w4, w5, w6, w7, w8, wA0, wA1, wA2⟩ := id hW
  have wC : n 0 * n 1 ≤ 42 := Nat.mul_le_mul w0 w1
  have hcl : ∀ c, sCnt n A c bl ≤ 12 := fun c => Nat.le_trans (sCnt_le _ _ _ _) w2
  have hf46 := hts (.fieldLink RX0 46 "StatueSquare$Ground" "cellCount" "I") (List.mem_of_getElem? (i := 1) rfl)
  have hinX0 : ∀ w ∈ u_ws RX0 TX0 17, w ∈ wsX0_bestCell := fun _ h => List.mem_cons_of_mem _ (List.mem_append_right _ h)
  refine lv_bipush (v := -9) hx hb dX0_bestCell_0 rfl ?_
  refine lv_istore_n (lv' := [(2, .int (-9)), (0, .ref (q 0)), (1, .int (nI bl))]) hx hb dX0_bestCell_2 rfl hl (by decide) rfl (fun ls hl => ?_)
  refine lv_iconst (v := -1) hx hb dX0_bestCell_3 rfl ?_
  refine lv_istore_n (lv' := [(3, .int (-1)), (2, .int (-9)), (0, .ref (q 0)), (1, .int (nI bl))]) hx hb dX0_bestCell_4 rfl hl (by decide) rfl (fun ls hl => ?_)
  refine lv_iconst (v := nI 0) hx hb dX0_bestCell_5 rfl ?_
  refine lv_istore (lv' := [(4, .int (nI 0)), (3, .int (-1)), (2, .int (-9)), (0, .ref (q 0)), (1, .int (nI bl))]) hx hb dX0_bestCell_6 hl (by decide) rfl (fun ls hl => ?_)
  have L8 : ∀ (fuel : Nat) (k : Nat) (hk : k ≤ n 0 * n 1) (hfu : n 0 * n 1 - k < fuel) (H : Heap) (locs : List Loc), va_P (dC, dI) vwCl (wG cI q n X) H → va_S Z ss.heap H locs → ∀ (ls : Array Slot), lv_has ls 6 [(0, .ref (q 0)), (1, .int (nI bl)), (2, .int (stI (sBest n A bl k).1)), (3, .int (pI (sBest n A bl k).2)), (4, .int (nI k))] → W pp l ee RR ss mm aa bb me cd H locs 0 0 QQ (F0 mm 8 ls []) := by
    intro fuel
    induction fuel with
    | zero => intro k hk hfu; exact absurd hfu (Nat.not_lt_zero _)
    | succ fuel ih =>
      intro k hk hfu H locs hP hS ls hl
      have hbs := bst_le (fr := (fun c => decide (A 0 c = 0))) (ct := (fun c => sCnt n A c bl)) hcl k
      have hbs2 : (sBest n A bl k).2 ≤ 13 := hbs.2
      refine lv_iload hx hb dX0_bestCell_8 (lv_at hl 4 rfl) ?_
      refine lv_aload_n hx hb dX0_bestCell_10 rfl (lv_at hl 0 rfl) ?_
      refine x_get (D := (dC, dI)) (ci := 0) (v := .int (nI (n 0 * n 1))) (C := RX0) (T := TX0) (N := 17) hx hb hts hinX0 hown hK hP 0 rfl rfl 1 (Nat.le_of_ble_eq_true rfl) hf46 rfl rfl dX0_bestCell_11 ?_
      refine x_icmp_ge (tgt := 57) hx hb (by omega) (by omega) dX0_bestCell_14 (by decide) (fun c14 => ?_) (fun c14 => ?_)
      · skip
        refine lv_iload_n hx hb dX0_bestCell_57 rfl (lv_at hl 2 rfl) ?_
        exact hend _ _ _ _ _ (by rw [show n 0 * n 1 = k from by omega]) hS dX0_bestCell_58
      · skip
        refine lv_aload_n hx hb dX0_bestCell_17 rfl (lv_at hl 0 rfl) ?_
        refine lv_iload hx hb dX0_bestCell_18 (lv_at hl 4 rfl) ?_
        refine roV_i (As := [.int (nI k)]) (rest := []) ⟨hx, hb, hml, hown, hts⟩ (kX0_isFree l dC dI cI q n A X hW hR k _ (by omega)) (cwV 1 hts gX0_bestCell_X0_isFree rfl rfl rfl hdX0_isFree ⟨Nat.le_trans (Nat.le_of_ble_eq_true rfl) hRf, Nat.le_trans (Nat.le_of_ble_eq_true rfl) hRl⟩) (va_recv hK hP (ci := 0) (q0 := 0) rfl rfl) hK hP rfl hl.1 rfl (Nat.le_of_ble_eq_true rfl) dX0_bestCell_20 ⟨Nat.zero_le _, Nat.zero_le _⟩ hP hS hA (fun H locs hP hS => ?_)
        refine x_ifb_eq (tgt := 36) hx hb dX0_bestCell_23 (by decide) (fun c23 => ?_) (fun c23 => ?_)
        · skip
          have hnf : ¬ A 0 k = 0 := of_decide_eq_false c23
          refine lv_iconst (v := -1) hx hb dX0_bestCell_36 rfl ?_
          refine lv_istore (lv' := [(5, .int (-1)), (0, .ref (q 0)), (1, .int (nI bl)), (2, .int (stI (sBest n A bl k).1)), (3, .int (pI (sBest n A bl k).2)), (4, .int (nI k))]) hx hb dX0_bestCell_37 hl (by decide) rfl (fun ls hl => ?_)
          refine lv_iload hx hb dX0_bestCell_39 (lv_at hl 0 rfl) ?_
          refine lv_iload_n hx hb dX0_bestCell_41 rfl (lv_at hl 4 rfl) ?_
          refine lv_icmp_le (tgt := 51) hx hb dX0_bestCell_42 (by decide) (fun c42 => ?_) (fun c42 => ?_)
          · skip
            have hz : sBest n A bl (k + 1) = sBest n A bl k := if_neg (fun q => hnf (of_decide_eq_true q.1))
            refine lv_iinc (v := (nI (k + 1))) (lv' := [(4, .int (nI (k + 1))), (5, .int (-1)), (0, .ref (q 0)), (1, .int (nI bl)), (2, .int (stI (sBest n A bl k).1)), (3, .int (pI (sBest n A bl k).2))]) hx hb dX0_bestCell_51 hl (k := 5) rfl (nI_add _ _) (by decide) rfl (fun ls hl => ?_)
            refine lv_goto (tgt := 8) hx hb dX0_bestCell_54 (by decide) ?_
            exact ih (k + 1) (by omega) (by omega) _ _ hP hS _ (by rw [hz]; exact lv_sub hl [2, 3, 4, 5, 0] rfl)
          · skip
            exact absurd (pI_min (by omega)) c42
        · skip
          have hfr : A 0 k = 0 := of_decide_eq_true c23
          refine lv_aload_n hx hb dX0_bestCell_26 rfl (lv_at hl 0 rfl) ?_
          refine lv_iload hx hb dX0_bestCell_27 (lv_at hl 4 rfl) ?_
          refine lv_iload_n hx hb dX0_bestCell_29 rfl (lv_at hl 1 rfl) ?_
          refine roV_i (As := [.int (nI k), .int (nI bl)]) (rest := []) ⟨hx, hb, hml, hown, hts⟩ (kX0_countWhole l dC dI cI q n A X hW hR k bl _ (by omega) (by omega)) (cwV 2 hts gX0_bestCell_X0_countWhole rfl rfl rfl hdX0_countWhole ⟨Nat.le_trans (Nat.le_of_ble_eq_true rfl) hRf, Nat.le_trans (Nat.le_of_ble_eq_true rfl) hRl⟩) (va_recv hK hP (ci := 0) (q0 := 0) rfl rfl) hK hP rfl hl.1 rfl (Nat.le_of_ble_eq_true rfl) dX0_bestCell_30 ⟨Nat.zero_le _, Nat.zero_le _⟩ hP hS hA (fun H locs hP hS => ?_)
          refine lv_goto (tgt := 37) hx hb dX0_bestCell_33 (by decide) ?_
          refine lv_istore (lv' := [(5, .int (nI (sCnt n A k bl))), (0, .ref (q 0)), (1, .int (nI bl)), (2, .int (stI (sBest n A bl k).1)), (3, .int (pI (sBest n A bl k).2)), (4, .int (nI k))]) hx hb dX0_bestCell_37 hl (by decide) rfl (fun ls hl => ?_)
          refine lv_iload hx hb dX0_bestCell_39 (lv_at hl 0 rfl) ?_
          refine lv_iload_n hx hb dX0_bestCell_41 rfl (lv_at hl 4 rfl) ?_
          refine lv_icmp_le (tgt := 51) hx hb dX0_bestCell_42 (by decide) (fun c42 => ?_) (fun c42 => ?_)
          · skip
            have hz : sBest n A bl (k + 1) = sBest n A bl k := if_neg (fun q => by have := (pI_lt (by have := hcl k; omega) (by omega)).mp c42; have q2 : (sBest n A bl k).2 < sCnt n A k bl + 1 := q.2; omega)
            refine lv_iinc (v := (nI (k + 1))) (lv' := [(4, .int (nI (k + 1))), (5, .int (nI (sCnt n A k bl))), (0, .ref (q 0)), (1, .int (nI bl)), (2, .int (stI (sBest n A bl k).1)), (3, .int (pI (sBest n A bl k).2))]) hx hb dX0_bestCell_51 hl (k := 5) rfl (nI_add _ _) (by decide) rfl (fun ls hl => ?_)
            refine lv_goto (tgt := 8) hx hb dX0_bestCell_54 (by decide) ?_
            exact ih (k + 1) (by omega) (by omega) _ _ hP hS _ (by rw [hz]; exact lv_sub hl [2, 3, 4, 5, 0] rfl)
          · skip
            have hz : sBest n A bl (k + 1) = (k + 1, sCnt n A k bl + 1) := if_pos ⟨decide_eq_true hfr, show (sBest n A bl k).2 < sCnt n A k bl + 1 from by have := mt (pI_lt (by have := hcl k; omega) (by omega)).mpr c42; omega⟩
            refine lv_iload hx hb dX0_bestCell_45 (lv_at hl 5 rfl) ?_
            refine lv_istore_n (lv' := [(2, .int (nI k)), (5, .int (nI (sCnt n A k bl))), (0, .ref (q 0)), (1, .int (nI bl)), (3, .int (pI (sBest n A bl k).2)), (4, .int (nI k))]) hx hb dX0_bestCell_47 rfl hl (by decide) rfl (fun ls hl => ?_)
            refine lv_iload hx hb dX0_bestCell_48 (lv_at hl 1 rfl) ?_
            refine lv_istore_n (lv' := [(3, .int (nI (sCnt n A k bl))), (2, .int (nI k)), (5, .int (nI (sCnt n A k bl))), (0, .ref (q 0)), (1, .int (nI bl)), (4, .int (nI k))]) hx hb dX0_bestCell_50 rfl hl (by decide) rfl (fun ls hl => ?_)
            refine lv_iinc (v := (nI (k + 1))) (lv' := [(4, .int (nI (k + 1))), (3, .int (nI (sCnt n A k bl))), (2, .int (nI k)), (5, .int (nI (sCnt n A k bl))), (0, .ref (q 0)), (1, .int (nI bl))]) hx hb dX0_bestCell_51 hl (k := 5) rfl (nI_add _ _) (by decide) rfl (fun ls hl => ?_)
            refine lv_goto (tgt := 8) hx hb dX0_bestCell_54 (by decide) ?_
            exact ih (k + 1) (by omega) (by omega) _ _ hP hS _ (by rw [hz]; exact lv_sub hl [4, 5, 2, 1, 0] rfl)
  exact L8 _ 0 (by omega) (Nat.lt_succ_self _) _ _ hP hS _ (lv_sub hl [3, 4, 2, 1, 0] rfl)
set_option maxRecDepth 20000 in
theorem ggX0_leastBlock_X0_countWhole : GoodIn wsX0_leastBlock wsX0_countWhole := goodIn_r _ [5, 6, 7, 8, 9, 10, 4, 11, 12, 13, 14, 15, 16, 17, 18, 19, 20, 21, 22, 23, 24, 25, 26, 27, 28, 29, 30, 31, 32, 33, 34, 35, 36, 37, 38, 39, 40, 41, 42, 43, 44, 45, 46, 47, 48, 49, 50, 51, 52, 53, 54, 55] (by decide +kernel) (by decide +kernel)
set_option maxRecDepth 20000 in
theorem gX0_leastBlock_X0_countWhole : GoodIn wsX0_leastBlock (wsV RX0 132 RX0 yX0_countWhole wsX0_countWhole) := goodIn_app (goodIn_of _ (by decide +kernel)) ggX0_leastBlock_X0_countWhole
set_option maxHeartbeats 4000000 in
set_option maxRecDepth 100000 in
theorem kX0_leastBlock (l : Launch) (dC : Nat → ClassId) (dI : Nat → Nat → Nat) (cI : ClassId) (q n : Nat → Nat) (A : Nat → Nat → Nat) (X : Nat → Nat → Int32) (hW : WF n A) (hR : RG n A X) (c : Nat) (sz : Nat) (hc : c < n 0 * n 1) : Met l yX0_leastBlock wsX0_leastBlock ({ frames := 4, cells := 0, slots := 0, locals := 101 }) (roP [.ref (q 0), .int (nI c)] sz (dC, dI) [(cI, .int)] (wG cI q n X)) (roQi (nI ((sLeast n A c 10).1 - 1)) sz) 0 0 (va_A [] sz) := by
  refine ro_met_i (by decide) rfl (Nat.le_of_ble_eq_true rfl) ?_
  intro pp ee ss mm aa bb me cd RR QQ Z hx hb hml hown hts hRf hRl hP hK hA hS hend ls hl
  have hown : ss.vm.findClass RX0 = some mm.cls := hown
  have hRf : 4 ≤ RR.frames := hRf
  have hRl : 101 ≤ RR.locals := hRl
  have hl : lv_has ls 6 [(0, .ref (q 0)), (1, .int (nI c))] := hl
  obtain ⟨w0, w1, w2, w3, w4, w5, w6, w7, w8, wA0, wA1, wA2⟩ := id hW
  have wC : n 0 * n 1 ≤ 42 := Nat.mul_le_mul w0 w1
  have hcl : ∀ bl, sCnt n A c bl ≤ 12 := fun bl => Nat.le_trans (sCnt_le _ _ _ _) w2
  refine lv_iconst (v := nI 0) hx hb dX0_leastBlock_0 rfl ?_
  refine lv_istore_n (lv' := [(2, .int (nI 0)), (0, .ref (q 0)), (1, .int (nI c))]) hx hb dX0_leastBlock_1 rfl hl (by decide) rfl (fun ls hl => ?_)
  refine lv_iconst (v := -1) hx hb dX0_leastBlock_2 rfl ?_
  refine lv_istore_n (lv' := [(3, .int (-1)), (2, .int (nI 0)), (0, .ref (q 0)), (1, .int (nI c))]) hx hb dX0_leastBlock_3 rfl hl (by decide) rfl (fun ls hl => ?_)
  refine lv_iconst (v := nI 0) hx hb dX0_leastBlock_4 rfl ?_
  refine lv_istore (lv' := [(4, .int (nI 0)), (3, .int (-1)), (2, .int (nI 0)), (0, .ref (q 0)), (1, .int (nI c))]) hx hb dX0_leastBlock_5 hl (by decide) rfl (fun ls hl => ?_)
  have L7 : ∀ (fuel : Nat) (k : Nat) (hk : k ≤ 10) (hfu : 10 - k < fuel) (H : Heap) (locs : List Loc), va_P (dC, dI) vwCl (wG cI q n X) H → va_S Z ss.heap H locs → ∀ (ls : Array Slot), lv_has ls 6 [(0, .ref (q 0)), (1, .int (nI c)), (2, .int (nI ((sLeast n A c k).1 - 1))), (3, .int (pI (sLeast n A c k).2)), (4, .int (nI k))] → W pp l ee RR ss mm aa bb me cd H locs 0 0 QQ (F0 mm 7 ls []) := by
    intro fuel
    induction fuel with
    | zero => intro k hk hfu; exact absurd hfu (Nat.not_lt_zero _)
    | succ fuel ih =>
      intro k hk hfu H locs hP hS ls hl
      have hbs := bst_le (fr := (fun _ => true)) (ct := (fun bl => sCnt n A c bl)) hcl k
      have hbs2 : (sLeast n A c k).2 ≤ 13 := hbs.2
      refine lv_iload hx hb dX0_leastBlock_7 (lv_at hl 4 rfl) ?_
      refine lv_bipush (v := nI 9) hx hb dX0_leastBlock_9 rfl ?_
      refine x_icmp_gt (tgt := 41) hx hb (by omega) (by omega) dX0_leastBlock_11 (by decide) (fun c11 => ?_) (fun c11 => ?_)
      · skip
        refine lv_iload_n hx hb dX0_leastBlock_41 rfl (lv_at hl 2 rfl) ?_
        exact hend _ _ _ _ _ (by rw [show k = 10 from by omega]) hS dX0_leastBlock_42
      · skip
        refine lv_aload_n hx hb dX0_leastBlock_14 rfl (lv_at hl 0 rfl) ?_
        refine lv_iload_n hx hb dX0_leastBlock_15 rfl (lv_at hl 1 rfl) ?_
        refine lv_iload hx hb dX0_leastBlock_16 (lv_at hl 4 rfl) ?_
        refine roV_i (As := [.int (nI c), .int (nI k)]) (rest := []) ⟨hx, hb, hml, hown, hts⟩ (kX0_countWhole l dC dI cI q n A X hW hR c k _ (by omega) (by omega)) (cwV 2 hts gX0_leastBlock_X0_countWhole rfl rfl rfl hdX0_countWhole ⟨Nat.le_trans (Nat.le_of_ble_eq_true rfl) hRf, Nat.le_trans (Nat.le_of_ble_eq_true rfl) hRl⟩) (va_recv hK hP (ci := 0) (q0 := 0) rfl rfl) hK hP rfl hl.1 rfl (Nat.le_of_ble_eq_true rfl) dX0_leastBlock_18 ⟨Nat.zero_le _, Nat.zero_le _⟩ hP hS hA (fun H locs hP hS => ?_)
        refine lv_istore (lv' := [(5, .int (nI (sCnt n A c k))), (0, .ref (q 0)), (1, .int (nI c)), (2, .int (nI ((sLeast n A c k).1 - 1))), (3, .int (pI (sLeast n A c k).2)), (4, .int (nI k))]) hx hb dX0_leastBlock_21 hl (by decide) rfl (fun ls hl => ?_)
        refine lv_iload hx hb dX0_leastBlock_23 (lv_at hl 0 rfl) ?_
        refine lv_iload_n hx hb dX0_leastBlock_25 rfl (lv_at hl 4 rfl) ?_
        refine lv_icmp_le (tgt := 35) hx hb dX0_leastBlock_26 (by decide) (fun c26 => ?_) (fun c26 => ?_)
        · skip
          have hz : sLeast n A c (k + 1) = sLeast n A c k := if_neg (fun q => by have := (pI_lt (by have := hcl k; omega) (by omega)).mp c26; have q2 : (sLeast n A c k).2 < sCnt n A c k + 1 := q.2; omega)
          refine lv_iinc (v := (nI (k + 1))) (lv' := [(4, .int (nI (k + 1))), (5, .int (nI (sCnt n A c k))), (0, .ref (q 0)), (1, .int (nI c)), (2, .int (nI ((sLeast n A c k).1 - 1))), (3, .int (pI (sLeast n A c k).2))]) hx hb dX0_leastBlock_35 hl (k := 5) rfl (nI_add _ _) (by decide) rfl (fun ls hl => ?_)
          refine lv_goto (tgt := 7) hx hb dX0_leastBlock_38 (by decide) ?_
          exact ih (k + 1) (by omega) (by omega) _ _ hP hS _ (by rw [hz]; exact lv_sub hl [2, 3, 4, 5, 0] rfl)
        · skip
          have hz : sLeast n A c (k + 1) = (k + 1, sCnt n A c k + 1) := if_pos ⟨rfl, show (sLeast n A c k).2 < sCnt n A c k + 1 from by have := mt (pI_lt (by have := hcl k; omega) (by omega)).mpr c26; omega⟩
          refine lv_iload hx hb dX0_leastBlock_29 (lv_at hl 5 rfl) ?_
          refine lv_istore_n (lv' := [(2, .int (nI k)), (5, .int (nI (sCnt n A c k))), (0, .ref (q 0)), (1, .int (nI c)), (3, .int (pI (sLeast n A c k).2)), (4, .int (nI k))]) hx hb dX0_leastBlock_31 rfl hl (by decide) rfl (fun ls hl => ?_)
          refine lv_iload hx hb dX0_leastBlock_32 (lv_at hl 1 rfl) ?_
          refine lv_istore_n (lv' := [(3, .int (nI (sCnt n A c k))), (2, .int (nI k)), (5, .int (nI (sCnt n A c k))), (0, .ref (q 0)), (1, .int (nI c)), (4, .int (nI k))]) hx hb dX0_leastBlock_34 rfl hl (by decide) rfl (fun ls hl => ?_)
          refine lv_iinc (v := (nI (k + 1))) (lv' := [(4, .int (nI (k + 1))), (3, .int (nI (sCnt n A c k))), (2, .int (nI k)), (5, .int (nI (sCnt n A c k))), (0, .ref (q 0)), (1, .int (nI c))]) hx hb dX0_leastBlock_35 hl (k := 5) rfl (nI_add _ _) (by decide) rfl (fun ls hl => ?_)
          refine lv_goto (tgt := 7) hx hb dX0_leastBlock_38 (by decide) ?_
          exact ih (k + 1) (by omega) (by omega) _ _ hP hS _ (by rw [hz]; exact lv_sub hl [4, 5, 2, 1, 0] rfl)
  exact L7 _ 0 (by omega) (Nat.lt_succ_self _) _ _ hP hS _ (lv_sub hl [3, 4, 2, 1, 0] rfl)
theorem hdX0_benchesThatSeeWhole : yX0_benchesThatSeeWhole.cls = RX0 ∧ yX0_benchesThatSeeWhole.cls ≠ "java/lang/invoke/MethodHandle" ∧ yX0_benchesThatSeeWhole.cls ≠ "java/lang/invoke/VarHandle" ∧ (parseMethodDescriptor yX0_benchesThatSeeWhole.desc).map (fun d => d.parameters.length) = some 0 := by decide +kernel
theorem hdX0_isSeenFromAny : yX0_isSeenFromAny.cls = RX0 ∧ yX0_isSeenFromAny.cls ≠ "java/lang/invoke/MethodHandle" ∧ yX0_isSeenFromAny.cls ≠ "java/lang/invoke/VarHandle" ∧ (parseMethodDescriptor yX0_isSeenFromAny.desc).map (fun d => d.parameters.length) = some 2 := by decide +kernel
set_option maxRecDepth 20000 in
theorem ggX0_unseenCells_X0_benchesThatSeeWhole : GoodIn wsX0_unseenCells wsX0_benchesThatSeeWhole := goodIn_r _ [7, 8, 9, 10, 11, 12, 6, 13, 2, 14, 15, 16, 17, 18, 19, 20, 21, 22, 23, 24, 25, 26, 27, 28, 29, 30, 31, 32, 33, 34, 35, 36, 37, 38, 39, 40, 41, 42, 43, 44, 45, 59, 60, 61, 62, 63, 64, 65, 66, 67, 68, 69, 70, 71, 72, 73, 74, 75] (by decide +kernel) (by decide +kernel)
set_option maxRecDepth 20000 in
theorem gX0_unseenCells_X0_benchesThatSeeWhole : GoodIn wsX0_unseenCells (wsV RX0 135 RX0 yX0_benchesThatSeeWhole wsX0_benchesThatSeeWhole) := goodIn_app (goodIn_of _ (by decide +kernel)) ggX0_unseenCells_X0_benchesThatSeeWhole
set_option maxRecDepth 20000 in
theorem ggX0_unseenCells_X0_isFree : GoodIn wsX0_unseenCells wsX0_isFree := goodIn_r _ [49, 20, 59, 60, 61, 62, 63, 64, 65, 66, 67, 68, 69, 70, 71, 72, 73, 74, 75] (by decide +kernel) (by decide +kernel)
set_option maxRecDepth 20000 in
theorem gX0_unseenCells_X0_isFree : GoodIn wsX0_unseenCells (wsV RX0 129 RX0 yX0_isFree wsX0_isFree) := goodIn_app (goodIn_of _ (by decide +kernel)) ggX0_unseenCells_X0_isFree
set_option maxRecDepth 20000 in
theorem ggX0_unseenCells_X0_isSeenFromAny : GoodIn wsX0_unseenCells wsX0_isSeenFromAny := goodIn_r _ [53, 8, 54, 55, 56, 6, 57, 14, 58, 9, 15, 16, 17, 18, 19, 20, 21, 22, 23, 24, 25, 26, 27, 28, 29, 30, 31, 32, 33, 34, 35, 36, 37, 38, 39, 40, 41, 42, 43, 44, 45, 59, 60, 61, 62, 63, 64, 65, 66, 67, 68, 69, 70, 71, 72, 73, 74, 75] (by decide +kernel) (by decide +kernel)
set_option maxRecDepth 20000 in
theorem gX0_unseenCells_X0_isSeenFromAny : GoodIn wsX0_unseenCells (wsV RX0 139 RX0 yX0_isSeenFromAny wsX0_isSeenFromAny) := goodIn_app (goodIn_of _ (by decide +kernel)) ggX0_unseenCells_X0_isSeenFromAny
set_option maxHeartbeats 4000000 in
set_option maxRecDepth 100000 in
theorem kX0_unseenCells (l : Launch) (dC : Nat → ClassId) (dI : Nat → Nat → Nat) (cI : ClassId) (q n : Nat → Nat) (A : Nat → Nat → Nat) (X : Nat → Nat → Int32) (hW : WF n A) (hR : RG n A X) (tH : Nat) (sz : Nat) (hst : 0 < n 6) : Met l yX0_unseenCells wsX0_unseenCells ({ frames := 5, cells := 0, slots := 0, locals := 124 }) (rsP tH [.ref (q 0)] sz (dC, dI) [(cI, .int)] (wG cI q n X)) (roQl (lN (sSec n A)) sz) 0 0 (va_A [] sz) := by
  refine rs_met_l (by decide) rfl (Nat.le_of_ble_eq_true rfl) ?_
  intro pp ee ss mm aa bb me cd RR QQ Z hx hb hml hown hts hRf hRl hP hK hA hS hZT hend ls hl
  have hown : ss.vm.findClass RX0 = some mm.cls := hown
  have hRf : 5 ≤ RR.frames := hRf
  have hRl : 124 ≤ RR.locals := hRl
  have hl : lv_has ls 5 [(0, .ref (q 0))] := hl
  obtain ⟨w0, w1, w2, w3, w4, w5, w6, w7, w8, wA0, wA1, wA2⟩ := id hW
  have wC : n 0 * n 1 ≤ 42 := Nat.mul_le_mul w0 w1
  have hf46 := hts (.fieldLink RX0 46 "StatueSquare$Ground" "cellCount" "I") (List.mem_of_getElem? (i := 1) rfl)
  have hinX0 : ∀ w ∈ u_ws RX0 TX0 17, w ∈ wsX0_unseenCells := fun _ h => List.mem_cons_of_mem _ (List.mem_append_right _ h)
  have hf36 := hts (.fieldLink RX0 36 "StatueSquare$Ground" "statueCell" "I") (List.mem_of_getElem? (i := 2) rfl)
  refine lv_aload_n hx hb dX0_unseenCells_0 rfl (lv_at hl 0 rfl) ?_
  refine roV_i (As := []) (rest := []) ⟨hx, hb, hml, hown, hts⟩ (kX0_benchesThatSeeWhole l dC dI cI q n A X hW hR  _ (by omega)) (cwV 0 hts gX0_unseenCells_X0_benchesThatSeeWhole rfl rfl rfl hdX0_benchesThatSeeWhole ⟨Nat.le_trans (Nat.le_of_ble_eq_true rfl) hRf, Nat.le_trans (Nat.le_of_ble_eq_true rfl) hRl⟩) (va_recv hK hP (ci := 0) (q0 := 0) rfl rfl) hK hP rfl hl.1 rfl (Nat.le_of_ble_eq_true rfl) dX0_unseenCells_1 ⟨Nat.zero_le _, Nat.zero_le _⟩ hP hS hA (fun H locs hP hS => ?_)
  refine lv_istore_n (lv' := [(1, .int (nI (sWhole n A))), (0, .ref (q 0))]) hx hb dX0_unseenCells_4 rfl hl (by decide) rfl (fun ls hl => ?_)
  refine lv_lconst (v := 0) hx hb dX0_unseenCells_5 rfl ?_
  refine lv_lstore_n (lv' := [(2, .long 0), (1, .int (nI (sWhole n A))), (0, .ref (q 0))]) hx hb dX0_unseenCells_6 rfl hl (by decide) rfl (fun ls hl => ?_)
  refine lv_iconst (v := nI 0) hx hb dX0_unseenCells_7 rfl ?_
  refine lv_istore (lv' := [(4, .int (nI 0)), (2, .long 0), (1, .int (nI (sWhole n A))), (0, .ref (q 0))]) hx hb dX0_unseenCells_8 hl (by decide) rfl (fun ls hl => ?_)
  have L10 : ∀ (fuel : Nat) (k : Nat) (hk : k ≤ n 0 * n 1) (hfu : n 0 * n 1 - k < fuel) (H : Heap) (locs : List Loc), va_P (dC, dI) vwCl (wG cI q n X) H → va_S Z ss.heap H locs → ∀ (ls : Array Slot), lv_has ls 5 [(0, .ref (q 0)), (1, .int (nI (sWhole n A))), (2, .long (lN (orB (fun c => decide (A 0 c = 0) && (decide (¬ c = n 6 - 1) && decide (sAny n A (sWhole n A) c = 0))) k))), (4, .int (nI k))] → W pp l ee RR ss mm aa bb me cd H locs 0 0 QQ (F0 mm 10 ls []) := by
    intro fuel
    induction fuel with
    | zero => intro k hk hfu; exact absurd hfu (Nat.not_lt_zero _)
    | succ fuel ih =>
      intro k hk hfu H locs hP hS ls hl
      refine lv_iload hx hb dX0_unseenCells_10 (lv_at hl 3 rfl) ?_
      refine lv_aload_n hx hb dX0_unseenCells_12 rfl (lv_at hl 0 rfl) ?_
      refine x_get (D := (dC, dI)) (ci := 0) (v := .int (nI (n 0 * n 1))) (C := RX0) (T := TX0) (N := 17) hx hb hts hinX0 hown hK hP 0 rfl rfl 1 (Nat.le_of_ble_eq_true rfl) hf46 rfl rfl dX0_unseenCells_13 ?_
      refine x_icmp_ge (tgt := 60) hx hb (by omega) (by omega) dX0_unseenCells_16 (by decide) (fun c16 => ?_) (fun c16 => ?_)
      · skip
        refine lv_lload_n hx hb dX0_unseenCells_60 rfl (lv_at hl 2 rfl) ?_
        exact hend _ _ _ _ _ (by rw [show sSec n A = orB (fun c => decide (A 0 c = 0) && (decide (¬ c = n 6 - 1) && decide (sAny n A (sWhole n A) c = 0))) k from by rw [show k = n 0 * n 1 from by omega]; rfl]) hS dX0_unseenCells_61
      · skip
        refine lv_aload_n hx hb dX0_unseenCells_19 rfl (lv_at hl 0 rfl) ?_
        refine lv_iload hx hb dX0_unseenCells_20 (lv_at hl 3 rfl) ?_
        refine roV_i (As := [.int (nI k)]) (rest := []) ⟨hx, hb, hml, hown, hts⟩ (kX0_isFree l dC dI cI q n A X hW hR k _ (by omega)) (cwV 1 hts gX0_unseenCells_X0_isFree rfl rfl rfl hdX0_isFree ⟨Nat.le_trans (Nat.le_of_ble_eq_true rfl) hRf, Nat.le_trans (Nat.le_of_ble_eq_true rfl) hRl⟩) (va_recv hK hP (ci := 0) (q0 := 0) rfl rfl) hK hP rfl hl.1 rfl (Nat.le_of_ble_eq_true rfl) dX0_unseenCells_22 ⟨Nat.zero_le _, Nat.zero_le _⟩ hP hS hA (fun H locs hP hS => ?_)
        refine x_ifb_eq (tgt := 54) hx hb dX0_unseenCells_25 (by decide) (fun c25 => ?_) (fun c25 => ?_)
        · skip
          have hz : (fun c => decide (A 0 c = 0) && (decide (¬ c = n 6 - 1) && decide (sAny n A (sWhole n A) c = 0))) k = false := by show (decide (A 0 k = 0) && _) = false; rw [c25]; rfl
          refine lv_iinc (v := (nI (k + 1))) (lv' := [(4, .int (nI (k + 1))), (0, .ref (q 0)), (1, .int (nI (sWhole n A))), (2, .long (lN (orB (fun c => decide (A 0 c = 0) && (decide (¬ c = n 6 - 1) && decide (sAny n A (sWhole n A) c = 0))) k)))]) hx hb dX0_unseenCells_54 hl (k := 3) rfl (nI_add _ _) (by decide) rfl (fun ls hl => ?_)
          refine lv_goto (tgt := 10) hx hb dX0_unseenCells_57 (by decide) ?_
          exact ih (k + 1) (by omega) (by omega) _ _ hP hS _ (by rw [show lN (orB (fun c => decide (A 0 c = 0) && (decide (¬ c = n 6 - 1) && decide (sAny n A (sWhole n A) c = 0))) (k + 1)) = lN (orB (fun c => decide (A 0 c = 0) && (decide (¬ c = n 6 - 1) && decide (sAny n A (sWhole n A) c = 0))) k) from congrArg lN (orB_f (k := k) hz).symm]; exact lv_sub hl [1, 2, 3, 0] rfl)
        · skip
          refine lv_iload hx hb dX0_unseenCells_28 (lv_at hl 3 rfl) ?_
          refine lv_aload_n hx hb dX0_unseenCells_30 rfl (lv_at hl 0 rfl) ?_
          refine x_get (D := (dC, dI)) (ci := 0) (v := .int (stI (n 6))) (C := RX0) (T := TX0) (N := 17) hx hb hts hinX0 hown hK hP 0 rfl rfl 15 (Nat.le_of_ble_eq_true rfl) hf36 rfl rfl dX0_unseenCells_31 ?_
          refine x_top (stI_pos hst) ?_
          refine x_icmp_eq (tgt := 54) hx hb (by omega) (by omega) dX0_unseenCells_34 (by decide) (fun c34 => ?_) (fun c34 => ?_)
          · skip
            have hz : (fun c => decide (A 0 c = 0) && (decide (¬ c = n 6 - 1) && decide (sAny n A (sWhole n A) c = 0))) k = false := by show (decide (A 0 k = 0) && (decide (¬ k = n 6 - 1) && _)) = false; rw [c25, decide_eq_false (fun q => q c34)]; rfl
            refine lv_iinc (v := (nI (k + 1))) (lv' := [(4, .int (nI (k + 1))), (0, .ref (q 0)), (1, .int (nI (sWhole n A))), (2, .long (lN (orB (fun c => decide (A 0 c = 0) && (decide (¬ c = n 6 - 1) && decide (sAny n A (sWhole n A) c = 0))) k)))]) hx hb dX0_unseenCells_54 hl (k := 3) rfl (nI_add _ _) (by decide) rfl (fun ls hl => ?_)
            refine lv_goto (tgt := 10) hx hb dX0_unseenCells_57 (by decide) ?_
            exact ih (k + 1) (by omega) (by omega) _ _ hP hS _ (by rw [show lN (orB (fun c => decide (A 0 c = 0) && (decide (¬ c = n 6 - 1) && decide (sAny n A (sWhole n A) c = 0))) (k + 1)) = lN (orB (fun c => decide (A 0 c = 0) && (decide (¬ c = n 6 - 1) && decide (sAny n A (sWhole n A) c = 0))) k) from congrArg lN (orB_f (k := k) hz).symm]; exact lv_sub hl [1, 2, 3, 0] rfl)
          · skip
            refine lv_aload_n hx hb dX0_unseenCells_37 rfl (lv_at hl 0 rfl) ?_
            refine lv_iload_n hx hb dX0_unseenCells_38 rfl (lv_at hl 1 rfl) ?_
            refine lv_iload hx hb dX0_unseenCells_39 (lv_at hl 3 rfl) ?_
            refine rsV_i (As := [.int (nI (sWhole n A)), .int (nI k)]) (rest := []) ⟨hx, hb, hml, hown, hts⟩ (kX0_isSeenFromAny l dC dI cI q n A X hW hR tH (sWhole n A) k _ (Nat.lt_of_lt_of_le (orB_lt _ _) (Nat.pow_le_pow_right (by decide) w2)) (by omega)) (cwV 2 hts gX0_unseenCells_X0_isSeenFromAny rfl rfl rfl hdX0_isSeenFromAny ⟨Nat.le_trans (Nat.le_of_ble_eq_true rfl) hRf, Nat.le_trans (Nat.le_of_ble_eq_true rfl) hRl⟩) (va_recv hK hP (ci := 0) (q0 := 0) rfl rfl) hK hP rfl hl.1 rfl (Nat.le_of_ble_eq_true rfl) dX0_unseenCells_41 ⟨Nat.zero_le _, Nat.zero_le _⟩ hP hS hA hZT (fun H locs hP hS => ?_)
            refine x_ifb_ne (tgt := 54) hx hb dX0_unseenCells_44 (by decide) (fun c44 => ?_) (fun c44 => ?_)
            · skip
              have hz : (fun c => decide (A 0 c = 0) && (decide (¬ c = n 6 - 1) && decide (sAny n A (sWhole n A) c = 0))) k = false := by show (decide (A 0 k = 0) && (decide (¬ k = n 6 - 1) && decide (sAny n A (sWhole n A) k = 0))) = false; rw [c25, decide_eq_true c34, decide_eq_false (of_decide_eq_true c44)]; rfl
              refine lv_iinc (v := (nI (k + 1))) (lv' := [(4, .int (nI (k + 1))), (0, .ref (q 0)), (1, .int (nI (sWhole n A))), (2, .long (lN (orB (fun c => decide (A 0 c = 0) && (decide (¬ c = n 6 - 1) && decide (sAny n A (sWhole n A) c = 0))) k)))]) hx hb dX0_unseenCells_54 hl (k := 3) rfl (nI_add _ _) (by decide) rfl (fun ls hl => ?_)
              refine lv_goto (tgt := 10) hx hb dX0_unseenCells_57 (by decide) ?_
              exact ih (k + 1) (by omega) (by omega) _ _ hP hS _ (by rw [show lN (orB (fun c => decide (A 0 c = 0) && (decide (¬ c = n 6 - 1) && decide (sAny n A (sWhole n A) c = 0))) (k + 1)) = lN (orB (fun c => decide (A 0 c = 0) && (decide (¬ c = n 6 - 1) && decide (sAny n A (sWhole n A) c = 0))) k) from congrArg lN (orB_f (k := k) hz).symm]; exact lv_sub hl [1, 2, 3, 0] rfl)
            · skip
              have hz : (fun c => decide (A 0 c = 0) && (decide (¬ c = n 6 - 1) && decide (sAny n A (sWhole n A) c = 0))) k = true := by show (decide (A 0 k = 0) && (decide (¬ k = n 6 - 1) && decide (sAny n A (sWhole n A) k = 0))) = true; rw [c25, decide_eq_true c34, decide_eq_true (Classical.not_not.mp (of_decide_eq_false c44))]; rfl
              refine lv_lload_n hx hb dX0_unseenCells_47 rfl (lv_at hl 2 rfl) ?_
              refine lv_lconst (v := 1) hx hb dX0_unseenCells_48 rfl ?_
              refine lv_iload hx hb dX0_unseenCells_49 (lv_at hl 3 rfl) ?_
              refine lv_lshl hx hb dX0_unseenCells_51 rfl ?_
              refine lv_lor hx hb dX0_unseenCells_52 ?_
              refine x_topl (y := (lN (orB (fun c => decide (A 0 c = 0) && (decide (¬ c = n 6 - 1) && decide (sAny n A (sWhole n A) c = 0))) (k + 1)))) (sec_or hz (by omega)) ?_
              refine lv_lstore_n (lv' := [(2, .long (lN (orB (fun c => decide (A 0 c = 0) && (decide (¬ c = n 6 - 1) && decide (sAny n A (sWhole n A) c = 0))) (k + 1)))), (0, .ref (q 0)), (1, .int (nI (sWhole n A))), (4, .int (nI k))]) hx hb dX0_unseenCells_53 rfl hl (by decide) rfl (fun ls hl => ?_)
              refine lv_iinc (v := (nI (k + 1))) (lv' := [(4, .int (nI (k + 1))), (2, .long (lN (orB (fun c => decide (A 0 c = 0) && (decide (¬ c = n 6 - 1) && decide (sAny n A (sWhole n A) c = 0))) (k + 1)))), (0, .ref (q 0)), (1, .int (nI (sWhole n A)))]) hx hb dX0_unseenCells_54 hl (k := 3) rfl (nI_add _ _) (by decide) rfl (fun ls hl => ?_)
              refine lv_goto (tgt := 10) hx hb dX0_unseenCells_57 (by decide) ?_
              exact ih (k + 1) (by omega) (by omega) _ _ hP hS _ (lv_sub hl [2, 3, 1, 0] rfl)
  exact L10 _ 0 (by omega) (Nat.lt_succ_self _) _ _ hP hS _ (lv_sub hl [3, 2, 1, 0] rfl)
set_option maxRecDepth 20000 in
theorem ggX0_partsLitBy_X0_isThere : GoodIn wsX0_partsLitBy wsX0_isThere := goodIn_r _ [17, 18, 25, 26, 27, 28, 29, 30, 31, 32, 33, 34, 35, 36, 37, 38, 39, 40, 41] (by decide +kernel) (by decide +kernel)
set_option maxRecDepth 20000 in
theorem gX0_partsLitBy_X0_isThere : GoodIn wsX0_partsLitBy (wsV RX0 101 RX0 yX0_isThere wsX0_isThere) := goodIn_app (goodIn_of _ (by decide +kernel)) ggX0_partsLitBy_X0_isThere
set_option maxRecDepth 20000 in
theorem ggX0_partsLitBy_X0_tallIn : GoodIn wsX0_partsLitBy wsX0_tallIn := goodIn_r _ [22, 23, 9, 24, 25, 26, 27, 28, 29, 30, 31, 32, 33, 34, 35, 36, 37, 38, 39, 40, 41] (by decide +kernel) (by decide +kernel)
set_option maxRecDepth 20000 in
theorem gX0_partsLitBy_X0_tallIn : GoodIn wsX0_partsLitBy (wsV RX0 105 RX0 yX0_tallIn wsX0_tallIn) := goodIn_app (goodIn_of _ (by decide +kernel)) ggX0_partsLitBy_X0_tallIn
set_option maxHeartbeats 4000000 in
set_option maxRecDepth 100000 in
theorem kX0_partsLitBy (l : Launch) (dC : Nat → ClassId) (dI : Nat → Nat → Nat) (cI : ClassId) (q n : Nat → Nat) (A : Nat → Nat → Nat) (X : Nat → Nat → Int32) (hW : WF n A) (hR : RG n A X) (tH : Nat) (t : Nat) (sz : Nat) (hst : 0 < n 6) (ht : t < n 3) : Met l yX0_partsLitBy wsX0_partsLitBy ({ frames := 1, cells := 0, slots := 0, locals := 23 }) (rsP tH [.ref (q 0), .int (nI t)] sz (dC, dI) [(cI, .int)] (wG cI q n X)) (roQi (nI (sLit n A t)) sz) 0 0 (va_A [] sz) := by
  refine rs_met_i (by decide) rfl (Nat.le_of_ble_eq_true rfl) ?_
  intro pp ee ss mm aa bb me cd RR QQ Z hx hb hml hown hts hRf hRl hP hK hA hS hZT hend ls hl
  have hown : ss.vm.findClass RX0 = some mm.cls := hown
  have hRf : 1 ≤ RR.frames := hRf
  have hRl : 23 ≤ RR.locals := hRl
  have hl : lv_has ls 7 [(0, .ref (q 0)), (1, .int (nI t))] := hl
  obtain ⟨w0, w1, w2, w3, w4, w5, w6, w7, w8, wA0, wA1, wA2⟩ := id hW
  have wC : n 0 * n 1 ≤ 42 := Nat.mul_le_mul w0 w1
  have wt := wA2 t ht
  have b1 : A 3 t / n 1 ≤ 42 := Nat.le_trans (Nat.div_le_self _ _) (by omega)
  have b2 : (n 6 - 1) / n 1 ≤ 42 := Nat.le_trans (Nat.div_le_self _ _) (by omega)
  have b3 : A 3 t % n 1 ≤ 42 := Nat.le_trans (Nat.mod_le _ _) (by omega)
  have b4 : (n 6 - 1) % n 1 ≤ 42 := Nat.le_trans (Nat.mod_le _ _) (by omega)
  have b5 : dd (A 3 t / n 1) ((n 6 - 1) / n 1) ≤ 42 := dd_le b1 b2
  have b6 : dd (A 3 t % n 1) ((n 6 - 1) % n 1) ≤ 42 := dd_le b3 b4
  have b7 : sTall n A (n 4) t ≤ 20 := sTall_le (by omega) w4
  have hf15 := hts (.fieldLink RX0 15 "StatueSquare$Ground" "rowOf" "[I") (List.mem_of_getElem? (i := 1) rfl)
  have hinX0 : ∀ w ∈ u_ws RX0 TX0 17, w ∈ wsX0_partsLitBy := fun _ h => List.mem_cons_of_mem _ (List.mem_append_right _ h)
  have hf27 := hts (.fieldLink RX0 27 "StatueSquare$Ground" "thingCell" "[I") (List.mem_of_getElem? (i := 2) rfl)
  have hf36 := hts (.fieldLink RX0 36 "StatueSquare$Ground" "statueCell" "I") (List.mem_of_getElem? (i := 3) rfl)
  have hl88 := hts (.methodLink RX0 88 Lib.Math.abs.name) (List.mem_of_getElem? (i := 4) rfl)
  have hsabs := hts (.static Lib.Math.abs.name) (List.mem_of_getElem? (i := 5) rfl)
  have hiMath := hts (.initialized "java/lang/Math") (List.mem_of_getElem? (i := 6) rfl)
  have hcabs := hts (.code Lib.Math.abs.name Lib.Math.abs.code 1 (some .int)) (List.mem_of_getElem? (i := 7) rfl)
  have hf18 := hts (.fieldLink RX0 18 "StatueSquare$Ground" "columnOf" "[I") (List.mem_of_getElem? (i := 8) rfl)
  have hf24 := hts (.fieldLink RX0 24 "StatueSquare$Ground" "kind" "[I") (List.mem_of_getElem? (i := 9) rfl)
  have hf78 := hts (.fieldLink RX0 78 "StatueSquare$Ground" "statueBlock" "I") (List.mem_of_getElem? (i := 10) rfl)
  have hf108 := hts (.fieldLink RX0 108 "StatueSquare$Ground" "PART_HEIGHTS" "[I") (List.mem_of_getElem? (i := 11) rfl)
  have hf71 := hts (.fieldLink RX0 71 "StatueSquare$Ground" "yearNow" "I") (List.mem_of_getElem? (i := 12) rfl)
  refine lv_aload_n hx hb dX0_partsLitBy_0 rfl (lv_at hl 0 rfl) ?_
  refine x_get (D := (dC, dI)) (ci := 0) (v := .ref (q 2)) (C := RX0) (T := TX0) (N := 17) hx hb hts hinX0 hown hK hP 0 rfl rfl 5 (Nat.le_of_ble_eq_true rfl) hf15 rfl rfl dX0_partsLitBy_1 ?_
  refine lv_aload_n hx hb dX0_partsLitBy_4 rfl (lv_at hl 0 rfl) ?_
  refine x_get (D := (dC, dI)) (ci := 0) (v := .ref (q 6)) (C := RX0) (T := TX0) (N := 17) hx hb hts hinX0 hown hK hP 0 rfl rfl 9 (Nat.le_of_ble_eq_true rfl) hf27 rfl rfl dX0_partsLitBy_5 ?_
  refine lv_iload_n hx hb dX0_partsLitBy_8 rfl (lv_at hl 1 rfl) ?_
  refine x_iald (v := (nI (A 3 t))) hx hb hK hP 6 0 rfl rfl (by omega) (by decide) (hR.2.2 _ (by omega)).2.1 dX0_partsLitBy_9 ?_
  refine x_iald (v := (nI ((A 3 t) / n 1))) hx hb hK hP 2 0 rfl rfl (by omega) (by decide) (hR.1 _ (by omega)).2.1 dX0_partsLitBy_10 ?_
  refine lv_aload_n hx hb dX0_partsLitBy_11 rfl (lv_at hl 0 rfl) ?_
  refine x_get (D := (dC, dI)) (ci := 0) (v := .ref (q 2)) (C := RX0) (T := TX0) (N := 17) hx hb hts hinX0 hown hK hP 0 rfl rfl 5 (Nat.le_of_ble_eq_true rfl) hf15 rfl rfl dX0_partsLitBy_12 ?_
  refine lv_aload_n hx hb dX0_partsLitBy_15 rfl (lv_at hl 0 rfl) ?_
  refine x_get (D := (dC, dI)) (ci := 0) (v := .int (stI (n 6))) (C := RX0) (T := TX0) (N := 17) hx hb hts hinX0 hown hK hP 0 rfl rfl 15 (Nat.le_of_ble_eq_true rfl) hf36 rfl rfl dX0_partsLitBy_16 ?_
  refine x_top (stI_pos hst) ?_
  refine x_iald (v := (nI ((n 6 - 1) / n 1))) hx hb hK hP 2 0 rfl rfl (by omega) (by decide) (hR.1 _ (by omega)).2.1 dX0_partsLitBy_19 ?_
  refine lv_isub hx hb dX0_partsLitBy_20 ?_
  refine va_mabs hx hb (hml.trans hl.1.symm) hown hl88 hsabs hiMath hcabs (Nat.le_trans (Nat.le_of_ble_eq_true rfl) hRf) (Nat.le_trans (Nat.le_of_ble_eq_true rfl) hRl) (Nat.zero_le _) (Nat.zero_le _) dX0_partsLitBy_21 ?_
  refine x_top (y := (nI (dd (A 3 t / n 1) ((n 6 - 1) / n 1)))) (abs_sub (by omega) (by omega)) ?_
  refine lv_istore_n (lv' := [(2, .int (nI (dd (A 3 t / n 1) ((n 6 - 1) / n 1)))), (0, .ref (q 0)), (1, .int (nI t))]) hx hb dX0_partsLitBy_24 rfl hl (by decide) rfl (fun ls hl => ?_)
  refine lv_aload_n hx hb dX0_partsLitBy_25 rfl (lv_at hl 1 rfl) ?_
  refine x_get (D := (dC, dI)) (ci := 0) (v := .ref (q 3)) (C := RX0) (T := TX0) (N := 17) hx hb hts hinX0 hown hK hP 0 rfl rfl 6 (Nat.le_of_ble_eq_true rfl) hf18 rfl rfl dX0_partsLitBy_26 ?_
  refine lv_aload_n hx hb dX0_partsLitBy_29 rfl (lv_at hl 1 rfl) ?_
  refine x_get (D := (dC, dI)) (ci := 0) (v := .ref (q 6)) (C := RX0) (T := TX0) (N := 17) hx hb hts hinX0 hown hK hP 0 rfl rfl 9 (Nat.le_of_ble_eq_true rfl) hf27 rfl rfl dX0_partsLitBy_30 ?_
  refine lv_iload_n hx hb dX0_partsLitBy_33 rfl (lv_at hl 2 rfl) ?_
  refine x_iald (v := (nI (A 3 t))) hx hb hK hP 6 0 rfl rfl (by omega) (by decide) (hR.2.2 _ (by omega)).2.1 dX0_partsLitBy_34 ?_
  refine x_iald (v := (nI ((A 3 t) % n 1))) hx hb hK hP 3 0 rfl rfl (by omega) (by decide) (hR.1 _ (by omega)).2.2 dX0_partsLitBy_35 ?_
  refine lv_aload_n hx hb dX0_partsLitBy_36 rfl (lv_at hl 1 rfl) ?_
  refine x_get (D := (dC, dI)) (ci := 0) (v := .ref (q 3)) (C := RX0) (T := TX0) (N := 17) hx hb hts hinX0 hown hK hP 0 rfl rfl 6 (Nat.le_of_ble_eq_true rfl) hf18 rfl rfl dX0_partsLitBy_37 ?_
  refine lv_aload_n hx hb dX0_partsLitBy_40 rfl (lv_at hl 1 rfl) ?_
  refine x_get (D := (dC, dI)) (ci := 0) (v := .int (stI (n 6))) (C := RX0) (T := TX0) (N := 17) hx hb hts hinX0 hown hK hP 0 rfl rfl 15 (Nat.le_of_ble_eq_true rfl) hf36 rfl rfl dX0_partsLitBy_41 ?_
  refine x_top (stI_pos hst) ?_
  refine x_iald (v := (nI ((n 6 - 1) % n 1))) hx hb hK hP 3 0 rfl rfl (by omega) (by decide) (hR.1 _ (by omega)).2.2 dX0_partsLitBy_44 ?_
  refine lv_isub hx hb dX0_partsLitBy_45 ?_
  refine va_mabs hx hb (hml.trans hl.1.symm) hown hl88 hsabs hiMath hcabs (Nat.le_trans (Nat.le_of_ble_eq_true rfl) hRf) (Nat.le_trans (Nat.le_of_ble_eq_true rfl) hRl) (Nat.zero_le _) (Nat.zero_le _) dX0_partsLitBy_46 ?_
  refine x_top (y := (nI (dd (A 3 t % n 1) ((n 6 - 1) % n 1)))) (abs_sub (by omega) (by omega)) ?_
  refine lv_istore_n (lv' := [(3, .int (nI (dd (A 3 t % n 1) ((n 6 - 1) % n 1)))), (2, .int (nI (dd (A 3 t / n 1) ((n 6 - 1) / n 1)))), (0, .ref (q 0)), (1, .int (nI t))]) hx hb dX0_partsLitBy_49 rfl hl (by decide) rfl (fun ls hl => ?_)
  refine lv_iload_n hx hb dX0_partsLitBy_50 rfl (lv_at hl 1 rfl) ?_
  refine lv_iconst (v := nI 3) hx hb dX0_partsLitBy_51 rfl ?_
  refine x_icmp_gt (tgt := 64) hx hb (by omega) (by omega) dX0_partsLitBy_52 (by decide) (fun c52 => ?_) (fun c52 => ?_)
  · skip
    refine lv_iconst (v := nI 0) hx hb dX0_partsLitBy_64 rfl ?_
    refine x_top (y := bI (decide (dd (A 3 t / n 1) ((n 6 - 1) / n 1) ≤ 3 ∧ dd (A 3 t % n 1) ((n 6 - 1) % n 1) ≤ 3))) (n0_b (decide_eq_false (fun q => by omega))) ?_
    refine lv_istore (lv' := [(4, .int (bI (decide (dd (A 3 t / n 1) ((n 6 - 1) / n 1) ≤ 3 ∧ dd (A 3 t % n 1) ((n 6 - 1) % n 1) ≤ 3)))), (3, .int (nI (dd (A 3 t % n 1) ((n 6 - 1) % n 1)))), (2, .int (nI (dd (A 3 t / n 1) ((n 6 - 1) / n 1)))), (0, .ref (q 0)), (1, .int (nI t))]) hx hb dX0_partsLitBy_65 hl (by decide) rfl (fun ls hl => ?_)
    refine lv_aload_n hx hb dX0_partsLitBy_67 rfl (lv_at hl 3 rfl) ?_
    refine x_get (D := (dC, dI)) (ci := 0) (v := .ref (q 5)) (C := RX0) (T := TX0) (N := 17) hx hb hts hinX0 hown hK hP 0 rfl rfl 8 (Nat.le_of_ble_eq_true rfl) hf24 rfl rfl dX0_partsLitBy_68 ?_
    refine lv_iload_n hx hb dX0_partsLitBy_71 rfl (lv_at hl 4 rfl) ?_
    refine x_iald (v := (nI (A 2 t))) hx hb hK hP 5 0 rfl rfl (by omega) (by decide) (hR.2.2 _ (by omega)).1 dX0_partsLitBy_72 ?_
    refine x_if_ne (tgt := 89) hx hb (by omega) dX0_partsLitBy_73 (by decide) (fun c73 => ?_) (fun c73 => ?_)
    · skip
      refine lv_iconst (v := nI 0) hx hb dX0_partsLitBy_89 rfl ?_
      exact hend _ _ _ _ _ (congrArg nI (if_neg (fun q => by first | exact absurd q.1 c73 | exact absurd q.2.1 (by rw [c81]; decide) | exact absurd q.2.2 (of_decide_eq_false c86)) : sLit n A t = 0).symm) hS dX0_partsLitBy_90
    · skip
      refine lv_aload_n hx hb dX0_partsLitBy_76 rfl (lv_at hl 3 rfl) ?_
      refine lv_iload_n hx hb dX0_partsLitBy_77 rfl (lv_at hl 4 rfl) ?_
      refine roV_i (As := [.int (nI t)]) (rest := []) ⟨hx, hb, hml, hown, hts⟩ (kX0_isThere l dC dI cI q n A X hW hR t _ (by omega)) (cwV 1 hts gX0_partsLitBy_X0_isThere rfl rfl rfl hdX0_isThere ⟨Nat.le_trans (Nat.le_of_ble_eq_true rfl) hRf, Nat.le_trans (Nat.le_of_ble_eq_true rfl) hRl⟩) (va_recv hK hP (ci := 0) (q0 := 0) rfl rfl) hK hP rfl hl.1 rfl (Nat.le_of_ble_eq_true rfl) dX0_partsLitBy_78 ⟨Nat.zero_le _, Nat.zero_le _⟩ hP hS hA (fun H locs hP hS => ?_)
      refine x_ifb_eq (tgt := 89) hx hb dX0_partsLitBy_81 (by decide) (fun c81 => ?_) (fun c81 => ?_)
      · skip
        refine lv_iconst (v := nI 0) hx hb dX0_partsLitBy_89 rfl ?_
        exact hend _ _ _ _ _ (congrArg nI (if_neg (fun q => by first | exact absurd q.1 c73 | exact absurd q.2.1 (by rw [c81]; decide) | exact absurd q.2.2 (of_decide_eq_false c86)) : sLit n A t = 0).symm) hS dX0_partsLitBy_90
      · skip
        refine lv_iload hx hb dX0_partsLitBy_84 (lv_at hl 0 rfl) ?_
        refine x_ifb_ne (tgt := 91) hx hb dX0_partsLitBy_86 (by decide) (fun c86 => ?_) (fun c86 => ?_)
        · skip
          have hnr := of_decide_eq_true c86
          refine lv_iconst (v := nI 0) hx hb dX0_partsLitBy_91 rfl ?_
          refine lv_istore (lv' := [(5, .int (nI 0)), (4, .int (bI (decide (dd (A 3 t / n 1) ((n 6 - 1) / n 1) ≤ 3 ∧ dd (A 3 t % n 1) ((n 6 - 1) % n 1) ≤ 3)))), (3, .int (nI (dd (A 3 t % n 1) ((n 6 - 1) % n 1)))), (2, .int (nI (dd (A 3 t / n 1) ((n 6 - 1) / n 1)))), (0, .ref (q 0)), (1, .int (nI t))]) hx hb dX0_partsLitBy_92 hl (by decide) rfl (fun ls hl => ?_)
          refine lv_iconst (v := nI 0) hx hb dX0_partsLitBy_94 rfl ?_
          refine lv_istore (lv' := [(6, .int (nI 0)), (5, .int (nI 0)), (4, .int (bI (decide (dd (A 3 t / n 1) ((n 6 - 1) / n 1) ≤ 3 ∧ dd (A 3 t % n 1) ((n 6 - 1) % n 1) ≤ 3)))), (3, .int (nI (dd (A 3 t % n 1) ((n 6 - 1) % n 1)))), (2, .int (nI (dd (A 3 t / n 1) ((n 6 - 1) / n 1)))), (0, .ref (q 0)), (1, .int (nI t))]) hx hb dX0_partsLitBy_95 hl (by decide) rfl (fun ls hl => ?_)
          have L97 : ∀ (fuel : Nat) (k : Nat) (hk : k ≤ 4) (hfu : 4 - k < fuel) (H : Heap) (locs : List Loc), va_P (dC, dI) vwCl (wG cI q n X) H → va_S Z ss.heap H locs → ∀ (ls : Array Slot), lv_has ls 7 [(0, .ref (q 0)), (1, .int (nI t)), (5, .int (nI (orB (fun p => decide (n 7 + (1 + 2 * p) ≤ sTall n A (n 4) t)) k))), (6, .int (nI k))] → W pp l ee RR ss mm aa bb me cd H locs 0 0 QQ (F0 mm 97 ls []) := by
            intro fuel
            induction fuel with
            | zero => intro k hk hfu; exact absurd hfu (Nat.not_lt_zero _)
            | succ fuel ih =>
              intro k hk hfu H locs hP hS ls hl
              refine lv_iload hx hb dX0_partsLitBy_97 (lv_at hl 3 rfl) ?_
              refine lv_iconst (v := nI 4) hx hb dX0_partsLitBy_99 rfl ?_
              refine x_icmp_ge (tgt := 141) hx hb (by omega) (by omega) dX0_partsLitBy_100 (by decide) (fun c100 => ?_) (fun c100 => ?_)
              · skip
                refine lv_iload hx hb dX0_partsLitBy_141 (lv_at hl 2 rfl) ?_
                exact hend _ _ _ _ _ (congrArg nI (show orB (fun p => decide (n 7 + (1 + 2 * p) ≤ sTall n A (n 4) t)) k = sLit n A t from by rw [show k = 4 from by omega]; exact (if_pos ⟨c73, c81, hnr⟩ : sLit n A t = sLitP n A t).symm)) hS dX0_partsLitBy_143
              · skip
                refine lv_aload_n hx hb dX0_partsLitBy_103 rfl (lv_at hl 0 rfl) ?_
                refine x_get (D := (dC, dI)) (ci := 0) (v := .int (nI (n 7))) (C := RX0) (T := TX0) (N := 17) hx hb hts hinX0 hown hK hP 0 rfl rfl 16 (Nat.le_of_ble_eq_true rfl) hf78 rfl rfl dX0_partsLitBy_104 ?_
                refine x_getph hx hb hZT hS hown hf108 dX0_partsLitBy_107 ?_
                refine lv_iload hx hb dX0_partsLitBy_110 (lv_at hl 3 rfl) ?_
                refine x_phald hx hb hZT hS (by omega) dX0_partsLitBy_112 ?_
                refine x_iadd hx hb dX0_partsLitBy_113 ?_
                refine lv_aload_n hx hb dX0_partsLitBy_114 rfl (lv_at hl 0 rfl) ?_
                refine lv_iload_n hx hb dX0_partsLitBy_115 rfl (lv_at hl 1 rfl) ?_
                refine lv_aload_n hx hb dX0_partsLitBy_116 rfl (lv_at hl 0 rfl) ?_
                refine x_get (D := (dC, dI)) (ci := 0) (v := .int (nI (n 4))) (C := RX0) (T := TX0) (N := 17) hx hb hts hinX0 hown hK hP 0 rfl rfl 13 (Nat.le_of_ble_eq_true rfl) hf71 rfl rfl dX0_partsLitBy_117 ?_
                refine roV_i (As := [.int (nI t), .int (nI (n 4))]) (rest := [.int (nI ((n 7) + (1 + 2 * k)))]) ⟨hx, hb, hml, hown, hts⟩ (kX0_tallIn l dC dI cI q n A X hW hR t (n 4) _ (by omega) (by omega)) (cwV 2 hts gX0_partsLitBy_X0_tallIn rfl rfl rfl hdX0_tallIn ⟨Nat.le_trans (Nat.le_of_ble_eq_true rfl) hRf, Nat.le_trans (Nat.le_of_ble_eq_true rfl) hRl⟩) (va_recv hK hP (ci := 0) (q0 := 0) rfl rfl) hK hP rfl hl.1 rfl (Nat.le_of_ble_eq_true rfl) dX0_partsLitBy_120 ⟨Nat.zero_le _, Nat.zero_le _⟩ hP hS hA (fun H locs hP hS => ?_)
                refine x_icmp_gt (tgt := 135) hx hb (by omega) (by omega) dX0_partsLitBy_123 (by decide) (fun c123 => ?_) (fun c123 => ?_)
                · skip
                  have hz : (fun p => decide (n 7 + (1 + 2 * p) ≤ sTall n A (n 4) t)) k = false := decide_eq_false (by omega)
                  refine lv_iinc (v := (nI (k + 1))) (lv' := [(6, .int (nI (k + 1))), (0, .ref (q 0)), (1, .int (nI t)), (5, .int (nI (orB (fun p => decide (n 7 + (1 + 2 * p) ≤ sTall n A (n 4) t)) k)))]) hx hb dX0_partsLitBy_135 hl (k := 3) rfl (nI_add _ _) (by decide) rfl (fun ls hl => ?_)
                  refine lv_goto (tgt := 97) hx hb dX0_partsLitBy_138 (by decide) ?_
                  exact ih (k + 1) (by omega) (by omega) _ _ hP hS _ (by rw [show orB (fun p => decide (n 7 + (1 + 2 * p) ≤ sTall n A (n 4) t)) (k + 1) = orB (fun p => decide (n 7 + (1 + 2 * p) ≤ sTall n A (n 4) t)) k from (orB_f hz).symm]; exact lv_sub hl [1, 2, 3, 0] rfl)
                · skip
                  have hz : (fun p => decide (n 7 + (1 + 2 * p) ≤ sTall n A (n 4) t)) k = true := decide_eq_true (by omega)
                  refine lv_iload hx hb dX0_partsLitBy_126 (lv_at hl 2 rfl) ?_
                  refine lv_iconst (v := nI 1) hx hb dX0_partsLitBy_128 rfl ?_
                  refine lv_iload hx hb dX0_partsLitBy_129 (lv_at hl 3 rfl) ?_
                  refine x_shl1 hx hb (by omega) dX0_partsLitBy_131 ?_
                  refine x_ior hx hb dX0_partsLitBy_132 ?_
                  refine lv_istore (lv' := [(5, .int (nI ((orB (fun p => decide (n 7 + (1 + 2 * p) ≤ sTall n A (n 4) t)) k) ||| (2 ^ k)))), (0, .ref (q 0)), (1, .int (nI t)), (6, .int (nI k))]) hx hb dX0_partsLitBy_133 hl (by decide) rfl (fun ls hl => ?_)
                  refine lv_iinc (v := (nI (k + 1))) (lv' := [(6, .int (nI (k + 1))), (5, .int (nI ((orB (fun p => decide (n 7 + (1 + 2 * p) ≤ sTall n A (n 4) t)) k) ||| (2 ^ k)))), (0, .ref (q 0)), (1, .int (nI t))]) hx hb dX0_partsLitBy_135 hl (k := 3) rfl (nI_add _ _) (by decide) rfl (fun ls hl => ?_)
                  refine lv_goto (tgt := 97) hx hb dX0_partsLitBy_138 (by decide) ?_
                  exact ih (k + 1) (by omega) (by omega) _ _ hP hS _ (by rw [show orB (fun p => decide (n 7 + (1 + 2 * p) ≤ sTall n A (n 4) t)) (k + 1) = ((orB (fun p => decide (n 7 + (1 + 2 * p) ≤ sTall n A (n 4) t)) k) ||| (2 ^ k)) from (orB_t hz).symm]; exact lv_sub hl [2, 3, 1, 0] rfl)
          exact L97 _ 0 (by omega) (Nat.lt_succ_self _) _ _ hP hS _ (lv_sub hl [5, 6, 1, 0] rfl)
        · skip
          refine lv_iconst (v := nI 0) hx hb dX0_partsLitBy_89 rfl ?_
          exact hend _ _ _ _ _ (congrArg nI (if_neg (fun q => by first | exact absurd q.1 c73 | exact absurd q.2.1 (by rw [c81]; decide) | exact absurd q.2.2 (of_decide_eq_false c86)) : sLit n A t = 0).symm) hS dX0_partsLitBy_90
  · skip
    refine lv_iload_n hx hb dX0_partsLitBy_55 rfl (lv_at hl 0 rfl) ?_
    refine lv_iconst (v := nI 3) hx hb dX0_partsLitBy_56 rfl ?_
    refine x_icmp_gt (tgt := 64) hx hb (by omega) (by omega) dX0_partsLitBy_57 (by decide) (fun c57 => ?_) (fun c57 => ?_)
    · skip
      refine lv_iconst (v := nI 0) hx hb dX0_partsLitBy_64 rfl ?_
      refine x_top (y := bI (decide (dd (A 3 t / n 1) ((n 6 - 1) / n 1) ≤ 3 ∧ dd (A 3 t % n 1) ((n 6 - 1) % n 1) ≤ 3))) (n0_b (decide_eq_false (fun q => by omega))) ?_
      refine lv_istore (lv' := [(4, .int (bI (decide (dd (A 3 t / n 1) ((n 6 - 1) / n 1) ≤ 3 ∧ dd (A 3 t % n 1) ((n 6 - 1) % n 1) ≤ 3)))), (3, .int (nI (dd (A 3 t % n 1) ((n 6 - 1) % n 1)))), (2, .int (nI (dd (A 3 t / n 1) ((n 6 - 1) / n 1)))), (0, .ref (q 0)), (1, .int (nI t))]) hx hb dX0_partsLitBy_65 hl (by decide) rfl (fun ls hl => ?_)
      refine lv_aload_n hx hb dX0_partsLitBy_67 rfl (lv_at hl 3 rfl) ?_
      refine x_get (D := (dC, dI)) (ci := 0) (v := .ref (q 5)) (C := RX0) (T := TX0) (N := 17) hx hb hts hinX0 hown hK hP 0 rfl rfl 8 (Nat.le_of_ble_eq_true rfl) hf24 rfl rfl dX0_partsLitBy_68 ?_
      refine lv_iload_n hx hb dX0_partsLitBy_71 rfl (lv_at hl 4 rfl) ?_
      refine x_iald (v := (nI (A 2 t))) hx hb hK hP 5 0 rfl rfl (by omega) (by decide) (hR.2.2 _ (by omega)).1 dX0_partsLitBy_72 ?_
      refine x_if_ne (tgt := 89) hx hb (by omega) dX0_partsLitBy_73 (by decide) (fun c73 => ?_) (fun c73 => ?_)
      · skip
        refine lv_iconst (v := nI 0) hx hb dX0_partsLitBy_89 rfl ?_
        exact hend _ _ _ _ _ (congrArg nI (if_neg (fun q => by first | exact absurd q.1 c73 | exact absurd q.2.1 (by rw [c81]; decide) | exact absurd q.2.2 (of_decide_eq_false c86)) : sLit n A t = 0).symm) hS dX0_partsLitBy_90
      · skip
        refine lv_aload_n hx hb dX0_partsLitBy_76 rfl (lv_at hl 3 rfl) ?_
        refine lv_iload_n hx hb dX0_partsLitBy_77 rfl (lv_at hl 4 rfl) ?_
        refine roV_i (As := [.int (nI t)]) (rest := []) ⟨hx, hb, hml, hown, hts⟩ (kX0_isThere l dC dI cI q n A X hW hR t _ (by omega)) (cwV 1 hts gX0_partsLitBy_X0_isThere rfl rfl rfl hdX0_isThere ⟨Nat.le_trans (Nat.le_of_ble_eq_true rfl) hRf, Nat.le_trans (Nat.le_of_ble_eq_true rfl) hRl⟩) (va_recv hK hP (ci := 0) (q0 := 0) rfl rfl) hK hP rfl hl.1 rfl (Nat.le_of_ble_eq_true rfl) dX0_partsLitBy_78 ⟨Nat.zero_le _, Nat.zero_le _⟩ hP hS hA (fun H locs hP hS => ?_)
        refine x_ifb_eq (tgt := 89) hx hb dX0_partsLitBy_81 (by decide) (fun c81 => ?_) (fun c81 => ?_)
        · skip
          refine lv_iconst (v := nI 0) hx hb dX0_partsLitBy_89 rfl ?_
          exact hend _ _ _ _ _ (congrArg nI (if_neg (fun q => by first | exact absurd q.1 c73 | exact absurd q.2.1 (by rw [c81]; decide) | exact absurd q.2.2 (of_decide_eq_false c86)) : sLit n A t = 0).symm) hS dX0_partsLitBy_90
        · skip
          refine lv_iload hx hb dX0_partsLitBy_84 (lv_at hl 0 rfl) ?_
          refine x_ifb_ne (tgt := 91) hx hb dX0_partsLitBy_86 (by decide) (fun c86 => ?_) (fun c86 => ?_)
          · skip
            have hnr := of_decide_eq_true c86
            refine lv_iconst (v := nI 0) hx hb dX0_partsLitBy_91 rfl ?_
            refine lv_istore (lv' := [(5, .int (nI 0)), (4, .int (bI (decide (dd (A 3 t / n 1) ((n 6 - 1) / n 1) ≤ 3 ∧ dd (A 3 t % n 1) ((n 6 - 1) % n 1) ≤ 3)))), (3, .int (nI (dd (A 3 t % n 1) ((n 6 - 1) % n 1)))), (2, .int (nI (dd (A 3 t / n 1) ((n 6 - 1) / n 1)))), (0, .ref (q 0)), (1, .int (nI t))]) hx hb dX0_partsLitBy_92 hl (by decide) rfl (fun ls hl => ?_)
            refine lv_iconst (v := nI 0) hx hb dX0_partsLitBy_94 rfl ?_
            refine lv_istore (lv' := [(6, .int (nI 0)), (5, .int (nI 0)), (4, .int (bI (decide (dd (A 3 t / n 1) ((n 6 - 1) / n 1) ≤ 3 ∧ dd (A 3 t % n 1) ((n 6 - 1) % n 1) ≤ 3)))), (3, .int (nI (dd (A 3 t % n 1) ((n 6 - 1) % n 1)))), (2, .int (nI (dd (A 3 t / n 1) ((n 6 - 1) / n 1)))), (0, .ref (q 0)), (1, .int (nI t))]) hx hb dX0_partsLitBy_95 hl (by decide) rfl (fun ls hl => ?_)
            have L97 : ∀ (fuel : Nat) (k : Nat) (hk : k ≤ 4) (hfu : 4 - k < fuel) (H : Heap) (locs : List Loc), va_P (dC, dI) vwCl (wG cI q n X) H → va_S Z ss.heap H locs → ∀ (ls : Array Slot), lv_has ls 7 [(0, .ref (q 0)), (1, .int (nI t)), (5, .int (nI (orB (fun p => decide (n 7 + (1 + 2 * p) ≤ sTall n A (n 4) t)) k))), (6, .int (nI k))] → W pp l ee RR ss mm aa bb me cd H locs 0 0 QQ (F0 mm 97 ls []) := by
              intro fuel
              induction fuel with
              | zero => intro k hk hfu; exact absurd hfu (Nat.not_lt_zero _)
              | succ fuel ih =>
                intro k hk hfu H locs hP hS ls hl
                refine lv_iload hx hb dX0_partsLitBy_97 (lv_at hl 3 rfl) ?_
                refine lv_iconst (v := nI 4) hx hb dX0_partsLitBy_99 rfl ?_
                refine x_icmp_ge (tgt := 141) hx hb (by omega) (by omega) dX0_partsLitBy_100 (by decide) (fun c100 => ?_) (fun c100 => ?_)
                · skip
                  refine lv_iload hx hb dX0_partsLitBy_141 (lv_at hl 2 rfl) ?_
                  exact hend _ _ _ _ _ (congrArg nI (show orB (fun p => decide (n 7 + (1 + 2 * p) ≤ sTall n A (n 4) t)) k = sLit n A t from by rw [show k = 4 from by omega]; exact (if_pos ⟨c73, c81, hnr⟩ : sLit n A t = sLitP n A t).symm)) hS dX0_partsLitBy_143
                · skip
                  refine lv_aload_n hx hb dX0_partsLitBy_103 rfl (lv_at hl 0 rfl) ?_
                  refine x_get (D := (dC, dI)) (ci := 0) (v := .int (nI (n 7))) (C := RX0) (T := TX0) (N := 17) hx hb hts hinX0 hown hK hP 0 rfl rfl 16 (Nat.le_of_ble_eq_true rfl) hf78 rfl rfl dX0_partsLitBy_104 ?_
                  refine x_getph hx hb hZT hS hown hf108 dX0_partsLitBy_107 ?_
                  refine lv_iload hx hb dX0_partsLitBy_110 (lv_at hl 3 rfl) ?_
                  refine x_phald hx hb hZT hS (by omega) dX0_partsLitBy_112 ?_
                  refine x_iadd hx hb dX0_partsLitBy_113 ?_
                  refine lv_aload_n hx hb dX0_partsLitBy_114 rfl (lv_at hl 0 rfl) ?_
                  refine lv_iload_n hx hb dX0_partsLitBy_115 rfl (lv_at hl 1 rfl) ?_
                  refine lv_aload_n hx hb dX0_partsLitBy_116 rfl (lv_at hl 0 rfl) ?_
                  refine x_get (D := (dC, dI)) (ci := 0) (v := .int (nI (n 4))) (C := RX0) (T := TX0) (N := 17) hx hb hts hinX0 hown hK hP 0 rfl rfl 13 (Nat.le_of_ble_eq_true rfl) hf71 rfl rfl dX0_partsLitBy_117 ?_
                  refine roV_i (As := [.int (nI t), .int (nI (n 4))]) (rest := [.int (nI ((n 7) + (1 + 2 * k)))]) ⟨hx, hb, hml, hown, hts⟩ (kX0_tallIn l dC dI cI q n A X hW hR t (n 4) _ (by omega) (by omega)) (cwV 2 hts gX0_partsLitBy_X0_tallIn rfl rfl rfl hdX0_tallIn ⟨Nat.le_trans (Nat.le_of_ble_eq_true rfl) hRf, Nat.le_trans (Nat.le_of_ble_eq_true rfl) hRl⟩) (va_recv hK hP (ci := 0) (q0 := 0) rfl rfl) hK hP rfl hl.1 rfl (Nat.le_of_ble_eq_true rfl) dX0_partsLitBy_120 ⟨Nat.zero_le _, Nat.zero_le _⟩ hP hS hA (fun H locs hP hS => ?_)
                  refine x_icmp_gt (tgt := 135) hx hb (by omega) (by omega) dX0_partsLitBy_123 (by decide) (fun c123 => ?_) (fun c123 => ?_)
                  · skip
                    have hz : (fun p => decide (n 7 + (1 + 2 * p) ≤ sTall n A (n 4) t)) k = false := decide_eq_false (by omega)
                    refine lv_iinc (v := (nI (k + 1))) (lv' := [(6, .int (nI (k + 1))), (0, .ref (q 0)), (1, .int (nI t)), (5, .int (nI (orB (fun p => decide (n 7 + (1 + 2 * p) ≤ sTall n A (n 4) t)) k)))]) hx hb dX0_partsLitBy_135 hl (k := 3) rfl (nI_add _ _) (by decide) rfl (fun ls hl => ?_)
                    refine lv_goto (tgt := 97) hx hb dX0_partsLitBy_138 (by decide) ?_
                    exact ih (k + 1) (by omega) (by omega) _ _ hP hS _ (by rw [show orB (fun p => decide (n 7 + (1 + 2 * p) ≤ sTall n A (n 4) t)) (k + 1) = orB (fun p => decide (n 7 + (1 + 2 * p) ≤ sTall n A (n 4) t)) k from (orB_f hz).symm]; exact lv_sub hl [1, 2, 3, 0] rfl)
                  · skip
                    have hz : (fun p => decide (n 7 + (1 + 2 * p) ≤ sTall n A (n 4) t)) k = true := decide_eq_true (by omega)
                    refine lv_iload hx hb dX0_partsLitBy_126 (lv_at hl 2 rfl) ?_
                    refine lv_iconst (v := nI 1) hx hb dX0_partsLitBy_128 rfl ?_
                    refine lv_iload hx hb dX0_partsLitBy_129 (lv_at hl 3 rfl) ?_
                    refine x_shl1 hx hb (by omega) dX0_partsLitBy_131 ?_
                    refine x_ior hx hb dX0_partsLitBy_132 ?_
                    refine lv_istore (lv' := [(5, .int (nI ((orB (fun p => decide (n 7 + (1 + 2 * p) ≤ sTall n A (n 4) t)) k) ||| (2 ^ k)))), (0, .ref (q 0)), (1, .int (nI t)), (6, .int (nI k))]) hx hb dX0_partsLitBy_133 hl (by decide) rfl (fun ls hl => ?_)
                    refine lv_iinc (v := (nI (k + 1))) (lv' := [(6, .int (nI (k + 1))), (5, .int (nI ((orB (fun p => decide (n 7 + (1 + 2 * p) ≤ sTall n A (n 4) t)) k) ||| (2 ^ k)))), (0, .ref (q 0)), (1, .int (nI t))]) hx hb dX0_partsLitBy_135 hl (k := 3) rfl (nI_add _ _) (by decide) rfl (fun ls hl => ?_)
                    refine lv_goto (tgt := 97) hx hb dX0_partsLitBy_138 (by decide) ?_
                    exact ih (k + 1) (by omega) (by omega) _ _ hP hS _ (by rw [show orB (fun p => decide (n 7 + (1 + 2 * p) ≤ sTall n A (n 4) t)) (k + 1) = ((orB (fun p => decide (n 7 + (1 + 2 * p) ≤ sTall n A (n 4) t)) k) ||| (2 ^ k)) from (orB_t hz).symm]; exact lv_sub hl [2, 3, 1, 0] rfl)
            exact L97 _ 0 (by omega) (Nat.lt_succ_self _) _ _ hP hS _ (lv_sub hl [5, 6, 1, 0] rfl)
          · skip
            refine lv_iconst (v := nI 0) hx hb dX0_partsLitBy_89 rfl ?_
            exact hend _ _ _ _ _ (congrArg nI (if_neg (fun q => by first | exact absurd q.1 c73 | exact absurd q.2.1 (by rw [c81]; decide) | exact absurd q.2.2 (of_decide_eq_false c86)) : sLit n A t = 0).symm) hS dX0_partsLitBy_90
    · skip
      refine lv_iconst (v := nI 1) hx hb dX0_partsLitBy_60 rfl ?_
      refine lv_goto (tgt := 65) hx hb dX0_partsLitBy_61 (by decide) ?_
      refine x_top (y := bI (decide (dd (A 3 t / n 1) ((n 6 - 1) / n 1) ≤ 3 ∧ dd (A 3 t % n 1) ((n 6 - 1) % n 1) ≤ 3))) (n1_b (decide_eq_true ⟨c52, c57⟩)) ?_
      refine lv_istore (lv' := [(4, .int (bI (decide (dd (A 3 t / n 1) ((n 6 - 1) / n 1) ≤ 3 ∧ dd (A 3 t % n 1) ((n 6 - 1) % n 1) ≤ 3)))), (3, .int (nI (dd (A 3 t % n 1) ((n 6 - 1) % n 1)))), (2, .int (nI (dd (A 3 t / n 1) ((n 6 - 1) / n 1)))), (0, .ref (q 0)), (1, .int (nI t))]) hx hb dX0_partsLitBy_65 hl (by decide) rfl (fun ls hl => ?_)
      refine lv_aload_n hx hb dX0_partsLitBy_67 rfl (lv_at hl 3 rfl) ?_
      refine x_get (D := (dC, dI)) (ci := 0) (v := .ref (q 5)) (C := RX0) (T := TX0) (N := 17) hx hb hts hinX0 hown hK hP 0 rfl rfl 8 (Nat.le_of_ble_eq_true rfl) hf24 rfl rfl dX0_partsLitBy_68 ?_
      refine lv_iload_n hx hb dX0_partsLitBy_71 rfl (lv_at hl 4 rfl) ?_
      refine x_iald (v := (nI (A 2 t))) hx hb hK hP 5 0 rfl rfl (by omega) (by decide) (hR.2.2 _ (by omega)).1 dX0_partsLitBy_72 ?_
      refine x_if_ne (tgt := 89) hx hb (by omega) dX0_partsLitBy_73 (by decide) (fun c73 => ?_) (fun c73 => ?_)
      · skip
        refine lv_iconst (v := nI 0) hx hb dX0_partsLitBy_89 rfl ?_
        exact hend _ _ _ _ _ (congrArg nI (if_neg (fun q => by first | exact absurd q.1 c73 | exact absurd q.2.1 (by rw [c81]; decide) | exact absurd q.2.2 (of_decide_eq_false c86)) : sLit n A t = 0).symm) hS dX0_partsLitBy_90
      · skip
        refine lv_aload_n hx hb dX0_partsLitBy_76 rfl (lv_at hl 3 rfl) ?_
        refine lv_iload_n hx hb dX0_partsLitBy_77 rfl (lv_at hl 4 rfl) ?_
        refine roV_i (As := [.int (nI t)]) (rest := []) ⟨hx, hb, hml, hown, hts⟩ (kX0_isThere l dC dI cI q n A X hW hR t _ (by omega)) (cwV 1 hts gX0_partsLitBy_X0_isThere rfl rfl rfl hdX0_isThere ⟨Nat.le_trans (Nat.le_of_ble_eq_true rfl) hRf, Nat.le_trans (Nat.le_of_ble_eq_true rfl) hRl⟩) (va_recv hK hP (ci := 0) (q0 := 0) rfl rfl) hK hP rfl hl.1 rfl (Nat.le_of_ble_eq_true rfl) dX0_partsLitBy_78 ⟨Nat.zero_le _, Nat.zero_le _⟩ hP hS hA (fun H locs hP hS => ?_)
        refine x_ifb_eq (tgt := 89) hx hb dX0_partsLitBy_81 (by decide) (fun c81 => ?_) (fun c81 => ?_)
        · skip
          refine lv_iconst (v := nI 0) hx hb dX0_partsLitBy_89 rfl ?_
          exact hend _ _ _ _ _ (congrArg nI (if_neg (fun q => by first | exact absurd q.1 c73 | exact absurd q.2.1 (by rw [c81]; decide) | exact absurd q.2.2 (of_decide_eq_false c86)) : sLit n A t = 0).symm) hS dX0_partsLitBy_90
        · skip
          refine lv_iload hx hb dX0_partsLitBy_84 (lv_at hl 0 rfl) ?_
          refine x_ifb_ne (tgt := 91) hx hb dX0_partsLitBy_86 (by decide) (fun c86 => ?_) (fun c86 => ?_)
          · skip
            have hnr := of_decide_eq_true c86
            refine lv_iconst (v := nI 0) hx hb dX0_partsLitBy_91 rfl ?_
            refine lv_istore (lv' := [(5, .int (nI 0)), (4, .int (bI (decide (dd (A 3 t / n 1) ((n 6 - 1) / n 1) ≤ 3 ∧ dd (A 3 t % n 1) ((n 6 - 1) % n 1) ≤ 3)))), (3, .int (nI (dd (A 3 t % n 1) ((n 6 - 1) % n 1)))), (2, .int (nI (dd (A 3 t / n 1) ((n 6 - 1) / n 1)))), (0, .ref (q 0)), (1, .int (nI t))]) hx hb dX0_partsLitBy_92 hl (by decide) rfl (fun ls hl => ?_)
            refine lv_iconst (v := nI 0) hx hb dX0_partsLitBy_94 rfl ?_
            refine lv_istore (lv' := [(6, .int (nI 0)), (5, .int (nI 0)), (4, .int (bI (decide (dd (A 3 t / n 1) ((n 6 - 1) / n 1) ≤ 3 ∧ dd (A 3 t % n 1) ((n 6 - 1) % n 1) ≤ 3)))), (3, .int (nI (dd (A 3 t % n 1) ((n 6 - 1) % n 1)))), (2, .int (nI (dd (A 3 t / n 1) ((n 6 - 1) / n 1)))), (0, .ref (q 0)), (1, .int (nI t))]) hx hb dX0_partsLitBy_95 hl (by decide) rfl (fun ls hl => ?_)
            have L97 : ∀ (fuel : Nat) (k : Nat) (hk : k ≤ 4) (hfu : 4 - k < fuel) (H : Heap) (locs : List Loc), va_P (dC, dI) vwCl (wG cI q n X) H → va_S Z ss.heap H locs → ∀ (ls : Array Slot), lv_has ls 7 [(0, .ref (q 0)), (1, .int (nI t)), (5, .int (nI (orB (fun p => decide (n 7 + (1 + 2 * p) ≤ sTall n A (n 4) t)) k))), (6, .int (nI k))] → W pp l ee RR ss mm aa bb me cd H locs 0 0 QQ (F0 mm 97 ls []) := by
              intro fuel
              induction fuel with
              | zero => intro k hk hfu; exact absurd hfu (Nat.not_lt_zero _)
              | succ fuel ih =>
                intro k hk hfu H locs hP hS ls hl
                refine lv_iload hx hb dX0_partsLitBy_97 (lv_at hl 3 rfl) ?_
                refine lv_iconst (v := nI 4) hx hb dX0_partsLitBy_99 rfl ?_
                refine x_icmp_ge (tgt := 141) hx hb (by omega) (by omega) dX0_partsLitBy_100 (by decide) (fun c100 => ?_) (fun c100 => ?_)
                · skip
                  refine lv_iload hx hb dX0_partsLitBy_141 (lv_at hl 2 rfl) ?_
                  exact hend _ _ _ _ _ (congrArg nI (show orB (fun p => decide (n 7 + (1 + 2 * p) ≤ sTall n A (n 4) t)) k = sLit n A t from by rw [show k = 4 from by omega]; exact (if_pos ⟨c73, c81, hnr⟩ : sLit n A t = sLitP n A t).symm)) hS dX0_partsLitBy_143
                · skip
                  refine lv_aload_n hx hb dX0_partsLitBy_103 rfl (lv_at hl 0 rfl) ?_
                  refine x_get (D := (dC, dI)) (ci := 0) (v := .int (nI (n 7))) (C := RX0) (T := TX0) (N := 17) hx hb hts hinX0 hown hK hP 0 rfl rfl 16 (Nat.le_of_ble_eq_true rfl) hf78 rfl rfl dX0_partsLitBy_104 ?_
                  refine x_getph hx hb hZT hS hown hf108 dX0_partsLitBy_107 ?_
                  refine lv_iload hx hb dX0_partsLitBy_110 (lv_at hl 3 rfl) ?_
                  refine x_phald hx hb hZT hS (by omega) dX0_partsLitBy_112 ?_
                  refine x_iadd hx hb dX0_partsLitBy_113 ?_
                  refine lv_aload_n hx hb dX0_partsLitBy_114 rfl (lv_at hl 0 rfl) ?_
                  refine lv_iload_n hx hb dX0_partsLitBy_115 rfl (lv_at hl 1 rfl) ?_
                  refine lv_aload_n hx hb dX0_partsLitBy_116 rfl (lv_at hl 0 rfl) ?_
                  refine x_get (D := (dC, dI)) (ci := 0) (v := .int (nI (n 4))) (C := RX0) (T := TX0) (N := 17) hx hb hts hinX0 hown hK hP 0 rfl rfl 13 (Nat.le_of_ble_eq_true rfl) hf71 rfl rfl dX0_partsLitBy_117 ?_
                  refine roV_i (As := [.int (nI t), .int (nI (n 4))]) (rest := [.int (nI ((n 7) + (1 + 2 * k)))]) ⟨hx, hb, hml, hown, hts⟩ (kX0_tallIn l dC dI cI q n A X hW hR t (n 4) _ (by omega) (by omega)) (cwV 2 hts gX0_partsLitBy_X0_tallIn rfl rfl rfl hdX0_tallIn ⟨Nat.le_trans (Nat.le_of_ble_eq_true rfl) hRf, Nat.le_trans (Nat.le_of_ble_eq_true rfl) hRl⟩) (va_recv hK hP (ci := 0) (q0 := 0) rfl rfl) hK hP rfl hl.1 rfl (Nat.le_of_ble_eq_true rfl) dX0_partsLitBy_120 ⟨Nat.zero_le _, Nat.zero_le _⟩ hP hS hA (fun H locs hP hS => ?_)
                  refine x_icmp_gt (tgt := 135) hx hb (by omega) (by omega) dX0_partsLitBy_123 (by decide) (fun c123 => ?_) (fun c123 => ?_)
                  · skip
                    have hz : (fun p => decide (n 7 + (1 + 2 * p) ≤ sTall n A (n 4) t)) k = false := decide_eq_false (by omega)
                    refine lv_iinc (v := (nI (k + 1))) (lv' := [(6, .int (nI (k + 1))), (0, .ref (q 0)), (1, .int (nI t)), (5, .int (nI (orB (fun p => decide (n 7 + (1 + 2 * p) ≤ sTall n A (n 4) t)) k)))]) hx hb dX0_partsLitBy_135 hl (k := 3) rfl (nI_add _ _) (by decide) rfl (fun ls hl => ?_)
                    refine lv_goto (tgt := 97) hx hb dX0_partsLitBy_138 (by decide) ?_
                    exact ih (k + 1) (by omega) (by omega) _ _ hP hS _ (by rw [show orB (fun p => decide (n 7 + (1 + 2 * p) ≤ sTall n A (n 4) t)) (k + 1) = orB (fun p => decide (n 7 + (1 + 2 * p) ≤ sTall n A (n 4) t)) k from (orB_f hz).symm]; exact lv_sub hl [1, 2, 3, 0] rfl)
                  · skip
                    have hz : (fun p => decide (n 7 + (1 + 2 * p) ≤ sTall n A (n 4) t)) k = true := decide_eq_true (by omega)
                    refine lv_iload hx hb dX0_partsLitBy_126 (lv_at hl 2 rfl) ?_
                    refine lv_iconst (v := nI 1) hx hb dX0_partsLitBy_128 rfl ?_
                    refine lv_iload hx hb dX0_partsLitBy_129 (lv_at hl 3 rfl) ?_
                    refine x_shl1 hx hb (by omega) dX0_partsLitBy_131 ?_
                    refine x_ior hx hb dX0_partsLitBy_132 ?_
                    refine lv_istore (lv' := [(5, .int (nI ((orB (fun p => decide (n 7 + (1 + 2 * p) ≤ sTall n A (n 4) t)) k) ||| (2 ^ k)))), (0, .ref (q 0)), (1, .int (nI t)), (6, .int (nI k))]) hx hb dX0_partsLitBy_133 hl (by decide) rfl (fun ls hl => ?_)
                    refine lv_iinc (v := (nI (k + 1))) (lv' := [(6, .int (nI (k + 1))), (5, .int (nI ((orB (fun p => decide (n 7 + (1 + 2 * p) ≤ sTall n A (n 4) t)) k) ||| (2 ^ k)))), (0, .ref (q 0)), (1, .int (nI t))]) hx hb dX0_partsLitBy_135 hl (k := 3) rfl (nI_add _ _) (by decide) rfl (fun ls hl => ?_)
                    refine lv_goto (tgt := 97) hx hb dX0_partsLitBy_138 (by decide) ?_
                    exact ih (k + 1) (by omega) (by omega) _ _ hP hS _ (by rw [show orB (fun p => decide (n 7 + (1 + 2 * p) ≤ sTall n A (n 4) t)) (k + 1) = ((orB (fun p => decide (n 7 + (1 + 2 * p) ≤ sTall n A (n 4) t)) k) ||| (2 ^ k)) from (orB_t hz).symm]; exact lv_sub hl [2, 3, 1, 0] rfl)
            exact L97 _ 0 (by omega) (Nat.lt_succ_self _) _ _ hP hS _ (lv_sub hl [5, 6, 1, 0] rfl)
          · skip
            refine lv_iconst (v := nI 0) hx hb dX0_partsLitBy_89 rfl ?_
            exact hend _ _ _ _ _ (congrArg nI (if_neg (fun q => by first | exact absurd q.1 c73 | exact absurd q.2.1 (by rw [c81]; decide) | exact absurd q.2.2 (of_decide_eq_false c86)) : sLit n A t = 0).symm) hS dX0_partsLitBy_90
theorem hdX0_partsLitBy : yX0_partsLitBy.cls = RX0 ∧ yX0_partsLitBy.cls ≠ "java/lang/invoke/MethodHandle" ∧ yX0_partsLitBy.cls ≠ "java/lang/invoke/VarHandle" ∧ (parseMethodDescriptor yX0_partsLitBy.desc).map (fun d => d.parameters.length) = some 1 := by decide +kernel
set_option maxRecDepth 20000 in
theorem ggX0_partsLitByAny_X0_partsLitBy : GoodIn wsX0_partsLitByAny wsX0_partsLitBy := goodIn_r _ [6, 7, 8, 9, 10, 11, 12, 13, 14, 15, 16, 17, 18, 19, 20, 21, 5, 22, 23, 24, 25, 26, 27, 28, 29, 30, 31, 32, 33, 34, 35, 36, 37, 38, 39, 40, 41, 42, 43, 44, 45, 46] (by decide +kernel) (by decide +kernel)
set_option maxRecDepth 20000 in
theorem gX0_partsLitByAny_X0_partsLitBy : GoodIn wsX0_partsLitByAny (wsV RX0 143 RX0 yX0_partsLitBy wsX0_partsLitBy) := goodIn_app (goodIn_of _ (by decide +kernel)) ggX0_partsLitByAny_X0_partsLitBy
set_option maxHeartbeats 4000000 in
set_option maxRecDepth 100000 in
theorem kX0_partsLitByAny (l : Launch) (dC : Nat → ClassId) (dI : Nat → Nat → Nat) (cI : ClassId) (q n : Nat → Nat) (A : Nat → Nat → Nat) (X : Nat → Nat → Int32) (hW : WF n A) (hR : RG n A X) (tH : Nat) (sz : Nat) (hst : 0 < n 6) : Met l yX0_partsLitByAny wsX0_partsLitByAny ({ frames := 2, cells := 0, slots := 0, locals := 49 }) (rsP tH [.ref (q 0)] sz (dC, dI) [(cI, .int)] (wG cI q n X)) (roQi (nI (sLits n A)) sz) 0 0 (va_A [] sz) := by
  refine rs_met_i (by decide) rfl (Nat.le_of_ble_eq_true rfl) ?_
  intro pp ee ss mm aa bb me cd RR QQ Z hx hb hml hown hts hRf hRl hP hK hA hS hZT hend ls hl
  have hown : ss.vm.findClass RX0 = some mm.cls := hown
  have hRf : 2 ≤ RR.frames := hRf
  have hRl : 49 ≤ RR.locals := hRl
  have hl : lv_has ls 3 [(0, .ref (q 0))] := hl
  obtain ⟨w0, w1, w2, w3, w4, w5, w6, w7, w8, wA0, wA1, wA2⟩ := id hW
  have wC : n 0 * n 1 ≤ 42 := Nat.mul_le_mul w0 w1
  have hf52 := hts (.fieldLink RX0 52 "StatueSquare$Ground" "thingCount" "I") (List.mem_of_getElem? (i := 1) rfl)
  have hinX0 : ∀ w ∈ u_ws RX0 TX0 17, w ∈ wsX0_partsLitByAny := fun _ h => List.mem_cons_of_mem _ (List.mem_append_right _ h)
  refine lv_iconst (v := nI 0) hx hb dX0_partsLitByAny_0 rfl ?_
  refine lv_istore_n (lv' := [(1, .int (nI 0)), (0, .ref (q 0))]) hx hb dX0_partsLitByAny_1 rfl hl (by decide) rfl (fun ls hl => ?_)
  refine lv_iconst (v := nI 0) hx hb dX0_partsLitByAny_2 rfl ?_
  refine lv_istore_n (lv' := [(2, .int (nI 0)), (1, .int (nI 0)), (0, .ref (q 0))]) hx hb dX0_partsLitByAny_3 rfl hl (by decide) rfl (fun ls hl => ?_)
  have L4 : ∀ (fuel : Nat) (k : Nat) (hk : k ≤ n 3) (hfu : n 3 - k < fuel) (H : Heap) (locs : List Loc), va_P (dC, dI) vwCl (wG cI q n X) H → va_S Z ss.heap H locs → ∀ (ls : Array Slot), lv_has ls 3 [(0, .ref (q 0)), (1, .int (nI (orM (sLit n A) k))), (2, .int (nI k))] → W pp l ee RR ss mm aa bb me cd H locs 0 0 QQ (F0 mm 4 ls []) := by
    intro fuel
    induction fuel with
    | zero => intro k hk hfu; exact absurd hfu (Nat.not_lt_zero _)
    | succ fuel ih =>
      intro k hk hfu H locs hP hS ls hl
      refine lv_iload_n hx hb dX0_partsLitByAny_4 rfl (lv_at hl 2 rfl) ?_
      refine lv_aload_n hx hb dX0_partsLitByAny_5 rfl (lv_at hl 0 rfl) ?_
      refine x_get (D := (dC, dI)) (ci := 0) (v := .int (nI (n 3))) (C := RX0) (T := TX0) (N := 17) hx hb hts hinX0 hown hK hP 0 rfl rfl 3 (Nat.le_of_ble_eq_true rfl) hf52 rfl rfl dX0_partsLitByAny_6 ?_
      refine x_icmp_ge (tgt := 26) hx hb (by omega) (by omega) dX0_partsLitByAny_9 (by decide) (fun c9 => ?_) (fun c9 => ?_)
      · skip
        refine lv_iload_n hx hb dX0_partsLitByAny_26 rfl (lv_at hl 1 rfl) ?_
        exact hend _ _ _ _ _ (congrArg nI (show orM (sLit n A) k = orM (sLit n A) (n 3) from by congr 1; omega)) hS dX0_partsLitByAny_27
      · skip
        refine lv_iload_n hx hb dX0_partsLitByAny_12 rfl (lv_at hl 1 rfl) ?_
        refine lv_aload_n hx hb dX0_partsLitByAny_13 rfl (lv_at hl 0 rfl) ?_
        refine lv_iload_n hx hb dX0_partsLitByAny_14 rfl (lv_at hl 2 rfl) ?_
        refine rsV_i (As := [.int (nI k)]) (rest := [.int (nI (orM (sLit n A) k))]) ⟨hx, hb, hml, hown, hts⟩ (kX0_partsLitBy l dC dI cI q n A X hW hR tH k _ (by omega) (by omega)) (cwV 1 hts gX0_partsLitByAny_X0_partsLitBy rfl rfl rfl hdX0_partsLitBy ⟨Nat.le_trans (Nat.le_of_ble_eq_true rfl) hRf, Nat.le_trans (Nat.le_of_ble_eq_true rfl) hRl⟩) (va_recv hK hP (ci := 0) (q0 := 0) rfl rfl) hK hP rfl hl.1 rfl (Nat.le_of_ble_eq_true rfl) dX0_partsLitByAny_15 ⟨Nat.zero_le _, Nat.zero_le _⟩ hP hS hA hZT (fun H locs hP hS => ?_)
        refine x_ior hx hb dX0_partsLitByAny_18 ?_
        refine lv_istore_n (lv' := [(1, .int (nI ((orM (sLit n A) k) ||| (sLit n A k)))), (0, .ref (q 0)), (2, .int (nI k))]) hx hb dX0_partsLitByAny_19 rfl hl (by decide) rfl (fun ls hl => ?_)
        refine lv_iinc (v := (nI (k + 1))) (lv' := [(2, .int (nI (k + 1))), (1, .int (nI ((orM (sLit n A) k) ||| (sLit n A k)))), (0, .ref (q 0))]) hx hb dX0_partsLitByAny_20 hl (k := 2) rfl (nI_add _ _) (by decide) rfl (fun ls hl => ?_)
        refine lv_goto (tgt := 4) hx hb dX0_partsLitByAny_23 (by decide) ?_
        exact ih (k + 1) (by omega) (by omega) _ _ hP hS _ (lv_sub hl [2, 1, 0] rfl)
  exact L4 _ 0 (by omega) (Nat.lt_succ_self _) _ _ hP hS _ (lv_sub hl [2, 1, 0] rfl)
theorem hdX0_partsLitByAny : yX0_partsLitByAny.cls = RX0 ∧ yX0_partsLitByAny.cls ≠ "java/lang/invoke/MethodHandle" ∧ yX0_partsLitByAny.cls ≠ "java/lang/invoke/VarHandle" ∧ (parseMethodDescriptor yX0_partsLitByAny.desc).map (fun d => d.parameters.length) = some 0 := by decide +kernel
set_option maxRecDepth 20000 in
theorem ggX0_fewestLamps_X0_partsLitByAny : GoodIn wsX0_fewestLamps wsX0_partsLitByAny := goodIn_r _ [6, 1, 7, 8, 9, 5, 10, 11, 12, 13, 14, 15, 16, 17, 18, 19, 20, 21, 22, 23, 24, 25, 26, 27, 28, 29, 30, 31, 32, 33, 34, 35, 36, 37, 38, 39, 40, 41, 42, 43, 44, 45, 46, 47, 48, 49, 50] (by decide +kernel) (by decide +kernel)
set_option maxRecDepth 20000 in
theorem gX0_fewestLamps_X0_partsLitByAny : GoodIn wsX0_fewestLamps (wsV RX0 146 RX0 yX0_partsLitByAny wsX0_partsLitByAny) := goodIn_app (goodIn_of _ (by decide +kernel)) ggX0_fewestLamps_X0_partsLitByAny
set_option maxRecDepth 20000 in
theorem ggX0_fewestLamps_X0_partsLitBy : GoodIn wsX0_fewestLamps wsX0_partsLitBy := goodIn_r _ [10, 11, 12, 13, 14, 15, 16, 17, 18, 19, 20, 21, 22, 23, 24, 25, 5, 26, 27, 28, 29, 30, 31, 32, 33, 34, 35, 36, 37, 38, 39, 40, 41, 42, 43, 44, 45, 46, 47, 48, 49, 50] (by decide +kernel) (by decide +kernel)
set_option maxRecDepth 20000 in
theorem gX0_fewestLamps_X0_partsLitBy : GoodIn wsX0_fewestLamps (wsV RX0 143 RX0 yX0_partsLitBy wsX0_partsLitBy) := goodIn_app (goodIn_of _ (by decide +kernel)) ggX0_fewestLamps_X0_partsLitBy
set_option maxHeartbeats 4000000 in
set_option maxRecDepth 100000 in
theorem kX0_fewestLamps (l : Launch) (dC : Nat → ClassId) (dI : Nat → Nat → Nat) (cI : ClassId) (q n : Nat → Nat) (A : Nat → Nat → Nat) (X : Nat → Nat → Int32) (hW : WF n A) (hR : RG n A X) (tH : Nat) (sz : Nat) (hst : 0 < n 6) : Met l yX0_fewestLamps wsX0_fewestLamps ({ frames := 3, cells := 0, slots := 0, locals := 71 }) (rsP tH [.ref (q 0)] sz (dC, dI) [(cI, .int)] (wG cI q n X)) (roQi (nI (sFew n A)) sz) 0 0 (va_A [] sz) := by
  refine rs_met_i (by decide) rfl (Nat.le_of_ble_eq_true rfl) ?_
  intro pp ee ss mm aa bb me cd RR QQ Z hx hb hml hown hts hRf hRl hP hK hA hS hZT hend ls hl
  have hown : ss.vm.findClass RX0 = some mm.cls := hown
  have hRf : 3 ≤ RR.frames := hRf
  have hRl : 71 ≤ RR.locals := hRl
  have hl : lv_has ls 3 [(0, .ref (q 0))] := hl
  obtain ⟨w0, w1, w2, w3, w4, w5, w6, w7, w8, wA0, wA1, wA2⟩ := id hW
  have wC : n 0 * n 1 ≤ 42 := Nat.mul_le_mul w0 w1
  have hl16 : sLits n A < 2 ^ 4 := orM_lt (fun i _ => sLit_lt n A i)
  have hf52 := hts (.fieldLink RX0 52 "StatueSquare$Ground" "thingCount" "I") (List.mem_of_getElem? (i := 1) rfl)
  have hinX0 : ∀ w ∈ u_ws RX0 TX0 17, w ∈ wsX0_fewestLamps := fun _ h => List.mem_cons_of_mem _ (List.mem_append_right _ h)
  refine lv_aload_n hx hb dX0_fewestLamps_0 rfl (lv_at hl 0 rfl) ?_
  refine rsV_i (As := []) (rest := []) ⟨hx, hb, hml, hown, hts⟩ (kX0_partsLitByAny l dC dI cI q n A X hW hR tH _ (by omega)) (cwV 0 hts gX0_fewestLamps_X0_partsLitByAny rfl rfl rfl hdX0_partsLitByAny ⟨Nat.le_trans (Nat.le_of_ble_eq_true rfl) hRf, Nat.le_trans (Nat.le_of_ble_eq_true rfl) hRl⟩) (va_recv hK hP (ci := 0) (q0 := 0) rfl rfl) hK hP rfl hl.1 rfl (Nat.le_of_ble_eq_true rfl) dX0_fewestLamps_1 ⟨Nat.zero_le _, Nat.zero_le _⟩ hP hS hA hZT (fun H locs hP hS => ?_)
  refine lv_istore_n (lv' := [(1, .int (nI (sLits n A))), (0, .ref (q 0))]) hx hb dX0_fewestLamps_4 rfl hl (by decide) rfl (fun ls hl => ?_)
  refine lv_iload_n hx hb dX0_fewestLamps_5 rfl (lv_at hl 0 rfl) ?_
  refine x_if_ne (tgt := 11) hx hb (Nat.lt_trans hl16 (by decide)) dX0_fewestLamps_6 (by decide) (fun c6 => ?_) (fun c6 => ?_)
  · skip
    refine lv_iconst (v := nI 0) hx hb dX0_fewestLamps_11 rfl ?_
    refine lv_istore_n (lv' := [(2, .int (nI 0)), (1, .int (nI (sLits n A))), (0, .ref (q 0))]) hx hb dX0_fewestLamps_12 rfl hl (by decide) rfl (fun ls hl => ?_)
    have L13 : ∀ (fuel : Nat) (k : Nat) (hk : k ≤ n 3) (hno : ∀ j, j < k → (fun t => decide (sLit n A t = sLits n A)) j = false) (hfu : n 3 - k < fuel) (H : Heap) (locs : List Loc), va_P (dC, dI) vwCl (wG cI q n X) H → va_S Z ss.heap H locs → ∀ (ls : Array Slot), lv_has ls 3 [(0, .ref (q 0)), (1, .int (nI (sLits n A))), (2, .int (nI k))] → W pp l ee RR ss mm aa bb me cd H locs 0 0 QQ (F0 mm 13 ls []) := by
      intro fuel
      induction fuel with
      | zero => intro k hk hno hfu; exact absurd hfu (Nat.not_lt_zero _)
      | succ fuel ih =>
        intro k hk hno hfu H locs hP hS ls hl
        refine lv_iload_n hx hb dX0_fewestLamps_13 rfl (lv_at hl 2 rfl) ?_
        refine lv_aload_n hx hb dX0_fewestLamps_14 rfl (lv_at hl 0 rfl) ?_
        refine x_get (D := (dC, dI)) (ci := 0) (v := .int (nI (n 3))) (C := RX0) (T := TX0) (N := 17) hx hb hts hinX0 hown hK hP 0 rfl rfl 3 (Nat.le_of_ble_eq_true rfl) hf52 rfl rfl dX0_fewestLamps_15 ?_
        refine x_icmp_ge (tgt := 40) hx hb (by omega) (by omega) dX0_fewestLamps_18 (by decide) (fun c18 => ?_) (fun c18 => ?_)
        · skip
          refine lv_iconst (v := nI 0) hx hb dX0_fewestLamps_40 rfl ?_
          exact hend _ _ _ _ _ (congrArg nI (show 0 = sFew n A from ((if_neg c6 : sFew n A = _).trans (by rw [fstB_no (fun j hj => hno j (by omega))]; rfl)).symm)) hS dX0_fewestLamps_41
        · skip
          refine lv_aload_n hx hb dX0_fewestLamps_21 rfl (lv_at hl 0 rfl) ?_
          refine lv_iload_n hx hb dX0_fewestLamps_22 rfl (lv_at hl 2 rfl) ?_
          refine rsV_i (As := [.int (nI k)]) (rest := []) ⟨hx, hb, hml, hown, hts⟩ (kX0_partsLitBy l dC dI cI q n A X hW hR tH k _ (by omega) (by omega)) (cwV 1 hts gX0_fewestLamps_X0_partsLitBy rfl rfl rfl hdX0_partsLitBy ⟨Nat.le_trans (Nat.le_of_ble_eq_true rfl) hRf, Nat.le_trans (Nat.le_of_ble_eq_true rfl) hRl⟩) (va_recv hK hP (ci := 0) (q0 := 0) rfl rfl) hK hP rfl hl.1 rfl (Nat.le_of_ble_eq_true rfl) dX0_fewestLamps_23 ⟨Nat.zero_le _, Nat.zero_le _⟩ hP hS hA hZT (fun H locs hP hS => ?_)
          refine lv_iload_n hx hb dX0_fewestLamps_26 rfl (lv_at hl 1 rfl) ?_
          refine x_icmp_ne (tgt := 34) hx hb (Nat.lt_trans (sLit_lt _ _ _) (by decide)) (Nat.lt_trans hl16 (by decide)) dX0_fewestLamps_27 (by decide) (fun c27 => ?_) (fun c27 => ?_)
          · skip
            refine lv_iinc (v := (nI (k + 1))) (lv' := [(2, .int (nI (k + 1))), (0, .ref (q 0)), (1, .int (nI (sLits n A)))]) hx hb dX0_fewestLamps_34 hl (k := 2) rfl (nI_add _ _) (by decide) rfl (fun ls hl => ?_)
            refine lv_goto (tgt := 13) hx hb dX0_fewestLamps_37 (by decide) ?_
            exact ih (k + 1) (by omega) (fun j h => if e : j = k then e ▸ decide_eq_false c27 else hno j (by omega)) (by omega) _ _ hP hS _ (lv_sub hl [1, 2, 0] rfl)
          · skip
            refine lv_iconst (v := nI 1) hx hb dX0_fewestLamps_30 rfl ?_
            refine lv_iload_n hx hb dX0_fewestLamps_31 rfl (lv_at hl 2 rfl) ?_
            refine x_shl1 hx hb (by omega) dX0_fewestLamps_32 ?_
            exact hend _ _ _ _ _ (congrArg nI (show 2 ^ k = sFew n A from ((if_neg c6 : sFew n A = _).trans (by rw [fstB_yes hno (decide_eq_true c27) (by omega)]; rfl)).symm)) hS dX0_fewestLamps_33
    exact L13 _ 0 (by omega) (fun j h => absurd h (Nat.not_lt_zero _)) (Nat.lt_succ_self _) _ _ hP hS _ (lv_sub hl [2, 1, 0] rfl)
  · skip
    refine lv_iconst (v := nI 0) hx hb dX0_fewestLamps_9 rfl ?_
    exact hend _ _ _ _ _ (congrArg nI (if_pos c6 : sFew n A = 0).symm) hS dX0_fewestLamps_10
end
section
/-! the calls' answers, of the numbers alone -/
def inB (x : Int32) (k : Nat) : Bool := decide (0 ≤ x ∧ x < nI k)
def xn (x : Int32) : Nat := x.toNatClampNeg
theorem xn_nI {j : Nat} (h : j < 2 ^ 31) : xn (nI j) = j := nI_clamp h
theorem inB_t {x : Int32} {k : Nat} (hk : k < 2 ^ 31) (h : inB x k = true) : ∃ j, j < k ∧ x = nI j := by
  have h1 := of_decide_eq_true h
  rcases pk_ix x hk with q | q | q
  · exact absurd h1.1 (Int32.not_le.mpr q)
  · exact absurd h1.2 (Int32.not_lt.mpr q)
  · exact q
theorem inB_nI {j k : Nat} (hk : k < 2 ^ 31) (h : j < k) : inB (nI j) k = true := decide_eq_true ⟨nI_pos' (by omega), nI_lt h hk⟩
def LOSTv : Int64 := -9223372036854775808
def uCellHas (n : Nat → Nat) (A : Nat → Nat → Nat) (c : Int32) : Int32 := if inB c (n 0 * n 1) = true then nI (A 0 (xn c)) else -1
def uOfThing (n : Nat → Nat) (A : Nat → Nat → Nat) (t w : Int32) : Int32 := if inB t (n 3) = true then (if w = 0 then nI (A 2 (xn t)) else if w = 1 then nI (A 3 (xn t)) else if w = 2 then nI (A 4 (xn t)) else if w = 3 then nI (sTall n A (n 4) (xn t)) else if w = 4 then bI (!sThere n (xn t)) else if w = 5 then nI (A 5 (xn t)) else -2) else -1
def uBench (n : Nat → Nat) (A : Nat → Nat → Nat) (b : Int32) : Int32 := if inB b (n 2) = true then nI (A 1 (xn b)) else -1
def uSeen (n : Nat → Nat) (A : Nat → Nat → Nat) (b : Int32) : Int32 := if inB b (n 2) = true then (if 0 < n 6 then nI (sSeen n A (xn b) (n 6 - 1)) else -3) else -1
def uWhole (n : Nat → Nat) (A : Nat → Nat → Nat) : Int32 := if 0 < n 6 then nI (sWhole n A) else -3
def uHidden (n : Nat → Nat) (A : Nat → Nat → Nat) (b : Int32) : Int32 := if inB b (n 2) = true then (if 0 < n 6 then nI (sFoot n A (xn b) (n 4)) else -3) else -1
def sLow (n : Nat → Nat) : Nat := max 1 (4 * n 2)
def uSight (n : Nat → Nat) (A : Nat → Nat → Nat) (w : Int32) : Int64 := if inB w 2 = true then (if 0 < n 6 then (nI ((if w = 0 then sAll n A else sLow n) / Nat.gcd (sAll n A) (sLow n))).toInt64 else LOSTv) else LOSTv
def uBest (n : Nat → Nat) (A : Nat → Nat → Nat) (bl w : Int32) : Int32 := if inB bl 10 = true then (if inB w 2 = true then (if 0 < n 0 * n 1 then (if w = 0 then stI (sBest n A (xn bl) (n 0 * n 1)).1 else nI ((sBest n A (xn bl) (n 0 * n 1)).2 - 1)) else -3) else -2) else -2
def uBlock (n : Nat → Nat) (A : Nat → Nat → Nat) (c w : Int32) : Int32 := if inB c (n 0 * n 1) = true then (if inB w 2 = true then (if A 0 (xn c) = 0 then (if w = 0 then nI ((sLeast n A (xn c) 10).1 - 1) else nI ((sLeast n A (xn c) 10).2 - 1)) else -3) else -2) else -1
def uCuts (n : Nat → Nat) (A : Nat → Nat → Nat) (w : Int32) : Int32 := if inB w 2 = true then (if 0 < n 6 then (if w = 0 then nI (sHid n A) else nI (sCost n A (sHid n A))) else -3) else -2
def uComplaints (n : Nat → Nat) (A : Nat → Nat → Nat) : Int32 := if 0 < n 6 then nI (sComp n A 0 (n 4)) else -3
def uMoved (n : Nat → Nat) (A : Nat → Nat → Nat) (x : Int32) : Int32 := if inB x (2 ^ n 2) = true then (if 0 < n 6 then nI (sMoved n A (xn x)) else -3) else -2
def uYears (n : Nat → Nat) (A : Nat → Nat → Nat) : Int32 := if 0 < n 6 then fyr n A (31 - n 4) (n 4) else -3
def uSecond (n : Nat → Nat) (A : Nat → Nat → Nat) : Int64 := if 0 < n 6 then lN (sSec n A) else LOSTv
def uLit (n : Nat → Nat) (A : Nat → Nat → Nat) (w : Int32) : Int32 := if inB w 2 = true then (if 0 < n 6 then (if w = 0 then nI (sFew n A) else nI (sLits n A)) else -3) else -2
def uMany (n : Nat → Nat) (w : Int32) : Int32 := if w = 0 then nI (n 0 * n 1) else if w = 1 then nI (n 1) else if w = 2 then nI (n 2) else if w = 3 then nI (n 3) else if w = 4 then nI (n 4) else -2
theorem gcd_ret2 {r c k : Nat} (hk : 1 < k) (h1 : r % k = 0) (h2 : c % k = 0) (hno : ∀ j, k < j → j ≤ c → ¬ (r % j = 0 ∧ c % j = 0)) (h0 : 0 < c) : k = Nat.gcd r c := by
  have hd : k ∣ Nat.gcd r c := Nat.dvd_gcd (Nat.dvd_of_mod_eq_zero h1) (Nat.dvd_of_mod_eq_zero h2)
  have hg0 : 0 < Nat.gcd r c := Nat.gcd_pos_of_pos_right _ h0
  have hle : k ≤ Nat.gcd r c := Nat.le_of_dvd hg0 hd
  have hgm : Nat.gcd r c ≤ c := Nat.gcd_le_right r h0
  by_cases he : k = Nat.gcd r c
  · exact he
  · exact absurd ⟨Nat.mod_eq_zero_of_dvd (Nat.gcd_dvd_left r c), Nat.mod_eq_zero_of_dvd (Nat.gcd_dvd_right r c)⟩ (hno _ (by omega) hgm)
theorem gcd_one2 {r c k : Nat} (hk : k ≤ 1) (hno : ∀ j, k < j → j ≤ c → ¬ (r % j = 0 ∧ c % j = 0)) (h0 : 0 < c) : 1 = Nat.gcd r c := by
  have hg0 : 0 < Nat.gcd r c := Nat.gcd_pos_of_pos_right _ h0
  have hgm : Nat.gcd r c ≤ c := Nat.gcd_le_right r h0
  by_cases h : Nat.gcd r c ≤ 1
  · omega
  · exact absurd ⟨Nat.mod_eq_zero_of_dvd (Nat.gcd_dvd_left r c), Nat.mod_eq_zero_of_dvd (Nat.gcd_dvd_right r c)⟩ (hno _ (by omega) hgm)
theorem sAll_le {n : Nat → Nat} {A : Nat → Nat → Nat} (h : n 2 ≤ 12) : sAll n A ≤ 48 := Nat.le_trans (sumN_le (b := 4) (fun i _ => pop4_le _)) (by omega)
theorem bst_snd (fr : Nat → Bool) (ct : Nat → Nat) : ∀ k, ((bst fr ct k).1 = 0 ∧ (bst fr ct k).2 = 0) ∨ (0 < (bst fr ct k).1 ∧ (bst fr ct k).1 ≤ k ∧ (bst fr ct k).2 = ct ((bst fr ct k).1 - 1) + 1)
  | 0 => by simp [bst]
  | k + 1 => by
    have ih := bst_snd fr ct k
    rw [bst]; split
    · right; simp
    · rcases ih with h | h
      · exact Or.inl h
      · exact Or.inr ⟨h.1, by omega, h.2.2⟩
theorem least_snd (n : Nat → Nat) (A : Nat → Nat → Nat) (c : Nat) : 0 < (sLeast n A c 10).1 ∧ (sLeast n A c 10).1 ≤ 10 ∧ (sLeast n A c 10).2 = sCnt n A c ((sLeast n A c 10).1 - 1) + 1 := by
  have h := bst_snd (fun _ => true) (fun bl => sCnt n A c bl) 10
  have h1 : ∀ k, 0 < (bst (fun _ => true) (fun bl => sCnt n A c bl) (k + 1)).1 := by
    intro k
    induction k with
    | zero => simp [bst]
    | succ k ih =>
      rw [bst]; split
      · simp
      · exact ih
  rcases h with h | h
  · exact absurd h.1 (Nat.ne_of_gt (h1 9))
  · exact h
theorem ush_0 {x : Int32} {k : Nat} (hk : k ≤ 12) : (x.toUInt32 >>> ((nI k).toUInt32 &&& Int32.toUInt32 31)).toInt32 = 0 ↔ inB x (2 ^ k) = true := by
  have hs : (((nI k).toUInt32 &&& Int32.toUInt32 31).toBitVec % 32).toNat = k := by
    have h : ∀ k, k ≤ 12 → (((nI k).toUInt32 &&& Int32.toUInt32 31).toBitVec % 32).toNat = k := by decide +kernel
    exact h k hk
  have h1 := pk_ushr x (nI k) k hs
  have hp : 2 ^ k ≤ 2 ^ 12 := Nat.pow_le_pow_right (by decide) hk
  obtain ⟨j, hj, rfl⟩ : ∃ j, j < 2 ^ 32 ∧ x = nI j := ⟨x.toBitVec.toNat, x.toBitVec.isLt, by
    apply Int32.toBitVec_inj.mp
    show _ = BitVec.ofNat 32 _
    simp⟩
  rw [pk_tn hj] at h1
  constructor
  · intro h
    rw [h] at h1
    have e0 : (0 : Int32).toBitVec.toNat = 0 := rfl
    rw [e0] at h1
    have : j < 2 ^ k := by
      rcases Nat.lt_or_ge j (2 ^ k) with q | q
      · exact q
      · have := Nat.div_pos q (Nat.two_pow_pos k); omega
    exact inB_nI (by omega) this
  · intro h
    obtain ⟨i, hi, e⟩ := inB_t (by omega) h
    have : j = i := by
      have := congrArg (fun z => z.toBitVec.toNat) e
      simp only [pk_tn hj, pk_tn (show i < 2 ^ 32 by omega)] at this
      exact this
    subst this
    rw [Nat.div_eq_of_lt hi] at h1
    apply Int32.toBitVec_inj.mp
    apply BitVec.eq_of_toNat_eq
    rw [h1]; rfl
end
section
set_option maxHeartbeats 4000000 in
set_option maxRecDepth 100000 in
theorem kX3_isBelow (l : Launch) (dC : Nat → ClassId) (dI : Nat → Nat → Nat) (x : Int32) (k : Nat) (sz : Nat) : Met l yX3_isBelow wsX3_isBelow ({ frames := 0, cells := 0, slots := 0, locals := 0 }) (roP [.int x, .int (nI k)] sz (dC, dI) [] ([] : va_W)) (roQi (bI (inB x k)) sz) 0 0 (va_A [] sz) := by
  refine ro_met_z (by decide) rfl (Nat.le_of_ble_eq_true rfl) ?_
  intro pp ee ss mm aa bb me cd RR QQ Z hx hb hml hown hts hRf hRl hP hK hA hS hend ls hl
  have hown : ss.vm.findClass RX3 = some mm.cls := hown
  have hRf : 0 ≤ RR.frames := hRf
  have hRl : 0 ≤ RR.locals := hRl
  have hl : lv_has ls 2 [(0, .int x), (1, .int (nI k))] := hl
  refine lv_iload_n hx hb dX3_isBelow_0 rfl (lv_at hl 0 rfl) ?_
  refine lv_if_lt (tgt := 13) hx hb dX3_isBelow_1 (by decide) (fun c1 => ?_) (fun c1 => ?_)
  · skip
    refine lv_iconst (v := nI 0) hx hb dX3_isBelow_13 rfl ?_
    exact hend _ _ _ _ _ (n0_b (decide_eq_false (fun q => by first | exact absurd c1 (Int32.not_lt.mpr q.1) | exact absurd q.2 (Int32.not_lt.mpr c6)))) hS dX3_isBelow_14
  · skip
    refine lv_iload_n hx hb dX3_isBelow_4 rfl (lv_at hl 0 rfl) ?_
    refine lv_iload_n hx hb dX3_isBelow_5 rfl (lv_at hl 1 rfl) ?_
    refine lv_icmp_ge (tgt := 13) hx hb dX3_isBelow_6 (by decide) (fun c6 => ?_) (fun c6 => ?_)
    · skip
      refine lv_iconst (v := nI 0) hx hb dX3_isBelow_13 rfl ?_
      exact hend _ _ _ _ _ (n0_b (decide_eq_false (fun q => by first | exact absurd c1 (Int32.not_lt.mpr q.1) | exact absurd q.2 (Int32.not_lt.mpr c6)))) hS dX3_isBelow_14
    · skip
      refine lv_iconst (v := nI 1) hx hb dX3_isBelow_9 rfl ?_
      refine lv_goto (tgt := 14) hx hb dX3_isBelow_10 (by decide) ?_
      exact hend _ _ _ _ _ (n1_b (decide_eq_true ⟨Int32.not_lt.mp c1, Int32.not_le.mp c6⟩)) hS dX3_isBelow_14
set_option maxHeartbeats 4000000 in
set_option maxRecDepth 100000 in
theorem kX3_greatestDivisor (l : Launch) (dC : Nat → ClassId) (dI : Nat → Nat → Nat) (u : Nat) (v : Nat) (sz : Nat) (hu : u ≤ 1000) (hv : v ≤ 1000) (hv0 : 0 < v) : Met l yX3_greatestDivisor wsX3_greatestDivisor ({ frames := 0, cells := 0, slots := 0, locals := 0 }) (roP [.int (nI u), .int (nI v)] sz (dC, dI) [] ([] : va_W)) (roQi (nI (Nat.gcd u v)) sz) 0 0 (va_A [] sz) := by
  refine ro_met_i (by decide) rfl (Nat.le_of_ble_eq_true rfl) ?_
  intro pp ee ss mm aa bb me cd RR QQ Z hx hb hml hown hts hRf hRl hP hK hA hS hend ls hl
  have hown : ss.vm.findClass RX3 = some mm.cls := hown
  have hRf : 0 ≤ RR.frames := hRf
  have hRl : 0 ≤ RR.locals := hRl
  have hl : lv_has ls 3 [(0, .int (nI u)), (1, .int (nI v))] := hl
  refine lv_iload_n hx hb dX3_greatestDivisor_0 rfl (lv_at hl 1 rfl) ?_
  refine lv_istore_n (lv' := [(2, .int (nI v)), (0, .int (nI u)), (1, .int (nI v))]) hx hb dX3_greatestDivisor_1 rfl hl (by decide) rfl (fun ls hl => ?_)
  have L2 : ∀ (fuel : Nat) (k : Nat) (hk : k ≤ v) (hno : ∀ j, k < j → j ≤ v → ¬ (u % j = 0 ∧ v % j = 0)) (hfu : k < fuel) (H : Heap) (locs : List Loc), va_P (dC, dI) vwCl ([] : va_W) H → va_S Z ss.heap H locs → ∀ (ls : Array Slot), lv_has ls 3 [(0, .int (nI u)), (1, .int (nI v)), (2, .int (nI k))] → W pp l ee RR ss mm aa bb me cd H locs 0 0 QQ (F0 mm 2 ls []) := by
    intro fuel
    induction fuel with
    | zero => intro k hk hno hfu; exact absurd hfu (Nat.not_lt_zero _)
    | succ fuel ih =>
      intro k hk hno hfu H locs hP hS ls hl
      refine lv_iload_n hx hb dX3_greatestDivisor_2 rfl (lv_at hl 2 rfl) ?_
      refine lv_iconst (v := nI 1) hx hb dX3_greatestDivisor_3 rfl ?_
      refine x_icmp_le (tgt := 27) hx hb (by omega) (by omega) dX3_greatestDivisor_4 (by decide) (fun c4 => ?_) (fun c4 => ?_)
      · skip
        refine lv_iconst (v := nI 1) hx hb dX3_greatestDivisor_27 rfl ?_
        exact hend _ _ _ _ _ (congrArg nI (gcd_one2 (by omega) hno hv0)) hS dX3_greatestDivisor_28
      · skip
        refine lv_iload_n hx hb dX3_greatestDivisor_7 rfl (lv_at hl 0 rfl) ?_
        refine lv_iload_n hx hb dX3_greatestDivisor_8 rfl (lv_at hl 2 rfl) ?_
        refine x_irem hx hb (by omega) (by omega) (by omega) dX3_greatestDivisor_9 ?_
        refine x_if_ne (tgt := 21) hx hb (mod_b (by omega)) dX3_greatestDivisor_10 (by decide) (fun c10 => ?_) (fun c10 => ?_)
        · skip
          have hbad : ¬ (u % k = 0 ∧ v % k = 0) := fun h => c10 h.1
          refine lv_iinc (v := (nI (k - 1))) (lv' := [(2, .int (nI (k - 1))), (0, .int (nI u)), (1, .int (nI v))]) hx hb dX3_greatestDivisor_21 hl (k := 2) rfl (pk_dec (by omega)) (by decide) rfl (fun ls hl => ?_)
          refine lv_goto (tgt := 2) hx hb dX3_greatestDivisor_24 (by decide) ?_
          exact ih (k - 1) (by omega) (fun j h1 h2 h3 => if e : j = k then hbad (e ▸ h3) else hno j (by omega) h2 h3) (by omega) _ _ hP hS _ (lv_sub hl [1, 2, 0] rfl)
        · skip
          refine lv_iload_n hx hb dX3_greatestDivisor_13 rfl (lv_at hl 1 rfl) ?_
          refine lv_iload_n hx hb dX3_greatestDivisor_14 rfl (lv_at hl 2 rfl) ?_
          refine x_irem hx hb (by omega) (by omega) (by omega) dX3_greatestDivisor_15 ?_
          refine x_if_ne (tgt := 21) hx hb (mod_b (by omega)) dX3_greatestDivisor_16 (by decide) (fun c16 => ?_) (fun c16 => ?_)
          · skip
            have hbad : ¬ (u % k = 0 ∧ v % k = 0) := fun h => c16 h.2
            refine lv_iinc (v := (nI (k - 1))) (lv' := [(2, .int (nI (k - 1))), (0, .int (nI u)), (1, .int (nI v))]) hx hb dX3_greatestDivisor_21 hl (k := 2) rfl (pk_dec (by omega)) (by decide) rfl (fun ls hl => ?_)
            refine lv_goto (tgt := 2) hx hb dX3_greatestDivisor_24 (by decide) ?_
            exact ih (k - 1) (by omega) (fun j h1 h2 h3 => if e : j = k then hbad (e ▸ h3) else hno j (by omega) h2 h3) (by omega) _ _ hP hS _ (lv_sub hl [1, 2, 0] rfl)
          · skip
            refine lv_iload_n hx hb dX3_greatestDivisor_19 rfl (lv_at hl 2 rfl) ?_
            exact hend _ _ _ _ _ (congrArg nI (gcd_ret2 (by omega) c10 c16 hno hv0)) hS dX3_greatestDivisor_20
  exact L2 _ v (by omega) (fun j h1 h2 => absurd h2 (by omega)) (Nat.lt_succ_self _) _ _ hP hS _ (lv_sub hl [1, 2, 0] rfl)
theorem hdX3_isBelow : yX3_isBelow.cls ≠ "java/lang/invoke/MethodHandle" ∧ yX3_isBelow.cls ≠ "java/lang/invoke/VarHandle" ∧ (parseMethodDescriptor yX3_isBelow.desc).map (fun d => d.parameters.length) = some 2 := by decide +kernel
set_option maxRecDepth 20000 in
theorem ggX3_cellHas_X3_isBelow : GoodIn wsX3_cellHas wsX3_isBelow := goodIn_r _ [7] (by decide +kernel) (by decide +kernel)
set_option maxRecDepth 20000 in
theorem gX3_cellHas_X3_isBelow : GoodIn wsX3_cellHas (va_wsS RX3 39 yX3_isBelow wsX3_isBelow) := goodIn_app (goodIn_of _ (by decide +kernel)) ggX3_cellHas_X3_isBelow
set_option maxHeartbeats 4000000 in
set_option maxRecDepth 100000 in
theorem kX3_cellHas (l : Launch) (dC : Nat → ClassId) (dI : Nat → Nat → Nat) (a r0 r1 : Nat) (tr fl : Int32) (cI : ClassId) (q n : Nat → Nat) (A : Nat → Nat → Nat) (X : Nat → Nat → Int32) (hW : WF n A) (hR : RG n A X) (c : Int32) (sz : Nat) : Met l yX3_cellHas wsX3_cellHas ({ frames := 1, cells := 0, slots := 0, locals := 21 }) (roP [.ref a, .int c] sz (dC, dI) [(cI, .int)] ((a, .inr (3, [.ref r0, .ref r1, .ref (q 0), .int tr, .int fl])) :: wG cI q n X)) (roQi (uCellHas n A c) sz) 0 0 (va_A [] sz) := by
  refine ro_met_i (by decide) rfl (Nat.le_of_ble_eq_true rfl) ?_
  intro pp ee ss mm aa bb me cd RR QQ Z hx hb hml hown hts hRf hRl hP hK hA hS hend ls hl
  have hown : ss.vm.findClass RX3 = some mm.cls := hown
  have hRf : 1 ≤ RR.frames := hRf
  have hRl : 21 ≤ RR.locals := hRl
  have hl : lv_has ls 2 [(0, .ref a), (1, .int c)] := hl
  obtain ⟨w0, w1, w2, w3, w4, w5, w6, w7, w8, wA0, wA1, wA2⟩ := id hW
  have wC : n 0 * n 1 ≤ 42 := Nat.mul_le_mul w0 w1
  have hf28 := hts (.fieldLink RX3 28 "StatueSquare" "ground" "LStatueSquare$Ground;") (List.mem_of_getElem? (i := 1) rfl)
  have hinX3 : ∀ w ∈ u_ws RX3 TX3 5, w ∈ wsX3_cellHas := fun _ h => List.mem_cons_of_mem _ (List.mem_append_left _ (List.mem_append_right _ h))
  have hf61 := hts (.fieldLink RX3 61 "StatueSquare$Ground" "cellCount" "I") (List.mem_of_getElem? (i := 2) rfl)
  have hinX0 : ∀ w ∈ u_ws RX0 TX0 17, w ∈ wsX3_cellHas := fun _ h => List.mem_cons_of_mem _ (List.mem_append_right _ h)
  have hf64 := hts (.fieldLink RX3 64 "StatueSquare$Ground" "has" "[I") (List.mem_of_getElem? (i := 3) rfl)
  refine lv_iload_n hx hb dX3_cellHas_0 rfl (lv_at hl 1 rfl) ?_
  refine lv_aload_n hx hb dX3_cellHas_1 rfl (lv_at hl 0 rfl) ?_
  refine x_get (D := (dC, dI)) (ci := 3) (v := .ref (q 0)) (C := RX3) (T := TX3) (N := 5) hx hb hts hinX3 hown hK hP 0 rfl rfl 2 (Nat.le_of_ble_eq_true rfl) hf28 rfl rfl dX3_cellHas_2 ?_
  refine x_get (D := (dC, dI)) (ci := 0) (v := .int (nI (n 0 * n 1))) (C := RX0) (T := TX0) (N := 17) hx hb hts hinX0 hown hK hP 1 rfl rfl 1 (Nat.le_of_ble_eq_true rfl) hf61 rfl rfl dX3_cellHas_5 ?_
  refine roS_i (As := [.int c, .int (nI (n 0 * n 1))]) (rest := []) ⟨hx, hb, hml, hown, hts⟩ (kX3_isBelow l dC dI c (n 0 * n 1) _ ) (va_cwS 2 hts gX3_cellHas_X3_isBelow rfl rfl rfl hdX3_isBelow ⟨Nat.le_trans (Nat.le_of_ble_eq_true rfl) hRf, Nat.le_trans (Nat.le_of_ble_eq_true rfl) hRl⟩) (hK.sub [] rfl) (hP.sub [] rfl) rfl hl.1 rfl (Nat.le_of_ble_eq_true rfl) dX3_cellHas_8 ⟨Nat.zero_le _, Nat.zero_le _⟩ hP hS hA (fun H locs hP hS => ?_)
  refine x_ifb_eq (tgt := 26) hx hb dX3_cellHas_11 (by decide) (fun c11 => ?_) (fun c11 => ?_)
  · skip
    refine lv_iconst (v := -1) hx hb dX3_cellHas_26 rfl ?_
    exact hend _ _ _ _ _ (by simp [uCellHas, c11]) hS dX3_cellHas_27
  · skip
    obtain ⟨j, hj, rfl⟩ := inB_t (by omega) c11
    have hxj : xn (nI j) = j := xn_nI (by omega)
    refine lv_aload_n hx hb dX3_cellHas_14 rfl (lv_at hl 0 rfl) ?_
    refine x_get (D := (dC, dI)) (ci := 3) (v := .ref (q 0)) (C := RX3) (T := TX3) (N := 5) hx hb hts hinX3 hown hK hP 0 rfl rfl 2 (Nat.le_of_ble_eq_true rfl) hf28 rfl rfl dX3_cellHas_15 ?_
    refine x_get (D := (dC, dI)) (ci := 0) (v := .ref (q 1)) (C := RX0) (T := TX0) (N := 17) hx hb hts hinX0 hown hK hP 1 rfl rfl 4 (Nat.le_of_ble_eq_true rfl) hf64 rfl rfl dX3_cellHas_18 ?_
    refine lv_iload_n hx hb dX3_cellHas_21 rfl (lv_at hl 1 rfl) ?_
    refine x_iald (v := (nI (A 0 j))) hx hb hK hP 2 0 rfl rfl (by omega) (by decide) (hR.1 _ (by omega)).1 dX3_cellHas_22 ?_
    refine lv_goto (tgt := 27) hx hb dX3_cellHas_23 (by decide) ?_
    exact hend _ _ _ _ _ (by simp [uCellHas, c11, hxj]) hS dX3_cellHas_27
set_option maxRecDepth 20000 in
theorem ggX3_bench_X3_isBelow : GoodIn wsX3_bench wsX3_isBelow := goodIn_r _ [7] (by decide +kernel) (by decide +kernel)
set_option maxRecDepth 20000 in
theorem gX3_bench_X3_isBelow : GoodIn wsX3_bench (va_wsS RX3 39 yX3_isBelow wsX3_isBelow) := goodIn_app (goodIn_of _ (by decide +kernel)) ggX3_bench_X3_isBelow
set_option maxHeartbeats 4000000 in
set_option maxRecDepth 100000 in
theorem kX3_bench (l : Launch) (dC : Nat → ClassId) (dI : Nat → Nat → Nat) (a r0 r1 : Nat) (tr fl : Int32) (cI : ClassId) (q n : Nat → Nat) (A : Nat → Nat → Nat) (X : Nat → Nat → Int32) (hW : WF n A) (hR : RG n A X) (b : Int32) (sz : Nat) : Met l yX3_bench wsX3_bench ({ frames := 1, cells := 0, slots := 0, locals := 21 }) (roP [.ref a, .int b] sz (dC, dI) [(cI, .int)] ((a, .inr (3, [.ref r0, .ref r1, .ref (q 0), .int tr, .int fl])) :: wG cI q n X)) (roQi (uBench n A b) sz) 0 0 (va_A [] sz) := by
  refine ro_met_i (by decide) rfl (Nat.le_of_ble_eq_true rfl) ?_
  intro pp ee ss mm aa bb me cd RR QQ Z hx hb hml hown hts hRf hRl hP hK hA hS hend ls hl
  have hown : ss.vm.findClass RX3 = some mm.cls := hown
  have hRf : 1 ≤ RR.frames := hRf
  have hRl : 21 ≤ RR.locals := hRl
  have hl : lv_has ls 2 [(0, .ref a), (1, .int b)] := hl
  obtain ⟨w0, w1, w2, w3, w4, w5, w6, w7, w8, wA0, wA1, wA2⟩ := id hW
  have wC : n 0 * n 1 ≤ 42 := Nat.mul_le_mul w0 w1
  have hf28 := hts (.fieldLink RX3 28 "StatueSquare" "ground" "LStatueSquare$Ground;") (List.mem_of_getElem? (i := 1) rfl)
  have hinX3 : ∀ w ∈ u_ws RX3 TX3 5, w ∈ wsX3_bench := fun _ h => List.mem_cons_of_mem _ (List.mem_append_left _ (List.mem_append_right _ h))
  have hf94 := hts (.fieldLink RX3 94 "StatueSquare$Ground" "benchCount" "I") (List.mem_of_getElem? (i := 2) rfl)
  have hinX0 : ∀ w ∈ u_ws RX0 TX0 17, w ∈ wsX3_bench := fun _ h => List.mem_cons_of_mem _ (List.mem_append_right _ h)
  have hf97 := hts (.fieldLink RX3 97 "StatueSquare$Ground" "benchCell" "[I") (List.mem_of_getElem? (i := 3) rfl)
  refine lv_iload_n hx hb dX3_bench_0 rfl (lv_at hl 1 rfl) ?_
  refine lv_aload_n hx hb dX3_bench_1 rfl (lv_at hl 0 rfl) ?_
  refine x_get (D := (dC, dI)) (ci := 3) (v := .ref (q 0)) (C := RX3) (T := TX3) (N := 5) hx hb hts hinX3 hown hK hP 0 rfl rfl 2 (Nat.le_of_ble_eq_true rfl) hf28 rfl rfl dX3_bench_2 ?_
  refine x_get (D := (dC, dI)) (ci := 0) (v := .int (nI (n 2))) (C := RX0) (T := TX0) (N := 17) hx hb hts hinX0 hown hK hP 1 rfl rfl 2 (Nat.le_of_ble_eq_true rfl) hf94 rfl rfl dX3_bench_5 ?_
  refine roS_i (As := [.int b, .int (nI (n 2))]) (rest := []) ⟨hx, hb, hml, hown, hts⟩ (kX3_isBelow l dC dI b (n 2) _ ) (va_cwS 2 hts gX3_bench_X3_isBelow rfl rfl rfl hdX3_isBelow ⟨Nat.le_trans (Nat.le_of_ble_eq_true rfl) hRf, Nat.le_trans (Nat.le_of_ble_eq_true rfl) hRl⟩) (hK.sub [] rfl) (hP.sub [] rfl) rfl hl.1 rfl (Nat.le_of_ble_eq_true rfl) dX3_bench_8 ⟨Nat.zero_le _, Nat.zero_le _⟩ hP hS hA (fun H locs hP hS => ?_)
  refine x_ifb_eq (tgt := 26) hx hb dX3_bench_11 (by decide) (fun c11 => ?_) (fun c11 => ?_)
  · skip
    refine lv_iconst (v := -1) hx hb dX3_bench_26 rfl ?_
    exact hend _ _ _ _ _ (by simp [uBench, c11]) hS dX3_bench_27
  · skip
    obtain ⟨j, hj, rfl⟩ := inB_t (by omega) c11
    have hxj : xn (nI j) = j := xn_nI (by omega)
    refine lv_aload_n hx hb dX3_bench_14 rfl (lv_at hl 0 rfl) ?_
    refine x_get (D := (dC, dI)) (ci := 3) (v := .ref (q 0)) (C := RX3) (T := TX3) (N := 5) hx hb hts hinX3 hown hK hP 0 rfl rfl 2 (Nat.le_of_ble_eq_true rfl) hf28 rfl rfl dX3_bench_15 ?_
    refine x_get (D := (dC, dI)) (ci := 0) (v := .ref (q 4)) (C := RX0) (T := TX0) (N := 17) hx hb hts hinX0 hown hK hP 1 rfl rfl 7 (Nat.le_of_ble_eq_true rfl) hf97 rfl rfl dX3_bench_18 ?_
    refine lv_iload_n hx hb dX3_bench_21 rfl (lv_at hl 1 rfl) ?_
    refine x_iald (v := (nI (A 1 j))) hx hb hK hP 5 0 rfl rfl (by omega) (by decide) (hR.2.1 _ (by omega)) dX3_bench_22 ?_
    refine lv_goto (tgt := 27) hx hb dX3_bench_23 (by decide) ?_
    exact hend _ _ _ _ _ (by simp [uBench, c11, hxj]) hS dX3_bench_27
set_option maxRecDepth 20000 in
theorem ggX3_ofThing_X3_isBelow : GoodIn wsX3_ofThing wsX3_isBelow := goodIn_r _ [11] (by decide +kernel) (by decide +kernel)
set_option maxRecDepth 20000 in
theorem gX3_ofThing_X3_isBelow : GoodIn wsX3_ofThing (va_wsS RX3 39 yX3_isBelow wsX3_isBelow) := goodIn_app (goodIn_of _ (by decide +kernel)) ggX3_ofThing_X3_isBelow
set_option maxRecDepth 20000 in
theorem ggX3_ofThing_X0_tallIn : GoodIn wsX3_ofThing wsX0_tallIn := goodIn_r _ [16, 17, 18, 19, 30, 31, 32, 33, 34, 35, 36, 37, 38, 39, 40, 41, 42, 43, 44, 45, 46] (by decide +kernel) (by decide +kernel)
set_option maxRecDepth 20000 in
theorem gX3_ofThing_X0_tallIn : GoodIn wsX3_ofThing (wsV RX3 83 RX0 yX0_tallIn wsX0_tallIn) := goodIn_app (goodIn_of _ (by decide +kernel)) ggX3_ofThing_X0_tallIn
set_option maxRecDepth 20000 in
theorem ggX3_ofThing_X0_isThere : GoodIn wsX3_ofThing wsX0_isThere := goodIn_r _ [23, 24, 30, 31, 32, 33, 34, 35, 36, 37, 38, 39, 40, 41, 42, 43, 44, 45, 46] (by decide +kernel) (by decide +kernel)
set_option maxRecDepth 20000 in
theorem gX3_ofThing_X0_isThere : GoodIn wsX3_ofThing (wsV RX3 87 RX0 yX0_isThere wsX0_isThere) := goodIn_app (goodIn_of _ (by decide +kernel)) ggX3_ofThing_X0_isThere
set_option maxHeartbeats 4000000 in
set_option maxRecDepth 100000 in
theorem kX3_ofThing (l : Launch) (dC : Nat → ClassId) (dI : Nat → Nat → Nat) (a r0 r1 : Nat) (tr fl : Int32) (cI : ClassId) (q n : Nat → Nat) (A : Nat → Nat → Nat) (X : Nat → Nat → Int32) (hW : WF n A) (hR : RG n A X) (t : Int32) (w : Int32) (sz : Nat) : Met l yX3_ofThing wsX3_ofThing ({ frames := 1, cells := 0, slots := 0, locals := 23 }) (roP [.ref a, .int t, .int w] sz (dC, dI) [(cI, .int)] ((a, .inr (3, [.ref r0, .ref r1, .ref (q 0), .int tr, .int fl])) :: wG cI q n X)) (roQi (uOfThing n A t w) sz) 0 0 (va_A [] sz) := by
  refine ro_met_i (by decide) rfl (Nat.le_of_ble_eq_true rfl) ?_
  intro pp ee ss mm aa bb me cd RR QQ Z hx hb hml hown hts hRf hRl hP hK hA hS hend ls hl
  have hown : ss.vm.findClass RX3 = some mm.cls := hown
  have hRf : 1 ≤ RR.frames := hRf
  have hRl : 23 ≤ RR.locals := hRl
  have hl : lv_has ls 3 [(0, .ref a), (1, .int t), (2, .int w)] := hl
  obtain ⟨w0, w1, w2, w3, w4, w5, w6, w7, w8, wA0, wA1, wA2⟩ := id hW
  have wC : n 0 * n 1 ≤ 42 := Nat.mul_le_mul w0 w1
  have hf28 := hts (.fieldLink RX3 28 "StatueSquare" "ground" "LStatueSquare$Ground;") (List.mem_of_getElem? (i := 1) rfl)
  have hinX3 : ∀ w ∈ u_ws RX3 TX3 5, w ∈ wsX3_ofThing := fun _ h => List.mem_cons_of_mem _ (List.mem_append_left _ (List.mem_append_right _ h))
  have hf68 := hts (.fieldLink RX3 68 "StatueSquare$Ground" "thingCount" "I") (List.mem_of_getElem? (i := 2) rfl)
  have hinX0 : ∀ w ∈ u_ws RX0 TX0 17, w ∈ wsX3_ofThing := fun _ h => List.mem_cons_of_mem _ (List.mem_append_right _ h)
  have hf71 := hts (.fieldLink RX3 71 "StatueSquare$Ground" "kind" "[I") (List.mem_of_getElem? (i := 3) rfl)
  have hf74 := hts (.fieldLink RX3 74 "StatueSquare$Ground" "thingCell" "[I") (List.mem_of_getElem? (i := 4) rfl)
  have hf77 := hts (.fieldLink RX3 77 "StatueSquare$Ground" "tallAtFirst" "[I") (List.mem_of_getElem? (i := 5) rfl)
  have hf80 := hts (.fieldLink RX3 80 "StatueSquare$Ground" "yearNow" "I") (List.mem_of_getElem? (i := 6) rfl)
  have hf91 := hts (.fieldLink RX3 91 "StatueSquare$Ground" "cost" "[I") (List.mem_of_getElem? (i := 7) rfl)
  refine lv_iload_n hx hb dX3_ofThing_0 rfl (lv_at hl 1 rfl) ?_
  refine lv_aload_n hx hb dX3_ofThing_1 rfl (lv_at hl 0 rfl) ?_
  refine x_get (D := (dC, dI)) (ci := 3) (v := .ref (q 0)) (C := RX3) (T := TX3) (N := 5) hx hb hts hinX3 hown hK hP 0 rfl rfl 2 (Nat.le_of_ble_eq_true rfl) hf28 rfl rfl dX3_ofThing_2 ?_
  refine x_get (D := (dC, dI)) (ci := 0) (v := .int (nI (n 3))) (C := RX0) (T := TX0) (N := 17) hx hb hts hinX0 hown hK hP 1 rfl rfl 3 (Nat.le_of_ble_eq_true rfl) hf68 rfl rfl dX3_ofThing_5 ?_
  refine roS_i (As := [.int t, .int (nI (n 3))]) (rest := []) ⟨hx, hb, hml, hown, hts⟩ (kX3_isBelow l dC dI t (n 3) _ ) (va_cwS 2 hts gX3_ofThing_X3_isBelow rfl rfl rfl hdX3_isBelow ⟨Nat.le_trans (Nat.le_of_ble_eq_true rfl) hRf, Nat.le_trans (Nat.le_of_ble_eq_true rfl) hRl⟩) (hK.sub [] rfl) (hP.sub [] rfl) rfl hl.1 rfl (Nat.le_of_ble_eq_true rfl) dX3_ofThing_8 ⟨Nat.zero_le _, Nat.zero_le _⟩ hP hS hA (fun H locs hP hS => ?_)
  refine x_ifb_ne (tgt := 16) hx hb dX3_ofThing_11 (by decide) (fun c11 => ?_) (fun c11 => ?_)
  · skip
    obtain ⟨j, hj, rfl⟩ := inB_t (by omega) c11
    have hxj : xn (nI j) = j := xn_nI (by omega)
    refine lv_iload_n hx hb dX3_ofThing_16 rfl (lv_at hl 2 rfl) ?_
    by_cases hw0 : w = 0
    · skip
      refine lv_tableIn (tgt := 56) hx hb dX3_ofThing_17 (by rw [hw0]; decide) (by rw [hw0]; decide) (by rw [hw0]; rfl) (by decide) ?_
      refine lv_aload_n hx hb dX3_ofThing_56 rfl (lv_at hl 0 rfl) ?_
      refine x_get (D := (dC, dI)) (ci := 3) (v := .ref (q 0)) (C := RX3) (T := TX3) (N := 5) hx hb hts hinX3 hown hK hP 0 rfl rfl 2 (Nat.le_of_ble_eq_true rfl) hf28 rfl rfl dX3_ofThing_57 ?_
      refine x_get (D := (dC, dI)) (ci := 0) (v := .ref (q 5)) (C := RX0) (T := TX0) (N := 17) hx hb hts hinX0 hown hK hP 1 rfl rfl 8 (Nat.le_of_ble_eq_true rfl) hf71 rfl rfl dX3_ofThing_60 ?_
      refine lv_iload_n hx hb dX3_ofThing_63 rfl (lv_at hl 1 rfl) ?_
      refine x_iald (v := (nI (A 2 j))) hx hb hK hP 6 0 rfl rfl (by omega) (by decide) (hR.2.2 _ (by omega)).1 dX3_ofThing_64 ?_
      exact hend _ _ _ _ _ (by simp [uOfThing, c11, hxj, hw0]) hS dX3_ofThing_65
    by_cases hw1 : w = 1
    · skip
      refine lv_tableIn (tgt := 66) hx hb dX3_ofThing_17 (by rw [hw1]; decide) (by rw [hw1]; decide) (by rw [hw1]; rfl) (by decide) ?_
      refine lv_aload_n hx hb dX3_ofThing_66 rfl (lv_at hl 0 rfl) ?_
      refine x_get (D := (dC, dI)) (ci := 3) (v := .ref (q 0)) (C := RX3) (T := TX3) (N := 5) hx hb hts hinX3 hown hK hP 0 rfl rfl 2 (Nat.le_of_ble_eq_true rfl) hf28 rfl rfl dX3_ofThing_67 ?_
      refine x_get (D := (dC, dI)) (ci := 0) (v := .ref (q 6)) (C := RX0) (T := TX0) (N := 17) hx hb hts hinX0 hown hK hP 1 rfl rfl 9 (Nat.le_of_ble_eq_true rfl) hf74 rfl rfl dX3_ofThing_70 ?_
      refine lv_iload_n hx hb dX3_ofThing_73 rfl (lv_at hl 1 rfl) ?_
      refine x_iald (v := (nI (A 3 j))) hx hb hK hP 7 0 rfl rfl (by omega) (by decide) (hR.2.2 _ (by omega)).2.1 dX3_ofThing_74 ?_
      exact hend _ _ _ _ _ (by simp [uOfThing, c11, hxj, hw0, hw1]) hS dX3_ofThing_75
    by_cases hw2 : w = 2
    · skip
      refine lv_tableIn (tgt := 76) hx hb dX3_ofThing_17 (by rw [hw2]; decide) (by rw [hw2]; decide) (by rw [hw2]; rfl) (by decide) ?_
      refine lv_aload_n hx hb dX3_ofThing_76 rfl (lv_at hl 0 rfl) ?_
      refine x_get (D := (dC, dI)) (ci := 3) (v := .ref (q 0)) (C := RX3) (T := TX3) (N := 5) hx hb hts hinX3 hown hK hP 0 rfl rfl 2 (Nat.le_of_ble_eq_true rfl) hf28 rfl rfl dX3_ofThing_77 ?_
      refine x_get (D := (dC, dI)) (ci := 0) (v := .ref (q 7)) (C := RX0) (T := TX0) (N := 17) hx hb hts hinX0 hown hK hP 1 rfl rfl 10 (Nat.le_of_ble_eq_true rfl) hf77 rfl rfl dX3_ofThing_80 ?_
      refine lv_iload_n hx hb dX3_ofThing_83 rfl (lv_at hl 1 rfl) ?_
      refine x_iald (v := (nI (A 4 j))) hx hb hK hP 8 0 rfl rfl (by omega) (by decide) (hR.2.2 _ (by omega)).2.2.1 dX3_ofThing_84 ?_
      exact hend _ _ _ _ _ (by simp [uOfThing, c11, hxj, hw0, hw1, hw2]) hS dX3_ofThing_85
    by_cases hw3 : w = 3
    · skip
      refine lv_tableIn (tgt := 86) hx hb dX3_ofThing_17 (by rw [hw3]; decide) (by rw [hw3]; decide) (by rw [hw3]; rfl) (by decide) ?_
      refine lv_aload_n hx hb dX3_ofThing_86 rfl (lv_at hl 0 rfl) ?_
      refine x_get (D := (dC, dI)) (ci := 3) (v := .ref (q 0)) (C := RX3) (T := TX3) (N := 5) hx hb hts hinX3 hown hK hP 0 rfl rfl 2 (Nat.le_of_ble_eq_true rfl) hf28 rfl rfl dX3_ofThing_87 ?_
      refine lv_iload_n hx hb dX3_ofThing_90 rfl (lv_at hl 1 rfl) ?_
      refine lv_aload_n hx hb dX3_ofThing_91 rfl (lv_at hl 0 rfl) ?_
      refine x_get (D := (dC, dI)) (ci := 3) (v := .ref (q 0)) (C := RX3) (T := TX3) (N := 5) hx hb hts hinX3 hown hK hP 0 rfl rfl 2 (Nat.le_of_ble_eq_true rfl) hf28 rfl rfl dX3_ofThing_92 ?_
      refine x_get (D := (dC, dI)) (ci := 0) (v := .int (nI (n 4))) (C := RX0) (T := TX0) (N := 17) hx hb hts hinX0 hown hK hP 1 rfl rfl 13 (Nat.le_of_ble_eq_true rfl) hf80 rfl rfl dX3_ofThing_95 ?_
      refine roV_i (As := [.int (nI j), .int (nI (n 4))]) (rest := []) ⟨hx, hb, hml, hown, hts⟩ (kX0_tallIn l dC dI cI q n A X hW hR j (n 4) _ (by omega) (by omega)) (cwV 2 hts gX3_ofThing_X0_tallIn rfl rfl rfl hdX0_tallIn ⟨Nat.le_trans (Nat.le_of_ble_eq_true rfl) hRf, Nat.le_trans (Nat.le_of_ble_eq_true rfl) hRl⟩) (va_recv hK hP (ci := 0) (q0 := 1) rfl rfl) hK (hP.sub [1, 2, 3, 4, 5, 6, 7, 8, 9] rfl) rfl hl.1 rfl (Nat.le_of_ble_eq_true rfl) dX3_ofThing_98 ⟨Nat.zero_le _, Nat.zero_le _⟩ hP hS hA (fun H locs hP hS => ?_)
      exact hend _ _ _ _ _ (by simp [uOfThing, c11, hxj, hw0, hw1, hw2, hw3]) hS dX3_ofThing_101
    by_cases hw4 : w = 4
    · skip
      refine lv_tableIn (tgt := 102) hx hb dX3_ofThing_17 (by rw [hw4]; decide) (by rw [hw4]; decide) (by rw [hw4]; rfl) (by decide) ?_
      refine lv_aload_n hx hb dX3_ofThing_102 rfl (lv_at hl 0 rfl) ?_
      refine x_get (D := (dC, dI)) (ci := 3) (v := .ref (q 0)) (C := RX3) (T := TX3) (N := 5) hx hb hts hinX3 hown hK hP 0 rfl rfl 2 (Nat.le_of_ble_eq_true rfl) hf28 rfl rfl dX3_ofThing_103 ?_
      refine lv_iload_n hx hb dX3_ofThing_106 rfl (lv_at hl 1 rfl) ?_
      refine roV_i (As := [.int (nI j)]) (rest := []) ⟨hx, hb, hml, hown, hts⟩ (kX0_isThere l dC dI cI q n A X hW hR j _ (by omega)) (cwV 1 hts gX3_ofThing_X0_isThere rfl rfl rfl hdX0_isThere ⟨Nat.le_trans (Nat.le_of_ble_eq_true rfl) hRf, Nat.le_trans (Nat.le_of_ble_eq_true rfl) hRl⟩) (va_recv hK hP (ci := 0) (q0 := 1) rfl rfl) hK (hP.sub [1, 2, 3, 4, 5, 6, 7, 8, 9] rfl) rfl hl.1 rfl (Nat.le_of_ble_eq_true rfl) dX3_ofThing_107 ⟨Nat.zero_le _, Nat.zero_le _⟩ hP hS hA (fun H locs hP hS => ?_)
      refine x_ifb_eq (tgt := 117) hx hb dX3_ofThing_110 (by decide) (fun c110 => ?_) (fun c110 => ?_)
      · skip
        refine lv_iconst (v := nI 1) hx hb dX3_ofThing_117 rfl ?_
        exact hend _ _ _ _ _ (by simp [uOfThing, c11, hxj, hw4, c110]; rfl) hS dX3_ofThing_118
      · skip
        refine lv_iconst (v := nI 0) hx hb dX3_ofThing_113 rfl ?_
        refine lv_goto (tgt := 118) hx hb dX3_ofThing_114 (by decide) ?_
        exact hend _ _ _ _ _ (by simp [uOfThing, c11, hxj, hw4, c110]; rfl) hS dX3_ofThing_118
    by_cases hw5 : w = 5
    · skip
      refine lv_tableIn (tgt := 119) hx hb dX3_ofThing_17 (by rw [hw5]; decide) (by rw [hw5]; decide) (by rw [hw5]; rfl) (by decide) ?_
      refine lv_aload_n hx hb dX3_ofThing_119 rfl (lv_at hl 0 rfl) ?_
      refine x_get (D := (dC, dI)) (ci := 3) (v := .ref (q 0)) (C := RX3) (T := TX3) (N := 5) hx hb hts hinX3 hown hK hP 0 rfl rfl 2 (Nat.le_of_ble_eq_true rfl) hf28 rfl rfl dX3_ofThing_120 ?_
      refine x_get (D := (dC, dI)) (ci := 0) (v := .ref (q 8)) (C := RX0) (T := TX0) (N := 17) hx hb hts hinX0 hown hK hP 1 rfl rfl 11 (Nat.le_of_ble_eq_true rfl) hf91 rfl rfl dX3_ofThing_123 ?_
      refine lv_iload_n hx hb dX3_ofThing_126 rfl (lv_at hl 1 rfl) ?_
      refine x_iald (v := (nI (A 5 j))) hx hb hK hP 9 0 rfl rfl (by omega) (by decide) (hR.2.2 _ (by omega)).2.2.2 dX3_ofThing_127 ?_
      exact hend _ _ _ _ _ (by simp [uOfThing, c11, hxj, hw0, hw1, hw2, hw3, hw4, hw5]) hS dX3_ofThing_128
    refine lv_tableOut (tgt := 129) hx hb dX3_ofThing_17 (by have q0 : ¬ w.toInt = 0 := lv_neT hw0 rfl; have q1 : ¬ w.toInt = 1 := lv_neT hw1 rfl; have q2 : ¬ w.toInt = 2 := lv_neT hw2 rfl; have q3 : ¬ w.toInt = 3 := lv_neT hw3 rfl; have q4 : ¬ w.toInt = 4 := lv_neT hw4 rfl; have q5 : ¬ w.toInt = 5 := lv_neT hw5 rfl; omega) (by decide) ?_
    refine lv_bipush (v := -2) hx hb dX3_ofThing_129 rfl ?_
    exact hend _ _ _ _ _ (by simp [uOfThing, c11, hxj, hw0, hw1, hw2, hw3, hw4, hw5]) hS dX3_ofThing_131
  · skip
    refine lv_iconst (v := -1) hx hb dX3_ofThing_14 rfl ?_
    exact hend _ _ _ _ _ (by simp [uOfThing, c11]) hS dX3_ofThing_15
theorem hdX0_hasStatue : yX0_hasStatue.cls = RX0 ∧ yX0_hasStatue.cls ≠ "java/lang/invoke/MethodHandle" ∧ yX0_hasStatue.cls ≠ "java/lang/invoke/VarHandle" ∧ (parseMethodDescriptor yX0_hasStatue.desc).map (fun d => d.parameters.length) = some 0 := by decide +kernel
set_option maxRecDepth 20000 in
theorem ggX3_seen_X3_isBelow : GoodIn wsX3_seen wsX3_isBelow := goodIn_r _ [7] (by decide +kernel) (by decide +kernel)
set_option maxRecDepth 20000 in
theorem gX3_seen_X3_isBelow : GoodIn wsX3_seen (va_wsS RX3 39 yX3_isBelow wsX3_isBelow) := goodIn_app (goodIn_of _ (by decide +kernel)) ggX3_seen_X3_isBelow
set_option maxRecDepth 20000 in
theorem ggX3_seen_X0_hasStatue : GoodIn wsX3_seen wsX0_hasStatue := goodIn_r _ [12, 13, 57, 58, 59, 60, 61, 62, 63, 64, 65, 66, 67, 68, 69, 70, 71, 72, 73] (by decide +kernel) (by decide +kernel)
set_option maxRecDepth 20000 in
theorem gX3_seen_X0_hasStatue : GoodIn wsX3_seen (wsV RX3 120 RX0 yX0_hasStatue wsX0_hasStatue) := goodIn_app (goodIn_of _ (by decide +kernel)) ggX3_seen_X0_hasStatue
set_option maxRecDepth 20000 in
theorem ggX3_seen_X0_partsSeen : GoodIn wsX3_seen wsX0_partsSeen := goodIn_r _ [17, 18, 19, 20, 21, 22, 23, 11, 24, 25, 26, 27, 28, 29, 30, 31, 32, 33, 34, 35, 36, 37, 38, 39, 40, 41, 42, 43, 44, 45, 46, 47, 48, 49, 50, 51, 57, 58, 59, 60, 61, 62, 63, 64, 65, 66, 67, 68, 69, 70, 71, 72, 73] (by decide +kernel) (by decide +kernel)
set_option maxRecDepth 20000 in
theorem gX3_seen_X0_partsSeen : GoodIn wsX3_seen (wsV RX3 123 RX0 yX0_partsSeen wsX0_partsSeen) := goodIn_app (goodIn_of _ (by decide +kernel)) ggX3_seen_X0_partsSeen
set_option maxHeartbeats 4000000 in
set_option maxRecDepth 100000 in
theorem kX3_seen (l : Launch) (dC : Nat → ClassId) (dI : Nat → Nat → Nat) (a r0 r1 : Nat) (tr fl : Int32) (cI : ClassId) (q n : Nat → Nat) (A : Nat → Nat → Nat) (X : Nat → Nat → Int32) (hW : WF n A) (hR : RG n A X) (tH : Nat) (b : Int32) (sz : Nat) : Met l yX3_seen wsX3_seen ({ frames := 4, cells := 0, slots := 0, locals := 101 }) (rsP tH [.ref a, .int b] sz (dC, dI) [(cI, .int)] ((a, .inr (3, [.ref r0, .ref r1, .ref (q 0), .int tr, .int fl])) :: wG cI q n X)) (roQi (uSeen n A b) sz) 0 0 (va_A [] sz) := by
  refine rs_met_i (by decide) rfl (Nat.le_of_ble_eq_true rfl) ?_
  intro pp ee ss mm aa bb me cd RR QQ Z hx hb hml hown hts hRf hRl hP hK hA hS hZT hend ls hl
  have hown : ss.vm.findClass RX3 = some mm.cls := hown
  have hRf : 4 ≤ RR.frames := hRf
  have hRl : 101 ≤ RR.locals := hRl
  have hl : lv_has ls 2 [(0, .ref a), (1, .int b)] := hl
  obtain ⟨w0, w1, w2, w3, w4, w5, w6, w7, w8, wA0, wA1, wA2⟩ := id hW
  have wC : n 0 * n 1 ≤ 42 := Nat.mul_le_mul w0 w1
  have hf28 := hts (.fieldLink RX3 28 "StatueSquare" "ground" "LStatueSquare$Ground;") (List.mem_of_getElem? (i := 1) rfl)
  have hinX3 : ∀ w ∈ u_ws RX3 TX3 5, w ∈ wsX3_seen := fun _ h => List.mem_cons_of_mem _ (List.mem_append_left _ (List.mem_append_right _ h))
  have hf94 := hts (.fieldLink RX3 94 "StatueSquare$Ground" "benchCount" "I") (List.mem_of_getElem? (i := 2) rfl)
  have hinX0 : ∀ w ∈ u_ws RX0 TX0 17, w ∈ wsX3_seen := fun _ h => List.mem_cons_of_mem _ (List.mem_append_right _ h)
  have hf114 := hts (.fieldLink RX3 114 "StatueSquare$Ground" "statueCell" "I") (List.mem_of_getElem? (i := 3) rfl)
  refine lv_iload_n hx hb dX3_seen_0 rfl (lv_at hl 1 rfl) ?_
  refine lv_aload_n hx hb dX3_seen_1 rfl (lv_at hl 0 rfl) ?_
  refine x_get (D := (dC, dI)) (ci := 3) (v := .ref (q 0)) (C := RX3) (T := TX3) (N := 5) hx hb hts hinX3 hown hK hP 0 rfl rfl 2 (Nat.le_of_ble_eq_true rfl) hf28 rfl rfl dX3_seen_2 ?_
  refine x_get (D := (dC, dI)) (ci := 0) (v := .int (nI (n 2))) (C := RX0) (T := TX0) (N := 17) hx hb hts hinX0 hown hK hP 1 rfl rfl 2 (Nat.le_of_ble_eq_true rfl) hf94 rfl rfl dX3_seen_5 ?_
  refine roS_i (As := [.int b, .int (nI (n 2))]) (rest := []) ⟨hx, hb, hml, hown, hts⟩ (kX3_isBelow l dC dI b (n 2) _ ) (va_cwS 2 hts gX3_seen_X3_isBelow rfl rfl rfl hdX3_isBelow ⟨Nat.le_trans (Nat.le_of_ble_eq_true rfl) hRf, Nat.le_trans (Nat.le_of_ble_eq_true rfl) hRl⟩) (hK.sub [] rfl) (hP.sub [] rfl) rfl hl.1 rfl (Nat.le_of_ble_eq_true rfl) dX3_seen_8 ⟨Nat.zero_le _, Nat.zero_le _⟩ hP hS hA (fun H locs hP hS => ?_)
  refine x_ifb_ne (tgt := 16) hx hb dX3_seen_11 (by decide) (fun c11 => ?_) (fun c11 => ?_)
  · skip
    obtain ⟨j, hj, rfl⟩ := inB_t (by omega) c11
    have hxj : xn (nI j) = j := xn_nI (by omega)
    refine lv_aload_n hx hb dX3_seen_16 rfl (lv_at hl 0 rfl) ?_
    refine x_get (D := (dC, dI)) (ci := 3) (v := .ref (q 0)) (C := RX3) (T := TX3) (N := 5) hx hb hts hinX3 hown hK hP 0 rfl rfl 2 (Nat.le_of_ble_eq_true rfl) hf28 rfl rfl dX3_seen_17 ?_
    refine roV_i (As := []) (rest := []) ⟨hx, hb, hml, hown, hts⟩ (kX0_hasStatue l dC dI cI q n A X hW hR  _ ) (cwV 0 hts gX3_seen_X0_hasStatue rfl rfl rfl hdX0_hasStatue ⟨Nat.le_trans (Nat.le_of_ble_eq_true rfl) hRf, Nat.le_trans (Nat.le_of_ble_eq_true rfl) hRl⟩) (va_recv hK hP (ci := 0) (q0 := 1) rfl rfl) hK (hP.sub [1, 2, 3, 4, 5, 6, 7, 8, 9] rfl) rfl hl.1 rfl (Nat.le_of_ble_eq_true rfl) dX3_seen_20 ⟨Nat.zero_le _, Nat.zero_le _⟩ hP hS hA (fun H locs hP hS => ?_)
    refine x_ifb_eq (tgt := 44) hx hb dX3_seen_23 (by decide) (fun c23 => ?_) (fun c23 => ?_)
    · skip
      have hst : ¬ 0 < n 6 := of_decide_eq_false c23
      refine lv_bipush (v := -3) hx hb dX3_seen_44 rfl ?_
      exact hend _ _ _ _ _ (by simp [uSeen, c11, hst]) hS dX3_seen_46
    · skip
      have hst : 0 < n 6 := of_decide_eq_true c23
      refine lv_aload_n hx hb dX3_seen_26 rfl (lv_at hl 0 rfl) ?_
      refine x_get (D := (dC, dI)) (ci := 3) (v := .ref (q 0)) (C := RX3) (T := TX3) (N := 5) hx hb hts hinX3 hown hK hP 0 rfl rfl 2 (Nat.le_of_ble_eq_true rfl) hf28 rfl rfl dX3_seen_27 ?_
      refine lv_iload_n hx hb dX3_seen_30 rfl (lv_at hl 1 rfl) ?_
      refine lv_aload_n hx hb dX3_seen_31 rfl (lv_at hl 0 rfl) ?_
      refine x_get (D := (dC, dI)) (ci := 3) (v := .ref (q 0)) (C := RX3) (T := TX3) (N := 5) hx hb hts hinX3 hown hK hP 0 rfl rfl 2 (Nat.le_of_ble_eq_true rfl) hf28 rfl rfl dX3_seen_32 ?_
      refine x_get (D := (dC, dI)) (ci := 0) (v := .int (stI (n 6))) (C := RX0) (T := TX0) (N := 17) hx hb hts hinX0 hown hK hP 1 rfl rfl 15 (Nat.le_of_ble_eq_true rfl) hf114 rfl rfl dX3_seen_35 ?_
      refine x_top (stI_pos hst) ?_
      refine rsV_i (As := [.int (nI j), .int (nI (n 6 - 1))]) (rest := []) ⟨hx, hb, hml, hown, hts⟩ (kX0_partsSeen l dC dI cI q n A X hW hR tH j (n 6 - 1) _ (by omega) (by omega)) (cwV 2 hts gX3_seen_X0_partsSeen rfl rfl rfl hdX0_partsSeen ⟨Nat.le_trans (Nat.le_of_ble_eq_true rfl) hRf, Nat.le_trans (Nat.le_of_ble_eq_true rfl) hRl⟩) (va_recv hK hP (ci := 0) (q0 := 1) rfl rfl) hK (hP.sub [1, 2, 3, 4, 5, 6, 7, 8, 9] rfl) rfl hl.1 rfl (Nat.le_of_ble_eq_true rfl) dX3_seen_38 ⟨Nat.zero_le _, Nat.zero_le _⟩ hP hS hA hZT (fun H locs hP hS => ?_)
      refine lv_goto (tgt := 46) hx hb dX3_seen_41 (by decide) ?_
      exact hend _ _ _ _ _ (by simp [uSeen, c11, hxj, hst]) hS dX3_seen_46
  · skip
    refine lv_iconst (v := -1) hx hb dX3_seen_14 rfl ?_
    exact hend _ _ _ _ _ (by simp [uSeen, c11]) hS dX3_seen_15
set_option maxRecDepth 20000 in
theorem ggX3_whole_X0_hasStatue : GoodIn wsX3_whole wsX0_hasStatue := goodIn_r _ [6, 7, 55, 56, 57, 58, 59, 60, 61, 62, 63, 64, 65, 66, 67, 68, 69, 70, 71] (by decide +kernel) (by decide +kernel)
set_option maxRecDepth 20000 in
theorem gX3_whole_X0_hasStatue : GoodIn wsX3_whole (wsV RX3 120 RX0 yX0_hasStatue wsX0_hasStatue) := goodIn_app (goodIn_of _ (by decide +kernel)) ggX3_whole_X0_hasStatue
set_option maxRecDepth 20000 in
theorem ggX3_whole_X0_benchesThatSeeWhole : GoodIn wsX3_whole wsX0_benchesThatSeeWhole := goodIn_r _ [11, 12, 13, 14, 15, 16, 5, 17, 7, 18, 19, 20, 21, 22, 23, 24, 25, 26, 27, 28, 29, 30, 31, 32, 33, 34, 35, 36, 37, 38, 39, 40, 41, 42, 43, 44, 45, 46, 47, 48, 49, 55, 56, 57, 58, 59, 60, 61, 62, 63, 64, 65, 66, 67, 68, 69, 70, 71] (by decide +kernel) (by decide +kernel)
set_option maxRecDepth 20000 in
theorem gX3_whole_X0_benchesThatSeeWhole : GoodIn wsX3_whole (wsV RX3 126 RX0 yX0_benchesThatSeeWhole wsX0_benchesThatSeeWhole) := goodIn_app (goodIn_of _ (by decide +kernel)) ggX3_whole_X0_benchesThatSeeWhole
set_option maxHeartbeats 4000000 in
set_option maxRecDepth 100000 in
theorem kX3_whole (l : Launch) (dC : Nat → ClassId) (dI : Nat → Nat → Nat) (a r0 r1 : Nat) (tr fl : Int32) (cI : ClassId) (q n : Nat → Nat) (A : Nat → Nat → Nat) (X : Nat → Nat → Int32) (hW : WF n A) (hR : RG n A X) (sz : Nat) : Met l yX3_whole wsX3_whole ({ frames := 5, cells := 0, slots := 0, locals := 121 }) (roP [.ref a] sz (dC, dI) [(cI, .int)] ((a, .inr (3, [.ref r0, .ref r1, .ref (q 0), .int tr, .int fl])) :: wG cI q n X)) (roQi (uWhole n A) sz) 0 0 (va_A [] sz) := by
  refine ro_met_i (by decide) rfl (Nat.le_of_ble_eq_true rfl) ?_
  intro pp ee ss mm aa bb me cd RR QQ Z hx hb hml hown hts hRf hRl hP hK hA hS hend ls hl
  have hown : ss.vm.findClass RX3 = some mm.cls := hown
  have hRf : 5 ≤ RR.frames := hRf
  have hRl : 121 ≤ RR.locals := hRl
  have hl : lv_has ls 1 [(0, .ref a)] := hl
  obtain ⟨w0, w1, w2, w3, w4, w5, w6, w7, w8, wA0, wA1, wA2⟩ := id hW
  have wC : n 0 * n 1 ≤ 42 := Nat.mul_le_mul w0 w1
  have hf28 := hts (.fieldLink RX3 28 "StatueSquare" "ground" "LStatueSquare$Ground;") (List.mem_of_getElem? (i := 1) rfl)
  have hinX3 : ∀ w ∈ u_ws RX3 TX3 5, w ∈ wsX3_whole := fun _ h => List.mem_cons_of_mem _ (List.mem_append_left _ (List.mem_append_right _ h))
  refine lv_aload_n hx hb dX3_whole_0 rfl (lv_at hl 0 rfl) ?_
  refine x_get (D := (dC, dI)) (ci := 3) (v := .ref (q 0)) (C := RX3) (T := TX3) (N := 5) hx hb hts hinX3 hown hK hP 0 rfl rfl 2 (Nat.le_of_ble_eq_true rfl) hf28 rfl rfl dX3_whole_1 ?_
  refine roV_i (As := []) (rest := []) ⟨hx, hb, hml, hown, hts⟩ (kX0_hasStatue l dC dI cI q n A X hW hR  _ ) (cwV 0 hts gX3_whole_X0_hasStatue rfl rfl rfl hdX0_hasStatue ⟨Nat.le_trans (Nat.le_of_ble_eq_true rfl) hRf, Nat.le_trans (Nat.le_of_ble_eq_true rfl) hRl⟩) (va_recv hK hP (ci := 0) (q0 := 1) rfl rfl) hK (hP.sub [1, 2, 3, 4, 5, 6, 7, 8, 9] rfl) rfl hl.1 rfl (Nat.le_of_ble_eq_true rfl) dX3_whole_4 ⟨Nat.zero_le _, Nat.zero_le _⟩ hP hS hA (fun H locs hP hS => ?_)
  refine x_ifb_eq (tgt := 20) hx hb dX3_whole_7 (by decide) (fun c7 => ?_) (fun c7 => ?_)
  · skip
    have hst : ¬ 0 < n 6 := of_decide_eq_false c7
    refine lv_bipush (v := -3) hx hb dX3_whole_20 rfl ?_
    exact hend _ _ _ _ _ (by simp [uWhole, hst]) hS dX3_whole_22
  · skip
    have hst : 0 < n 6 := of_decide_eq_true c7
    refine lv_aload_n hx hb dX3_whole_10 rfl (lv_at hl 0 rfl) ?_
    refine x_get (D := (dC, dI)) (ci := 3) (v := .ref (q 0)) (C := RX3) (T := TX3) (N := 5) hx hb hts hinX3 hown hK hP 0 rfl rfl 2 (Nat.le_of_ble_eq_true rfl) hf28 rfl rfl dX3_whole_11 ?_
    refine roV_i (As := []) (rest := []) ⟨hx, hb, hml, hown, hts⟩ (kX0_benchesThatSeeWhole l dC dI cI q n A X hW hR  _ (by omega)) (cwV 0 hts gX3_whole_X0_benchesThatSeeWhole rfl rfl rfl hdX0_benchesThatSeeWhole ⟨Nat.le_trans (Nat.le_of_ble_eq_true rfl) hRf, Nat.le_trans (Nat.le_of_ble_eq_true rfl) hRl⟩) (va_recv hK hP (ci := 0) (q0 := 1) rfl rfl) hK (hP.sub [1, 2, 3, 4, 5, 6, 7, 8, 9] rfl) rfl hl.1 rfl (Nat.le_of_ble_eq_true rfl) dX3_whole_14 ⟨Nat.zero_le _, Nat.zero_le _⟩ hP hS hA (fun H locs hP hS => ?_)
    refine lv_goto (tgt := 22) hx hb dX3_whole_17 (by decide) ?_
    exact hend _ _ _ _ _ (by simp [uWhole, hst]) hS dX3_whole_22
set_option maxRecDepth 20000 in
theorem ggX3_hidden_X3_isBelow : GoodIn wsX3_hidden wsX3_isBelow := goodIn_r _ [6] (by decide +kernel) (by decide +kernel)
set_option maxRecDepth 20000 in
theorem gX3_hidden_X3_isBelow : GoodIn wsX3_hidden (va_wsS RX3 39 yX3_isBelow wsX3_isBelow) := goodIn_app (goodIn_of _ (by decide +kernel)) ggX3_hidden_X3_isBelow
set_option maxRecDepth 20000 in
theorem ggX3_hidden_X0_hasStatue : GoodIn wsX3_hidden wsX0_hasStatue := goodIn_r _ [11, 12, 55, 56, 57, 58, 59, 60, 61, 62, 63, 64, 65, 66, 67, 68, 69, 70, 71] (by decide +kernel) (by decide +kernel)
set_option maxRecDepth 20000 in
theorem gX3_hidden_X0_hasStatue : GoodIn wsX3_hidden (wsV RX3 120 RX0 yX0_hasStatue wsX0_hasStatue) := goodIn_app (goodIn_of _ (by decide +kernel)) ggX3_hidden_X0_hasStatue
set_option maxRecDepth 20000 in
theorem ggX3_hidden_X0_hiders : GoodIn wsX3_hidden wsX0_hiders := goodIn_r _ [16, 12, 17, 18, 19, 20, 21, 10, 22, 23, 24, 25, 26, 27, 28, 29, 30, 31, 32, 33, 34, 35, 36, 37, 38, 39, 40, 41, 42, 43, 44, 45, 46, 47, 48, 49, 55, 56, 57, 58, 59, 60, 61, 62, 63, 64, 65, 66, 67, 68, 69, 70, 71] (by decide +kernel) (by decide +kernel)
set_option maxRecDepth 20000 in
theorem gX3_hidden_X0_hiders : GoodIn wsX3_hidden (wsV RX3 130 RX0 yX0_hiders wsX0_hiders) := goodIn_app (goodIn_of _ (by decide +kernel)) ggX3_hidden_X0_hiders
set_option maxHeartbeats 4000000 in
set_option maxRecDepth 100000 in
theorem kX3_hidden (l : Launch) (dC : Nat → ClassId) (dI : Nat → Nat → Nat) (a r0 r1 : Nat) (tr fl : Int32) (cI : ClassId) (q n : Nat → Nat) (A : Nat → Nat → Nat) (X : Nat → Nat → Int32) (hW : WF n A) (hR : RG n A X) (b : Int32) (sz : Nat) : Met l yX3_hidden wsX3_hidden ({ frames := 4, cells := 0, slots := 0, locals := 98 }) (roP [.ref a, .int b] sz (dC, dI) [(cI, .int)] ((a, .inr (3, [.ref r0, .ref r1, .ref (q 0), .int tr, .int fl])) :: wG cI q n X)) (roQi (uHidden n A b) sz) 0 0 (va_A [] sz) := by
  refine ro_met_i (by decide) rfl (Nat.le_of_ble_eq_true rfl) ?_
  intro pp ee ss mm aa bb me cd RR QQ Z hx hb hml hown hts hRf hRl hP hK hA hS hend ls hl
  have hown : ss.vm.findClass RX3 = some mm.cls := hown
  have hRf : 4 ≤ RR.frames := hRf
  have hRl : 98 ≤ RR.locals := hRl
  have hl : lv_has ls 2 [(0, .ref a), (1, .int b)] := hl
  obtain ⟨w0, w1, w2, w3, w4, w5, w6, w7, w8, wA0, wA1, wA2⟩ := id hW
  have wC : n 0 * n 1 ≤ 42 := Nat.mul_le_mul w0 w1
  have hf28 := hts (.fieldLink RX3 28 "StatueSquare" "ground" "LStatueSquare$Ground;") (List.mem_of_getElem? (i := 1) rfl)
  have hinX3 : ∀ w ∈ u_ws RX3 TX3 5, w ∈ wsX3_hidden := fun _ h => List.mem_cons_of_mem _ (List.mem_append_left _ (List.mem_append_right _ h))
  have hf94 := hts (.fieldLink RX3 94 "StatueSquare$Ground" "benchCount" "I") (List.mem_of_getElem? (i := 2) rfl)
  have hinX0 : ∀ w ∈ u_ws RX0 TX0 17, w ∈ wsX3_hidden := fun _ h => List.mem_cons_of_mem _ (List.mem_append_right _ h)
  refine lv_iload_n hx hb dX3_hidden_0 rfl (lv_at hl 1 rfl) ?_
  refine lv_aload_n hx hb dX3_hidden_1 rfl (lv_at hl 0 rfl) ?_
  refine x_get (D := (dC, dI)) (ci := 3) (v := .ref (q 0)) (C := RX3) (T := TX3) (N := 5) hx hb hts hinX3 hown hK hP 0 rfl rfl 2 (Nat.le_of_ble_eq_true rfl) hf28 rfl rfl dX3_hidden_2 ?_
  refine x_get (D := (dC, dI)) (ci := 0) (v := .int (nI (n 2))) (C := RX0) (T := TX0) (N := 17) hx hb hts hinX0 hown hK hP 1 rfl rfl 2 (Nat.le_of_ble_eq_true rfl) hf94 rfl rfl dX3_hidden_5 ?_
  refine roS_i (As := [.int b, .int (nI (n 2))]) (rest := []) ⟨hx, hb, hml, hown, hts⟩ (kX3_isBelow l dC dI b (n 2) _ ) (va_cwS 2 hts gX3_hidden_X3_isBelow rfl rfl rfl hdX3_isBelow ⟨Nat.le_trans (Nat.le_of_ble_eq_true rfl) hRf, Nat.le_trans (Nat.le_of_ble_eq_true rfl) hRl⟩) (hK.sub [] rfl) (hP.sub [] rfl) rfl hl.1 rfl (Nat.le_of_ble_eq_true rfl) dX3_hidden_8 ⟨Nat.zero_le _, Nat.zero_le _⟩ hP hS hA (fun H locs hP hS => ?_)
  refine x_ifb_ne (tgt := 16) hx hb dX3_hidden_11 (by decide) (fun c11 => ?_) (fun c11 => ?_)
  · skip
    obtain ⟨j, hj, rfl⟩ := inB_t (by omega) c11
    have hxj : xn (nI j) = j := xn_nI (by omega)
    refine lv_aload_n hx hb dX3_hidden_16 rfl (lv_at hl 0 rfl) ?_
    refine x_get (D := (dC, dI)) (ci := 3) (v := .ref (q 0)) (C := RX3) (T := TX3) (N := 5) hx hb hts hinX3 hown hK hP 0 rfl rfl 2 (Nat.le_of_ble_eq_true rfl) hf28 rfl rfl dX3_hidden_17 ?_
    refine roV_i (As := []) (rest := []) ⟨hx, hb, hml, hown, hts⟩ (kX0_hasStatue l dC dI cI q n A X hW hR  _ ) (cwV 0 hts gX3_hidden_X0_hasStatue rfl rfl rfl hdX0_hasStatue ⟨Nat.le_trans (Nat.le_of_ble_eq_true rfl) hRf, Nat.le_trans (Nat.le_of_ble_eq_true rfl) hRl⟩) (va_recv hK hP (ci := 0) (q0 := 1) rfl rfl) hK (hP.sub [1, 2, 3, 4, 5, 6, 7, 8, 9] rfl) rfl hl.1 rfl (Nat.le_of_ble_eq_true rfl) dX3_hidden_20 ⟨Nat.zero_le _, Nat.zero_le _⟩ hP hS hA (fun H locs hP hS => ?_)
    refine x_ifb_eq (tgt := 37) hx hb dX3_hidden_23 (by decide) (fun c23 => ?_) (fun c23 => ?_)
    · skip
      have hst : ¬ 0 < n 6 := of_decide_eq_false c23
      refine lv_bipush (v := -3) hx hb dX3_hidden_37 rfl ?_
      exact hend _ _ _ _ _ (by simp [uHidden, c11, hst]) hS dX3_hidden_39
    · skip
      have hst : 0 < n 6 := of_decide_eq_true c23
      refine lv_aload_n hx hb dX3_hidden_26 rfl (lv_at hl 0 rfl) ?_
      refine x_get (D := (dC, dI)) (ci := 3) (v := .ref (q 0)) (C := RX3) (T := TX3) (N := 5) hx hb hts hinX3 hown hK hP 0 rfl rfl 2 (Nat.le_of_ble_eq_true rfl) hf28 rfl rfl dX3_hidden_27 ?_
      refine lv_iload_n hx hb dX3_hidden_30 rfl (lv_at hl 1 rfl) ?_
      refine roV_i (As := [.int (nI j)]) (rest := []) ⟨hx, hb, hml, hown, hts⟩ (kX0_hiders l dC dI cI q n A X hW hR j _ (by omega) (by omega)) (cwV 1 hts gX3_hidden_X0_hiders rfl rfl rfl hdX0_hiders ⟨Nat.le_trans (Nat.le_of_ble_eq_true rfl) hRf, Nat.le_trans (Nat.le_of_ble_eq_true rfl) hRl⟩) (va_recv hK hP (ci := 0) (q0 := 1) rfl rfl) hK (hP.sub [1, 2, 3, 4, 5, 6, 7, 8, 9] rfl) rfl hl.1 rfl (Nat.le_of_ble_eq_true rfl) dX3_hidden_31 ⟨Nat.zero_le _, Nat.zero_le _⟩ hP hS hA (fun H locs hP hS => ?_)
      refine lv_goto (tgt := 39) hx hb dX3_hidden_34 (by decide) ?_
      exact hend _ _ _ _ _ (by simp [uHidden, c11, hxj, hst]) hS dX3_hidden_39
  · skip
    refine lv_iconst (v := -1) hx hb dX3_hidden_14 rfl ?_
    exact hend _ _ _ _ _ (by simp [uHidden, c11]) hS dX3_hidden_15
theorem hdX0_partsSeenInAll : yX0_partsSeenInAll.cls = RX0 ∧ yX0_partsSeenInAll.cls ≠ "java/lang/invoke/MethodHandle" ∧ yX0_partsSeenInAll.cls ≠ "java/lang/invoke/VarHandle" ∧ (parseMethodDescriptor yX0_partsSeenInAll.desc).map (fun d => d.parameters.length) = some 0 := by decide +kernel
theorem hdX3_greatestDivisor : yX3_greatestDivisor.cls ≠ "java/lang/invoke/MethodHandle" ∧ yX3_greatestDivisor.cls ≠ "java/lang/invoke/VarHandle" ∧ (parseMethodDescriptor yX3_greatestDivisor.desc).map (fun d => d.parameters.length) = some 2 := by decide +kernel
set_option maxRecDepth 20000 in
theorem ggX3_sight_X3_isBelow : GoodIn wsX3_sight wsX3_isBelow := goodIn_r _ [11] (by decide +kernel) (by decide +kernel)
set_option maxRecDepth 20000 in
theorem gX3_sight_X3_isBelow : GoodIn wsX3_sight (va_wsS RX3 39 yX3_isBelow wsX3_isBelow) := goodIn_app (goodIn_of _ (by decide +kernel)) ggX3_sight_X3_isBelow
set_option maxRecDepth 20000 in
theorem ggX3_sight_X0_hasStatue : GoodIn wsX3_sight wsX0_hasStatue := goodIn_r _ [16, 17, 73, 74, 75, 76, 77, 78, 79, 80, 81, 82, 83, 84, 85, 86, 87, 88, 89] (by decide +kernel) (by decide +kernel)
set_option maxRecDepth 20000 in
theorem gX3_sight_X0_hasStatue : GoodIn wsX3_sight (wsV RX3 120 RX0 yX0_hasStatue wsX0_hasStatue) := goodIn_app (goodIn_of _ (by decide +kernel)) ggX3_sight_X0_hasStatue
set_option maxRecDepth 20000 in
theorem ggX3_sight_X0_partsSeenInAll : GoodIn wsX3_sight wsX0_partsSeenInAll := goodIn_r _ [21, 22, 17, 23, 24, 25, 15, 26, 27, 28, 29, 30, 31, 32, 33, 34, 35, 36, 37, 38, 39, 40, 41, 42, 6, 43, 44, 45, 5, 7, 46, 47, 48, 49, 50, 51, 52, 53, 54, 55, 56, 57, 58, 59, 60, 61, 62, 63, 64, 73, 74, 75, 76, 77, 78, 79, 80, 81, 82, 83, 84, 85, 86, 87, 88, 89] (by decide +kernel) (by decide +kernel)
set_option maxRecDepth 20000 in
theorem gX3_sight_X0_partsSeenInAll : GoodIn wsX3_sight (wsV RX3 135 RX0 yX0_partsSeenInAll wsX0_partsSeenInAll) := goodIn_app (goodIn_of _ (by decide +kernel)) ggX3_sight_X0_partsSeenInAll
set_option maxRecDepth 20000 in
theorem ggX3_sight_X3_greatestDivisor : GoodIn wsX3_sight wsX3_greatestDivisor := goodIn_r _ [67] (by decide +kernel) (by decide +kernel)
set_option maxRecDepth 20000 in
theorem gX3_sight_X3_greatestDivisor : GoodIn wsX3_sight (va_wsS RX3 143 yX3_greatestDivisor wsX3_greatestDivisor) := goodIn_app (goodIn_of _ (by decide +kernel)) ggX3_sight_X3_greatestDivisor
set_option maxHeartbeats 4000000 in
set_option maxRecDepth 100000 in
theorem kX3_sight (l : Launch) (dC : Nat → ClassId) (dI : Nat → Nat → Nat) (a r0 r1 : Nat) (tr fl : Int32) (cI : ClassId) (q n : Nat → Nat) (A : Nat → Nat → Nat) (X : Nat → Nat → Int32) (hW : WF n A) (hR : RG n A X) (tH : Nat) (w : Int32) (sz : Nat) : Met l yX3_sight wsX3_sight ({ frames := 5, cells := 0, slots := 0, locals := 123 }) (rsP tH [.ref a, .int w] sz (dC, dI) [(cI, .int)] ((a, .inr (3, [.ref r0, .ref r1, .ref (q 0), .int tr, .int fl])) :: wG cI q n X)) (roQl (uSight n A w) sz) 0 0 (va_A [] sz) := by
  refine rs_met_l (by decide) rfl (Nat.le_of_ble_eq_true rfl) ?_
  intro pp ee ss mm aa bb me cd RR QQ Z hx hb hml hown hts hRf hRl hP hK hA hS hZT hend ls hl
  have hown : ss.vm.findClass RX3 = some mm.cls := hown
  have hRf : 5 ≤ RR.frames := hRf
  have hRl : 123 ≤ RR.locals := hRl
  have hl : lv_has ls 4 [(0, .ref a), (1, .int w)] := hl
  obtain ⟨w0, w1, w2, w3, w4, w5, w6, w7, w8, wA0, wA1, wA2⟩ := id hW
  have wC : n 0 * n 1 ≤ 42 := Nat.mul_le_mul w0 w1
  have hal := sAll_le (A := A) w2
  have hlo : sLow n ≤ 48 := by unfold sLow; omega
  have hlo0 : 0 < sLow n := by unfold sLow; omega
  have hk133 := hts (.constantLong RX3 133 (-9223372036854775808)) (List.mem_of_getElem? (i := 2) rfl)
  have hf28 := hts (.fieldLink RX3 28 "StatueSquare" "ground" "LStatueSquare$Ground;") (List.mem_of_getElem? (i := 1) rfl)
  have hinX3 : ∀ w ∈ u_ws RX3 TX3 5, w ∈ wsX3_sight := fun _ h => List.mem_cons_of_mem _ (List.mem_append_left _ (List.mem_append_right _ h))
  have hf94 := hts (.fieldLink RX3 94 "StatueSquare$Ground" "benchCount" "I") (List.mem_of_getElem? (i := 3) rfl)
  have hinX0 : ∀ w ∈ u_ws RX0 TX0 17, w ∈ wsX3_sight := fun _ h => List.mem_cons_of_mem _ (List.mem_append_right _ h)
  have hl138 := hts (.methodLink RX3 138 Lib.Math.max.name) (List.mem_of_getElem? (i := 4) rfl)
  have hsmax := hts (.static Lib.Math.max.name) (List.mem_of_getElem? (i := 5) rfl)
  have hiMath := hts (.initialized "java/lang/Math") (List.mem_of_getElem? (i := 6) rfl)
  have hcmax := hts (.code Lib.Math.max.name Lib.Math.max.code 2 (some .int)) (List.mem_of_getElem? (i := 7) rfl)
  refine lv_iload_n hx hb dX3_sight_0 rfl (lv_at hl 1 rfl) ?_
  refine lv_iconst (v := nI 2) hx hb dX3_sight_1 rfl ?_
  refine roS_i (As := [.int w, .int (nI 2)]) (rest := []) ⟨hx, hb, hml, hown, hts⟩ (kX3_isBelow l dC dI w 2 _ ) (va_cwS 2 hts gX3_sight_X3_isBelow rfl rfl rfl hdX3_isBelow ⟨Nat.le_trans (Nat.le_of_ble_eq_true rfl) hRf, Nat.le_trans (Nat.le_of_ble_eq_true rfl) hRl⟩) (hK.sub [] rfl) (hP.sub [] rfl) rfl hl.1 rfl (Nat.le_of_ble_eq_true rfl) dX3_sight_2 ⟨Nat.zero_le _, Nat.zero_le _⟩ hP hS hA (fun H locs hP hS => ?_)
  refine x_ifb_eq (tgt := 18) hx hb dX3_sight_5 (by decide) (fun c5 => ?_) (fun c5 => ?_)
  · skip
    refine lv_ldc2 hx hb hown hk133 dX3_sight_18 ?_
    exact hend _ _ _ _ _ (by first | (simp [uSight, c5, hst]; rfl) | (simp [uSight, c5]; rfl)) hS dX3_sight_21
  · skip
    refine lv_aload_n hx hb dX3_sight_8 rfl (lv_at hl 0 rfl) ?_
    refine x_get (D := (dC, dI)) (ci := 3) (v := .ref (q 0)) (C := RX3) (T := TX3) (N := 5) hx hb hts hinX3 hown hK hP 0 rfl rfl 2 (Nat.le_of_ble_eq_true rfl) hf28 rfl rfl dX3_sight_9 ?_
    refine roV_i (As := []) (rest := []) ⟨hx, hb, hml, hown, hts⟩ (kX0_hasStatue l dC dI cI q n A X hW hR  _ ) (cwV 0 hts gX3_sight_X0_hasStatue rfl rfl rfl hdX0_hasStatue ⟨Nat.le_trans (Nat.le_of_ble_eq_true rfl) hRf, Nat.le_trans (Nat.le_of_ble_eq_true rfl) hRl⟩) (va_recv hK hP (ci := 0) (q0 := 1) rfl rfl) hK (hP.sub [1, 2, 3, 4, 5, 6, 7, 8, 9] rfl) rfl hl.1 rfl (Nat.le_of_ble_eq_true rfl) dX3_sight_12 ⟨Nat.zero_le _, Nat.zero_le _⟩ hP hS hA (fun H locs hP hS => ?_)
    refine x_ifb_ne (tgt := 22) hx hb dX3_sight_15 (by decide) (fun c15 => ?_) (fun c15 => ?_)
    · skip
      have hst : 0 < n 6 := of_decide_eq_true c15
      refine lv_aload_n hx hb dX3_sight_22 rfl (lv_at hl 0 rfl) ?_
      refine x_get (D := (dC, dI)) (ci := 3) (v := .ref (q 0)) (C := RX3) (T := TX3) (N := 5) hx hb hts hinX3 hown hK hP 0 rfl rfl 2 (Nat.le_of_ble_eq_true rfl) hf28 rfl rfl dX3_sight_23 ?_
      refine rsV_i (As := []) (rest := []) ⟨hx, hb, hml, hown, hts⟩ (kX0_partsSeenInAll l dC dI cI q n A X hW hR tH _ (by omega)) (cwV 0 hts gX3_sight_X0_partsSeenInAll rfl rfl rfl hdX0_partsSeenInAll ⟨Nat.le_trans (Nat.le_of_ble_eq_true rfl) hRf, Nat.le_trans (Nat.le_of_ble_eq_true rfl) hRl⟩) (va_recv hK hP (ci := 0) (q0 := 1) rfl rfl) hK (hP.sub [1, 2, 3, 4, 5, 6, 7, 8, 9] rfl) rfl hl.1 rfl (Nat.le_of_ble_eq_true rfl) dX3_sight_26 ⟨Nat.zero_le _, Nat.zero_le _⟩ hP hS hA hZT (fun H locs hP hS => ?_)
      refine lv_istore_n (lv' := [(2, .int (nI (sAll n A))), (0, .ref a), (1, .int w)]) hx hb dX3_sight_29 rfl hl (by decide) rfl (fun ls hl => ?_)
      refine lv_iconst (v := nI 1) hx hb dX3_sight_30 rfl ?_
      refine lv_iconst (v := nI 4) hx hb dX3_sight_31 rfl ?_
      refine lv_aload_n hx hb dX3_sight_32 rfl (lv_at hl 1 rfl) ?_
      refine x_get (D := (dC, dI)) (ci := 3) (v := .ref (q 0)) (C := RX3) (T := TX3) (N := 5) hx hb hts hinX3 hown hK hP 0 rfl rfl 2 (Nat.le_of_ble_eq_true rfl) hf28 rfl rfl dX3_sight_33 ?_
      refine x_get (D := (dC, dI)) (ci := 0) (v := .int (nI (n 2))) (C := RX0) (T := TX0) (N := 17) hx hb hts hinX0 hown hK hP 1 rfl rfl 2 (Nat.le_of_ble_eq_true rfl) hf94 rfl rfl dX3_sight_36 ?_
      refine x_imul hx hb dX3_sight_39 ?_
      refine va_mmax hx hb (hml.trans hl.1.symm) hown hl138 hsmax hiMath hcmax (Nat.le_trans (Nat.le_of_ble_eq_true rfl) hRf) (Nat.le_trans (Nat.le_of_ble_eq_true rfl) hRl) (Nat.zero_le _) (Nat.zero_le _) dX3_sight_40 ?_
      refine x_top (y := (nI (sLow n))) (by rw [max_nI (by omega) (by omega)]; rfl) ?_
      refine lv_istore_n (lv' := [(3, .int (nI (sLow n))), (2, .int (nI (sAll n A))), (0, .ref a), (1, .int w)]) hx hb dX3_sight_43 rfl hl (by decide) rfl (fun ls hl => ?_)
      refine lv_iload_n hx hb dX3_sight_44 rfl (lv_at hl 3 rfl) ?_
      refine lv_if_ne (tgt := 52) hx hb dX3_sight_45 (by decide) (fun c45 => ?_) (fun c45 => ?_)
      · skip
        refine lv_iload_n hx hb dX3_sight_52 rfl (lv_at hl 0 rfl) ?_
        refine x_top (y := nI (if w = 0 then sAll n A else sLow n)) (by simp [c45]) ?_
        refine lv_iload_n hx hb dX3_sight_53 rfl (lv_at hl 1 rfl) ?_
        refine lv_iload_n hx hb dX3_sight_54 rfl (lv_at hl 0 rfl) ?_
        refine roS_i (As := [.int (nI (sAll n A)), .int (nI (sLow n))]) (rest := [.int (nI (if w = 0 then sAll n A else sLow n))]) ⟨hx, hb, hml, hown, hts⟩ (kX3_greatestDivisor l dC dI (sAll n A) (sLow n) _ (by omega) (by omega) hlo0) (va_cwS 2 hts gX3_sight_X3_greatestDivisor rfl rfl rfl hdX3_greatestDivisor ⟨Nat.le_trans (Nat.le_of_ble_eq_true rfl) hRf, Nat.le_trans (Nat.le_of_ble_eq_true rfl) hRl⟩) (hK.sub [] rfl) (hP.sub [] rfl) rfl hl.1 rfl (Nat.le_of_ble_eq_true rfl) dX3_sight_55 ⟨Nat.zero_le _, Nat.zero_le _⟩ hP hS hA (fun H locs hP hS => ?_)
        refine x_idiv hx hb (by split <;> omega) (Nat.gcd_pos_of_pos_right _ hlo0) (Nat.lt_of_le_of_lt (Nat.gcd_le_right _ hlo0) (by omega)) dX3_sight_58 ?_
        refine lv_i2l hx hb dX3_sight_59 rfl ?_
        exact hend _ _ _ _ _ (by simp [uSight, c5, hst]) hS dX3_sight_60
      · skip
        refine lv_iload_n hx hb dX3_sight_48 rfl (lv_at hl 1 rfl) ?_
        refine lv_goto (tgt := 53) hx hb dX3_sight_49 (by decide) ?_
        refine x_top (y := nI (if w = 0 then sAll n A else sLow n)) (by simp [c45]) ?_
        refine lv_iload_n hx hb dX3_sight_53 rfl (lv_at hl 1 rfl) ?_
        refine lv_iload_n hx hb dX3_sight_54 rfl (lv_at hl 0 rfl) ?_
        refine roS_i (As := [.int (nI (sAll n A)), .int (nI (sLow n))]) (rest := [.int (nI (if w = 0 then sAll n A else sLow n))]) ⟨hx, hb, hml, hown, hts⟩ (kX3_greatestDivisor l dC dI (sAll n A) (sLow n) _ (by omega) (by omega) hlo0) (va_cwS 2 hts gX3_sight_X3_greatestDivisor rfl rfl rfl hdX3_greatestDivisor ⟨Nat.le_trans (Nat.le_of_ble_eq_true rfl) hRf, Nat.le_trans (Nat.le_of_ble_eq_true rfl) hRl⟩) (hK.sub [] rfl) (hP.sub [] rfl) rfl hl.1 rfl (Nat.le_of_ble_eq_true rfl) dX3_sight_55 ⟨Nat.zero_le _, Nat.zero_le _⟩ hP hS hA (fun H locs hP hS => ?_)
        refine x_idiv hx hb (by split <;> omega) (Nat.gcd_pos_of_pos_right _ hlo0) (Nat.lt_of_le_of_lt (Nat.gcd_le_right _ hlo0) (by omega)) dX3_sight_58 ?_
        refine lv_i2l hx hb dX3_sight_59 rfl ?_
        exact hend _ _ _ _ _ (by simp [uSight, c5, hst]) hS dX3_sight_60
    · skip
      have hst : ¬ 0 < n 6 := of_decide_eq_false c15
      refine lv_ldc2 hx hb hown hk133 dX3_sight_18 ?_
      exact hend _ _ _ _ _ (by first | (simp [uSight, c5, hst]; rfl) | (simp [uSight, c5]; rfl)) hS dX3_sight_21
end
section
theorem zz_1 : True := trivial
end
