/-! ===== BEGIN printed: names, fields, word lists, decode rows ===== -/
def RX0 : String := "BagHall"
def TX0 : u_T := fun k => match k with
  | 0 => ("BagHall", "now", "I", false)
  | 1 => ("BagHall", "flightCount", "I", false)
  | 2 => ("BagHall", "departures", "[I", true)
  | 3 => ("BagHall", "laterals", "[I", true)
  | 4 => ("BagHall", "boarded", "[Z", true)
  | 5 => ("BagHall", "bagCount", "I", false)
  | 6 => ("BagHall", "bagFlights", "[I", true)
  | 7 => ("BagHall", "bagRiders", "[I", true)
  | 8 => ("BagHall", "onPurpose", "[Z", true)
  | 9 => ("BagHall", "bagPlaces", "[I", true)
  | 10 => ("BagHall", "lastScans", "[I", true)
  | 11 => ("BagHall", "cameAt", "[I", true)
  | 12 => ("BagHall", "bagsAt", "[I", true)
  | 13 => ("BagHall", "scanCount", "I", false)
  | 14 => ("BagHall", "scanBags", "[I", true)
  | 15 => ("BagHall", "scanPlaces", "[I", true)
  | _ => ("BagHall", "scanTimes", "[I", true)
def tyX0 : Nat → FieldType := fun k => match k with
  | 0 => .int
  | 1 => .int
  | 2 => .array .int
  | 3 => .array .int
  | 4 => .array .boolean
  | 5 => .int
  | 6 => .array .int
  | 7 => .array .int
  | 8 => .array .boolean
  | 9 => .array .int
  | 10 => .array .int
  | 11 => .array .int
  | 12 => .array .int
  | 13 => .int
  | 14 => .array .int
  | 15 => .array .int
  | _ => .array .int
abbrev wsX00 : List Cond := u_ws RX0 TX0 17
theorem nmX0 : ∀ a, a < 17 → ∀ b, b < 17 → a ≠ b → (TX0 a).2.1 ≠ (TX0 b).2.1 := by decide +kernel
theorem tyX0_ok : ∀ k, k < 17 → parseFieldDescriptor (TX0 k).2.2.1 = some (tyX0 k) := by decide +kernel
abbrev cX0_init : ByteArray := prog_1_method_1_code
def yX0_init : MethodName := ⟨RX0, "<init>", "()V"⟩
abbrev cX0_addFlight : ByteArray := prog_1_method_2_code
def yX0_addFlight : MethodName := ⟨RX0, "addFlight", "(I)I"⟩
abbrev cX0_board : ByteArray := prog_1_method_3_code
def yX0_board : MethodName := ⟨RX0, "board", "(IZ)Z"⟩
abbrev cX0_pass : ByteArray := prog_1_method_4_code
def yX0_pass : MethodName := ⟨RX0, "pass", "(I)I"⟩
abbrev cX0_time : ByteArray := prog_1_method_5_code
def yX0_time : MethodName := ⟨RX0, "time", "()I"⟩
abbrev cX0_lateralOf : ByteArray := prog_1_method_6_code
def yX0_lateralOf : MethodName := ⟨RX0, "lateralOf", "(I)I"⟩
abbrev cX0_checkIn : ByteArray := prog_1_method_7_code
def yX0_checkIn : MethodName := ⟨RX0, "checkIn", "(II)I"⟩
abbrev cX0_transfer : ByteArray := prog_1_method_8_code
def yX0_transfer : MethodName := ⟨RX0, "transfer", "(II)I"⟩
abbrev cX0_decide : ByteArray := prog_1_method_9_code
def yX0_decide : MethodName := ⟨RX0, "decide", "(IZ)I"⟩
abbrev cX0_letGo : ByteArray := prog_1_method_10_code
def yX0_letGo : MethodName := ⟨RX0, "letGo", "(I)I"⟩
abbrev cX0_load : ByteArray := prog_1_method_11_code
def yX0_load : MethodName := ⟨RX0, "load", "(I)I"⟩
abbrev cX0_offload : ByteArray := prog_1_method_12_code
def yX0_offload : MethodName := ⟨RX0, "offload", "(I)I"⟩
abbrev cX0_sendOn : ByteArray := prog_1_method_13_code
def yX0_sendOn : MethodName := ⟨RX0, "sendOn", "(II)I"⟩
abbrev cX0_bags : ByteArray := prog_1_method_14_code
def yX0_bags : MethodName := ⟨RX0, "bags", "()I"⟩
abbrev cX0_placeOf : ByteArray := prog_1_method_15_code
def yX0_placeOf : MethodName := ⟨RX0, "placeOf", "(I)I"⟩
abbrev cX0_placeByScans : ByteArray := prog_1_method_16_code
def yX0_placeByScans : MethodName := ⟨RX0, "placeByScans", "(II)I"⟩
abbrev cX0_flightOf : ByteArray := prog_1_method_17_code
def yX0_flightOf : MethodName := ⟨RX0, "flightOf", "(I)I"⟩
abbrev cX0_count : ByteArray := prog_1_method_18_code
def yX0_count : MethodName := ⟨RX0, "count", "(I)I"⟩
abbrev cX0_atLateral : ByteArray := prog_1_method_19_code
def yX0_atLateral : MethodName := ⟨RX0, "atLateral", "(I)I"⟩
abbrev cX0_unmatched : ByteArray := prog_1_method_20_code
def yX0_unmatched : MethodName := ⟨RX0, "unmatched", "(I)I"⟩
abbrev cX0_untilClose : ByteArray := prog_1_method_21_code
def yX0_untilClose : MethodName := ⟨RX0, "untilClose", "(I)I"⟩
abbrev cX0_scans : ByteArray := prog_1_method_22_code
def yX0_scans : MethodName := ⟨RX0, "scans", "()I"⟩
abbrev cX0_bagOfScan : ByteArray := prog_1_method_23_code
def yX0_bagOfScan : MethodName := ⟨RX0, "bagOfScan", "(I)I"⟩
abbrev cX0_placeOfScan : ByteArray := prog_1_method_24_code
def yX0_placeOfScan : MethodName := ⟨RX0, "placeOfScan", "(I)I"⟩
abbrev cX0_requireFlight : ByteArray := prog_1_method_25_code
def yX0_requireFlight : MethodName := ⟨RX0, "requireFlight", "(I)V"⟩
abbrev cX0_requireRider : ByteArray := prog_1_method_26_code
def yX0_requireRider : MethodName := ⟨RX0, "requireRider", "(I)V"⟩
abbrev cX0_requireBag : ByteArray := prog_1_method_27_code
def yX0_requireBag : MethodName := ⟨RX0, "requireBag", "(I)V"⟩
abbrev cX0_requireScan : ByteArray := prog_1_method_28_code
def yX0_requireScan : MethodName := ⟨RX0, "requireScan", "(I)V"⟩
abbrev cX0_requirePlace : ByteArray := prog_1_method_29_code
def yX0_requirePlace : MethodName := ⟨RX0, "requirePlace", "(II)V"⟩
abbrev cX0_requireNotDeparted : ByteArray := prog_1_method_30_code
def yX0_requireNotDeparted : MethodName := ⟨RX0, "requireNotDeparted", "(I)V"⟩
abbrev cX0_lowestFreeLateral : ByteArray := prog_1_method_31_code
def yX0_lowestFreeLateral : MethodName := ⟨RX0, "lowestFreeLateral", "(I)I"⟩
abbrev cX0_isFree : ByteArray := prog_1_method_32_code
def yX0_isFree : MethodName := ⟨RX0, "isFree", "(II)Z"⟩
abbrev cX0_closing : ByteArray := prog_1_method_33_code
def yX0_closing : MethodName := ⟨RX0, "closing", "(I)I"⟩
abbrev cX0_hasClosed : ByteArray := prog_1_method_34_code
def yX0_hasClosed : MethodName := ⟨RX0, "hasClosed", "(I)Z"⟩
abbrev cX0_hasOpened : ByteArray := prog_1_method_35_code
def yX0_hasOpened : MethodName := ⟨RX0, "hasOpened", "(I)Z"⟩
abbrev cX0_loadedBags : ByteArray := prog_1_method_36_code
def yX0_loadedBags : MethodName := ⟨RX0, "loadedBags", "(I)I"⟩
abbrev cX0_isLoadedFor : ByteArray := prog_1_method_37_code
def yX0_isLoadedFor : MethodName := ⟨RX0, "isLoadedFor", "(II)Z"⟩
abbrev cX0_mayFly : ByteArray := prog_1_method_38_code
def yX0_mayFly : MethodName := ⟨RX0, "mayFly", "(I)Z"⟩
abbrev cX0_decisionTime : ByteArray := prog_1_method_39_code
def yX0_decisionTime : MethodName := ⟨RX0, "decisionTime", "(I)I"⟩
abbrev cX0_nextLevel : ByteArray := prog_1_method_40_code
def yX0_nextLevel : MethodName := ⟨RX0, "nextLevel", "(I)I"⟩
abbrev cX0_takeIn : ByteArray := prog_1_method_41_code
def yX0_takeIn : MethodName := ⟨RX0, "takeIn", "(II)I"⟩
abbrev cX0_route : ByteArray := prog_1_method_42_code
def yX0_route : MethodName := ⟨RX0, "route", "(I)V"⟩
abbrev cX0_routeTo : ByteArray := prog_1_method_43_code
def yX0_routeTo : MethodName := ⟨RX0, "routeTo", "(I)I"⟩
abbrev cX0_bring : ByteArray := prog_1_method_44_code
def yX0_bring : MethodName := ⟨RX0, "bring", "(II)V"⟩
abbrev cX0_scan : ByteArray := prog_1_method_45_code
def yX0_scan : MethodName := ⟨RX0, "scan", "(II)V"⟩
abbrev cX0_passOneMinute : ByteArray := prog_1_method_46_code
def yX0_passOneMinute : MethodName := ⟨RX0, "passOneMinute", "()V"⟩
abbrev cX0_emptyStore : ByteArray := prog_1_method_47_code
def yX0_emptyStore : MethodName := ⟨RX0, "emptyStore", "()V"⟩
abbrev cX0_firstToLeaveStore : ByteArray := prog_1_method_48_code
def yX0_firstToLeaveStore : MethodName := ⟨RX0, "firstToLeaveStore", "()I"⟩
abbrev cX0_routeLoop : ByteArray := prog_1_method_49_code
def yX0_routeLoop : MethodName := ⟨RX0, "routeLoop", "()V"⟩
abbrev cX0_depart : ByteArray := prog_1_method_50_code
def yX0_depart : MethodName := ⟨RX0, "depart", "()V"⟩
abbrev cX0_settleBags : ByteArray := prog_1_method_51_code
def yX0_settleBags : MethodName := ⟨RX0, "settleBags", "(I)V"⟩
abbrev cX0_settle : ByteArray := prog_1_method_52_code
def yX0_settle : MethodName := ⟨RX0, "settle", "(I)V"⟩
def RX1 : String := "BagHallModel"
def TX1 : u_T := fun k => match k with
  | _ => ("", "", "", false)
def tyX1 : Nat → FieldType := fun k => match k with
  | _ => .int
abbrev wsX10 : List Cond := u_ws RX1 TX1 0
theorem nmX1 : ∀ a, a < 0 → ∀ b, b < 0 → a ≠ b → (TX1 a).2.1 ≠ (TX1 b).2.1 := by decide +kernel
theorem tyX1_ok : ∀ k, k < 0 → parseFieldDescriptor (TX1 k).2.2.1 = some (tyX1 k) := by decide +kernel
def RJ9 : String := "java/lang/Math"
def TJ9 : u_T := fun k => match k with
  | _ => ("", "", "", false)
def tyJ9 : Nat → FieldType := fun k => match k with
  | _ => .int
abbrev wsJ90 : List Cond := u_ws RJ9 TJ9 0
theorem nmJ9 : ∀ a, a < 0 → ∀ b, b < 0 → a ≠ b → (TJ9 a).2.1 ≠ (TJ9 b).2.1 := by decide +kernel
theorem tyJ9_ok : ∀ k, k < 0 → parseFieldDescriptor (TJ9 k).2.2.1 = some (tyJ9 k) := by decide +kernel
abbrev cJ9_abs_0f7a4 : ByteArray := prog_8_method_59_code
def yJ9_abs_0f7a4 : MethodName := ⟨RJ9, "abs", "(I)I"⟩
abbrev cJ9_max_7cf53 : ByteArray := prog_8_method_65_code
def yJ9_max_7cf53 : MethodName := ⟨RJ9, "max", "(II)I"⟩
def RJ0 : String := "java/lang/String"
def TJ0 : u_T := fun k => match k with
  | _ => ("", "", "", false)
def tyJ0 : Nat → FieldType := fun k => match k with
  | _ => .int
abbrev wsJ00 : List Cond := u_ws RJ0 TJ0 0
theorem nmJ0 : ∀ a, a < 0 → ∀ b, b < 0 → a ≠ b → (TJ0 a).2.1 ≠ (TJ0 b).2.1 := by decide +kernel
theorem tyJ0_ok : ∀ k, k < 0 → parseFieldDescriptor (TJ0 k).2.2.1 = some (tyJ0 k) := by decide +kernel
def RL : String := "BagHallLaw"
abbrev cL_low : ByteArray := method_2_code
def yL_low : MethodName := ⟨RL, "low", "(II)I"⟩
abbrev cL_cell : ByteArray := method_3_code
def yL_cell : MethodName := ⟨RL, "cell", "([II)I"⟩
abbrev cL_addFlight : ByteArray := method_4_code
def yL_addFlight : MethodName := ⟨RL, "addFlight", "(LBagHall;I)I"⟩
abbrev cL_comes : ByteArray := method_5_code
def yL_comes : MethodName := ⟨RL, "comes", "(LBagHall;IIZ)I"⟩
abbrev cL_decide : ByteArray := method_6_code
def yL_decide : MethodName := ⟨RL, "decide", "(LBagHall;IZ)I"⟩
abbrev cL_sendOn : ByteArray := method_7_code
def yL_sendOn : MethodName := ⟨RL, "sendOn", "(LBagHall;II)I"⟩
abbrev cL_holds : ByteArray := method_8_code
def yL_holds : MethodName := ⟨RL, "holds", "(LBagHall;I)Z"⟩
abbrev cL_scanned : ByteArray := method_9_code
def yL_scanned : MethodName := ⟨RL, "scanned", "(LBagHall;III)Z"⟩
abbrev cL_works : ByteArray := method_10_code
def yL_works : MethodName := ⟨RL, "works", "(LBagHall;II)Z"⟩
abbrev cL_law : ByteArray := code
def yL_law : MethodName := ⟨RL, "law", "([I)Z"⟩
def wsX0_init : List Cond := .code yX0_init cX0_init 1 none :: ([.methodLink RX0 1 objectInit, .instanceMethod objectInit, .code objectInit ⟨#[0xb1]⟩ 1 none, .arrayClass .int, .fieldLink RX0 9 "BagHall" "departures" "[I", .fieldLink RX0 13 "BagHall" "laterals" "[I", .arrayClass .boolean, .fieldLink RX0 16 "BagHall" "boarded" "[Z", .fieldLink RX0 20 "BagHall" "bagFlights" "[I", .fieldLink RX0 23 "BagHall" "bagRiders" "[I", .fieldLink RX0 26 "BagHall" "onPurpose" "[Z", .fieldLink RX0 29 "BagHall" "bagPlaces" "[I", .fieldLink RX0 32 "BagHall" "lastScans" "[I", .fieldLink RX0 35 "BagHall" "cameAt" "[I", .fieldLink RX0 38 "BagHall" "bagsAt" "[I", .fieldLink RX0 41 "BagHall" "scanBags" "[I", .fieldLink RX0 44 "BagHall" "scanPlaces" "[I", .fieldLink RX0 47 "BagHall" "scanTimes" "[I"] ++ wsX00)
def wsX0_isFree : List Cond := .code yX0_isFree cX0_isFree 4 (some .boolean) :: ([.fieldLink RX0 57 "BagHall" "flightCount" "I", .fieldLink RX0 13 "BagHall" "laterals" "[I", .fieldLink RX0 9 "BagHall" "departures" "[I", .methodLink RX0 169 Lib.Math.abs.name, .static Lib.Math.abs.name, .initialized "java/lang/Math", .code Lib.Math.abs.name Lib.Math.abs.code 1 (some .int)] ++ wsX00)
def wsX0_lowestFreeLateral : List Cond := .code yX0_lowestFreeLateral cX0_lowestFreeLateral 3 (some .int) :: ([.methodLink RX0 166 yX0_isFree, .instanceMethod yX0_isFree, .selects RX0 yX0_isFree yX0_isFree, .initialized RX0, .code yX0_isFree cX0_isFree 4 (some .boolean), .fieldLink RX0 57 "BagHall" "flightCount" "I", .fieldLink RX0 13 "BagHall" "laterals" "[I", .fieldLink RX0 9 "BagHall" "departures" "[I", .methodLink RX0 169 Lib.Math.abs.name, .static Lib.Math.abs.name, .initialized "java/lang/Math", .code Lib.Math.abs.name Lib.Math.abs.code 1 (some .int)] ++ wsX00)
def wsX0_addFlight : List Cond := .code yX0_addFlight cX0_addFlight 4 (some .int) :: ([.classLink RX0 50 "java/lang/IllegalArgumentException", .initialized "java/lang/IllegalArgumentException", .classLink RX0 61 "java/lang/IllegalStateException", .initialized "java/lang/IllegalStateException", .fieldLink RX0 57 "BagHall" "flightCount" "I", .fieldLink RX0 66 "BagHall" "now" "I", .fieldLink RX0 13 "BagHall" "laterals" "[I", .fieldLink RX0 9 "BagHall" "departures" "[I", .methodLink RX0 69 yX0_lowestFreeLateral, .instanceMethod yX0_lowestFreeLateral, .selects RX0 yX0_lowestFreeLateral yX0_lowestFreeLateral, .initialized RX0, .code yX0_lowestFreeLateral cX0_lowestFreeLateral 3 (some .int), .methodLink RX0 166 yX0_isFree, .instanceMethod yX0_isFree, .selects RX0 yX0_isFree yX0_isFree, .code yX0_isFree cX0_isFree 4 (some .boolean), .methodLink RX0 169 Lib.Math.abs.name, .static Lib.Math.abs.name, .initialized "java/lang/Math", .code Lib.Math.abs.name Lib.Math.abs.code 1 (some .int)] ++ wsX00 ++ (vx_atS RX0 54 "java/lang/IllegalArgumentException" ["java/lang/RuntimeException", "java/lang/Exception"]).filter goodWord ++ (vx_atS RX0 65 "java/lang/IllegalStateException" ["java/lang/RuntimeException", "java/lang/Exception"]).filter goodWord)
def wsX0_requireRider : List Cond := .code yX0_requireRider cX0_requireRider 2 none :: ([.classLink RX0 130 "java/lang/IndexOutOfBoundsException", .initialized "java/lang/IndexOutOfBoundsException"] ++ (vx_atS RX0 134 "java/lang/IndexOutOfBoundsException" ["java/lang/RuntimeException", "java/lang/Exception"]).filter goodWord)
def wsX0_board : List Cond := .code yX0_board cX0_board 4 (some .boolean) :: ([.fieldLink RX0 16 "BagHall" "boarded" "[Z", .methodLink RX0 73 yX0_requireRider, .instanceMethod yX0_requireRider, .selects RX0 yX0_requireRider yX0_requireRider, .initialized RX0, .code yX0_requireRider cX0_requireRider 2 none, .classLink RX0 130 "java/lang/IndexOutOfBoundsException", .initialized "java/lang/IndexOutOfBoundsException"] ++ wsX00 ++ (vx_atS RX0 134 "java/lang/IndexOutOfBoundsException" ["java/lang/RuntimeException", "java/lang/Exception"]).filter goodWord)
def wsX0_hasOpened : List Cond := .code yX0_hasOpened cX0_hasOpened 2 (some .boolean) :: ([.fieldLink RX0 66 "BagHall" "now" "I", .fieldLink RX0 9 "BagHall" "departures" "[I"] ++ wsX00)
def wsX0_firstToLeaveStore : List Cond := .code yX0_firstToLeaveStore cX0_firstToLeaveStore 3 (some .int) :: ([.fieldLink RX0 38 "BagHall" "bagsAt" "[I", .fieldLink RX0 123 "BagHall" "bagCount" "I", .fieldLink RX0 29 "BagHall" "bagPlaces" "[I", .fieldLink RX0 20 "BagHall" "bagFlights" "[I", .fieldLink RX0 32 "BagHall" "lastScans" "[I", .methodLink RX0 180 yX0_hasOpened, .instanceMethod yX0_hasOpened, .selects RX0 yX0_hasOpened yX0_hasOpened, .initialized RX0, .code yX0_hasOpened cX0_hasOpened 2 (some .boolean), .fieldLink RX0 66 "BagHall" "now" "I", .fieldLink RX0 9 "BagHall" "departures" "[I"] ++ wsX00)
def wsX0_scan : List Cond := .code yX0_scan cX0_scan 3 none :: ([.fieldLink RX0 79 "BagHall" "scanCount" "I", .fieldLink RX0 41 "BagHall" "scanBags" "[I", .fieldLink RX0 44 "BagHall" "scanPlaces" "[I", .fieldLink RX0 47 "BagHall" "scanTimes" "[I", .fieldLink RX0 66 "BagHall" "now" "I"] ++ wsX00)
def wsX0_bring : List Cond := .code yX0_bring cX0_bring 3 none :: ([.fieldLink RX0 38 "BagHall" "bagsAt" "[I", .fieldLink RX0 29 "BagHall" "bagPlaces" "[I", .fieldLink RX0 35 "BagHall" "cameAt" "[I", .fieldLink RX0 66 "BagHall" "now" "I", .fieldLink RX0 32 "BagHall" "lastScans" "[I", .fieldLink RX0 79 "BagHall" "scanCount" "I", .methodLink RX0 183 yX0_scan, .instanceMethod yX0_scan, .selects RX0 yX0_scan yX0_scan, .initialized RX0, .code yX0_scan cX0_scan 3 none, .fieldLink RX0 41 "BagHall" "scanBags" "[I", .fieldLink RX0 44 "BagHall" "scanPlaces" "[I", .fieldLink RX0 47 "BagHall" "scanTimes" "[I"] ++ wsX00)
def wsX0_emptyStore_r1 : List Cond := [Cond.methodLink RX0 195 yX0_firstToLeaveStore, Cond.instanceMethod yX0_firstToLeaveStore, Cond.selects RX0 yX0_firstToLeaveStore yX0_firstToLeaveStore, Cond.initialized RX0, Cond.code yX0_firstToLeaveStore cX0_firstToLeaveStore 3 (some .int), Cond.fieldLink RX0 38 "BagHall" "bagsAt" "[I", Cond.fieldLink RX0 123 "BagHall" "bagCount" "I", Cond.fieldLink RX0 29 "BagHall" "bagPlaces" "[I", Cond.fieldLink RX0 20 "BagHall" "bagFlights" "[I", Cond.fieldLink RX0 32 "BagHall" "lastScans" "[I", Cond.methodLink RX0 180 yX0_hasOpened, Cond.instanceMethod yX0_hasOpened, Cond.selects RX0 yX0_hasOpened yX0_hasOpened, Cond.code yX0_hasOpened cX0_hasOpened 2 (some .boolean), Cond.fieldLink RX0 66 "BagHall" "now" "I", Cond.fieldLink RX0 9 "BagHall" "departures" "[I", Cond.methodLink RX0 92 yX0_bring, Cond.instanceMethod yX0_bring, Cond.selects RX0 yX0_bring yX0_bring, Cond.code yX0_bring cX0_bring 3 none, Cond.fieldLink RX0 35 "BagHall" "cameAt" "[I", Cond.fieldLink RX0 79 "BagHall" "scanCount" "I", Cond.methodLink RX0 183 yX0_scan, Cond.instanceMethod yX0_scan]
def wsX0_emptyStore_r2 : List Cond := [Cond.selects RX0 yX0_scan yX0_scan, Cond.code yX0_scan cX0_scan 3 none, Cond.fieldLink RX0 41 "BagHall" "scanBags" "[I", Cond.fieldLink RX0 44 "BagHall" "scanPlaces" "[I", Cond.fieldLink RX0 47 "BagHall" "scanTimes" "[I"]
def wsX0_emptyStore : List Cond := .code yX0_emptyStore cX0_emptyStore 3 none :: ((wsX0_emptyStore_r1 ++ wsX0_emptyStore_r2) ++ wsX00)
def wsX0_closing : List Cond := .code yX0_closing cX0_closing 2 (some .int) :: ([.fieldLink RX0 9 "BagHall" "departures" "[I"] ++ wsX00)
def wsX0_hasClosed : List Cond := .code yX0_hasClosed cX0_hasClosed 2 (some .boolean) :: ([.fieldLink RX0 66 "BagHall" "now" "I", .methodLink RX0 143 yX0_closing, .instanceMethod yX0_closing, .selects RX0 yX0_closing yX0_closing, .initialized RX0, .code yX0_closing cX0_closing 2 (some .int), .fieldLink RX0 9 "BagHall" "departures" "[I"] ++ wsX00)
def wsX0_routeTo : List Cond := .code yX0_routeTo cX0_routeTo 2 (some .int) :: ([.fieldLink RX0 13 "BagHall" "laterals" "[I", .fieldLink RX0 38 "BagHall" "bagsAt" "[I", .methodLink RX0 177 yX0_hasClosed, .instanceMethod yX0_hasClosed, .selects RX0 yX0_hasClosed yX0_hasClosed, .initialized RX0, .code yX0_hasClosed cX0_hasClosed 2 (some .boolean), .fieldLink RX0 66 "BagHall" "now" "I", .methodLink RX0 143 yX0_closing, .instanceMethod yX0_closing, .selects RX0 yX0_closing yX0_closing, .code yX0_closing cX0_closing 2 (some .int), .fieldLink RX0 9 "BagHall" "departures" "[I", .methodLink RX0 180 yX0_hasOpened, .instanceMethod yX0_hasOpened, .selects RX0 yX0_hasOpened yX0_hasOpened, .code yX0_hasOpened cX0_hasOpened 2 (some .boolean)] ++ wsX00)
def wsX0_route_r1 : List Cond := [Cond.fieldLink RX0 20 "BagHall" "bagFlights" "[I", Cond.fieldLink RX0 29 "BagHall" "bagPlaces" "[I", Cond.methodLink RX0 174 yX0_routeTo, Cond.instanceMethod yX0_routeTo, Cond.selects RX0 yX0_routeTo yX0_routeTo, Cond.initialized RX0, Cond.code yX0_routeTo cX0_routeTo 2 (some .int), Cond.fieldLink RX0 13 "BagHall" "laterals" "[I", Cond.fieldLink RX0 38 "BagHall" "bagsAt" "[I", Cond.methodLink RX0 177 yX0_hasClosed, Cond.instanceMethod yX0_hasClosed, Cond.selects RX0 yX0_hasClosed yX0_hasClosed, Cond.code yX0_hasClosed cX0_hasClosed 2 (some .boolean), Cond.fieldLink RX0 66 "BagHall" "now" "I", Cond.methodLink RX0 143 yX0_closing, Cond.instanceMethod yX0_closing, Cond.selects RX0 yX0_closing yX0_closing, Cond.code yX0_closing cX0_closing 2 (some .int), Cond.fieldLink RX0 9 "BagHall" "departures" "[I", Cond.methodLink RX0 180 yX0_hasOpened, Cond.instanceMethod yX0_hasOpened, Cond.selects RX0 yX0_hasOpened yX0_hasOpened, Cond.code yX0_hasOpened cX0_hasOpened 2 (some .boolean), Cond.methodLink RX0 92 yX0_bring]
def wsX0_route_r2 : List Cond := [Cond.instanceMethod yX0_bring, Cond.selects RX0 yX0_bring yX0_bring, Cond.code yX0_bring cX0_bring 3 none, Cond.fieldLink RX0 35 "BagHall" "cameAt" "[I", Cond.fieldLink RX0 32 "BagHall" "lastScans" "[I", Cond.fieldLink RX0 79 "BagHall" "scanCount" "I", Cond.methodLink RX0 183 yX0_scan, Cond.instanceMethod yX0_scan, Cond.selects RX0 yX0_scan yX0_scan, Cond.code yX0_scan cX0_scan 3 none, Cond.fieldLink RX0 41 "BagHall" "scanBags" "[I", Cond.fieldLink RX0 44 "BagHall" "scanPlaces" "[I", Cond.fieldLink RX0 47 "BagHall" "scanTimes" "[I"]
def wsX0_route : List Cond := .code yX0_route cX0_route 3 none :: ((wsX0_route_r1 ++ wsX0_route_r2) ++ wsX00)
def wsX0_routeLoop_r1 : List Cond := [Cond.fieldLink RX0 38 "BagHall" "bagsAt" "[I", Cond.fieldLink RX0 123 "BagHall" "bagCount" "I", Cond.fieldLink RX0 29 "BagHall" "bagPlaces" "[I", Cond.methodLink RX0 96 yX0_route, Cond.instanceMethod yX0_route, Cond.selects RX0 yX0_route yX0_route, Cond.initialized RX0, Cond.code yX0_route cX0_route 3 none, Cond.fieldLink RX0 20 "BagHall" "bagFlights" "[I", Cond.methodLink RX0 174 yX0_routeTo, Cond.instanceMethod yX0_routeTo, Cond.selects RX0 yX0_routeTo yX0_routeTo, Cond.code yX0_routeTo cX0_routeTo 2 (some .int), Cond.fieldLink RX0 13 "BagHall" "laterals" "[I", Cond.methodLink RX0 177 yX0_hasClosed, Cond.instanceMethod yX0_hasClosed, Cond.selects RX0 yX0_hasClosed yX0_hasClosed, Cond.code yX0_hasClosed cX0_hasClosed 2 (some .boolean), Cond.fieldLink RX0 66 "BagHall" "now" "I", Cond.methodLink RX0 143 yX0_closing, Cond.instanceMethod yX0_closing, Cond.selects RX0 yX0_closing yX0_closing, Cond.code yX0_closing cX0_closing 2 (some .int), Cond.fieldLink RX0 9 "BagHall" "departures" "[I"]
def wsX0_routeLoop_r2 : List Cond := [Cond.methodLink RX0 180 yX0_hasOpened, Cond.instanceMethod yX0_hasOpened, Cond.selects RX0 yX0_hasOpened yX0_hasOpened, Cond.code yX0_hasOpened cX0_hasOpened 2 (some .boolean), Cond.methodLink RX0 92 yX0_bring, Cond.instanceMethod yX0_bring, Cond.selects RX0 yX0_bring yX0_bring, Cond.code yX0_bring cX0_bring 3 none, Cond.fieldLink RX0 35 "BagHall" "cameAt" "[I", Cond.fieldLink RX0 32 "BagHall" "lastScans" "[I", Cond.fieldLink RX0 79 "BagHall" "scanCount" "I", Cond.methodLink RX0 183 yX0_scan, Cond.instanceMethod yX0_scan, Cond.selects RX0 yX0_scan yX0_scan, Cond.code yX0_scan cX0_scan 3 none, Cond.fieldLink RX0 41 "BagHall" "scanBags" "[I", Cond.fieldLink RX0 44 "BagHall" "scanPlaces" "[I", Cond.fieldLink RX0 47 "BagHall" "scanTimes" "[I"]
def wsX0_routeLoop : List Cond := .code yX0_routeLoop cX0_routeLoop 2 none :: ((wsX0_routeLoop_r1 ++ wsX0_routeLoop_r2) ++ wsX00)
def wsX0_mayFly : List Cond := .code yX0_mayFly cX0_mayFly 2 (some .boolean) :: ([.fieldLink RX0 26 "BagHall" "onPurpose" "[Z", .fieldLink RX0 16 "BagHall" "boarded" "[Z", .fieldLink RX0 23 "BagHall" "bagRiders" "[I"] ++ wsX00)
def wsX0_settle_r1 : List Cond := [Cond.fieldLink RX0 29 "BagHall" "bagPlaces" "[I", Cond.methodLink RX0 139 yX0_mayFly, Cond.instanceMethod yX0_mayFly, Cond.selects RX0 yX0_mayFly yX0_mayFly, Cond.initialized RX0, Cond.code yX0_mayFly cX0_mayFly 2 (some .boolean), Cond.fieldLink RX0 26 "BagHall" "onPurpose" "[Z", Cond.fieldLink RX0 16 "BagHall" "boarded" "[Z", Cond.fieldLink RX0 23 "BagHall" "bagRiders" "[I", Cond.methodLink RX0 92 yX0_bring, Cond.instanceMethod yX0_bring, Cond.selects RX0 yX0_bring yX0_bring, Cond.code yX0_bring cX0_bring 3 none, Cond.fieldLink RX0 38 "BagHall" "bagsAt" "[I", Cond.fieldLink RX0 35 "BagHall" "cameAt" "[I", Cond.fieldLink RX0 66 "BagHall" "now" "I", Cond.fieldLink RX0 32 "BagHall" "lastScans" "[I", Cond.fieldLink RX0 79 "BagHall" "scanCount" "I", Cond.methodLink RX0 183 yX0_scan, Cond.instanceMethod yX0_scan, Cond.selects RX0 yX0_scan yX0_scan, Cond.code yX0_scan cX0_scan 3 none, Cond.fieldLink RX0 41 "BagHall" "scanBags" "[I", Cond.fieldLink RX0 44 "BagHall" "scanPlaces" "[I"]
def wsX0_settle_r2 : List Cond := [Cond.fieldLink RX0 47 "BagHall" "scanTimes" "[I"]
def wsX0_settle : List Cond := .code yX0_settle cX0_settle 3 none :: ((wsX0_settle_r1 ++ wsX0_settle_r2) ++ wsX00)
def wsX0_settleBags_r1 : List Cond := [Cond.fieldLink RX0 123 "BagHall" "bagCount" "I", Cond.fieldLink RX0 20 "BagHall" "bagFlights" "[I", Cond.methodLink RX0 202 yX0_settle, Cond.instanceMethod yX0_settle, Cond.selects RX0 yX0_settle yX0_settle, Cond.initialized RX0, Cond.code yX0_settle cX0_settle 3 none, Cond.fieldLink RX0 29 "BagHall" "bagPlaces" "[I", Cond.methodLink RX0 139 yX0_mayFly, Cond.instanceMethod yX0_mayFly, Cond.selects RX0 yX0_mayFly yX0_mayFly, Cond.code yX0_mayFly cX0_mayFly 2 (some .boolean), Cond.fieldLink RX0 26 "BagHall" "onPurpose" "[Z", Cond.fieldLink RX0 16 "BagHall" "boarded" "[Z", Cond.fieldLink RX0 23 "BagHall" "bagRiders" "[I", Cond.methodLink RX0 92 yX0_bring, Cond.instanceMethod yX0_bring, Cond.selects RX0 yX0_bring yX0_bring, Cond.code yX0_bring cX0_bring 3 none, Cond.fieldLink RX0 38 "BagHall" "bagsAt" "[I", Cond.fieldLink RX0 35 "BagHall" "cameAt" "[I", Cond.fieldLink RX0 66 "BagHall" "now" "I", Cond.fieldLink RX0 32 "BagHall" "lastScans" "[I", Cond.fieldLink RX0 79 "BagHall" "scanCount" "I"]
def wsX0_settleBags_r2 : List Cond := [Cond.methodLink RX0 183 yX0_scan, Cond.instanceMethod yX0_scan, Cond.selects RX0 yX0_scan yX0_scan, Cond.code yX0_scan cX0_scan 3 none, Cond.fieldLink RX0 41 "BagHall" "scanBags" "[I", Cond.fieldLink RX0 44 "BagHall" "scanPlaces" "[I", Cond.fieldLink RX0 47 "BagHall" "scanTimes" "[I"]
def wsX0_settleBags : List Cond := .code yX0_settleBags cX0_settleBags 3 none :: ((wsX0_settleBags_r1 ++ wsX0_settleBags_r2) ++ wsX00)
def wsX0_depart_r1 : List Cond := [Cond.fieldLink RX0 57 "BagHall" "flightCount" "I", Cond.fieldLink RX0 9 "BagHall" "departures" "[I", Cond.fieldLink RX0 66 "BagHall" "now" "I", Cond.methodLink RX0 199 yX0_settleBags, Cond.instanceMethod yX0_settleBags, Cond.selects RX0 yX0_settleBags yX0_settleBags, Cond.initialized RX0, Cond.code yX0_settleBags cX0_settleBags 3 none, Cond.fieldLink RX0 123 "BagHall" "bagCount" "I", Cond.fieldLink RX0 20 "BagHall" "bagFlights" "[I", Cond.methodLink RX0 202 yX0_settle, Cond.instanceMethod yX0_settle, Cond.selects RX0 yX0_settle yX0_settle, Cond.code yX0_settle cX0_settle 3 none, Cond.fieldLink RX0 29 "BagHall" "bagPlaces" "[I", Cond.methodLink RX0 139 yX0_mayFly, Cond.instanceMethod yX0_mayFly, Cond.selects RX0 yX0_mayFly yX0_mayFly, Cond.code yX0_mayFly cX0_mayFly 2 (some .boolean), Cond.fieldLink RX0 26 "BagHall" "onPurpose" "[Z", Cond.fieldLink RX0 16 "BagHall" "boarded" "[Z", Cond.fieldLink RX0 23 "BagHall" "bagRiders" "[I", Cond.methodLink RX0 92 yX0_bring, Cond.instanceMethod yX0_bring]
def wsX0_depart_r2 : List Cond := [Cond.selects RX0 yX0_bring yX0_bring, Cond.code yX0_bring cX0_bring 3 none, Cond.fieldLink RX0 38 "BagHall" "bagsAt" "[I", Cond.fieldLink RX0 35 "BagHall" "cameAt" "[I", Cond.fieldLink RX0 32 "BagHall" "lastScans" "[I", Cond.fieldLink RX0 79 "BagHall" "scanCount" "I", Cond.methodLink RX0 183 yX0_scan, Cond.instanceMethod yX0_scan, Cond.selects RX0 yX0_scan yX0_scan, Cond.code yX0_scan cX0_scan 3 none, Cond.fieldLink RX0 41 "BagHall" "scanBags" "[I", Cond.fieldLink RX0 44 "BagHall" "scanPlaces" "[I", Cond.fieldLink RX0 47 "BagHall" "scanTimes" "[I"]
def wsX0_depart : List Cond := .code yX0_depart cX0_depart 2 none :: ((wsX0_depart_r1 ++ wsX0_depart_r2) ++ wsX00)
def wsX0_passOneMinute_r1 : List Cond := [Cond.fieldLink RX0 66 "BagHall" "now" "I", Cond.methodLink RX0 186 yX0_emptyStore, Cond.instanceMethod yX0_emptyStore, Cond.selects RX0 yX0_emptyStore yX0_emptyStore, Cond.initialized RX0, Cond.code yX0_emptyStore cX0_emptyStore 3 none, Cond.methodLink RX0 195 yX0_firstToLeaveStore, Cond.instanceMethod yX0_firstToLeaveStore, Cond.selects RX0 yX0_firstToLeaveStore yX0_firstToLeaveStore, Cond.code yX0_firstToLeaveStore cX0_firstToLeaveStore 3 (some .int), Cond.fieldLink RX0 38 "BagHall" "bagsAt" "[I", Cond.fieldLink RX0 123 "BagHall" "bagCount" "I", Cond.fieldLink RX0 29 "BagHall" "bagPlaces" "[I", Cond.fieldLink RX0 20 "BagHall" "bagFlights" "[I", Cond.fieldLink RX0 32 "BagHall" "lastScans" "[I", Cond.methodLink RX0 180 yX0_hasOpened, Cond.instanceMethod yX0_hasOpened, Cond.selects RX0 yX0_hasOpened yX0_hasOpened, Cond.code yX0_hasOpened cX0_hasOpened 2 (some .boolean), Cond.fieldLink RX0 9 "BagHall" "departures" "[I", Cond.methodLink RX0 92 yX0_bring, Cond.instanceMethod yX0_bring, Cond.selects RX0 yX0_bring yX0_bring, Cond.code yX0_bring cX0_bring 3 none]
def wsX0_passOneMinute_r2 : List Cond := [Cond.fieldLink RX0 35 "BagHall" "cameAt" "[I", Cond.fieldLink RX0 79 "BagHall" "scanCount" "I", Cond.methodLink RX0 183 yX0_scan, Cond.instanceMethod yX0_scan, Cond.selects RX0 yX0_scan yX0_scan, Cond.code yX0_scan cX0_scan 3 none, Cond.fieldLink RX0 41 "BagHall" "scanBags" "[I", Cond.fieldLink RX0 44 "BagHall" "scanPlaces" "[I", Cond.fieldLink RX0 47 "BagHall" "scanTimes" "[I", Cond.methodLink RX0 189 yX0_routeLoop, Cond.instanceMethod yX0_routeLoop, Cond.selects RX0 yX0_routeLoop yX0_routeLoop, Cond.code yX0_routeLoop cX0_routeLoop 2 none, Cond.methodLink RX0 96 yX0_route, Cond.instanceMethod yX0_route, Cond.selects RX0 yX0_route yX0_route, Cond.code yX0_route cX0_route 3 none, Cond.methodLink RX0 174 yX0_routeTo, Cond.instanceMethod yX0_routeTo, Cond.selects RX0 yX0_routeTo yX0_routeTo, Cond.code yX0_routeTo cX0_routeTo 2 (some .int), Cond.fieldLink RX0 13 "BagHall" "laterals" "[I", Cond.methodLink RX0 177 yX0_hasClosed, Cond.instanceMethod yX0_hasClosed]
def wsX0_passOneMinute_r3 : List Cond := [Cond.selects RX0 yX0_hasClosed yX0_hasClosed, Cond.code yX0_hasClosed cX0_hasClosed 2 (some .boolean), Cond.methodLink RX0 143 yX0_closing, Cond.instanceMethod yX0_closing, Cond.selects RX0 yX0_closing yX0_closing, Cond.code yX0_closing cX0_closing 2 (some .int), Cond.methodLink RX0 192 yX0_depart, Cond.instanceMethod yX0_depart, Cond.selects RX0 yX0_depart yX0_depart, Cond.code yX0_depart cX0_depart 2 none, Cond.fieldLink RX0 57 "BagHall" "flightCount" "I", Cond.methodLink RX0 199 yX0_settleBags, Cond.instanceMethod yX0_settleBags, Cond.selects RX0 yX0_settleBags yX0_settleBags, Cond.code yX0_settleBags cX0_settleBags 3 none, Cond.methodLink RX0 202 yX0_settle, Cond.instanceMethod yX0_settle, Cond.selects RX0 yX0_settle yX0_settle, Cond.code yX0_settle cX0_settle 3 none, Cond.methodLink RX0 139 yX0_mayFly, Cond.instanceMethod yX0_mayFly, Cond.selects RX0 yX0_mayFly yX0_mayFly, Cond.code yX0_mayFly cX0_mayFly 2 (some .boolean), Cond.fieldLink RX0 26 "BagHall" "onPurpose" "[Z"]
def wsX0_passOneMinute_r4 : List Cond := [Cond.fieldLink RX0 16 "BagHall" "boarded" "[Z", Cond.fieldLink RX0 23 "BagHall" "bagRiders" "[I"]
def wsX0_passOneMinute : List Cond := .code yX0_passOneMinute cX0_passOneMinute 1 none :: ((wsX0_passOneMinute_r1 ++ (wsX0_passOneMinute_r2 ++ (wsX0_passOneMinute_r3 ++ wsX0_passOneMinute_r4))) ++ wsX00)
def wsX0_pass_r1 : List Cond := [Cond.classLink RX0 50 "java/lang/IllegalArgumentException", Cond.initialized "java/lang/IllegalArgumentException", Cond.fieldLink RX0 79 "BagHall" "scanCount" "I", Cond.methodLink RX0 82 yX0_passOneMinute, Cond.instanceMethod yX0_passOneMinute, Cond.selects RX0 yX0_passOneMinute yX0_passOneMinute, Cond.initialized RX0, Cond.code yX0_passOneMinute cX0_passOneMinute 1 none, Cond.fieldLink RX0 66 "BagHall" "now" "I", Cond.methodLink RX0 186 yX0_emptyStore, Cond.instanceMethod yX0_emptyStore, Cond.selects RX0 yX0_emptyStore yX0_emptyStore, Cond.code yX0_emptyStore cX0_emptyStore 3 none, Cond.methodLink RX0 195 yX0_firstToLeaveStore, Cond.instanceMethod yX0_firstToLeaveStore, Cond.selects RX0 yX0_firstToLeaveStore yX0_firstToLeaveStore, Cond.code yX0_firstToLeaveStore cX0_firstToLeaveStore 3 (some .int), Cond.fieldLink RX0 38 "BagHall" "bagsAt" "[I", Cond.fieldLink RX0 123 "BagHall" "bagCount" "I", Cond.fieldLink RX0 29 "BagHall" "bagPlaces" "[I", Cond.fieldLink RX0 20 "BagHall" "bagFlights" "[I", Cond.fieldLink RX0 32 "BagHall" "lastScans" "[I", Cond.methodLink RX0 180 yX0_hasOpened, Cond.instanceMethod yX0_hasOpened]
def wsX0_pass_r2 : List Cond := [Cond.selects RX0 yX0_hasOpened yX0_hasOpened, Cond.code yX0_hasOpened cX0_hasOpened 2 (some .boolean), Cond.fieldLink RX0 9 "BagHall" "departures" "[I", Cond.methodLink RX0 92 yX0_bring, Cond.instanceMethod yX0_bring, Cond.selects RX0 yX0_bring yX0_bring, Cond.code yX0_bring cX0_bring 3 none, Cond.fieldLink RX0 35 "BagHall" "cameAt" "[I", Cond.methodLink RX0 183 yX0_scan, Cond.instanceMethod yX0_scan, Cond.selects RX0 yX0_scan yX0_scan, Cond.code yX0_scan cX0_scan 3 none, Cond.fieldLink RX0 41 "BagHall" "scanBags" "[I", Cond.fieldLink RX0 44 "BagHall" "scanPlaces" "[I", Cond.fieldLink RX0 47 "BagHall" "scanTimes" "[I", Cond.methodLink RX0 189 yX0_routeLoop, Cond.instanceMethod yX0_routeLoop, Cond.selects RX0 yX0_routeLoop yX0_routeLoop, Cond.code yX0_routeLoop cX0_routeLoop 2 none, Cond.methodLink RX0 96 yX0_route, Cond.instanceMethod yX0_route, Cond.selects RX0 yX0_route yX0_route, Cond.code yX0_route cX0_route 3 none, Cond.methodLink RX0 174 yX0_routeTo]
def wsX0_pass_r3 : List Cond := [Cond.instanceMethod yX0_routeTo, Cond.selects RX0 yX0_routeTo yX0_routeTo, Cond.code yX0_routeTo cX0_routeTo 2 (some .int), Cond.fieldLink RX0 13 "BagHall" "laterals" "[I", Cond.methodLink RX0 177 yX0_hasClosed, Cond.instanceMethod yX0_hasClosed, Cond.selects RX0 yX0_hasClosed yX0_hasClosed, Cond.code yX0_hasClosed cX0_hasClosed 2 (some .boolean), Cond.methodLink RX0 143 yX0_closing, Cond.instanceMethod yX0_closing, Cond.selects RX0 yX0_closing yX0_closing, Cond.code yX0_closing cX0_closing 2 (some .int), Cond.methodLink RX0 192 yX0_depart, Cond.instanceMethod yX0_depart, Cond.selects RX0 yX0_depart yX0_depart, Cond.code yX0_depart cX0_depart 2 none, Cond.fieldLink RX0 57 "BagHall" "flightCount" "I", Cond.methodLink RX0 199 yX0_settleBags, Cond.instanceMethod yX0_settleBags, Cond.selects RX0 yX0_settleBags yX0_settleBags, Cond.code yX0_settleBags cX0_settleBags 3 none, Cond.methodLink RX0 202 yX0_settle, Cond.instanceMethod yX0_settle, Cond.selects RX0 yX0_settle yX0_settle]
def wsX0_pass_r4 : List Cond := [Cond.code yX0_settle cX0_settle 3 none, Cond.methodLink RX0 139 yX0_mayFly, Cond.instanceMethod yX0_mayFly, Cond.selects RX0 yX0_mayFly yX0_mayFly, Cond.code yX0_mayFly cX0_mayFly 2 (some .boolean), Cond.fieldLink RX0 26 "BagHall" "onPurpose" "[Z", Cond.fieldLink RX0 16 "BagHall" "boarded" "[Z", Cond.fieldLink RX0 23 "BagHall" "bagRiders" "[I"]
def wsX0_pass : List Cond := .code yX0_pass cX0_pass 4 (some .int) :: ((wsX0_pass_r1 ++ (wsX0_pass_r2 ++ (wsX0_pass_r3 ++ wsX0_pass_r4))) ++ wsX00 ++ (vx_atS RX0 54 "java/lang/IllegalArgumentException" ["java/lang/RuntimeException", "java/lang/Exception"]).filter goodWord)
def wsX0_time : List Cond := .code yX0_time cX0_time 1 (some .int) :: ([.fieldLink RX0 66 "BagHall" "now" "I"] ++ wsX00)
def wsX0_requireFlight : List Cond := .code yX0_requireFlight cX0_requireFlight 2 none :: ([.classLink RX0 130 "java/lang/IndexOutOfBoundsException", .initialized "java/lang/IndexOutOfBoundsException", .fieldLink RX0 57 "BagHall" "flightCount" "I"] ++ wsX00 ++ (vx_atS RX0 134 "java/lang/IndexOutOfBoundsException" ["java/lang/RuntimeException", "java/lang/Exception"]).filter goodWord)
def wsX0_lateralOf : List Cond := .code yX0_lateralOf cX0_lateralOf 2 (some .int) :: ([.fieldLink RX0 13 "BagHall" "laterals" "[I", .methodLink RX0 85 yX0_requireFlight, .instanceMethod yX0_requireFlight, .selects RX0 yX0_requireFlight yX0_requireFlight, .initialized RX0, .code yX0_requireFlight cX0_requireFlight 2 none, .classLink RX0 130 "java/lang/IndexOutOfBoundsException", .initialized "java/lang/IndexOutOfBoundsException", .fieldLink RX0 57 "BagHall" "flightCount" "I"] ++ wsX00 ++ (vx_atS RX0 134 "java/lang/IndexOutOfBoundsException" ["java/lang/RuntimeException", "java/lang/Exception"]).filter goodWord)
def wsX0_requireNotDeparted : List Cond := .code yX0_requireNotDeparted cX0_requireNotDeparted 2 none :: ([.classLink RX0 61 "java/lang/IllegalStateException", .initialized "java/lang/IllegalStateException", .fieldLink RX0 66 "BagHall" "now" "I", .fieldLink RX0 9 "BagHall" "departures" "[I"] ++ wsX00 ++ (vx_atS RX0 65 "java/lang/IllegalStateException" ["java/lang/RuntimeException", "java/lang/Exception"]).filter goodWord)
def wsX0_takeIn : List Cond := .code yX0_takeIn cX0_takeIn 4 (some .int) :: ([.classLink RX0 61 "java/lang/IllegalStateException", .initialized "java/lang/IllegalStateException", .fieldLink RX0 123 "BagHall" "bagCount" "I", .fieldLink RX0 20 "BagHall" "bagFlights" "[I", .fieldLink RX0 23 "BagHall" "bagRiders" "[I", .fieldLink RX0 29 "BagHall" "bagPlaces" "[I", .methodLink RX0 85 yX0_requireFlight, .instanceMethod yX0_requireFlight, .selects RX0 yX0_requireFlight yX0_requireFlight, .initialized RX0, .code yX0_requireFlight cX0_requireFlight 2 none, .classLink RX0 130 "java/lang/IndexOutOfBoundsException", .initialized "java/lang/IndexOutOfBoundsException", .fieldLink RX0 57 "BagHall" "flightCount" "I", .methodLink RX0 73 yX0_requireRider, .instanceMethod yX0_requireRider, .selects RX0 yX0_requireRider yX0_requireRider, .code yX0_requireRider cX0_requireRider 2 none, .methodLink RX0 120 yX0_requireNotDeparted, .instanceMethod yX0_requireNotDeparted, .selects RX0 yX0_requireNotDeparted yX0_requireNotDeparted, .code yX0_requireNotDeparted cX0_requireNotDeparted 2 none, .fieldLink RX0 66 "BagHall" "now" "I", .fieldLink RX0 9 "BagHall" "departures" "[I"] ++ wsX00 ++ (vx_atS RX0 65 "java/lang/IllegalStateException" ["java/lang/RuntimeException", "java/lang/Exception"]).filter goodWord ++ (vx_atS RX0 134 "java/lang/IndexOutOfBoundsException" ["java/lang/RuntimeException", "java/lang/Exception"]).filter goodWord)
def wsX0_checkIn_r1 : List Cond := [Cond.methodLink RX0 88 yX0_takeIn, Cond.instanceMethod yX0_takeIn, Cond.selects RX0 yX0_takeIn yX0_takeIn, Cond.initialized RX0, Cond.code yX0_takeIn cX0_takeIn 4 (some .int), Cond.classLink RX0 61 "java/lang/IllegalStateException", Cond.initialized "java/lang/IllegalStateException", Cond.fieldLink RX0 123 "BagHall" "bagCount" "I", Cond.fieldLink RX0 20 "BagHall" "bagFlights" "[I", Cond.fieldLink RX0 23 "BagHall" "bagRiders" "[I", Cond.fieldLink RX0 29 "BagHall" "bagPlaces" "[I", Cond.methodLink RX0 85 yX0_requireFlight, Cond.instanceMethod yX0_requireFlight, Cond.selects RX0 yX0_requireFlight yX0_requireFlight, Cond.code yX0_requireFlight cX0_requireFlight 2 none, Cond.classLink RX0 130 "java/lang/IndexOutOfBoundsException", Cond.initialized "java/lang/IndexOutOfBoundsException", Cond.fieldLink RX0 57 "BagHall" "flightCount" "I", Cond.methodLink RX0 73 yX0_requireRider, Cond.instanceMethod yX0_requireRider, Cond.selects RX0 yX0_requireRider yX0_requireRider, Cond.code yX0_requireRider cX0_requireRider 2 none, Cond.methodLink RX0 120 yX0_requireNotDeparted, Cond.instanceMethod yX0_requireNotDeparted]
def wsX0_checkIn_r2 : List Cond := [Cond.selects RX0 yX0_requireNotDeparted yX0_requireNotDeparted, Cond.code yX0_requireNotDeparted cX0_requireNotDeparted 2 none, Cond.fieldLink RX0 66 "BagHall" "now" "I", Cond.fieldLink RX0 9 "BagHall" "departures" "[I", Cond.methodLink RX0 92 yX0_bring, Cond.instanceMethod yX0_bring, Cond.selects RX0 yX0_bring yX0_bring, Cond.code yX0_bring cX0_bring 3 none, Cond.fieldLink RX0 38 "BagHall" "bagsAt" "[I", Cond.fieldLink RX0 35 "BagHall" "cameAt" "[I", Cond.fieldLink RX0 32 "BagHall" "lastScans" "[I", Cond.fieldLink RX0 79 "BagHall" "scanCount" "I", Cond.methodLink RX0 183 yX0_scan, Cond.instanceMethod yX0_scan, Cond.selects RX0 yX0_scan yX0_scan, Cond.code yX0_scan cX0_scan 3 none, Cond.fieldLink RX0 41 "BagHall" "scanBags" "[I", Cond.fieldLink RX0 44 "BagHall" "scanPlaces" "[I", Cond.fieldLink RX0 47 "BagHall" "scanTimes" "[I"]
def wsX0_checkIn : List Cond := .code yX0_checkIn cX0_checkIn 4 (some .int) :: ((wsX0_checkIn_r1 ++ wsX0_checkIn_r2) ++ wsX00 ++ (vx_atS RX0 65 "java/lang/IllegalStateException" ["java/lang/RuntimeException", "java/lang/Exception"]).filter goodWord ++ (vx_atS RX0 134 "java/lang/IndexOutOfBoundsException" ["java/lang/RuntimeException", "java/lang/Exception"]).filter goodWord)
def wsX0_transfer_r1 : List Cond := [Cond.methodLink RX0 88 yX0_takeIn, Cond.instanceMethod yX0_takeIn, Cond.selects RX0 yX0_takeIn yX0_takeIn, Cond.initialized RX0, Cond.code yX0_takeIn cX0_takeIn 4 (some .int), Cond.classLink RX0 61 "java/lang/IllegalStateException", Cond.initialized "java/lang/IllegalStateException", Cond.fieldLink RX0 123 "BagHall" "bagCount" "I", Cond.fieldLink RX0 20 "BagHall" "bagFlights" "[I", Cond.fieldLink RX0 23 "BagHall" "bagRiders" "[I", Cond.fieldLink RX0 29 "BagHall" "bagPlaces" "[I", Cond.methodLink RX0 85 yX0_requireFlight, Cond.instanceMethod yX0_requireFlight, Cond.selects RX0 yX0_requireFlight yX0_requireFlight, Cond.code yX0_requireFlight cX0_requireFlight 2 none, Cond.classLink RX0 130 "java/lang/IndexOutOfBoundsException", Cond.initialized "java/lang/IndexOutOfBoundsException", Cond.fieldLink RX0 57 "BagHall" "flightCount" "I", Cond.methodLink RX0 73 yX0_requireRider, Cond.instanceMethod yX0_requireRider, Cond.selects RX0 yX0_requireRider yX0_requireRider, Cond.code yX0_requireRider cX0_requireRider 2 none, Cond.methodLink RX0 120 yX0_requireNotDeparted, Cond.instanceMethod yX0_requireNotDeparted]
def wsX0_transfer_r2 : List Cond := [Cond.selects RX0 yX0_requireNotDeparted yX0_requireNotDeparted, Cond.code yX0_requireNotDeparted cX0_requireNotDeparted 2 none, Cond.fieldLink RX0 66 "BagHall" "now" "I", Cond.fieldLink RX0 9 "BagHall" "departures" "[I", Cond.methodLink RX0 96 yX0_route, Cond.instanceMethod yX0_route, Cond.selects RX0 yX0_route yX0_route, Cond.code yX0_route cX0_route 3 none, Cond.methodLink RX0 174 yX0_routeTo, Cond.instanceMethod yX0_routeTo, Cond.selects RX0 yX0_routeTo yX0_routeTo, Cond.code yX0_routeTo cX0_routeTo 2 (some .int), Cond.fieldLink RX0 13 "BagHall" "laterals" "[I", Cond.fieldLink RX0 38 "BagHall" "bagsAt" "[I", Cond.methodLink RX0 177 yX0_hasClosed, Cond.instanceMethod yX0_hasClosed, Cond.selects RX0 yX0_hasClosed yX0_hasClosed, Cond.code yX0_hasClosed cX0_hasClosed 2 (some .boolean), Cond.methodLink RX0 143 yX0_closing, Cond.instanceMethod yX0_closing, Cond.selects RX0 yX0_closing yX0_closing, Cond.code yX0_closing cX0_closing 2 (some .int), Cond.methodLink RX0 180 yX0_hasOpened, Cond.instanceMethod yX0_hasOpened]
def wsX0_transfer_r3 : List Cond := [Cond.selects RX0 yX0_hasOpened yX0_hasOpened, Cond.code yX0_hasOpened cX0_hasOpened 2 (some .boolean), Cond.methodLink RX0 92 yX0_bring, Cond.instanceMethod yX0_bring, Cond.selects RX0 yX0_bring yX0_bring, Cond.code yX0_bring cX0_bring 3 none, Cond.fieldLink RX0 35 "BagHall" "cameAt" "[I", Cond.fieldLink RX0 32 "BagHall" "lastScans" "[I", Cond.fieldLink RX0 79 "BagHall" "scanCount" "I", Cond.methodLink RX0 183 yX0_scan, Cond.instanceMethod yX0_scan, Cond.selects RX0 yX0_scan yX0_scan, Cond.code yX0_scan cX0_scan 3 none, Cond.fieldLink RX0 41 "BagHall" "scanBags" "[I", Cond.fieldLink RX0 44 "BagHall" "scanPlaces" "[I", Cond.fieldLink RX0 47 "BagHall" "scanTimes" "[I"]
def wsX0_transfer : List Cond := .code yX0_transfer cX0_transfer 4 (some .int) :: ((wsX0_transfer_r1 ++ (wsX0_transfer_r2 ++ wsX0_transfer_r3)) ++ wsX00 ++ (vx_atS RX0 65 "java/lang/IllegalStateException" ["java/lang/RuntimeException", "java/lang/Exception"]).filter goodWord ++ (vx_atS RX0 134 "java/lang/IndexOutOfBoundsException" ["java/lang/RuntimeException", "java/lang/Exception"]).filter goodWord)
def wsX0_requireBag : List Cond := .code yX0_requireBag cX0_requireBag 2 none :: ([.classLink RX0 130 "java/lang/IndexOutOfBoundsException", .initialized "java/lang/IndexOutOfBoundsException", .fieldLink RX0 123 "BagHall" "bagCount" "I"] ++ wsX00 ++ (vx_atS RX0 134 "java/lang/IndexOutOfBoundsException" ["java/lang/RuntimeException", "java/lang/Exception"]).filter goodWord)
def wsX0_decisionTime : List Cond := .code yX0_decisionTime cX0_decisionTime 1 (some .int) :: ([])
def wsX0_nextLevel : List Cond := .code yX0_nextLevel cX0_nextLevel 1 (some .int) :: ([])
def wsX0_decide_r1 : List Cond := [Cond.classLink RX0 61 "java/lang/IllegalStateException", Cond.initialized "java/lang/IllegalStateException", Cond.fieldLink RX0 29 "BagHall" "bagPlaces" "[I", Cond.fieldLink RX0 66 "BagHall" "now" "I", Cond.fieldLink RX0 35 "BagHall" "cameAt" "[I", Cond.methodLink RX0 99 yX0_requireBag, Cond.instanceMethod yX0_requireBag, Cond.selects RX0 yX0_requireBag yX0_requireBag, Cond.initialized RX0, Cond.code yX0_requireBag cX0_requireBag 2 none, Cond.classLink RX0 130 "java/lang/IndexOutOfBoundsException", Cond.initialized "java/lang/IndexOutOfBoundsException", Cond.fieldLink RX0 123 "BagHall" "bagCount" "I", Cond.methodLink RX0 104 yX0_decisionTime, Cond.static yX0_decisionTime, Cond.code yX0_decisionTime cX0_decisionTime 1 (some .int), Cond.methodLink RX0 96 yX0_route, Cond.instanceMethod yX0_route, Cond.selects RX0 yX0_route yX0_route, Cond.code yX0_route cX0_route 3 none, Cond.fieldLink RX0 20 "BagHall" "bagFlights" "[I", Cond.methodLink RX0 174 yX0_routeTo, Cond.instanceMethod yX0_routeTo, Cond.selects RX0 yX0_routeTo yX0_routeTo]
def wsX0_decide_r2 : List Cond := [Cond.code yX0_routeTo cX0_routeTo 2 (some .int), Cond.fieldLink RX0 13 "BagHall" "laterals" "[I", Cond.fieldLink RX0 38 "BagHall" "bagsAt" "[I", Cond.methodLink RX0 177 yX0_hasClosed, Cond.instanceMethod yX0_hasClosed, Cond.selects RX0 yX0_hasClosed yX0_hasClosed, Cond.code yX0_hasClosed cX0_hasClosed 2 (some .boolean), Cond.methodLink RX0 143 yX0_closing, Cond.instanceMethod yX0_closing, Cond.selects RX0 yX0_closing yX0_closing, Cond.code yX0_closing cX0_closing 2 (some .int), Cond.fieldLink RX0 9 "BagHall" "departures" "[I", Cond.methodLink RX0 180 yX0_hasOpened, Cond.instanceMethod yX0_hasOpened, Cond.selects RX0 yX0_hasOpened yX0_hasOpened, Cond.code yX0_hasOpened cX0_hasOpened 2 (some .boolean), Cond.methodLink RX0 92 yX0_bring, Cond.instanceMethod yX0_bring, Cond.selects RX0 yX0_bring yX0_bring, Cond.code yX0_bring cX0_bring 3 none, Cond.fieldLink RX0 32 "BagHall" "lastScans" "[I", Cond.fieldLink RX0 79 "BagHall" "scanCount" "I", Cond.methodLink RX0 183 yX0_scan, Cond.instanceMethod yX0_scan]
def wsX0_decide_r3 : List Cond := [Cond.selects RX0 yX0_scan yX0_scan, Cond.code yX0_scan cX0_scan 3 none, Cond.fieldLink RX0 41 "BagHall" "scanBags" "[I", Cond.fieldLink RX0 44 "BagHall" "scanPlaces" "[I", Cond.fieldLink RX0 47 "BagHall" "scanTimes" "[I", Cond.methodLink RX0 109 yX0_nextLevel, Cond.static yX0_nextLevel, Cond.code yX0_nextLevel cX0_nextLevel 1 (some .int)]
def wsX0_decide : List Cond := .code yX0_decide cX0_decide 4 (some .int) :: ((wsX0_decide_r1 ++ (wsX0_decide_r2 ++ wsX0_decide_r3)) ++ wsX00 ++ (vx_atS RX0 65 "java/lang/IllegalStateException" ["java/lang/RuntimeException", "java/lang/Exception"]).filter goodWord ++ (vx_atS RX0 134 "java/lang/IndexOutOfBoundsException" ["java/lang/RuntimeException", "java/lang/Exception"]).filter goodWord)
def wsX0_requirePlace : List Cond := .code yX0_requirePlace cX0_requirePlace 3 none :: ([.classLink RX0 61 "java/lang/IllegalStateException", .initialized "java/lang/IllegalStateException", .fieldLink RX0 29 "BagHall" "bagPlaces" "[I"] ++ wsX00 ++ (vx_atS RX0 65 "java/lang/IllegalStateException" ["java/lang/RuntimeException", "java/lang/Exception"]).filter goodWord)
def wsX0_letGo_r1 : List Cond := [Cond.fieldLink RX0 29 "BagHall" "bagPlaces" "[I", Cond.methodLink RX0 99 yX0_requireBag, Cond.instanceMethod yX0_requireBag, Cond.selects RX0 yX0_requireBag yX0_requireBag, Cond.initialized RX0, Cond.code yX0_requireBag cX0_requireBag 2 none, Cond.classLink RX0 130 "java/lang/IndexOutOfBoundsException", Cond.initialized "java/lang/IndexOutOfBoundsException", Cond.fieldLink RX0 123 "BagHall" "bagCount" "I", Cond.methodLink RX0 112 yX0_requirePlace, Cond.instanceMethod yX0_requirePlace, Cond.selects RX0 yX0_requirePlace yX0_requirePlace, Cond.code yX0_requirePlace cX0_requirePlace 3 none, Cond.classLink RX0 61 "java/lang/IllegalStateException", Cond.initialized "java/lang/IllegalStateException", Cond.methodLink RX0 96 yX0_route, Cond.instanceMethod yX0_route, Cond.selects RX0 yX0_route yX0_route, Cond.code yX0_route cX0_route 3 none, Cond.fieldLink RX0 20 "BagHall" "bagFlights" "[I", Cond.methodLink RX0 174 yX0_routeTo, Cond.instanceMethod yX0_routeTo, Cond.selects RX0 yX0_routeTo yX0_routeTo, Cond.code yX0_routeTo cX0_routeTo 2 (some .int)]
def wsX0_letGo_r2 : List Cond := [Cond.fieldLink RX0 13 "BagHall" "laterals" "[I", Cond.fieldLink RX0 38 "BagHall" "bagsAt" "[I", Cond.methodLink RX0 177 yX0_hasClosed, Cond.instanceMethod yX0_hasClosed, Cond.selects RX0 yX0_hasClosed yX0_hasClosed, Cond.code yX0_hasClosed cX0_hasClosed 2 (some .boolean), Cond.fieldLink RX0 66 "BagHall" "now" "I", Cond.methodLink RX0 143 yX0_closing, Cond.instanceMethod yX0_closing, Cond.selects RX0 yX0_closing yX0_closing, Cond.code yX0_closing cX0_closing 2 (some .int), Cond.fieldLink RX0 9 "BagHall" "departures" "[I", Cond.methodLink RX0 180 yX0_hasOpened, Cond.instanceMethod yX0_hasOpened, Cond.selects RX0 yX0_hasOpened yX0_hasOpened, Cond.code yX0_hasOpened cX0_hasOpened 2 (some .boolean), Cond.methodLink RX0 92 yX0_bring, Cond.instanceMethod yX0_bring, Cond.selects RX0 yX0_bring yX0_bring, Cond.code yX0_bring cX0_bring 3 none, Cond.fieldLink RX0 35 "BagHall" "cameAt" "[I", Cond.fieldLink RX0 32 "BagHall" "lastScans" "[I", Cond.fieldLink RX0 79 "BagHall" "scanCount" "I", Cond.methodLink RX0 183 yX0_scan]
def wsX0_letGo_r3 : List Cond := [Cond.instanceMethod yX0_scan, Cond.selects RX0 yX0_scan yX0_scan, Cond.code yX0_scan cX0_scan 3 none, Cond.fieldLink RX0 41 "BagHall" "scanBags" "[I", Cond.fieldLink RX0 44 "BagHall" "scanPlaces" "[I", Cond.fieldLink RX0 47 "BagHall" "scanTimes" "[I"]
def wsX0_letGo : List Cond := .code yX0_letGo cX0_letGo 2 (some .int) :: ((wsX0_letGo_r1 ++ (wsX0_letGo_r2 ++ wsX0_letGo_r3)) ++ wsX00 ++ (vx_atS RX0 134 "java/lang/IndexOutOfBoundsException" ["java/lang/RuntimeException", "java/lang/Exception"]).filter goodWord ++ (vx_atS RX0 65 "java/lang/IllegalStateException" ["java/lang/RuntimeException", "java/lang/Exception"]).filter goodWord)
def wsX0_isLoadedFor : List Cond := .code yX0_isLoadedFor cX0_isLoadedFor 3 (some .boolean) :: ([.fieldLink RX0 29 "BagHall" "bagPlaces" "[I", .fieldLink RX0 20 "BagHall" "bagFlights" "[I"] ++ wsX00)
def wsX0_loadedBags : List Cond := .code yX0_loadedBags cX0_loadedBags 4 (some .int) :: ([.fieldLink RX0 123 "BagHall" "bagCount" "I", .methodLink RX0 135 yX0_isLoadedFor, .instanceMethod yX0_isLoadedFor, .selects RX0 yX0_isLoadedFor yX0_isLoadedFor, .initialized RX0, .code yX0_isLoadedFor cX0_isLoadedFor 3 (some .boolean), .fieldLink RX0 29 "BagHall" "bagPlaces" "[I", .fieldLink RX0 20 "BagHall" "bagFlights" "[I"] ++ wsX00)
def wsX0_load_r1 : List Cond := [Cond.fieldLink RX0 20 "BagHall" "bagFlights" "[I", Cond.methodLink RX0 99 yX0_requireBag, Cond.instanceMethod yX0_requireBag, Cond.selects RX0 yX0_requireBag yX0_requireBag, Cond.initialized RX0, Cond.code yX0_requireBag cX0_requireBag 2 none, Cond.classLink RX0 130 "java/lang/IndexOutOfBoundsException", Cond.initialized "java/lang/IndexOutOfBoundsException", Cond.fieldLink RX0 123 "BagHall" "bagCount" "I", Cond.methodLink RX0 112 yX0_requirePlace, Cond.instanceMethod yX0_requirePlace, Cond.selects RX0 yX0_requirePlace yX0_requirePlace, Cond.code yX0_requirePlace cX0_requirePlace 3 none, Cond.classLink RX0 61 "java/lang/IllegalStateException", Cond.initialized "java/lang/IllegalStateException", Cond.fieldLink RX0 29 "BagHall" "bagPlaces" "[I", Cond.methodLink RX0 92 yX0_bring, Cond.instanceMethod yX0_bring, Cond.selects RX0 yX0_bring yX0_bring, Cond.code yX0_bring cX0_bring 3 none, Cond.fieldLink RX0 38 "BagHall" "bagsAt" "[I", Cond.fieldLink RX0 35 "BagHall" "cameAt" "[I", Cond.fieldLink RX0 66 "BagHall" "now" "I", Cond.fieldLink RX0 32 "BagHall" "lastScans" "[I"]
def wsX0_load_r2 : List Cond := [Cond.fieldLink RX0 79 "BagHall" "scanCount" "I", Cond.methodLink RX0 183 yX0_scan, Cond.instanceMethod yX0_scan, Cond.selects RX0 yX0_scan yX0_scan, Cond.code yX0_scan cX0_scan 3 none, Cond.fieldLink RX0 41 "BagHall" "scanBags" "[I", Cond.fieldLink RX0 44 "BagHall" "scanPlaces" "[I", Cond.fieldLink RX0 47 "BagHall" "scanTimes" "[I", Cond.methodLink RX0 115 yX0_loadedBags, Cond.instanceMethod yX0_loadedBags, Cond.selects RX0 yX0_loadedBags yX0_loadedBags, Cond.code yX0_loadedBags cX0_loadedBags 4 (some .int), Cond.methodLink RX0 135 yX0_isLoadedFor, Cond.instanceMethod yX0_isLoadedFor, Cond.selects RX0 yX0_isLoadedFor yX0_isLoadedFor, Cond.code yX0_isLoadedFor cX0_isLoadedFor 3 (some .boolean)]
def wsX0_load : List Cond := .code yX0_load cX0_load 2 (some .int) :: ((wsX0_load_r1 ++ wsX0_load_r2) ++ wsX00 ++ (vx_atS RX0 134 "java/lang/IndexOutOfBoundsException" ["java/lang/RuntimeException", "java/lang/Exception"]).filter goodWord ++ (vx_atS RX0 65 "java/lang/IllegalStateException" ["java/lang/RuntimeException", "java/lang/Exception"]).filter goodWord)
def wsX0_offload_r1 : List Cond := [Cond.fieldLink RX0 20 "BagHall" "bagFlights" "[I", Cond.methodLink RX0 99 yX0_requireBag, Cond.instanceMethod yX0_requireBag, Cond.selects RX0 yX0_requireBag yX0_requireBag, Cond.initialized RX0, Cond.code yX0_requireBag cX0_requireBag 2 none, Cond.classLink RX0 130 "java/lang/IndexOutOfBoundsException", Cond.initialized "java/lang/IndexOutOfBoundsException", Cond.fieldLink RX0 123 "BagHall" "bagCount" "I", Cond.methodLink RX0 112 yX0_requirePlace, Cond.instanceMethod yX0_requirePlace, Cond.selects RX0 yX0_requirePlace yX0_requirePlace, Cond.code yX0_requirePlace cX0_requirePlace 3 none, Cond.classLink RX0 61 "java/lang/IllegalStateException", Cond.initialized "java/lang/IllegalStateException", Cond.fieldLink RX0 29 "BagHall" "bagPlaces" "[I", Cond.methodLink RX0 92 yX0_bring, Cond.instanceMethod yX0_bring, Cond.selects RX0 yX0_bring yX0_bring, Cond.code yX0_bring cX0_bring 3 none, Cond.fieldLink RX0 38 "BagHall" "bagsAt" "[I", Cond.fieldLink RX0 35 "BagHall" "cameAt" "[I", Cond.fieldLink RX0 66 "BagHall" "now" "I", Cond.fieldLink RX0 32 "BagHall" "lastScans" "[I"]
def wsX0_offload_r2 : List Cond := [Cond.fieldLink RX0 79 "BagHall" "scanCount" "I", Cond.methodLink RX0 183 yX0_scan, Cond.instanceMethod yX0_scan, Cond.selects RX0 yX0_scan yX0_scan, Cond.code yX0_scan cX0_scan 3 none, Cond.fieldLink RX0 41 "BagHall" "scanBags" "[I", Cond.fieldLink RX0 44 "BagHall" "scanPlaces" "[I", Cond.fieldLink RX0 47 "BagHall" "scanTimes" "[I", Cond.methodLink RX0 115 yX0_loadedBags, Cond.instanceMethod yX0_loadedBags, Cond.selects RX0 yX0_loadedBags yX0_loadedBags, Cond.code yX0_loadedBags cX0_loadedBags 4 (some .int), Cond.methodLink RX0 135 yX0_isLoadedFor, Cond.instanceMethod yX0_isLoadedFor, Cond.selects RX0 yX0_isLoadedFor yX0_isLoadedFor, Cond.code yX0_isLoadedFor cX0_isLoadedFor 3 (some .boolean)]
def wsX0_offload : List Cond := .code yX0_offload cX0_offload 2 (some .int) :: ((wsX0_offload_r1 ++ wsX0_offload_r2) ++ wsX00 ++ (vx_atS RX0 134 "java/lang/IndexOutOfBoundsException" ["java/lang/RuntimeException", "java/lang/Exception"]).filter goodWord ++ (vx_atS RX0 65 "java/lang/IllegalStateException" ["java/lang/RuntimeException", "java/lang/Exception"]).filter goodWord)
def wsX0_sendOn_r1 : List Cond := [Cond.classLink RX0 61 "java/lang/IllegalStateException", Cond.initialized "java/lang/IllegalStateException", Cond.fieldLink RX0 29 "BagHall" "bagPlaces" "[I", Cond.fieldLink RX0 20 "BagHall" "bagFlights" "[I", Cond.fieldLink RX0 26 "BagHall" "onPurpose" "[Z", Cond.methodLink RX0 99 yX0_requireBag, Cond.instanceMethod yX0_requireBag, Cond.selects RX0 yX0_requireBag yX0_requireBag, Cond.initialized RX0, Cond.code yX0_requireBag cX0_requireBag 2 none, Cond.classLink RX0 130 "java/lang/IndexOutOfBoundsException", Cond.initialized "java/lang/IndexOutOfBoundsException", Cond.fieldLink RX0 123 "BagHall" "bagCount" "I", Cond.methodLink RX0 85 yX0_requireFlight, Cond.instanceMethod yX0_requireFlight, Cond.selects RX0 yX0_requireFlight yX0_requireFlight, Cond.code yX0_requireFlight cX0_requireFlight 2 none, Cond.fieldLink RX0 57 "BagHall" "flightCount" "I", Cond.methodLink RX0 120 yX0_requireNotDeparted, Cond.instanceMethod yX0_requireNotDeparted, Cond.selects RX0 yX0_requireNotDeparted yX0_requireNotDeparted, Cond.code yX0_requireNotDeparted cX0_requireNotDeparted 2 none, Cond.fieldLink RX0 66 "BagHall" "now" "I", Cond.fieldLink RX0 9 "BagHall" "departures" "[I"]
def wsX0_sendOn_r2 : List Cond := [Cond.methodLink RX0 96 yX0_route, Cond.instanceMethod yX0_route, Cond.selects RX0 yX0_route yX0_route, Cond.code yX0_route cX0_route 3 none, Cond.methodLink RX0 174 yX0_routeTo, Cond.instanceMethod yX0_routeTo, Cond.selects RX0 yX0_routeTo yX0_routeTo, Cond.code yX0_routeTo cX0_routeTo 2 (some .int), Cond.fieldLink RX0 13 "BagHall" "laterals" "[I", Cond.fieldLink RX0 38 "BagHall" "bagsAt" "[I", Cond.methodLink RX0 177 yX0_hasClosed, Cond.instanceMethod yX0_hasClosed, Cond.selects RX0 yX0_hasClosed yX0_hasClosed, Cond.code yX0_hasClosed cX0_hasClosed 2 (some .boolean), Cond.methodLink RX0 143 yX0_closing, Cond.instanceMethod yX0_closing, Cond.selects RX0 yX0_closing yX0_closing, Cond.code yX0_closing cX0_closing 2 (some .int), Cond.methodLink RX0 180 yX0_hasOpened, Cond.instanceMethod yX0_hasOpened, Cond.selects RX0 yX0_hasOpened yX0_hasOpened, Cond.code yX0_hasOpened cX0_hasOpened 2 (some .boolean), Cond.methodLink RX0 92 yX0_bring, Cond.instanceMethod yX0_bring]
def wsX0_sendOn_r3 : List Cond := [Cond.selects RX0 yX0_bring yX0_bring, Cond.code yX0_bring cX0_bring 3 none, Cond.fieldLink RX0 35 "BagHall" "cameAt" "[I", Cond.fieldLink RX0 32 "BagHall" "lastScans" "[I", Cond.fieldLink RX0 79 "BagHall" "scanCount" "I", Cond.methodLink RX0 183 yX0_scan, Cond.instanceMethod yX0_scan, Cond.selects RX0 yX0_scan yX0_scan, Cond.code yX0_scan cX0_scan 3 none, Cond.fieldLink RX0 41 "BagHall" "scanBags" "[I", Cond.fieldLink RX0 44 "BagHall" "scanPlaces" "[I", Cond.fieldLink RX0 47 "BagHall" "scanTimes" "[I"]
def wsX0_sendOn : List Cond := .code yX0_sendOn cX0_sendOn 3 (some .int) :: ((wsX0_sendOn_r1 ++ (wsX0_sendOn_r2 ++ wsX0_sendOn_r3)) ++ wsX00 ++ (vx_atS RX0 65 "java/lang/IllegalStateException" ["java/lang/RuntimeException", "java/lang/Exception"]).filter goodWord ++ (vx_atS RX0 134 "java/lang/IndexOutOfBoundsException" ["java/lang/RuntimeException", "java/lang/Exception"]).filter goodWord)
def wsX0_bags : List Cond := .code yX0_bags cX0_bags 1 (some .int) :: ([.fieldLink RX0 123 "BagHall" "bagCount" "I"] ++ wsX00)
def wsX0_placeOf : List Cond := .code yX0_placeOf cX0_placeOf 2 (some .int) :: ([.fieldLink RX0 29 "BagHall" "bagPlaces" "[I", .methodLink RX0 99 yX0_requireBag, .instanceMethod yX0_requireBag, .selects RX0 yX0_requireBag yX0_requireBag, .initialized RX0, .code yX0_requireBag cX0_requireBag 2 none, .classLink RX0 130 "java/lang/IndexOutOfBoundsException", .initialized "java/lang/IndexOutOfBoundsException", .fieldLink RX0 123 "BagHall" "bagCount" "I"] ++ wsX00 ++ (vx_atS RX0 134 "java/lang/IndexOutOfBoundsException" ["java/lang/RuntimeException", "java/lang/Exception"]).filter goodWord)
def wsX0_placeByScans : List Cond := .code yX0_placeByScans cX0_placeByScans 4 (some .int) :: ([.classLink RX0 50 "java/lang/IllegalArgumentException", .initialized "java/lang/IllegalArgumentException", .fieldLink RX0 66 "BagHall" "now" "I", .fieldLink RX0 79 "BagHall" "scanCount" "I", .fieldLink RX0 41 "BagHall" "scanBags" "[I", .fieldLink RX0 47 "BagHall" "scanTimes" "[I", .fieldLink RX0 44 "BagHall" "scanPlaces" "[I", .methodLink RX0 99 yX0_requireBag, .instanceMethod yX0_requireBag, .selects RX0 yX0_requireBag yX0_requireBag, .initialized RX0, .code yX0_requireBag cX0_requireBag 2 none, .classLink RX0 130 "java/lang/IndexOutOfBoundsException", .initialized "java/lang/IndexOutOfBoundsException", .fieldLink RX0 123 "BagHall" "bagCount" "I"] ++ wsX00 ++ (vx_atS RX0 54 "java/lang/IllegalArgumentException" ["java/lang/RuntimeException", "java/lang/Exception"]).filter goodWord ++ (vx_atS RX0 134 "java/lang/IndexOutOfBoundsException" ["java/lang/RuntimeException", "java/lang/Exception"]).filter goodWord)
def wsX0_flightOf : List Cond := .code yX0_flightOf cX0_flightOf 2 (some .int) :: ([.fieldLink RX0 20 "BagHall" "bagFlights" "[I", .methodLink RX0 99 yX0_requireBag, .instanceMethod yX0_requireBag, .selects RX0 yX0_requireBag yX0_requireBag, .initialized RX0, .code yX0_requireBag cX0_requireBag 2 none, .classLink RX0 130 "java/lang/IndexOutOfBoundsException", .initialized "java/lang/IndexOutOfBoundsException", .fieldLink RX0 123 "BagHall" "bagCount" "I"] ++ wsX00 ++ (vx_atS RX0 134 "java/lang/IndexOutOfBoundsException" ["java/lang/RuntimeException", "java/lang/Exception"]).filter goodWord)
def wsX0_count : List Cond := .code yX0_count cX0_count 2 (some .int) :: ([.classLink RX0 50 "java/lang/IllegalArgumentException", .initialized "java/lang/IllegalArgumentException", .fieldLink RX0 38 "BagHall" "bagsAt" "[I"] ++ wsX00 ++ (vx_atS RX0 54 "java/lang/IllegalArgumentException" ["java/lang/RuntimeException", "java/lang/Exception"]).filter goodWord)
def wsX0_atLateral : List Cond := .code yX0_atLateral cX0_atLateral 4 (some .int) :: ([.classLink RX0 130 "java/lang/IndexOutOfBoundsException", .initialized "java/lang/IndexOutOfBoundsException", .fieldLink RX0 123 "BagHall" "bagCount" "I", .fieldLink RX0 29 "BagHall" "bagPlaces" "[I", .fieldLink RX0 13 "BagHall" "laterals" "[I", .fieldLink RX0 20 "BagHall" "bagFlights" "[I"] ++ wsX00 ++ (vx_atS RX0 134 "java/lang/IndexOutOfBoundsException" ["java/lang/RuntimeException", "java/lang/Exception"]).filter goodWord)
def wsX0_unmatched : List Cond := .code yX0_unmatched cX0_unmatched 4 (some .int) :: ([.fieldLink RX0 123 "BagHall" "bagCount" "I", .methodLink RX0 85 yX0_requireFlight, .instanceMethod yX0_requireFlight, .selects RX0 yX0_requireFlight yX0_requireFlight, .initialized RX0, .code yX0_requireFlight cX0_requireFlight 2 none, .classLink RX0 130 "java/lang/IndexOutOfBoundsException", .initialized "java/lang/IndexOutOfBoundsException", .fieldLink RX0 57 "BagHall" "flightCount" "I", .methodLink RX0 135 yX0_isLoadedFor, .instanceMethod yX0_isLoadedFor, .selects RX0 yX0_isLoadedFor yX0_isLoadedFor, .code yX0_isLoadedFor cX0_isLoadedFor 3 (some .boolean), .fieldLink RX0 29 "BagHall" "bagPlaces" "[I", .fieldLink RX0 20 "BagHall" "bagFlights" "[I", .methodLink RX0 139 yX0_mayFly, .instanceMethod yX0_mayFly, .selects RX0 yX0_mayFly yX0_mayFly, .code yX0_mayFly cX0_mayFly 2 (some .boolean), .fieldLink RX0 26 "BagHall" "onPurpose" "[Z", .fieldLink RX0 16 "BagHall" "boarded" "[Z", .fieldLink RX0 23 "BagHall" "bagRiders" "[I"] ++ wsX00 ++ (vx_atS RX0 134 "java/lang/IndexOutOfBoundsException" ["java/lang/RuntimeException", "java/lang/Exception"]).filter goodWord)
def wsX0_untilClose : List Cond := .code yX0_untilClose cX0_untilClose 2 (some .int) :: ([.fieldLink RX0 66 "BagHall" "now" "I", .methodLink RX0 146 Lib.Math.max.name, .static Lib.Math.max.name, .initialized "java/lang/Math", .code Lib.Math.max.name Lib.Math.max.code 2 (some .int), .methodLink RX0 85 yX0_requireFlight, .instanceMethod yX0_requireFlight, .selects RX0 yX0_requireFlight yX0_requireFlight, .initialized RX0, .code yX0_requireFlight cX0_requireFlight 2 none, .classLink RX0 130 "java/lang/IndexOutOfBoundsException", .initialized "java/lang/IndexOutOfBoundsException", .fieldLink RX0 57 "BagHall" "flightCount" "I", .methodLink RX0 143 yX0_closing, .instanceMethod yX0_closing, .selects RX0 yX0_closing yX0_closing, .code yX0_closing cX0_closing 2 (some .int), .fieldLink RX0 9 "BagHall" "departures" "[I"] ++ wsX00 ++ (vx_atS RX0 134 "java/lang/IndexOutOfBoundsException" ["java/lang/RuntimeException", "java/lang/Exception"]).filter goodWord)
def wsX0_scans : List Cond := .code yX0_scans cX0_scans 1 (some .int) :: ([.fieldLink RX0 79 "BagHall" "scanCount" "I"] ++ wsX00)
def wsX0_requireScan : List Cond := .code yX0_requireScan cX0_requireScan 2 none :: ([.classLink RX0 130 "java/lang/IndexOutOfBoundsException", .initialized "java/lang/IndexOutOfBoundsException", .fieldLink RX0 79 "BagHall" "scanCount" "I"] ++ wsX00 ++ (vx_atS RX0 134 "java/lang/IndexOutOfBoundsException" ["java/lang/RuntimeException", "java/lang/Exception"]).filter goodWord)
def wsX0_bagOfScan : List Cond := .code yX0_bagOfScan cX0_bagOfScan 2 (some .int) :: ([.fieldLink RX0 41 "BagHall" "scanBags" "[I", .methodLink RX0 151 yX0_requireScan, .instanceMethod yX0_requireScan, .selects RX0 yX0_requireScan yX0_requireScan, .initialized RX0, .code yX0_requireScan cX0_requireScan 2 none, .classLink RX0 130 "java/lang/IndexOutOfBoundsException", .initialized "java/lang/IndexOutOfBoundsException", .fieldLink RX0 79 "BagHall" "scanCount" "I"] ++ wsX00 ++ (vx_atS RX0 134 "java/lang/IndexOutOfBoundsException" ["java/lang/RuntimeException", "java/lang/Exception"]).filter goodWord)
def wsX0_placeOfScan : List Cond := .code yX0_placeOfScan cX0_placeOfScan 2 (some .int) :: ([.fieldLink RX0 44 "BagHall" "scanPlaces" "[I", .methodLink RX0 151 yX0_requireScan, .instanceMethod yX0_requireScan, .selects RX0 yX0_requireScan yX0_requireScan, .initialized RX0, .code yX0_requireScan cX0_requireScan 2 none, .classLink RX0 130 "java/lang/IndexOutOfBoundsException", .initialized "java/lang/IndexOutOfBoundsException", .fieldLink RX0 79 "BagHall" "scanCount" "I"] ++ wsX00 ++ (vx_atS RX0 134 "java/lang/IndexOutOfBoundsException" ["java/lang/RuntimeException", "java/lang/Exception"]).filter goodWord)
def wsJ9_abs_0f7a4 : List Cond := .code yJ9_abs_0f7a4 cJ9_abs_0f7a4 1 (some .int) :: ([])
def wsJ9_max_7cf53 : List Cond := .code yJ9_max_7cf53 cJ9_max_7cf53 2 (some .int) :: ([])
def wsL_low : List Cond := .code yL_low cL_low 2 (some .int) :: ([.constant RL 7 (2147483647)])
def wsL_cell : List Cond := .code yL_cell cL_cell 2 (some .int) :: ([.constant RL 8 (40503)])
def wsL_addFlight_r1 : List Cond := [Cond.classLink RL 15 "java/lang/IllegalStateException", Cond.methodLink RL 9 yX0_addFlight, Cond.instanceMethod yX0_addFlight, Cond.selects RX0 yX0_addFlight yX0_addFlight, Cond.initialized RX0, Cond.code yX0_addFlight cX0_addFlight 4 (some .int), Cond.classLink RX0 50 "java/lang/IllegalArgumentException", Cond.initialized "java/lang/IllegalArgumentException", Cond.classLink RX0 61 "java/lang/IllegalStateException", Cond.initialized "java/lang/IllegalStateException", Cond.fieldLink RX0 57 "BagHall" "flightCount" "I", Cond.fieldLink RX0 66 "BagHall" "now" "I", Cond.fieldLink RX0 13 "BagHall" "laterals" "[I", Cond.fieldLink RX0 9 "BagHall" "departures" "[I", Cond.methodLink RX0 69 yX0_lowestFreeLateral, Cond.instanceMethod yX0_lowestFreeLateral, Cond.selects RX0 yX0_lowestFreeLateral yX0_lowestFreeLateral, Cond.code yX0_lowestFreeLateral cX0_lowestFreeLateral 3 (some .int), Cond.methodLink RX0 166 yX0_isFree, Cond.instanceMethod yX0_isFree, Cond.selects RX0 yX0_isFree yX0_isFree, Cond.code yX0_isFree cX0_isFree 4 (some .boolean), Cond.methodLink RX0 169 Lib.Math.abs.name, Cond.static Lib.Math.abs.name]
def wsL_addFlight_r2 : List Cond := [Cond.initialized "java/lang/Math", Cond.code Lib.Math.abs.name Lib.Math.abs.code 1 (some .int)]
def wsL_addFlight : List Cond := .codeWith yL_addFlight cL_addFlight 3 (some .int) [(0, 5, 6, 15)] :: ((wsL_addFlight_r1 ++ wsL_addFlight_r2) ++ wsX00 ++ (vx_atS RX0 54 "java/lang/IllegalArgumentException" ["java/lang/RuntimeException", "java/lang/Exception"]).filter goodWord ++ (vx_atS RX0 65 "java/lang/IllegalStateException" ["java/lang/RuntimeException", "java/lang/Exception"]).filter goodWord)
def wsL_comes_r1 : List Cond := [Cond.classLink RL 15 "java/lang/IllegalStateException", Cond.methodLink RL 17 yX0_transfer, Cond.instanceMethod yX0_transfer, Cond.selects RX0 yX0_transfer yX0_transfer, Cond.initialized RX0, Cond.code yX0_transfer cX0_transfer 4 (some .int), Cond.methodLink RX0 88 yX0_takeIn, Cond.instanceMethod yX0_takeIn, Cond.selects RX0 yX0_takeIn yX0_takeIn, Cond.code yX0_takeIn cX0_takeIn 4 (some .int), Cond.classLink RX0 61 "java/lang/IllegalStateException", Cond.initialized "java/lang/IllegalStateException", Cond.fieldLink RX0 123 "BagHall" "bagCount" "I", Cond.fieldLink RX0 20 "BagHall" "bagFlights" "[I", Cond.fieldLink RX0 23 "BagHall" "bagRiders" "[I", Cond.fieldLink RX0 29 "BagHall" "bagPlaces" "[I", Cond.methodLink RX0 85 yX0_requireFlight, Cond.instanceMethod yX0_requireFlight, Cond.selects RX0 yX0_requireFlight yX0_requireFlight, Cond.code yX0_requireFlight cX0_requireFlight 2 none, Cond.classLink RX0 130 "java/lang/IndexOutOfBoundsException", Cond.initialized "java/lang/IndexOutOfBoundsException", Cond.fieldLink RX0 57 "BagHall" "flightCount" "I", Cond.methodLink RX0 73 yX0_requireRider]
def wsL_comes_r2 : List Cond := [Cond.instanceMethod yX0_requireRider, Cond.selects RX0 yX0_requireRider yX0_requireRider, Cond.code yX0_requireRider cX0_requireRider 2 none, Cond.methodLink RX0 120 yX0_requireNotDeparted, Cond.instanceMethod yX0_requireNotDeparted, Cond.selects RX0 yX0_requireNotDeparted yX0_requireNotDeparted, Cond.code yX0_requireNotDeparted cX0_requireNotDeparted 2 none, Cond.fieldLink RX0 66 "BagHall" "now" "I", Cond.fieldLink RX0 9 "BagHall" "departures" "[I", Cond.methodLink RX0 96 yX0_route, Cond.instanceMethod yX0_route, Cond.selects RX0 yX0_route yX0_route, Cond.code yX0_route cX0_route 3 none, Cond.methodLink RX0 174 yX0_routeTo, Cond.instanceMethod yX0_routeTo, Cond.selects RX0 yX0_routeTo yX0_routeTo, Cond.code yX0_routeTo cX0_routeTo 2 (some .int), Cond.fieldLink RX0 13 "BagHall" "laterals" "[I", Cond.fieldLink RX0 38 "BagHall" "bagsAt" "[I", Cond.methodLink RX0 177 yX0_hasClosed, Cond.instanceMethod yX0_hasClosed, Cond.selects RX0 yX0_hasClosed yX0_hasClosed, Cond.code yX0_hasClosed cX0_hasClosed 2 (some .boolean), Cond.methodLink RX0 143 yX0_closing]
def wsL_comes_r3 : List Cond := [Cond.instanceMethod yX0_closing, Cond.selects RX0 yX0_closing yX0_closing, Cond.code yX0_closing cX0_closing 2 (some .int), Cond.methodLink RX0 180 yX0_hasOpened, Cond.instanceMethod yX0_hasOpened, Cond.selects RX0 yX0_hasOpened yX0_hasOpened, Cond.code yX0_hasOpened cX0_hasOpened 2 (some .boolean), Cond.methodLink RX0 92 yX0_bring, Cond.instanceMethod yX0_bring, Cond.selects RX0 yX0_bring yX0_bring, Cond.code yX0_bring cX0_bring 3 none, Cond.fieldLink RX0 35 "BagHall" "cameAt" "[I", Cond.fieldLink RX0 32 "BagHall" "lastScans" "[I", Cond.fieldLink RX0 79 "BagHall" "scanCount" "I", Cond.methodLink RX0 183 yX0_scan, Cond.instanceMethod yX0_scan, Cond.selects RX0 yX0_scan yX0_scan, Cond.code yX0_scan cX0_scan 3 none, Cond.fieldLink RX0 41 "BagHall" "scanBags" "[I", Cond.fieldLink RX0 44 "BagHall" "scanPlaces" "[I", Cond.fieldLink RX0 47 "BagHall" "scanTimes" "[I", Cond.methodLink RL 21 yX0_checkIn, Cond.instanceMethod yX0_checkIn, Cond.selects RX0 yX0_checkIn yX0_checkIn]
def wsL_comes_r4 : List Cond := [Cond.code yX0_checkIn cX0_checkIn 4 (some .int)]
def wsL_comes : List Cond := .codeWith yL_comes cL_comes 5 (some .int) [(0, 19, 20, 15)] :: ((wsL_comes_r1 ++ (wsL_comes_r2 ++ (wsL_comes_r3 ++ wsL_comes_r4))) ++ wsX00 ++ (vx_atS RX0 65 "java/lang/IllegalStateException" ["java/lang/RuntimeException", "java/lang/Exception"]).filter goodWord ++ (vx_atS RX0 134 "java/lang/IndexOutOfBoundsException" ["java/lang/RuntimeException", "java/lang/Exception"]).filter goodWord)
def wsL_decide_r1 : List Cond := [Cond.classLink RL 15 "java/lang/IllegalStateException", Cond.methodLink RL 24 yX0_decide, Cond.instanceMethod yX0_decide, Cond.selects RX0 yX0_decide yX0_decide, Cond.initialized RX0, Cond.code yX0_decide cX0_decide 4 (some .int), Cond.classLink RX0 61 "java/lang/IllegalStateException", Cond.initialized "java/lang/IllegalStateException", Cond.fieldLink RX0 29 "BagHall" "bagPlaces" "[I", Cond.fieldLink RX0 66 "BagHall" "now" "I", Cond.fieldLink RX0 35 "BagHall" "cameAt" "[I", Cond.methodLink RX0 99 yX0_requireBag, Cond.instanceMethod yX0_requireBag, Cond.selects RX0 yX0_requireBag yX0_requireBag, Cond.code yX0_requireBag cX0_requireBag 2 none, Cond.classLink RX0 130 "java/lang/IndexOutOfBoundsException", Cond.initialized "java/lang/IndexOutOfBoundsException", Cond.fieldLink RX0 123 "BagHall" "bagCount" "I", Cond.methodLink RX0 104 yX0_decisionTime, Cond.static yX0_decisionTime, Cond.code yX0_decisionTime cX0_decisionTime 1 (some .int), Cond.methodLink RX0 96 yX0_route, Cond.instanceMethod yX0_route, Cond.selects RX0 yX0_route yX0_route]
def wsL_decide_r2 : List Cond := [Cond.code yX0_route cX0_route 3 none, Cond.fieldLink RX0 20 "BagHall" "bagFlights" "[I", Cond.methodLink RX0 174 yX0_routeTo, Cond.instanceMethod yX0_routeTo, Cond.selects RX0 yX0_routeTo yX0_routeTo, Cond.code yX0_routeTo cX0_routeTo 2 (some .int), Cond.fieldLink RX0 13 "BagHall" "laterals" "[I", Cond.fieldLink RX0 38 "BagHall" "bagsAt" "[I", Cond.methodLink RX0 177 yX0_hasClosed, Cond.instanceMethod yX0_hasClosed, Cond.selects RX0 yX0_hasClosed yX0_hasClosed, Cond.code yX0_hasClosed cX0_hasClosed 2 (some .boolean), Cond.methodLink RX0 143 yX0_closing, Cond.instanceMethod yX0_closing, Cond.selects RX0 yX0_closing yX0_closing, Cond.code yX0_closing cX0_closing 2 (some .int), Cond.fieldLink RX0 9 "BagHall" "departures" "[I", Cond.methodLink RX0 180 yX0_hasOpened, Cond.instanceMethod yX0_hasOpened, Cond.selects RX0 yX0_hasOpened yX0_hasOpened, Cond.code yX0_hasOpened cX0_hasOpened 2 (some .boolean), Cond.methodLink RX0 92 yX0_bring, Cond.instanceMethod yX0_bring, Cond.selects RX0 yX0_bring yX0_bring]
def wsL_decide_r3 : List Cond := [Cond.code yX0_bring cX0_bring 3 none, Cond.fieldLink RX0 32 "BagHall" "lastScans" "[I", Cond.fieldLink RX0 79 "BagHall" "scanCount" "I", Cond.methodLink RX0 183 yX0_scan, Cond.instanceMethod yX0_scan, Cond.selects RX0 yX0_scan yX0_scan, Cond.code yX0_scan cX0_scan 3 none, Cond.fieldLink RX0 41 "BagHall" "scanBags" "[I", Cond.fieldLink RX0 44 "BagHall" "scanPlaces" "[I", Cond.fieldLink RX0 47 "BagHall" "scanTimes" "[I", Cond.methodLink RX0 109 yX0_nextLevel, Cond.static yX0_nextLevel, Cond.code yX0_nextLevel cX0_nextLevel 1 (some .int)]
def wsL_decide : List Cond := .codeWith yL_decide cL_decide 4 (some .int) [(0, 6, 7, 15)] :: ((wsL_decide_r1 ++ (wsL_decide_r2 ++ wsL_decide_r3)) ++ wsX00 ++ (vx_atS RX0 65 "java/lang/IllegalStateException" ["java/lang/RuntimeException", "java/lang/Exception"]).filter goodWord ++ (vx_atS RX0 134 "java/lang/IndexOutOfBoundsException" ["java/lang/RuntimeException", "java/lang/Exception"]).filter goodWord)
def wsL_sendOn_r1 : List Cond := [Cond.classLink RL 15 "java/lang/IllegalStateException", Cond.methodLink RL 28 yX0_sendOn, Cond.instanceMethod yX0_sendOn, Cond.selects RX0 yX0_sendOn yX0_sendOn, Cond.initialized RX0, Cond.code yX0_sendOn cX0_sendOn 3 (some .int), Cond.classLink RX0 61 "java/lang/IllegalStateException", Cond.initialized "java/lang/IllegalStateException", Cond.fieldLink RX0 29 "BagHall" "bagPlaces" "[I", Cond.fieldLink RX0 20 "BagHall" "bagFlights" "[I", Cond.fieldLink RX0 26 "BagHall" "onPurpose" "[Z", Cond.methodLink RX0 99 yX0_requireBag, Cond.instanceMethod yX0_requireBag, Cond.selects RX0 yX0_requireBag yX0_requireBag, Cond.code yX0_requireBag cX0_requireBag 2 none, Cond.classLink RX0 130 "java/lang/IndexOutOfBoundsException", Cond.initialized "java/lang/IndexOutOfBoundsException", Cond.fieldLink RX0 123 "BagHall" "bagCount" "I", Cond.methodLink RX0 85 yX0_requireFlight, Cond.instanceMethod yX0_requireFlight, Cond.selects RX0 yX0_requireFlight yX0_requireFlight, Cond.code yX0_requireFlight cX0_requireFlight 2 none, Cond.fieldLink RX0 57 "BagHall" "flightCount" "I", Cond.methodLink RX0 120 yX0_requireNotDeparted]
def wsL_sendOn_r2 : List Cond := [Cond.instanceMethod yX0_requireNotDeparted, Cond.selects RX0 yX0_requireNotDeparted yX0_requireNotDeparted, Cond.code yX0_requireNotDeparted cX0_requireNotDeparted 2 none, Cond.fieldLink RX0 66 "BagHall" "now" "I", Cond.fieldLink RX0 9 "BagHall" "departures" "[I", Cond.methodLink RX0 96 yX0_route, Cond.instanceMethod yX0_route, Cond.selects RX0 yX0_route yX0_route, Cond.code yX0_route cX0_route 3 none, Cond.methodLink RX0 174 yX0_routeTo, Cond.instanceMethod yX0_routeTo, Cond.selects RX0 yX0_routeTo yX0_routeTo, Cond.code yX0_routeTo cX0_routeTo 2 (some .int), Cond.fieldLink RX0 13 "BagHall" "laterals" "[I", Cond.fieldLink RX0 38 "BagHall" "bagsAt" "[I", Cond.methodLink RX0 177 yX0_hasClosed, Cond.instanceMethod yX0_hasClosed, Cond.selects RX0 yX0_hasClosed yX0_hasClosed, Cond.code yX0_hasClosed cX0_hasClosed 2 (some .boolean), Cond.methodLink RX0 143 yX0_closing, Cond.instanceMethod yX0_closing, Cond.selects RX0 yX0_closing yX0_closing, Cond.code yX0_closing cX0_closing 2 (some .int), Cond.methodLink RX0 180 yX0_hasOpened]
def wsL_sendOn_r3 : List Cond := [Cond.instanceMethod yX0_hasOpened, Cond.selects RX0 yX0_hasOpened yX0_hasOpened, Cond.code yX0_hasOpened cX0_hasOpened 2 (some .boolean), Cond.methodLink RX0 92 yX0_bring, Cond.instanceMethod yX0_bring, Cond.selects RX0 yX0_bring yX0_bring, Cond.code yX0_bring cX0_bring 3 none, Cond.fieldLink RX0 35 "BagHall" "cameAt" "[I", Cond.fieldLink RX0 32 "BagHall" "lastScans" "[I", Cond.fieldLink RX0 79 "BagHall" "scanCount" "I", Cond.methodLink RX0 183 yX0_scan, Cond.instanceMethod yX0_scan, Cond.selects RX0 yX0_scan yX0_scan, Cond.code yX0_scan cX0_scan 3 none, Cond.fieldLink RX0 41 "BagHall" "scanBags" "[I", Cond.fieldLink RX0 44 "BagHall" "scanPlaces" "[I", Cond.fieldLink RX0 47 "BagHall" "scanTimes" "[I"]
def wsL_sendOn : List Cond := .codeWith yL_sendOn cL_sendOn 4 (some .int) [(0, 6, 7, 15)] :: ((wsL_sendOn_r1 ++ (wsL_sendOn_r2 ++ wsL_sendOn_r3)) ++ wsX00 ++ (vx_atS RX0 65 "java/lang/IllegalStateException" ["java/lang/RuntimeException", "java/lang/Exception"]).filter goodWord ++ (vx_atS RX0 134 "java/lang/IndexOutOfBoundsException" ["java/lang/RuntimeException", "java/lang/Exception"]).filter goodWord)
def wsL_holds_r1 : List Cond := [Cond.methodLink RL 31 yX0_count, Cond.instanceMethod yX0_count, Cond.selects RX0 yX0_count yX0_count, Cond.initialized RX0, Cond.code yX0_count cX0_count 2 (some .int), Cond.classLink RX0 50 "java/lang/IllegalArgumentException", Cond.initialized "java/lang/IllegalArgumentException", Cond.fieldLink RX0 38 "BagHall" "bagsAt" "[I", Cond.methodLink RL 34 yX0_atLateral, Cond.instanceMethod yX0_atLateral, Cond.selects RX0 yX0_atLateral yX0_atLateral, Cond.code yX0_atLateral cX0_atLateral 4 (some .int), Cond.classLink RX0 130 "java/lang/IndexOutOfBoundsException", Cond.initialized "java/lang/IndexOutOfBoundsException", Cond.fieldLink RX0 123 "BagHall" "bagCount" "I", Cond.fieldLink RX0 29 "BagHall" "bagPlaces" "[I", Cond.fieldLink RX0 13 "BagHall" "laterals" "[I", Cond.fieldLink RX0 20 "BagHall" "bagFlights" "[I", Cond.methodLink RL 37 yX0_lateralOf, Cond.instanceMethod yX0_lateralOf, Cond.selects RX0 yX0_lateralOf yX0_lateralOf, Cond.code yX0_lateralOf cX0_lateralOf 2 (some .int), Cond.methodLink RX0 85 yX0_requireFlight, Cond.instanceMethod yX0_requireFlight]
def wsL_holds_r2 : List Cond := [Cond.selects RX0 yX0_requireFlight yX0_requireFlight, Cond.code yX0_requireFlight cX0_requireFlight 2 none, Cond.fieldLink RX0 57 "BagHall" "flightCount" "I", Cond.methodLink RL 40 yX0_unmatched, Cond.instanceMethod yX0_unmatched, Cond.selects RX0 yX0_unmatched yX0_unmatched, Cond.code yX0_unmatched cX0_unmatched 4 (some .int), Cond.methodLink RX0 135 yX0_isLoadedFor, Cond.instanceMethod yX0_isLoadedFor, Cond.selects RX0 yX0_isLoadedFor yX0_isLoadedFor, Cond.code yX0_isLoadedFor cX0_isLoadedFor 3 (some .boolean), Cond.methodLink RX0 139 yX0_mayFly, Cond.instanceMethod yX0_mayFly, Cond.selects RX0 yX0_mayFly yX0_mayFly, Cond.code yX0_mayFly cX0_mayFly 2 (some .boolean), Cond.fieldLink RX0 26 "BagHall" "onPurpose" "[Z", Cond.fieldLink RX0 16 "BagHall" "boarded" "[Z", Cond.fieldLink RX0 23 "BagHall" "bagRiders" "[I", Cond.methodLink RL 43 yX0_untilClose, Cond.instanceMethod yX0_untilClose, Cond.selects RX0 yX0_untilClose yX0_untilClose, Cond.code yX0_untilClose cX0_untilClose 2 (some .int), Cond.fieldLink RX0 66 "BagHall" "now" "I", Cond.methodLink RX0 146 Lib.Math.max.name]
def wsL_holds_r3 : List Cond := [Cond.static Lib.Math.max.name, Cond.initialized "java/lang/Math", Cond.code Lib.Math.max.name Lib.Math.max.code 2 (some .int), Cond.methodLink RX0 143 yX0_closing, Cond.instanceMethod yX0_closing, Cond.selects RX0 yX0_closing yX0_closing, Cond.code yX0_closing cX0_closing 2 (some .int), Cond.fieldLink RX0 9 "BagHall" "departures" "[I", Cond.methodLink RL 46 yX0_bags, Cond.instanceMethod yX0_bags, Cond.selects RX0 yX0_bags yX0_bags, Cond.code yX0_bags cX0_bags 1 (some .int), Cond.methodLink RL 50 yX0_placeOf, Cond.instanceMethod yX0_placeOf, Cond.selects RX0 yX0_placeOf yX0_placeOf, Cond.code yX0_placeOf cX0_placeOf 2 (some .int), Cond.methodLink RX0 99 yX0_requireBag, Cond.instanceMethod yX0_requireBag, Cond.selects RX0 yX0_requireBag yX0_requireBag, Cond.code yX0_requireBag cX0_requireBag 2 none, Cond.methodLink RL 53 yX0_time, Cond.instanceMethod yX0_time, Cond.selects RX0 yX0_time yX0_time, Cond.code yX0_time cX0_time 1 (some .int)]
def wsL_holds_r4 : List Cond := [Cond.methodLink RL 56 yX0_placeByScans, Cond.instanceMethod yX0_placeByScans, Cond.selects RX0 yX0_placeByScans yX0_placeByScans, Cond.code yX0_placeByScans cX0_placeByScans 4 (some .int), Cond.fieldLink RX0 79 "BagHall" "scanCount" "I", Cond.fieldLink RX0 41 "BagHall" "scanBags" "[I", Cond.fieldLink RX0 47 "BagHall" "scanTimes" "[I", Cond.fieldLink RX0 44 "BagHall" "scanPlaces" "[I", Cond.methodLink RL 59 yX0_flightOf, Cond.instanceMethod yX0_flightOf, Cond.selects RX0 yX0_flightOf yX0_flightOf, Cond.code yX0_flightOf cX0_flightOf 2 (some .int), Cond.methodLink RL 62 yX0_scans, Cond.instanceMethod yX0_scans, Cond.selects RX0 yX0_scans yX0_scans, Cond.code yX0_scans cX0_scans 1 (some .int)]
def wsL_holds : List Cond := .code yL_holds cL_holds 7 (some .boolean) :: ((wsL_holds_r1 ++ (wsL_holds_r2 ++ (wsL_holds_r3 ++ wsL_holds_r4))) ++ wsX00 ++ (vx_atS RX0 54 "java/lang/IllegalArgumentException" ["java/lang/RuntimeException", "java/lang/Exception"]).filter goodWord ++ (vx_atS RX0 134 "java/lang/IndexOutOfBoundsException" ["java/lang/RuntimeException", "java/lang/Exception"]).filter goodWord)
def wsL_scanned_r1 : List Cond := [Cond.methodLink RL 62 yX0_scans, Cond.instanceMethod yX0_scans, Cond.selects RX0 yX0_scans yX0_scans, Cond.initialized RX0, Cond.code yX0_scans cX0_scans 1 (some .int), Cond.fieldLink RX0 79 "BagHall" "scanCount" "I", Cond.methodLink RL 65 yX0_bagOfScan, Cond.instanceMethod yX0_bagOfScan, Cond.selects RX0 yX0_bagOfScan yX0_bagOfScan, Cond.code yX0_bagOfScan cX0_bagOfScan 2 (some .int), Cond.fieldLink RX0 41 "BagHall" "scanBags" "[I", Cond.methodLink RX0 151 yX0_requireScan, Cond.instanceMethod yX0_requireScan, Cond.selects RX0 yX0_requireScan yX0_requireScan, Cond.code yX0_requireScan cX0_requireScan 2 none, Cond.classLink RX0 130 "java/lang/IndexOutOfBoundsException", Cond.initialized "java/lang/IndexOutOfBoundsException", Cond.methodLink RL 68 yX0_placeOfScan, Cond.instanceMethod yX0_placeOfScan, Cond.selects RX0 yX0_placeOfScan yX0_placeOfScan, Cond.code yX0_placeOfScan cX0_placeOfScan 2 (some .int), Cond.fieldLink RX0 44 "BagHall" "scanPlaces" "[I", Cond.methodLink RL 50 yX0_placeOf, Cond.instanceMethod yX0_placeOf]
def wsL_scanned_r2 : List Cond := [Cond.selects RX0 yX0_placeOf yX0_placeOf, Cond.code yX0_placeOf cX0_placeOf 2 (some .int), Cond.fieldLink RX0 29 "BagHall" "bagPlaces" "[I", Cond.methodLink RX0 99 yX0_requireBag, Cond.instanceMethod yX0_requireBag, Cond.selects RX0 yX0_requireBag yX0_requireBag, Cond.code yX0_requireBag cX0_requireBag 2 none, Cond.fieldLink RX0 123 "BagHall" "bagCount" "I"]
def wsL_scanned : List Cond := .code yL_scanned cL_scanned 4 (some .boolean) :: ((wsL_scanned_r1 ++ wsL_scanned_r2) ++ wsX00 ++ (vx_atS RX0 134 "java/lang/IndexOutOfBoundsException" ["java/lang/RuntimeException", "java/lang/Exception"]).filter goodWord)
def wsL_works_r1 : List Cond := [Cond.methodLink RL 46 yX0_bags, Cond.instanceMethod yX0_bags, Cond.selects RX0 yX0_bags yX0_bags, Cond.initialized RX0, Cond.code yX0_bags cX0_bags 1 (some .int), Cond.fieldLink RX0 123 "BagHall" "bagCount" "I", Cond.methodLink RL 71 yL_low, Cond.static yL_low, Cond.initialized RL, Cond.code yL_low cL_low 2 (some .int), Cond.constant RL 7 (2147483647), Cond.methodLink RL 50 yX0_placeOf, Cond.instanceMethod yX0_placeOf, Cond.selects RX0 yX0_placeOf yX0_placeOf, Cond.code yX0_placeOf cX0_placeOf 2 (some .int), Cond.fieldLink RX0 29 "BagHall" "bagPlaces" "[I", Cond.methodLink RX0 99 yX0_requireBag, Cond.instanceMethod yX0_requireBag, Cond.selects RX0 yX0_requireBag yX0_requireBag, Cond.code yX0_requireBag cX0_requireBag 2 none, Cond.classLink RX0 130 "java/lang/IndexOutOfBoundsException", Cond.initialized "java/lang/IndexOutOfBoundsException", Cond.methodLink RL 62 yX0_scans, Cond.instanceMethod yX0_scans]
def wsL_works_r2 : List Cond := [Cond.selects RX0 yX0_scans yX0_scans, Cond.code yX0_scans cX0_scans 1 (some .int), Cond.fieldLink RX0 79 "BagHall" "scanCount" "I", Cond.methodLink RL 76 yL_decide, Cond.static yL_decide, Cond.codeWith yL_decide cL_decide 4 (some .int) [(0, 6, 7, 15)], Cond.classLink RL 15 "java/lang/IllegalStateException", Cond.methodLink RL 24 yX0_decide, Cond.instanceMethod yX0_decide, Cond.selects RX0 yX0_decide yX0_decide, Cond.code yX0_decide cX0_decide 4 (some .int), Cond.classLink RX0 61 "java/lang/IllegalStateException", Cond.initialized "java/lang/IllegalStateException", Cond.fieldLink RX0 66 "BagHall" "now" "I", Cond.fieldLink RX0 35 "BagHall" "cameAt" "[I", Cond.methodLink RX0 104 yX0_decisionTime, Cond.static yX0_decisionTime, Cond.code yX0_decisionTime cX0_decisionTime 1 (some .int), Cond.methodLink RX0 96 yX0_route, Cond.instanceMethod yX0_route, Cond.selects RX0 yX0_route yX0_route, Cond.code yX0_route cX0_route 3 none, Cond.fieldLink RX0 20 "BagHall" "bagFlights" "[I", Cond.methodLink RX0 174 yX0_routeTo]
def wsL_works_r3 : List Cond := [Cond.instanceMethod yX0_routeTo, Cond.selects RX0 yX0_routeTo yX0_routeTo, Cond.code yX0_routeTo cX0_routeTo 2 (some .int), Cond.fieldLink RX0 13 "BagHall" "laterals" "[I", Cond.fieldLink RX0 38 "BagHall" "bagsAt" "[I", Cond.methodLink RX0 177 yX0_hasClosed, Cond.instanceMethod yX0_hasClosed, Cond.selects RX0 yX0_hasClosed yX0_hasClosed, Cond.code yX0_hasClosed cX0_hasClosed 2 (some .boolean), Cond.methodLink RX0 143 yX0_closing, Cond.instanceMethod yX0_closing, Cond.selects RX0 yX0_closing yX0_closing, Cond.code yX0_closing cX0_closing 2 (some .int), Cond.fieldLink RX0 9 "BagHall" "departures" "[I", Cond.methodLink RX0 180 yX0_hasOpened, Cond.instanceMethod yX0_hasOpened, Cond.selects RX0 yX0_hasOpened yX0_hasOpened, Cond.code yX0_hasOpened cX0_hasOpened 2 (some .boolean), Cond.methodLink RX0 92 yX0_bring, Cond.instanceMethod yX0_bring, Cond.selects RX0 yX0_bring yX0_bring, Cond.code yX0_bring cX0_bring 3 none, Cond.fieldLink RX0 32 "BagHall" "lastScans" "[I", Cond.methodLink RX0 183 yX0_scan]
def wsL_works_r4 : List Cond := [Cond.instanceMethod yX0_scan, Cond.selects RX0 yX0_scan yX0_scan, Cond.code yX0_scan cX0_scan 3 none, Cond.fieldLink RX0 41 "BagHall" "scanBags" "[I", Cond.fieldLink RX0 44 "BagHall" "scanPlaces" "[I", Cond.fieldLink RX0 47 "BagHall" "scanTimes" "[I", Cond.methodLink RX0 109 yX0_nextLevel, Cond.static yX0_nextLevel, Cond.code yX0_nextLevel cX0_nextLevel 1 (some .int), Cond.methodLink RL 79 yL_scanned, Cond.static yL_scanned, Cond.code yL_scanned cL_scanned 4 (some .boolean), Cond.methodLink RL 65 yX0_bagOfScan, Cond.instanceMethod yX0_bagOfScan, Cond.selects RX0 yX0_bagOfScan yX0_bagOfScan, Cond.code yX0_bagOfScan cX0_bagOfScan 2 (some .int), Cond.methodLink RX0 151 yX0_requireScan, Cond.instanceMethod yX0_requireScan, Cond.selects RX0 yX0_requireScan yX0_requireScan, Cond.code yX0_requireScan cX0_requireScan 2 none, Cond.methodLink RL 68 yX0_placeOfScan, Cond.instanceMethod yX0_placeOfScan, Cond.selects RX0 yX0_placeOfScan yX0_placeOfScan, Cond.code yX0_placeOfScan cX0_placeOfScan 2 (some .int)]
def wsL_works_r5 : List Cond := [Cond.methodLink RL 83 yX0_letGo, Cond.instanceMethod yX0_letGo, Cond.selects RX0 yX0_letGo yX0_letGo, Cond.code yX0_letGo cX0_letGo 2 (some .int), Cond.methodLink RX0 112 yX0_requirePlace, Cond.instanceMethod yX0_requirePlace, Cond.selects RX0 yX0_requirePlace yX0_requirePlace, Cond.code yX0_requirePlace cX0_requirePlace 3 none, Cond.methodLink RL 86 yX0_load, Cond.instanceMethod yX0_load, Cond.selects RX0 yX0_load yX0_load, Cond.code yX0_load cX0_load 2 (some .int), Cond.methodLink RX0 115 yX0_loadedBags, Cond.instanceMethod yX0_loadedBags, Cond.selects RX0 yX0_loadedBags yX0_loadedBags, Cond.code yX0_loadedBags cX0_loadedBags 4 (some .int), Cond.methodLink RX0 135 yX0_isLoadedFor, Cond.instanceMethod yX0_isLoadedFor, Cond.selects RX0 yX0_isLoadedFor yX0_isLoadedFor, Cond.code yX0_isLoadedFor cX0_isLoadedFor 3 (some .boolean), Cond.methodLink RL 31 yX0_count, Cond.instanceMethod yX0_count, Cond.selects RX0 yX0_count yX0_count, Cond.code yX0_count cX0_count 2 (some .int)]
def wsL_works_r6 : List Cond := [Cond.classLink RX0 50 "java/lang/IllegalArgumentException", Cond.initialized "java/lang/IllegalArgumentException", Cond.methodLink RL 89 yX0_offload, Cond.instanceMethod yX0_offload, Cond.selects RX0 yX0_offload yX0_offload, Cond.code yX0_offload cX0_offload 2 (some .int), Cond.methodLink RL 92 yL_sendOn, Cond.static yL_sendOn, Cond.codeWith yL_sendOn cL_sendOn 4 (some .int) [(0, 6, 7, 15)], Cond.methodLink RL 28 yX0_sendOn, Cond.instanceMethod yX0_sendOn, Cond.selects RX0 yX0_sendOn yX0_sendOn, Cond.code yX0_sendOn cX0_sendOn 3 (some .int), Cond.fieldLink RX0 26 "BagHall" "onPurpose" "[Z", Cond.methodLink RX0 85 yX0_requireFlight, Cond.instanceMethod yX0_requireFlight, Cond.selects RX0 yX0_requireFlight yX0_requireFlight, Cond.code yX0_requireFlight cX0_requireFlight 2 none, Cond.fieldLink RX0 57 "BagHall" "flightCount" "I", Cond.methodLink RX0 120 yX0_requireNotDeparted, Cond.instanceMethod yX0_requireNotDeparted, Cond.selects RX0 yX0_requireNotDeparted yX0_requireNotDeparted, Cond.code yX0_requireNotDeparted cX0_requireNotDeparted 2 none, Cond.methodLink RL 59 yX0_flightOf]
def wsL_works_r7 : List Cond := [Cond.instanceMethod yX0_flightOf, Cond.selects RX0 yX0_flightOf yX0_flightOf, Cond.code yX0_flightOf cX0_flightOf 2 (some .int)]
def wsL_works : List Cond := .code yL_works cL_works 8 (some .boolean) :: ((wsL_works_r1 ++ (wsL_works_r2 ++ (wsL_works_r3 ++ (wsL_works_r4 ++ (wsL_works_r5 ++ (wsL_works_r6 ++ wsL_works_r7)))))) ++ wsX00 ++ (vx_atS RX0 134 "java/lang/IndexOutOfBoundsException" ["java/lang/RuntimeException", "java/lang/Exception"]).filter goodWord ++ (vx_atS RX0 65 "java/lang/IllegalStateException" ["java/lang/RuntimeException", "java/lang/Exception"]).filter goodWord ++ (vx_atS RX0 54 "java/lang/IllegalArgumentException" ["java/lang/RuntimeException", "java/lang/Exception"]).filter goodWord)
def wsL_law0_r1 : List Cond := [Cond.classLink RL 10 RX0, Cond.instantiable RX0 17, Cond.initialized RX0, Cond.methodLink RL 95 yX0_init, Cond.instanceMethod yX0_init, Cond.code yX0_init cX0_init 1 none, Cond.methodLink RX0 1 objectInit, Cond.instanceMethod objectInit, Cond.code objectInit ⟨#[0xb1]⟩ 1 none, Cond.arrayClass .int, Cond.fieldLink RX0 9 "BagHall" "departures" "[I", Cond.fieldLink RX0 13 "BagHall" "laterals" "[I", Cond.arrayClass .boolean, Cond.fieldLink RX0 16 "BagHall" "boarded" "[Z", Cond.fieldLink RX0 20 "BagHall" "bagFlights" "[I", Cond.fieldLink RX0 23 "BagHall" "bagRiders" "[I", Cond.fieldLink RX0 26 "BagHall" "onPurpose" "[Z", Cond.fieldLink RX0 29 "BagHall" "bagPlaces" "[I", Cond.fieldLink RX0 32 "BagHall" "lastScans" "[I", Cond.fieldLink RX0 35 "BagHall" "cameAt" "[I", Cond.fieldLink RX0 38 "BagHall" "bagsAt" "[I", Cond.fieldLink RX0 41 "BagHall" "scanBags" "[I", Cond.fieldLink RX0 44 "BagHall" "scanPlaces" "[I", Cond.fieldLink RX0 47 "BagHall" "scanTimes" "[I"]
def wsL_law0_r2 : List Cond := [Cond.methodLink RL 53 yX0_time, Cond.instanceMethod yX0_time, Cond.selects RX0 yX0_time yX0_time, Cond.code yX0_time cX0_time 1 (some .int), Cond.fieldLink RX0 66 "BagHall" "now" "I", Cond.methodLink RL 46 yX0_bags, Cond.instanceMethod yX0_bags, Cond.selects RX0 yX0_bags yX0_bags, Cond.code yX0_bags cX0_bags 1 (some .int), Cond.fieldLink RX0 123 "BagHall" "bagCount" "I", Cond.methodLink RL 96 yL_holds, Cond.static yL_holds, Cond.initialized RL, Cond.code yL_holds cL_holds 7 (some .boolean), Cond.methodLink RL 31 yX0_count, Cond.instanceMethod yX0_count, Cond.selects RX0 yX0_count yX0_count, Cond.code yX0_count cX0_count 2 (some .int), Cond.classLink RX0 50 "java/lang/IllegalArgumentException", Cond.initialized "java/lang/IllegalArgumentException", Cond.methodLink RL 34 yX0_atLateral, Cond.instanceMethod yX0_atLateral, Cond.selects RX0 yX0_atLateral yX0_atLateral, Cond.code yX0_atLateral cX0_atLateral 4 (some .int)]
def wsL_law0_r3 : List Cond := [Cond.classLink RX0 130 "java/lang/IndexOutOfBoundsException", Cond.initialized "java/lang/IndexOutOfBoundsException", Cond.methodLink RL 37 yX0_lateralOf, Cond.instanceMethod yX0_lateralOf, Cond.selects RX0 yX0_lateralOf yX0_lateralOf, Cond.code yX0_lateralOf cX0_lateralOf 2 (some .int), Cond.methodLink RX0 85 yX0_requireFlight, Cond.instanceMethod yX0_requireFlight, Cond.selects RX0 yX0_requireFlight yX0_requireFlight, Cond.code yX0_requireFlight cX0_requireFlight 2 none, Cond.fieldLink RX0 57 "BagHall" "flightCount" "I", Cond.methodLink RL 40 yX0_unmatched, Cond.instanceMethod yX0_unmatched, Cond.selects RX0 yX0_unmatched yX0_unmatched, Cond.code yX0_unmatched cX0_unmatched 4 (some .int), Cond.methodLink RX0 135 yX0_isLoadedFor, Cond.instanceMethod yX0_isLoadedFor, Cond.selects RX0 yX0_isLoadedFor yX0_isLoadedFor, Cond.code yX0_isLoadedFor cX0_isLoadedFor 3 (some .boolean), Cond.methodLink RX0 139 yX0_mayFly, Cond.instanceMethod yX0_mayFly, Cond.selects RX0 yX0_mayFly yX0_mayFly, Cond.code yX0_mayFly cX0_mayFly 2 (some .boolean), Cond.methodLink RL 43 yX0_untilClose]
def wsL_law0_r4 : List Cond := [Cond.instanceMethod yX0_untilClose, Cond.selects RX0 yX0_untilClose yX0_untilClose, Cond.code yX0_untilClose cX0_untilClose 2 (some .int), Cond.methodLink RX0 146 Lib.Math.max.name, Cond.static Lib.Math.max.name, Cond.initialized "java/lang/Math", Cond.code Lib.Math.max.name Lib.Math.max.code 2 (some .int), Cond.methodLink RX0 143 yX0_closing, Cond.instanceMethod yX0_closing, Cond.selects RX0 yX0_closing yX0_closing, Cond.code yX0_closing cX0_closing 2 (some .int), Cond.methodLink RL 50 yX0_placeOf, Cond.instanceMethod yX0_placeOf, Cond.selects RX0 yX0_placeOf yX0_placeOf, Cond.code yX0_placeOf cX0_placeOf 2 (some .int), Cond.methodLink RX0 99 yX0_requireBag, Cond.instanceMethod yX0_requireBag, Cond.selects RX0 yX0_requireBag yX0_requireBag, Cond.code yX0_requireBag cX0_requireBag 2 none, Cond.methodLink RL 56 yX0_placeByScans, Cond.instanceMethod yX0_placeByScans, Cond.selects RX0 yX0_placeByScans yX0_placeByScans, Cond.code yX0_placeByScans cX0_placeByScans 4 (some .int), Cond.fieldLink RX0 79 "BagHall" "scanCount" "I"]
def wsL_law0_r5 : List Cond := [Cond.methodLink RL 59 yX0_flightOf, Cond.instanceMethod yX0_flightOf, Cond.selects RX0 yX0_flightOf yX0_flightOf, Cond.code yX0_flightOf cX0_flightOf 2 (some .int), Cond.methodLink RL 62 yX0_scans, Cond.instanceMethod yX0_scans, Cond.selects RX0 yX0_scans yX0_scans, Cond.code yX0_scans cX0_scans 1 (some .int), Cond.methodLink RL 100 yL_cell, Cond.static yL_cell, Cond.code yL_cell cL_cell 2 (some .int), Cond.constant RL 8 (40503), Cond.methodLink RL 71 yL_low, Cond.static yL_low, Cond.code yL_low cL_low 2 (some .int), Cond.constant RL 7 (2147483647), Cond.methodLink RL 104 yL_addFlight, Cond.static yL_addFlight, Cond.codeWith yL_addFlight cL_addFlight 3 (some .int) [(0, 5, 6, 15)], Cond.classLink RL 15 "java/lang/IllegalStateException", Cond.methodLink RL 9 yX0_addFlight, Cond.instanceMethod yX0_addFlight, Cond.selects RX0 yX0_addFlight yX0_addFlight, Cond.code yX0_addFlight cX0_addFlight 4 (some .int)]
def wsL_law0_r6 : List Cond := [Cond.classLink RX0 61 "java/lang/IllegalStateException", Cond.initialized "java/lang/IllegalStateException", Cond.methodLink RX0 69 yX0_lowestFreeLateral, Cond.instanceMethod yX0_lowestFreeLateral, Cond.selects RX0 yX0_lowestFreeLateral yX0_lowestFreeLateral, Cond.code yX0_lowestFreeLateral cX0_lowestFreeLateral 3 (some .int), Cond.methodLink RX0 166 yX0_isFree, Cond.instanceMethod yX0_isFree, Cond.selects RX0 yX0_isFree yX0_isFree, Cond.code yX0_isFree cX0_isFree 4 (some .boolean), Cond.methodLink RX0 169 Lib.Math.abs.name, Cond.static Lib.Math.abs.name, Cond.code Lib.Math.abs.name Lib.Math.abs.code 1 (some .int), Cond.methodLink RL 107 yL_comes, Cond.static yL_comes, Cond.codeWith yL_comes cL_comes 5 (some .int) [(0, 19, 20, 15)], Cond.methodLink RL 17 yX0_transfer, Cond.instanceMethod yX0_transfer, Cond.selects RX0 yX0_transfer yX0_transfer, Cond.code yX0_transfer cX0_transfer 4 (some .int), Cond.methodLink RX0 88 yX0_takeIn, Cond.instanceMethod yX0_takeIn, Cond.selects RX0 yX0_takeIn yX0_takeIn, Cond.code yX0_takeIn cX0_takeIn 4 (some .int)]
def wsL_law0_r7 : List Cond := [Cond.methodLink RX0 73 yX0_requireRider, Cond.instanceMethod yX0_requireRider, Cond.selects RX0 yX0_requireRider yX0_requireRider, Cond.code yX0_requireRider cX0_requireRider 2 none, Cond.methodLink RX0 120 yX0_requireNotDeparted, Cond.instanceMethod yX0_requireNotDeparted, Cond.selects RX0 yX0_requireNotDeparted yX0_requireNotDeparted, Cond.code yX0_requireNotDeparted cX0_requireNotDeparted 2 none, Cond.methodLink RX0 96 yX0_route, Cond.instanceMethod yX0_route, Cond.selects RX0 yX0_route yX0_route, Cond.code yX0_route cX0_route 3 none, Cond.methodLink RX0 174 yX0_routeTo, Cond.instanceMethod yX0_routeTo, Cond.selects RX0 yX0_routeTo yX0_routeTo, Cond.code yX0_routeTo cX0_routeTo 2 (some .int), Cond.methodLink RX0 177 yX0_hasClosed, Cond.instanceMethod yX0_hasClosed, Cond.selects RX0 yX0_hasClosed yX0_hasClosed, Cond.code yX0_hasClosed cX0_hasClosed 2 (some .boolean), Cond.methodLink RX0 180 yX0_hasOpened, Cond.instanceMethod yX0_hasOpened, Cond.selects RX0 yX0_hasOpened yX0_hasOpened, Cond.code yX0_hasOpened cX0_hasOpened 2 (some .boolean)]
def wsL_law0_r8 : List Cond := [Cond.methodLink RX0 92 yX0_bring, Cond.instanceMethod yX0_bring, Cond.selects RX0 yX0_bring yX0_bring, Cond.code yX0_bring cX0_bring 3 none, Cond.methodLink RX0 183 yX0_scan, Cond.instanceMethod yX0_scan, Cond.selects RX0 yX0_scan yX0_scan, Cond.code yX0_scan cX0_scan 3 none, Cond.methodLink RL 21 yX0_checkIn, Cond.instanceMethod yX0_checkIn, Cond.selects RX0 yX0_checkIn yX0_checkIn, Cond.code yX0_checkIn cX0_checkIn 4 (some .int), Cond.methodLink RL 79 yL_scanned, Cond.static yL_scanned, Cond.code yL_scanned cL_scanned 4 (some .boolean), Cond.methodLink RL 65 yX0_bagOfScan, Cond.instanceMethod yX0_bagOfScan, Cond.selects RX0 yX0_bagOfScan yX0_bagOfScan, Cond.code yX0_bagOfScan cX0_bagOfScan 2 (some .int), Cond.methodLink RX0 151 yX0_requireScan, Cond.instanceMethod yX0_requireScan, Cond.selects RX0 yX0_requireScan yX0_requireScan, Cond.code yX0_requireScan cX0_requireScan 2 none, Cond.methodLink RL 68 yX0_placeOfScan]
def wsL_law0_r9 : List Cond := [Cond.instanceMethod yX0_placeOfScan, Cond.selects RX0 yX0_placeOfScan yX0_placeOfScan, Cond.code yX0_placeOfScan cX0_placeOfScan 2 (some .int), Cond.methodLink RL 111 yL_works, Cond.static yL_works, Cond.code yL_works cL_works 8 (some .boolean), Cond.methodLink RL 76 yL_decide, Cond.static yL_decide, Cond.codeWith yL_decide cL_decide 4 (some .int) [(0, 6, 7, 15)], Cond.methodLink RL 24 yX0_decide, Cond.instanceMethod yX0_decide, Cond.selects RX0 yX0_decide yX0_decide, Cond.code yX0_decide cX0_decide 4 (some .int), Cond.methodLink RX0 104 yX0_decisionTime, Cond.static yX0_decisionTime, Cond.code yX0_decisionTime cX0_decisionTime 1 (some .int), Cond.methodLink RX0 109 yX0_nextLevel, Cond.static yX0_nextLevel, Cond.code yX0_nextLevel cX0_nextLevel 1 (some .int), Cond.methodLink RL 83 yX0_letGo, Cond.instanceMethod yX0_letGo, Cond.selects RX0 yX0_letGo yX0_letGo, Cond.code yX0_letGo cX0_letGo 2 (some .int), Cond.methodLink RX0 112 yX0_requirePlace]
def wsL_law0_r10 : List Cond := [Cond.instanceMethod yX0_requirePlace, Cond.selects RX0 yX0_requirePlace yX0_requirePlace, Cond.code yX0_requirePlace cX0_requirePlace 3 none, Cond.methodLink RL 86 yX0_load, Cond.instanceMethod yX0_load, Cond.selects RX0 yX0_load yX0_load, Cond.code yX0_load cX0_load 2 (some .int), Cond.methodLink RX0 115 yX0_loadedBags, Cond.instanceMethod yX0_loadedBags, Cond.selects RX0 yX0_loadedBags yX0_loadedBags, Cond.code yX0_loadedBags cX0_loadedBags 4 (some .int), Cond.methodLink RL 89 yX0_offload, Cond.instanceMethod yX0_offload, Cond.selects RX0 yX0_offload yX0_offload, Cond.code yX0_offload cX0_offload 2 (some .int), Cond.methodLink RL 92 yL_sendOn, Cond.static yL_sendOn, Cond.codeWith yL_sendOn cL_sendOn 4 (some .int) [(0, 6, 7, 15)], Cond.methodLink RL 28 yX0_sendOn, Cond.instanceMethod yX0_sendOn, Cond.selects RX0 yX0_sendOn yX0_sendOn, Cond.code yX0_sendOn cX0_sendOn 3 (some .int), Cond.methodLink RL 115 yX0_board, Cond.instanceMethod yX0_board]
def wsL_law0_r11 : List Cond := [Cond.selects RX0 yX0_board yX0_board, Cond.code yX0_board cX0_board 4 (some .boolean), Cond.methodLink RL 119 yX0_pass, Cond.instanceMethod yX0_pass, Cond.selects RX0 yX0_pass yX0_pass, Cond.code yX0_pass cX0_pass 4 (some .int), Cond.methodLink RX0 82 yX0_passOneMinute, Cond.instanceMethod yX0_passOneMinute, Cond.selects RX0 yX0_passOneMinute yX0_passOneMinute, Cond.code yX0_passOneMinute cX0_passOneMinute 1 none, Cond.methodLink RX0 186 yX0_emptyStore, Cond.instanceMethod yX0_emptyStore, Cond.selects RX0 yX0_emptyStore yX0_emptyStore, Cond.code yX0_emptyStore cX0_emptyStore 3 none, Cond.methodLink RX0 195 yX0_firstToLeaveStore, Cond.instanceMethod yX0_firstToLeaveStore, Cond.selects RX0 yX0_firstToLeaveStore yX0_firstToLeaveStore, Cond.code yX0_firstToLeaveStore cX0_firstToLeaveStore 3 (some .int), Cond.methodLink RX0 189 yX0_routeLoop, Cond.instanceMethod yX0_routeLoop, Cond.selects RX0 yX0_routeLoop yX0_routeLoop, Cond.code yX0_routeLoop cX0_routeLoop 2 none, Cond.methodLink RX0 192 yX0_depart, Cond.instanceMethod yX0_depart]
def wsL_law0_r12 : List Cond := [Cond.selects RX0 yX0_depart yX0_depart, Cond.code yX0_depart cX0_depart 2 none, Cond.methodLink RX0 199 yX0_settleBags, Cond.instanceMethod yX0_settleBags, Cond.selects RX0 yX0_settleBags yX0_settleBags, Cond.code yX0_settleBags cX0_settleBags 3 none, Cond.methodLink RX0 202 yX0_settle, Cond.instanceMethod yX0_settle, Cond.selects RX0 yX0_settle yX0_settle, Cond.code yX0_settle cX0_settle 3 none]
def wsL_law0 : List Cond := (wsL_law0_r1 ++ (wsL_law0_r2 ++ (wsL_law0_r3 ++ (wsL_law0_r4 ++ (wsL_law0_r5 ++ (wsL_law0_r6 ++ (wsL_law0_r7 ++ (wsL_law0_r8 ++ (wsL_law0_r9 ++ (wsL_law0_r10 ++ (wsL_law0_r11 ++ wsL_law0_r12))))))))))) ++ wsX00 ++ ([] : List Cond)
def wsL_law : List Cond := wsL_law0 ++ (vx_atS RX0 54 "java/lang/IllegalArgumentException" ["java/lang/RuntimeException", "java/lang/Exception"]).filter goodWord ++ (vx_atS RX0 134 "java/lang/IndexOutOfBoundsException" ["java/lang/RuntimeException", "java/lang/Exception"]).filter goodWord ++ (vx_atS RX0 65 "java/lang/IllegalStateException" ["java/lang/RuntimeException", "java/lang/Exception"]).filter goodWord
set_option maxRecDepth 20000 in
theorem wsL_law0_r1_in : ∀ w ∈ wsL_law0_r1, w ∈ lw_tbl := fun w h => (goodIn_p wsL_law0_r1 [40, 43] rfl (by decide +kernel) w h).1
set_option maxRecDepth 20000 in
theorem wsL_law0_r2_in : ∀ w ∈ wsL_law0_r2, w ∈ lw_tbl := fun w h => (goodIn_p wsL_law0_r2 [257, 261, 347, 351, 356] rfl (by decide +kernel) w h).1
set_option maxRecDepth 20000 in
theorem wsL_law0_r3_in : ∀ w ∈ wsL_law0_r3, w ∈ lw_tbl := fun w h => (goodIn_p wsL_law0_r3 [361, 333, 365, 369, 253] rfl (by decide +kernel) w h).1
set_option maxRecDepth 20000 in
theorem wsL_law0_r4_in : ∀ w ∈ wsL_law0_r4, w ∈ lw_tbl := fun w h => (goodIn_p wsL_law0_r4 [373, 376, 237, 265, 269, 380] rfl (by decide +kernel) w h).1
set_option maxRecDepth 20000 in
theorem wsL_law0_r5_in : ∀ w ∈ wsL_law0_r5, w ∈ lw_tbl := fun w h => (goodIn_p wsL_law0_r5 [385, 274, 281, 277, 290] rfl (by decide +kernel) w h).1
set_option maxRecDepth 20000 in
theorem wsL_law0_r6_in : ∀ w ∈ wsL_law0_r6, w ∈ lw_tbl := fun w h => (goodIn_p wsL_law0_r6 [311, 315, 318, 325, 329] rfl (by decide +kernel) w h).1
set_option maxRecDepth 20000 in
theorem wsL_law0_r7_in : ∀ w ∈ wsL_law0_r7, w ∈ lw_tbl := fun w h => (goodIn_p wsL_law0_r7 [105, 339, 225, 229, 233, 209] rfl (by decide +kernel) w h).1
set_option maxRecDepth 20000 in
theorem wsL_law0_r8_in : ∀ w ∈ wsL_law0_r8, w ∈ lw_tbl := fun w h => (goodIn_p wsL_law0_r8 [213, 217, 344, 388, 392, 396] rfl (by decide +kernel) w h).1
set_option maxRecDepth 20000 in
theorem wsL_law0_r9_in : ∀ w ∈ wsL_law0_r9, w ∈ lw_tbl := fun w h => (goodIn_p wsL_law0_r9 [401, 404, 411, 415, 419, 423] rfl (by decide +kernel) w h).1
set_option maxRecDepth 20000 in
theorem wsL_law0_r10_in : ∀ w ∈ wsL_law0_r10, w ∈ lw_tbl := fun w h => (goodIn_p wsL_law0_r10 [427, 432, 436, 440, 447] rfl (by decide +kernel) w h).1
set_option maxRecDepth 20000 in
theorem wsL_law0_r11_in : ∀ w ∈ wsL_law0_r11, w ∈ lw_tbl := fun w h => (goodIn_p wsL_law0_r11 [101, 177, 197, 201, 205, 221] rfl (by decide +kernel) w h).1
set_option maxRecDepth 20000 in
theorem wsL_law0_r12_in : ∀ w ∈ wsL_law0_r12, w ∈ lw_tbl := fun w h => (goodIn_p wsL_law0_r12 [241, 245, 249] rfl (by decide +kernel) w h).1
theorem wsL_law_inX0 : ∀ w ∈ wsX00, w ∈ lw_tbl := by decide +kernel
theorem wsL_law_in0 : ∀ w ∈ wsL_law0, w ∈ lw_tbl := by
  show ∀ w ∈ (wsL_law0_r1 ++ (wsL_law0_r2 ++ (wsL_law0_r3 ++ (wsL_law0_r4 ++ (wsL_law0_r5 ++ (wsL_law0_r6 ++ (wsL_law0_r7 ++ (wsL_law0_r8 ++ (wsL_law0_r9 ++ (wsL_law0_r10 ++ (wsL_law0_r11 ++ wsL_law0_r12))))))))))) ++ wsX00 ++ ([] : List Cond), w ∈ lw_tbl
  exact List.forall_mem_append.mpr ⟨List.forall_mem_append.mpr ⟨List.forall_mem_append.mpr ⟨wsL_law0_r1_in, List.forall_mem_append.mpr ⟨wsL_law0_r2_in, List.forall_mem_append.mpr ⟨wsL_law0_r3_in, List.forall_mem_append.mpr ⟨wsL_law0_r4_in, List.forall_mem_append.mpr ⟨wsL_law0_r5_in, List.forall_mem_append.mpr ⟨wsL_law0_r6_in, List.forall_mem_append.mpr ⟨wsL_law0_r7_in, List.forall_mem_append.mpr ⟨wsL_law0_r8_in, List.forall_mem_append.mpr ⟨wsL_law0_r9_in, List.forall_mem_append.mpr ⟨wsL_law0_r10_in, List.forall_mem_append.mpr ⟨wsL_law0_r11_in, wsL_law0_r12_in⟩⟩⟩⟩⟩⟩⟩⟩⟩⟩⟩, wsL_law_inX0⟩, fun _ h => absurd h List.not_mem_nil⟩
theorem wsL_law_x0 : ∀ w ∈ (vx_atS RX0 54 "java/lang/IllegalArgumentException" ["java/lang/RuntimeException", "java/lang/Exception"]).filter goodWord, w ∈ lw_tbl := by decide +kernel
theorem wsL_law_x1 : ∀ w ∈ (vx_atS RX0 134 "java/lang/IndexOutOfBoundsException" ["java/lang/RuntimeException", "java/lang/Exception"]).filter goodWord, w ∈ lw_tbl := by decide +kernel
theorem wsL_law_x2 : ∀ w ∈ (vx_atS RX0 65 "java/lang/IllegalStateException" ["java/lang/RuntimeException", "java/lang/Exception"]).filter goodWord, w ∈ lw_tbl := by decide +kernel
theorem wsL_law_in : ∀ w ∈ wsL_law, w ∈ lw_tbl := fun w h => (List.mem_append.mp h).elim (fun h => (List.mem_append.mp h).elim (fun h => (List.mem_append.mp h).elim (fun h => wsL_law_in0 w h) (fun h => wsL_law_x0 w h)) (fun h => wsL_law_x1 w h)) (fun h => wsL_law_x2 w h)
theorem inlX0 : ∀ w ∈ wsX00, w ∈ wsL_law := fun _ h => List.mem_append_left _ (List.mem_append_left _ (List.mem_append_left _ (List.mem_append_left _ (List.mem_append_right _ h))))
theorem inX0 : ∀ w ∈ wsX00, w ∈ lw_tbl := fun w h => wsL_law_in w (inlX0 w h)
theorem inX1 : ∀ w ∈ wsX10, w ∈ lw_tbl := by decide +kernel
theorem inJ9 : ∀ w ∈ wsJ90, w ∈ lw_tbl := by decide +kernel
theorem inJ0 : ∀ w ∈ wsJ00, w ∈ lw_tbl := by decide +kernel
theorem dX0_init_0 : decode cX0_init 0 = .ok (.aload_n 0, 1) := by decide +kernel
theorem dX0_init_1 : decode cX0_init 1 = .ok (.invokespecial 1, 3) := by decide +kernel
theorem dX0_init_4 : decode cX0_init 4 = .ok (.aload_n 0, 1) := by decide +kernel
theorem dX0_init_5 : decode cX0_init 5 = .ok (.bipush 10, 2) := by decide +kernel
theorem dX0_init_7 : decode cX0_init 7 = .ok (.newarray .int, 2) := by decide +kernel
theorem dX0_init_9 : decode cX0_init 9 = .ok (.putfield 9, 3) := by decide +kernel
theorem dX0_init_12 : decode cX0_init 12 = .ok (.aload_n 0, 1) := by decide +kernel
theorem dX0_init_13 : decode cX0_init 13 = .ok (.bipush 10, 2) := by decide +kernel
theorem dX0_init_15 : decode cX0_init 15 = .ok (.newarray .int, 2) := by decide +kernel
theorem dX0_init_17 : decode cX0_init 17 = .ok (.putfield 13, 3) := by decide +kernel
theorem dX0_init_20 : decode cX0_init 20 = .ok (.aload_n 0, 1) := by decide +kernel
theorem dX0_init_21 : decode cX0_init 21 = .ok (.bipush 40, 2) := by decide +kernel
theorem dX0_init_23 : decode cX0_init 23 = .ok (.newarray .boolean, 2) := by decide +kernel
theorem dX0_init_25 : decode cX0_init 25 = .ok (.putfield 16, 3) := by decide +kernel
theorem dX0_init_28 : decode cX0_init 28 = .ok (.aload_n 0, 1) := by decide +kernel
theorem dX0_init_29 : decode cX0_init 29 = .ok (.bipush 48, 2) := by decide +kernel
theorem dX0_init_31 : decode cX0_init 31 = .ok (.newarray .int, 2) := by decide +kernel
theorem dX0_init_33 : decode cX0_init 33 = .ok (.putfield 20, 3) := by decide +kernel
theorem dX0_init_36 : decode cX0_init 36 = .ok (.aload_n 0, 1) := by decide +kernel
theorem dX0_init_37 : decode cX0_init 37 = .ok (.bipush 48, 2) := by decide +kernel
theorem dX0_init_39 : decode cX0_init 39 = .ok (.newarray .int, 2) := by decide +kernel
theorem dX0_init_41 : decode cX0_init 41 = .ok (.putfield 23, 3) := by decide +kernel
theorem dX0_init_44 : decode cX0_init 44 = .ok (.aload_n 0, 1) := by decide +kernel
theorem dX0_init_45 : decode cX0_init 45 = .ok (.bipush 48, 2) := by decide +kernel
theorem dX0_init_47 : decode cX0_init 47 = .ok (.newarray .boolean, 2) := by decide +kernel
theorem dX0_init_49 : decode cX0_init 49 = .ok (.putfield 26, 3) := by decide +kernel
theorem dX0_init_52 : decode cX0_init 52 = .ok (.aload_n 0, 1) := by decide +kernel
theorem dX0_init_53 : decode cX0_init 53 = .ok (.bipush 48, 2) := by decide +kernel
theorem dX0_init_55 : decode cX0_init 55 = .ok (.newarray .int, 2) := by decide +kernel
theorem dX0_init_57 : decode cX0_init 57 = .ok (.putfield 29, 3) := by decide +kernel
theorem dX0_init_60 : decode cX0_init 60 = .ok (.aload_n 0, 1) := by decide +kernel
theorem dX0_init_61 : decode cX0_init 61 = .ok (.bipush 48, 2) := by decide +kernel
theorem dX0_init_63 : decode cX0_init 63 = .ok (.newarray .int, 2) := by decide +kernel
theorem dX0_init_65 : decode cX0_init 65 = .ok (.putfield 32, 3) := by decide +kernel
theorem dX0_init_68 : decode cX0_init 68 = .ok (.aload_n 0, 1) := by decide +kernel
theorem dX0_init_69 : decode cX0_init 69 = .ok (.bipush 48, 2) := by decide +kernel
theorem dX0_init_71 : decode cX0_init 71 = .ok (.newarray .int, 2) := by decide +kernel
theorem dX0_init_73 : decode cX0_init 73 = .ok (.putfield 35, 3) := by decide +kernel
theorem dX0_init_76 : decode cX0_init 76 = .ok (.aload_n 0, 1) := by decide +kernel
theorem dX0_init_77 : decode cX0_init 77 = .ok (.bipush 12, 2) := by decide +kernel
theorem dX0_init_79 : decode cX0_init 79 = .ok (.newarray .int, 2) := by decide +kernel
theorem dX0_init_81 : decode cX0_init 81 = .ok (.putfield 38, 3) := by decide +kernel
theorem dX0_init_84 : decode cX0_init 84 = .ok (.aload_n 0, 1) := by decide +kernel
theorem dX0_init_85 : decode cX0_init 85 = .ok (.sipush 2048, 3) := by decide +kernel
theorem dX0_init_88 : decode cX0_init 88 = .ok (.newarray .int, 2) := by decide +kernel
theorem dX0_init_90 : decode cX0_init 90 = .ok (.putfield 41, 3) := by decide +kernel
theorem dX0_init_93 : decode cX0_init 93 = .ok (.aload_n 0, 1) := by decide +kernel
theorem dX0_init_94 : decode cX0_init 94 = .ok (.sipush 2048, 3) := by decide +kernel
theorem dX0_init_97 : decode cX0_init 97 = .ok (.newarray .int, 2) := by decide +kernel
theorem dX0_init_99 : decode cX0_init 99 = .ok (.putfield 44, 3) := by decide +kernel
theorem dX0_init_102 : decode cX0_init 102 = .ok (.aload_n 0, 1) := by decide +kernel
theorem dX0_init_103 : decode cX0_init 103 = .ok (.sipush 2048, 3) := by decide +kernel
theorem dX0_init_106 : decode cX0_init 106 = .ok (.newarray .int, 2) := by decide +kernel
theorem dX0_init_108 : decode cX0_init 108 = .ok (.putfield 47, 3) := by decide +kernel
theorem dX0_init_111 : decode cX0_init 111 = .ok (.aload_n 0, 1) := by decide +kernel
theorem dX0_init_112 : decode cX0_init 112 = .ok (.getfield 38, 3) := by decide +kernel
theorem dX0_init_115 : decode cX0_init 115 = .ok (.iconst 0, 1) := by decide +kernel
theorem dX0_init_116 : decode cX0_init 116 = .ok (.bipush 48, 2) := by decide +kernel
theorem dX0_init_118 : decode cX0_init 118 = .ok (.iastore, 1) := by decide +kernel
theorem dX0_init_119 : decode cX0_init 119 = .ok (.return_, 1) := by decide +kernel
set_option maxRecDepth 20000 in
theorem ggX0_addFlight_X0_lowestFreeLateral : GoodIn wsX0_addFlight wsX0_lowestFreeLateral := goodIn_r _ [13, 14, 15, 16, 12, 17, 5, 7, 8, 18, 19, 20, 21, 22, 23, 24, 25, 26, 27, 28, 29, 30, 31, 32, 33, 34, 35, 36, 37, 38] (by decide +kernel) (by decide +kernel)
set_option maxRecDepth 20000 in
theorem gX0_addFlight_X0_lowestFreeLateral : GoodIn wsX0_addFlight (wsV RX0 69 RX0 yX0_lowestFreeLateral wsX0_lowestFreeLateral) := goodIn_app (goodIn_of _ (by decide +kernel)) ggX0_addFlight_X0_lowestFreeLateral
theorem dX0_addFlight_0 : decode cX0_addFlight 0 = .ok (.iload_n 1, 1) := by decide +kernel
theorem dX0_addFlight_1 : decode cX0_addFlight 1 = .ok (.iconst 1, 1) := by decide +kernel
theorem dX0_addFlight_2 : decode cX0_addFlight 2 = .ok (.if_icmp .lt 10, 3) := by decide +kernel
theorem dX0_addFlight_5 : decode cX0_addFlight 5 = .ok (.iload_n 1, 1) := by decide +kernel
theorem dX0_addFlight_6 : decode cX0_addFlight 6 = .ok (.sipush 1000, 3) := by decide +kernel
theorem dX0_addFlight_9 : decode cX0_addFlight 9 = .ok (.if_icmp .le 13, 3) := by decide +kernel
theorem dX0_addFlight_12 : decode cX0_addFlight 12 = .ok (.new 50, 3) := by decide +kernel
theorem dX0_addFlight_15 : decode cX0_addFlight 15 = .ok (.dup, 1) := by decide +kernel
theorem dX0_addFlight_16 : decode cX0_addFlight 16 = .ok (.ldc 52, 2) := by decide +kernel
theorem dX0_addFlight_18 : decode cX0_addFlight 18 = .ok (.invokespecial 54, 3) := by decide +kernel
theorem dX0_addFlight_21 : decode cX0_addFlight 21 = .ok (.athrow, 1) := by decide +kernel
theorem dX0_addFlight_22 : decode cX0_addFlight 22 = .ok (.aload_n 0, 1) := by decide +kernel
theorem dX0_addFlight_23 : decode cX0_addFlight 23 = .ok (.getfield 57, 3) := by decide +kernel
theorem dX0_addFlight_26 : decode cX0_addFlight 26 = .ok (.bipush 10, 2) := by decide +kernel
theorem dX0_addFlight_28 : decode cX0_addFlight 28 = .ok (.if_icmp .lt 13, 3) := by decide +kernel
theorem dX0_addFlight_31 : decode cX0_addFlight 31 = .ok (.new 61, 3) := by decide +kernel
theorem dX0_addFlight_34 : decode cX0_addFlight 34 = .ok (.dup, 1) := by decide +kernel
theorem dX0_addFlight_35 : decode cX0_addFlight 35 = .ok (.ldc 63, 2) := by decide +kernel
theorem dX0_addFlight_37 : decode cX0_addFlight 37 = .ok (.invokespecial 65, 3) := by decide +kernel
theorem dX0_addFlight_40 : decode cX0_addFlight 40 = .ok (.athrow, 1) := by decide +kernel
theorem dX0_addFlight_41 : decode cX0_addFlight 41 = .ok (.aload_n 0, 1) := by decide +kernel
theorem dX0_addFlight_42 : decode cX0_addFlight 42 = .ok (.getfield 57, 3) := by decide +kernel
theorem dX0_addFlight_45 : decode cX0_addFlight 45 = .ok (.istore_n 2, 1) := by decide +kernel
theorem dX0_addFlight_46 : decode cX0_addFlight 46 = .ok (.aload_n 0, 1) := by decide +kernel
theorem dX0_addFlight_47 : decode cX0_addFlight 47 = .ok (.getfield 66, 3) := by decide +kernel
theorem dX0_addFlight_50 : decode cX0_addFlight 50 = .ok (.iload_n 1, 1) := by decide +kernel
theorem dX0_addFlight_51 : decode cX0_addFlight 51 = .ok (.iadd, 1) := by decide +kernel
theorem dX0_addFlight_52 : decode cX0_addFlight 52 = .ok (.istore_n 3, 1) := by decide +kernel
theorem dX0_addFlight_53 : decode cX0_addFlight 53 = .ok (.aload_n 0, 1) := by decide +kernel
theorem dX0_addFlight_54 : decode cX0_addFlight 54 = .ok (.getfield 13, 3) := by decide +kernel
theorem dX0_addFlight_57 : decode cX0_addFlight 57 = .ok (.iload_n 2, 1) := by decide +kernel
theorem dX0_addFlight_58 : decode cX0_addFlight 58 = .ok (.aload_n 0, 1) := by decide +kernel
theorem dX0_addFlight_59 : decode cX0_addFlight 59 = .ok (.iload_n 3, 1) := by decide +kernel
theorem dX0_addFlight_60 : decode cX0_addFlight 60 = .ok (.invokevirtual 69, 3) := by decide +kernel
theorem dX0_addFlight_63 : decode cX0_addFlight 63 = .ok (.iastore, 1) := by decide +kernel
theorem dX0_addFlight_64 : decode cX0_addFlight 64 = .ok (.aload_n 0, 1) := by decide +kernel
theorem dX0_addFlight_65 : decode cX0_addFlight 65 = .ok (.getfield 9, 3) := by decide +kernel
theorem dX0_addFlight_68 : decode cX0_addFlight 68 = .ok (.iload_n 2, 1) := by decide +kernel
theorem dX0_addFlight_69 : decode cX0_addFlight 69 = .ok (.iload_n 3, 1) := by decide +kernel
theorem dX0_addFlight_70 : decode cX0_addFlight 70 = .ok (.iastore, 1) := by decide +kernel
theorem dX0_addFlight_71 : decode cX0_addFlight 71 = .ok (.aload_n 0, 1) := by decide +kernel
theorem dX0_addFlight_72 : decode cX0_addFlight 72 = .ok (.dup, 1) := by decide +kernel
theorem dX0_addFlight_73 : decode cX0_addFlight 73 = .ok (.getfield 57, 3) := by decide +kernel
theorem dX0_addFlight_76 : decode cX0_addFlight 76 = .ok (.iconst 1, 1) := by decide +kernel
theorem dX0_addFlight_77 : decode cX0_addFlight 77 = .ok (.iadd, 1) := by decide +kernel
theorem dX0_addFlight_78 : decode cX0_addFlight 78 = .ok (.putfield 57, 3) := by decide +kernel
theorem dX0_addFlight_81 : decode cX0_addFlight 81 = .ok (.iload_n 2, 1) := by decide +kernel
theorem dX0_addFlight_82 : decode cX0_addFlight 82 = .ok (.ireturn, 1) := by decide +kernel
set_option maxRecDepth 20000 in
theorem ggX0_board_X0_requireRider : GoodIn wsX0_board wsX0_requireRider := goodIn_ca (goodIn_r _ [6, 7, 8] (by decide +kernel) (by decide +kernel)) (goodIn_sub (fun _ h => List.mem_cons_of_mem _ (List.mem_append_right _ h)) (by decide +kernel))
set_option maxRecDepth 20000 in
theorem gX0_board_X0_requireRider : GoodIn wsX0_board (wsV RX0 73 RX0 yX0_requireRider wsX0_requireRider) := goodIn_app (goodIn_of _ (by decide +kernel)) ggX0_board_X0_requireRider
theorem dX0_board_0 : decode cX0_board 0 = .ok (.aload_n 0, 1) := by decide +kernel
theorem dX0_board_1 : decode cX0_board 1 = .ok (.iload_n 1, 1) := by decide +kernel
theorem dX0_board_2 : decode cX0_board 2 = .ok (.invokevirtual 73, 3) := by decide +kernel
theorem dX0_board_5 : decode cX0_board 5 = .ok (.aload_n 0, 1) := by decide +kernel
theorem dX0_board_6 : decode cX0_board 6 = .ok (.getfield 16, 3) := by decide +kernel
theorem dX0_board_9 : decode cX0_board 9 = .ok (.iload_n 1, 1) := by decide +kernel
theorem dX0_board_10 : decode cX0_board 10 = .ok (.baload, 1) := by decide +kernel
theorem dX0_board_11 : decode cX0_board 11 = .ok (.istore_n 3, 1) := by decide +kernel
theorem dX0_board_12 : decode cX0_board 12 = .ok (.aload_n 0, 1) := by decide +kernel
theorem dX0_board_13 : decode cX0_board 13 = .ok (.getfield 16, 3) := by decide +kernel
theorem dX0_board_16 : decode cX0_board 16 = .ok (.iload_n 1, 1) := by decide +kernel
theorem dX0_board_17 : decode cX0_board 17 = .ok (.iload_n 2, 1) := by decide +kernel
theorem dX0_board_18 : decode cX0_board 18 = .ok (.bastore, 1) := by decide +kernel
theorem dX0_board_19 : decode cX0_board 19 = .ok (.iload_n 3, 1) := by decide +kernel
theorem dX0_board_20 : decode cX0_board 20 = .ok (.ireturn, 1) := by decide +kernel
set_option maxRecDepth 20000 in
theorem ggX0_pass_X0_passOneMinute : GoodIn wsX0_pass wsX0_passOneMinute := goodIn_r _ [8, 9, 10, 11, 12, 7, 13, 14, 15, 16, 17, 18, 19, 20, 21, 22, 23, 24, 25, 26, 27, 28, 29, 30, 31, 32, 3, 33, 34, 35, 36, 37, 38, 39, 40, 41, 42, 43, 44, 45, 46, 47, 48, 49, 50, 51, 52, 53, 54, 55, 56, 57, 58, 59, 60, 61, 62, 63, 64, 65, 66, 67, 68, 69, 70, 71, 72, 73, 74, 75, 76, 77, 78, 79, 80, 81, 82, 83, 84, 85, 86, 87, 88, 89, 90, 91, 92, 93, 94, 95, 96, 97] (by decide +kernel) (by decide +kernel)
set_option maxRecDepth 20000 in
theorem gX0_pass_X0_passOneMinute : GoodIn wsX0_pass (wsV RX0 82 RX0 yX0_passOneMinute wsX0_passOneMinute) := goodIn_app (goodIn_of _ (by decide +kernel)) ggX0_pass_X0_passOneMinute
theorem dX0_pass_0 : decode cX0_pass 0 = .ok (.iload_n 1, 1) := by decide +kernel
theorem dX0_pass_1 : decode cX0_pass 1 = .ok (.iconst 1, 1) := by decide +kernel
theorem dX0_pass_2 : decode cX0_pass 2 = .ok (.if_icmp .lt 10, 3) := by decide +kernel
theorem dX0_pass_5 : decode cX0_pass 5 = .ok (.iload_n 1, 1) := by decide +kernel
theorem dX0_pass_6 : decode cX0_pass 6 = .ok (.sipush 200, 3) := by decide +kernel
theorem dX0_pass_9 : decode cX0_pass 9 = .ok (.if_icmp .le 13, 3) := by decide +kernel
theorem dX0_pass_12 : decode cX0_pass 12 = .ok (.new 50, 3) := by decide +kernel
theorem dX0_pass_15 : decode cX0_pass 15 = .ok (.dup, 1) := by decide +kernel
theorem dX0_pass_16 : decode cX0_pass 16 = .ok (.ldc 77, 2) := by decide +kernel
theorem dX0_pass_18 : decode cX0_pass 18 = .ok (.invokespecial 54, 3) := by decide +kernel
theorem dX0_pass_21 : decode cX0_pass 21 = .ok (.athrow, 1) := by decide +kernel
theorem dX0_pass_22 : decode cX0_pass 22 = .ok (.aload_n 0, 1) := by decide +kernel
theorem dX0_pass_23 : decode cX0_pass 23 = .ok (.getfield 79, 3) := by decide +kernel
theorem dX0_pass_26 : decode cX0_pass 26 = .ok (.istore_n 2, 1) := by decide +kernel
theorem dX0_pass_27 : decode cX0_pass 27 = .ok (.iconst 0, 1) := by decide +kernel
theorem dX0_pass_28 : decode cX0_pass 28 = .ok (.istore_n 3, 1) := by decide +kernel
theorem dX0_pass_29 : decode cX0_pass 29 = .ok (.iload_n 3, 1) := by decide +kernel
theorem dX0_pass_30 : decode cX0_pass 30 = .ok (.iload_n 1, 1) := by decide +kernel
theorem dX0_pass_31 : decode cX0_pass 31 = .ok (.if_icmp .ge 13, 3) := by decide +kernel
theorem dX0_pass_34 : decode cX0_pass 34 = .ok (.aload_n 0, 1) := by decide +kernel
theorem dX0_pass_35 : decode cX0_pass 35 = .ok (.invokevirtual 82, 3) := by decide +kernel
theorem dX0_pass_38 : decode cX0_pass 38 = .ok (.iinc 3 1, 3) := by decide +kernel
theorem dX0_pass_41 : decode cX0_pass 41 = .ok (.goto (-12), 3) := by decide +kernel
theorem dX0_pass_44 : decode cX0_pass 44 = .ok (.aload_n 0, 1) := by decide +kernel
theorem dX0_pass_45 : decode cX0_pass 45 = .ok (.getfield 79, 3) := by decide +kernel
theorem dX0_pass_48 : decode cX0_pass 48 = .ok (.iload_n 2, 1) := by decide +kernel
theorem dX0_pass_49 : decode cX0_pass 49 = .ok (.isub, 1) := by decide +kernel
theorem dX0_pass_50 : decode cX0_pass 50 = .ok (.ireturn, 1) := by decide +kernel
theorem dX0_time_0 : decode cX0_time 0 = .ok (.aload_n 0, 1) := by decide +kernel
theorem dX0_time_1 : decode cX0_time 1 = .ok (.getfield 66, 3) := by decide +kernel
theorem dX0_time_4 : decode cX0_time 4 = .ok (.ireturn, 1) := by decide +kernel
set_option maxRecDepth 20000 in
theorem ggX0_lateralOf_X0_requireFlight : GoodIn wsX0_lateralOf wsX0_requireFlight := goodIn_ca (goodIn_r _ [6, 7, 8, 9, 10, 11, 12, 13, 14, 15, 16, 17, 18, 19, 20, 21, 22, 23, 24, 25, 26] (by decide +kernel) (by decide +kernel)) (goodIn_sub (fun _ h => List.mem_cons_of_mem _ (List.mem_append_right _ h)) (by decide +kernel))
set_option maxRecDepth 20000 in
theorem gX0_lateralOf_X0_requireFlight : GoodIn wsX0_lateralOf (wsV RX0 85 RX0 yX0_requireFlight wsX0_requireFlight) := goodIn_app (goodIn_of _ (by decide +kernel)) ggX0_lateralOf_X0_requireFlight
theorem dX0_lateralOf_0 : decode cX0_lateralOf 0 = .ok (.aload_n 0, 1) := by decide +kernel
theorem dX0_lateralOf_1 : decode cX0_lateralOf 1 = .ok (.iload_n 1, 1) := by decide +kernel
theorem dX0_lateralOf_2 : decode cX0_lateralOf 2 = .ok (.invokevirtual 85, 3) := by decide +kernel
theorem dX0_lateralOf_5 : decode cX0_lateralOf 5 = .ok (.aload_n 0, 1) := by decide +kernel
theorem dX0_lateralOf_6 : decode cX0_lateralOf 6 = .ok (.getfield 13, 3) := by decide +kernel
theorem dX0_lateralOf_9 : decode cX0_lateralOf 9 = .ok (.iload_n 1, 1) := by decide +kernel
theorem dX0_lateralOf_10 : decode cX0_lateralOf 10 = .ok (.iaload, 1) := by decide +kernel
theorem dX0_lateralOf_11 : decode cX0_lateralOf 11 = .ok (.ireturn, 1) := by decide +kernel
set_option maxRecDepth 20000 in
theorem ggX0_checkIn_X0_takeIn : GoodIn wsX0_checkIn wsX0_takeIn := goodIn_ca (goodIn_ca (goodIn_r _ [5, 6, 7, 8, 9, 10, 11, 12, 13, 14, 4, 15, 16, 17, 18, 19, 20, 21, 22, 23, 24, 25, 26, 27, 28, 44, 45, 46, 47, 48, 49, 50, 51, 52, 53, 54, 55, 56, 57, 58, 59, 60] (by decide +kernel) (by decide +kernel)) (goodIn_sub (fun _ h => List.mem_cons_of_mem _ (List.mem_append_left _ (List.mem_append_right _ h))) (by decide +kernel))) (goodIn_sub (fun _ h => List.mem_cons_of_mem _ (List.mem_append_right _ h)) (by decide +kernel))
set_option maxRecDepth 20000 in
theorem gX0_checkIn_X0_takeIn : GoodIn wsX0_checkIn (wsV RX0 88 RX0 yX0_takeIn wsX0_takeIn) := goodIn_app (goodIn_of _ (by decide +kernel)) ggX0_checkIn_X0_takeIn
set_option maxRecDepth 20000 in
theorem ggX0_checkIn_X0_bring : GoodIn wsX0_checkIn wsX0_bring := goodIn_r _ [32, 33, 11, 34, 27, 35, 36, 37, 38, 39, 4, 40, 41, 42, 43, 44, 45, 46, 47, 48, 49, 50, 51, 52, 53, 54, 55, 56, 57, 58, 59, 60] (by decide +kernel) (by decide +kernel)
set_option maxRecDepth 20000 in
theorem gX0_checkIn_X0_bring : GoodIn wsX0_checkIn (wsV RX0 92 RX0 yX0_bring wsX0_bring) := goodIn_app (goodIn_of _ (by decide +kernel)) ggX0_checkIn_X0_bring
theorem dX0_checkIn_0 : decode cX0_checkIn 0 = .ok (.aload_n 0, 1) := by decide +kernel
theorem dX0_checkIn_1 : decode cX0_checkIn 1 = .ok (.iload_n 1, 1) := by decide +kernel
theorem dX0_checkIn_2 : decode cX0_checkIn 2 = .ok (.iload_n 2, 1) := by decide +kernel
theorem dX0_checkIn_3 : decode cX0_checkIn 3 = .ok (.invokevirtual 88, 3) := by decide +kernel
theorem dX0_checkIn_6 : decode cX0_checkIn 6 = .ok (.istore_n 3, 1) := by decide +kernel
theorem dX0_checkIn_7 : decode cX0_checkIn 7 = .ok (.aload_n 0, 1) := by decide +kernel
theorem dX0_checkIn_8 : decode cX0_checkIn 8 = .ok (.iload_n 3, 1) := by decide +kernel
theorem dX0_checkIn_9 : decode cX0_checkIn 9 = .ok (.iconst 1, 1) := by decide +kernel
theorem dX0_checkIn_10 : decode cX0_checkIn 10 = .ok (.invokevirtual 92, 3) := by decide +kernel
theorem dX0_checkIn_13 : decode cX0_checkIn 13 = .ok (.iload_n 3, 1) := by decide +kernel
theorem dX0_checkIn_14 : decode cX0_checkIn 14 = .ok (.ireturn, 1) := by decide +kernel
set_option maxRecDepth 20000 in
theorem ggX0_transfer_X0_takeIn : GoodIn wsX0_transfer wsX0_takeIn := goodIn_ca (goodIn_ca (goodIn_r _ [5, 6, 7, 8, 9, 10, 11, 12, 13, 14, 4, 15, 16, 17, 18, 19, 20, 21, 22, 23, 24, 25, 26, 27, 28, 65, 66, 67, 68, 69, 70, 71, 72, 73, 74, 75, 76, 77, 78, 79, 80, 81] (by decide +kernel) (by decide +kernel)) (goodIn_sub (fun _ h => List.mem_cons_of_mem _ (List.mem_append_left _ (List.mem_append_right _ h))) (by decide +kernel))) (goodIn_sub (fun _ h => List.mem_cons_of_mem _ (List.mem_append_right _ h)) (by decide +kernel))
set_option maxRecDepth 20000 in
theorem gX0_transfer_X0_takeIn : GoodIn wsX0_transfer (wsV RX0 88 RX0 yX0_takeIn wsX0_takeIn) := goodIn_app (goodIn_of _ (by decide +kernel)) ggX0_transfer_X0_takeIn
set_option maxRecDepth 20000 in
theorem ggX0_transfer_X0_route : GoodIn wsX0_transfer wsX0_route := goodIn_r _ [32, 9, 11, 33, 34, 35, 4, 36, 37, 38, 39, 40, 41, 42, 27, 43, 44, 45, 46, 28, 47, 48, 49, 50, 51, 52, 53, 54, 55, 56, 57, 58, 59, 60, 61, 62, 63, 64, 65, 66, 67, 68, 69, 70, 71, 72, 73, 74, 75, 76, 77, 78, 79, 80, 81] (by decide +kernel) (by decide +kernel)
set_option maxRecDepth 20000 in
theorem gX0_transfer_X0_route : GoodIn wsX0_transfer (wsV RX0 96 RX0 yX0_route wsX0_route) := goodIn_app (goodIn_of _ (by decide +kernel)) ggX0_transfer_X0_route
theorem dX0_transfer_0 : decode cX0_transfer 0 = .ok (.aload_n 0, 1) := by decide +kernel
theorem dX0_transfer_1 : decode cX0_transfer 1 = .ok (.iload_n 1, 1) := by decide +kernel
theorem dX0_transfer_2 : decode cX0_transfer 2 = .ok (.iload_n 2, 1) := by decide +kernel
theorem dX0_transfer_3 : decode cX0_transfer 3 = .ok (.invokevirtual 88, 3) := by decide +kernel
theorem dX0_transfer_6 : decode cX0_transfer 6 = .ok (.istore_n 3, 1) := by decide +kernel
theorem dX0_transfer_7 : decode cX0_transfer 7 = .ok (.aload_n 0, 1) := by decide +kernel
theorem dX0_transfer_8 : decode cX0_transfer 8 = .ok (.iload_n 3, 1) := by decide +kernel
theorem dX0_transfer_9 : decode cX0_transfer 9 = .ok (.invokevirtual 96, 3) := by decide +kernel
theorem dX0_transfer_12 : decode cX0_transfer 12 = .ok (.iload_n 3, 1) := by decide +kernel
theorem dX0_transfer_13 : decode cX0_transfer 13 = .ok (.ireturn, 1) := by decide +kernel
set_option maxRecDepth 20000 in
theorem ggX0_decide_X0_requireBag : GoodIn wsX0_decide wsX0_requireBag := goodIn_ca (goodIn_r _ [10, 11, 12, 13, 57, 58, 59, 60, 61, 62, 63, 64, 65, 66, 67, 68, 69, 70, 71, 72, 73] (by decide +kernel) (by decide +kernel)) (goodIn_sub (fun _ h => List.mem_cons_of_mem _ (List.mem_append_right _ h)) (by decide +kernel))
set_option maxRecDepth 20000 in
theorem gX0_decide_X0_requireBag : GoodIn wsX0_decide (wsV RX0 99 RX0 yX0_requireBag wsX0_requireBag) := goodIn_app (goodIn_of _ (by decide +kernel)) ggX0_decide_X0_requireBag
set_option maxRecDepth 20000 in
theorem ggX0_decide_X0_decisionTime : GoodIn wsX0_decide wsX0_decisionTime := goodIn_r _ [16] (by decide +kernel) (by decide +kernel)
set_option maxRecDepth 20000 in
theorem gX0_decide_X0_decisionTime : GoodIn wsX0_decide (va_wsS RX0 104 yX0_decisionTime wsX0_decisionTime) := goodIn_app (goodIn_of _ (by decide +kernel)) ggX0_decide_X0_decisionTime
set_option maxRecDepth 20000 in
theorem ggX0_decide_X0_route : GoodIn wsX0_decide wsX0_route := goodIn_r _ [20, 21, 3, 22, 23, 24, 9, 25, 26, 27, 28, 29, 30, 31, 4, 32, 33, 34, 35, 36, 37, 38, 39, 40, 41, 42, 43, 44, 5, 45, 46, 47, 48, 49, 50, 51, 52, 53, 57, 58, 59, 60, 61, 62, 63, 64, 65, 66, 67, 68, 69, 70, 71, 72, 73] (by decide +kernel) (by decide +kernel)
set_option maxRecDepth 20000 in
theorem gX0_decide_X0_route : GoodIn wsX0_decide (wsV RX0 96 RX0 yX0_route wsX0_route) := goodIn_app (goodIn_of _ (by decide +kernel)) ggX0_decide_X0_route
set_option maxRecDepth 20000 in
theorem ggX0_decide_X0_nextLevel : GoodIn wsX0_decide wsX0_nextLevel := goodIn_r _ [56] (by decide +kernel) (by decide +kernel)
set_option maxRecDepth 20000 in
theorem gX0_decide_X0_nextLevel : GoodIn wsX0_decide (va_wsS RX0 109 yX0_nextLevel wsX0_nextLevel) := goodIn_app (goodIn_of _ (by decide +kernel)) ggX0_decide_X0_nextLevel
set_option maxRecDepth 20000 in
theorem ggX0_decide_X0_bring : GoodIn wsX0_decide wsX0_bring := goodIn_r _ [44, 27, 3, 5, 4, 45, 46, 47, 48, 49, 9, 50, 51, 52, 53, 57, 58, 59, 60, 61, 62, 63, 64, 65, 66, 67, 68, 69, 70, 71, 72, 73] (by decide +kernel) (by decide +kernel)
set_option maxRecDepth 20000 in
theorem gX0_decide_X0_bring : GoodIn wsX0_decide (wsV RX0 92 RX0 yX0_bring wsX0_bring) := goodIn_app (goodIn_of _ (by decide +kernel)) ggX0_decide_X0_bring
theorem dX0_decide_0 : decode cX0_decide 0 = .ok (.aload_n 0, 1) := by decide +kernel
theorem dX0_decide_1 : decode cX0_decide 1 = .ok (.iload_n 1, 1) := by decide +kernel
theorem dX0_decide_2 : decode cX0_decide 2 = .ok (.invokevirtual 99, 3) := by decide +kernel
theorem dX0_decide_5 : decode cX0_decide 5 = .ok (.aload_n 0, 1) := by decide +kernel
theorem dX0_decide_6 : decode cX0_decide 6 = .ok (.getfield 29, 3) := by decide +kernel
theorem dX0_decide_9 : decode cX0_decide 9 = .ok (.iload_n 1, 1) := by decide +kernel
theorem dX0_decide_10 : decode cX0_decide 10 = .ok (.iaload, 1) := by decide +kernel
theorem dX0_decide_11 : decode cX0_decide 11 = .ok (.istore_n 3, 1) := by decide +kernel
theorem dX0_decide_12 : decode cX0_decide 12 = .ok (.iload_n 3, 1) := by decide +kernel
theorem dX0_decide_13 : decode cX0_decide 13 = .ok (.iconst 1, 1) := by decide +kernel
theorem dX0_decide_14 : decode cX0_decide 14 = .ok (.if_icmp .eq 23, 3) := by decide +kernel
theorem dX0_decide_17 : decode cX0_decide 17 = .ok (.iload_n 3, 1) := by decide +kernel
theorem dX0_decide_18 : decode cX0_decide 18 = .ok (.iconst 2, 1) := by decide +kernel
theorem dX0_decide_19 : decode cX0_decide 19 = .ok (.if_icmp .eq 18, 3) := by decide +kernel
theorem dX0_decide_22 : decode cX0_decide 22 = .ok (.iload_n 3, 1) := by decide +kernel
theorem dX0_decide_23 : decode cX0_decide 23 = .ok (.iconst 3, 1) := by decide +kernel
theorem dX0_decide_24 : decode cX0_decide 24 = .ok (.if_icmp .eq 13, 3) := by decide +kernel
theorem dX0_decide_27 : decode cX0_decide 27 = .ok (.new 61, 3) := by decide +kernel
theorem dX0_decide_30 : decode cX0_decide 30 = .ok (.dup, 1) := by decide +kernel
theorem dX0_decide_31 : decode cX0_decide 31 = .ok (.ldc 102, 2) := by decide +kernel
theorem dX0_decide_33 : decode cX0_decide 33 = .ok (.invokespecial 65, 3) := by decide +kernel
theorem dX0_decide_36 : decode cX0_decide 36 = .ok (.athrow, 1) := by decide +kernel
theorem dX0_decide_37 : decode cX0_decide 37 = .ok (.aload_n 0, 1) := by decide +kernel
theorem dX0_decide_38 : decode cX0_decide 38 = .ok (.getfield 66, 3) := by decide +kernel
theorem dX0_decide_41 : decode cX0_decide 41 = .ok (.aload_n 0, 1) := by decide +kernel
theorem dX0_decide_42 : decode cX0_decide 42 = .ok (.getfield 35, 3) := by decide +kernel
theorem dX0_decide_45 : decode cX0_decide 45 = .ok (.iload_n 1, 1) := by decide +kernel
theorem dX0_decide_46 : decode cX0_decide 46 = .ok (.iaload, 1) := by decide +kernel
theorem dX0_decide_47 : decode cX0_decide 47 = .ok (.isub, 1) := by decide +kernel
theorem dX0_decide_48 : decode cX0_decide 48 = .ok (.iload_n 3, 1) := by decide +kernel
theorem dX0_decide_49 : decode cX0_decide 49 = .ok (.invokestatic 104, 3) := by decide +kernel
theorem dX0_decide_52 : decode cX0_decide 52 = .ok (.if_icmp .ge 13, 3) := by decide +kernel
theorem dX0_decide_55 : decode cX0_decide 55 = .ok (.new 61, 3) := by decide +kernel
theorem dX0_decide_58 : decode cX0_decide 58 = .ok (.dup, 1) := by decide +kernel
theorem dX0_decide_59 : decode cX0_decide 59 = .ok (.ldc 107, 2) := by decide +kernel
theorem dX0_decide_61 : decode cX0_decide 61 = .ok (.invokespecial 65, 3) := by decide +kernel
theorem dX0_decide_64 : decode cX0_decide 64 = .ok (.athrow, 1) := by decide +kernel
theorem dX0_decide_65 : decode cX0_decide 65 = .ok (.iload_n 2, 1) := by decide +kernel
theorem dX0_decide_66 : decode cX0_decide 66 = .ok (.ifCond .eq 11, 3) := by decide +kernel
theorem dX0_decide_69 : decode cX0_decide 69 = .ok (.aload_n 0, 1) := by decide +kernel
theorem dX0_decide_70 : decode cX0_decide 70 = .ok (.iload_n 1, 1) := by decide +kernel
theorem dX0_decide_71 : decode cX0_decide 71 = .ok (.invokevirtual 96, 3) := by decide +kernel
theorem dX0_decide_74 : decode cX0_decide 74 = .ok (.goto 12, 3) := by decide +kernel
theorem dX0_decide_77 : decode cX0_decide 77 = .ok (.aload_n 0, 1) := by decide +kernel
theorem dX0_decide_78 : decode cX0_decide 78 = .ok (.iload_n 1, 1) := by decide +kernel
theorem dX0_decide_79 : decode cX0_decide 79 = .ok (.iload_n 3, 1) := by decide +kernel
theorem dX0_decide_80 : decode cX0_decide 80 = .ok (.invokestatic 109, 3) := by decide +kernel
theorem dX0_decide_83 : decode cX0_decide 83 = .ok (.invokevirtual 92, 3) := by decide +kernel
theorem dX0_decide_86 : decode cX0_decide 86 = .ok (.aload_n 0, 1) := by decide +kernel
theorem dX0_decide_87 : decode cX0_decide 87 = .ok (.getfield 29, 3) := by decide +kernel
theorem dX0_decide_90 : decode cX0_decide 90 = .ok (.iload_n 1, 1) := by decide +kernel
theorem dX0_decide_91 : decode cX0_decide 91 = .ok (.iaload, 1) := by decide +kernel
theorem dX0_decide_92 : decode cX0_decide 92 = .ok (.ireturn, 1) := by decide +kernel
set_option maxRecDepth 20000 in
theorem ggX0_letGo_X0_requireBag : GoodIn wsX0_letGo wsX0_requireBag := goodIn_ca (goodIn_r _ [6, 7, 8, 9, 55, 56, 57, 58, 59, 60, 61, 62, 63, 64, 65, 66, 67, 68, 69, 70, 71] (by decide +kernel) (by decide +kernel)) (goodIn_sub (fun _ h => List.mem_cons_of_mem _ (List.mem_append_left _ (List.mem_append_right _ h))) (by decide +kernel))
set_option maxRecDepth 20000 in
theorem gX0_letGo_X0_requireBag : GoodIn wsX0_letGo (wsV RX0 99 RX0 yX0_requireBag wsX0_requireBag) := goodIn_app (goodIn_of _ (by decide +kernel)) ggX0_letGo_X0_requireBag
set_option maxRecDepth 20000 in
theorem ggX0_letGo_X0_requirePlace : GoodIn wsX0_letGo wsX0_requirePlace := goodIn_ca (goodIn_r _ [13, 14, 15, 1, 55, 56, 57, 58, 59, 60, 61, 62, 63, 64, 65, 66, 67, 68, 69, 70, 71] (by decide +kernel) (by decide +kernel)) (goodIn_sub (fun _ h => List.mem_cons_of_mem _ (List.mem_append_right _ h)) (by decide +kernel))
set_option maxRecDepth 20000 in
theorem gX0_letGo_X0_requirePlace : GoodIn wsX0_letGo (wsV RX0 112 RX0 yX0_requirePlace wsX0_requirePlace) := goodIn_app (goodIn_of _ (by decide +kernel)) ggX0_letGo_X0_requirePlace
set_option maxRecDepth 20000 in
theorem ggX0_letGo_X0_route : GoodIn wsX0_letGo wsX0_route := goodIn_r _ [19, 20, 1, 21, 22, 23, 5, 24, 25, 26, 27, 28, 29, 30, 31, 32, 33, 34, 35, 36, 37, 38, 39, 40, 41, 42, 43, 44, 45, 46, 47, 48, 49, 50, 51, 52, 53, 54, 55, 56, 57, 58, 59, 60, 61, 62, 63, 64, 65, 66, 67, 68, 69, 70, 71] (by decide +kernel) (by decide +kernel)
set_option maxRecDepth 20000 in
theorem gX0_letGo_X0_route : GoodIn wsX0_letGo (wsV RX0 96 RX0 yX0_route wsX0_route) := goodIn_app (goodIn_of _ (by decide +kernel)) ggX0_letGo_X0_route
theorem dX0_letGo_0 : decode cX0_letGo 0 = .ok (.aload_n 0, 1) := by decide +kernel
theorem dX0_letGo_1 : decode cX0_letGo 1 = .ok (.iload_n 1, 1) := by decide +kernel
theorem dX0_letGo_2 : decode cX0_letGo 2 = .ok (.invokevirtual 99, 3) := by decide +kernel
theorem dX0_letGo_5 : decode cX0_letGo 5 = .ok (.aload_n 0, 1) := by decide +kernel
theorem dX0_letGo_6 : decode cX0_letGo 6 = .ok (.iload_n 1, 1) := by decide +kernel
theorem dX0_letGo_7 : decode cX0_letGo 7 = .ok (.iconst 4, 1) := by decide +kernel
theorem dX0_letGo_8 : decode cX0_letGo 8 = .ok (.invokevirtual 112, 3) := by decide +kernel
theorem dX0_letGo_11 : decode cX0_letGo 11 = .ok (.aload_n 0, 1) := by decide +kernel
theorem dX0_letGo_12 : decode cX0_letGo 12 = .ok (.iload_n 1, 1) := by decide +kernel
theorem dX0_letGo_13 : decode cX0_letGo 13 = .ok (.invokevirtual 96, 3) := by decide +kernel
theorem dX0_letGo_16 : decode cX0_letGo 16 = .ok (.aload_n 0, 1) := by decide +kernel
theorem dX0_letGo_17 : decode cX0_letGo 17 = .ok (.getfield 29, 3) := by decide +kernel
theorem dX0_letGo_20 : decode cX0_letGo 20 = .ok (.iload_n 1, 1) := by decide +kernel
theorem dX0_letGo_21 : decode cX0_letGo 21 = .ok (.iaload, 1) := by decide +kernel
theorem dX0_letGo_22 : decode cX0_letGo 22 = .ok (.ireturn, 1) := by decide +kernel
set_option maxRecDepth 20000 in
theorem ggX0_load_X0_requireBag : GoodIn wsX0_load wsX0_requireBag := goodIn_ca (goodIn_r _ [6, 7, 8, 9, 41, 42, 43, 44, 45, 46, 47, 48, 49, 50, 51, 52, 53, 54, 55, 56, 57] (by decide +kernel) (by decide +kernel)) (goodIn_sub (fun _ h => List.mem_cons_of_mem _ (List.mem_append_left _ (List.mem_append_right _ h))) (by decide +kernel))
set_option maxRecDepth 20000 in
theorem gX0_load_X0_requireBag : GoodIn wsX0_load (wsV RX0 99 RX0 yX0_requireBag wsX0_requireBag) := goodIn_app (goodIn_of _ (by decide +kernel)) ggX0_load_X0_requireBag
set_option maxRecDepth 20000 in
theorem ggX0_load_X0_requirePlace : GoodIn wsX0_load wsX0_requirePlace := goodIn_ca (goodIn_r _ [13, 14, 15, 16, 41, 42, 43, 44, 45, 46, 47, 48, 49, 50, 51, 52, 53, 54, 55, 56, 57] (by decide +kernel) (by decide +kernel)) (goodIn_sub (fun _ h => List.mem_cons_of_mem _ (List.mem_append_right _ h)) (by decide +kernel))
set_option maxRecDepth 20000 in
theorem gX0_load_X0_requirePlace : GoodIn wsX0_load (wsV RX0 112 RX0 yX0_requirePlace wsX0_requirePlace) := goodIn_app (goodIn_of _ (by decide +kernel)) ggX0_load_X0_requirePlace
set_option maxRecDepth 20000 in
theorem ggX0_load_X0_bring : GoodIn wsX0_load wsX0_bring := goodIn_r _ [20, 21, 16, 22, 23, 24, 25, 26, 27, 28, 5, 29, 30, 31, 32, 41, 42, 43, 44, 45, 46, 47, 48, 49, 50, 51, 52, 53, 54, 55, 56, 57] (by decide +kernel) (by decide +kernel)
set_option maxRecDepth 20000 in
theorem gX0_load_X0_bring : GoodIn wsX0_load (wsV RX0 92 RX0 yX0_bring wsX0_bring) := goodIn_app (goodIn_of _ (by decide +kernel)) ggX0_load_X0_bring
set_option maxRecDepth 20000 in
theorem ggX0_load_X0_loadedBags : GoodIn wsX0_load wsX0_loadedBags := goodIn_r _ [36, 9, 37, 38, 39, 5, 40, 16, 1, 41, 42, 43, 44, 45, 46, 47, 48, 49, 50, 51, 52, 53, 54, 55, 56, 57] (by decide +kernel) (by decide +kernel)
set_option maxRecDepth 20000 in
theorem gX0_load_X0_loadedBags : GoodIn wsX0_load (wsV RX0 115 RX0 yX0_loadedBags wsX0_loadedBags) := goodIn_app (goodIn_of _ (by decide +kernel)) ggX0_load_X0_loadedBags
theorem dX0_load_0 : decode cX0_load 0 = .ok (.aload_n 0, 1) := by decide +kernel
theorem dX0_load_1 : decode cX0_load 1 = .ok (.iload_n 1, 1) := by decide +kernel
theorem dX0_load_2 : decode cX0_load 2 = .ok (.invokevirtual 99, 3) := by decide +kernel
theorem dX0_load_5 : decode cX0_load 5 = .ok (.aload_n 0, 1) := by decide +kernel
theorem dX0_load_6 : decode cX0_load 6 = .ok (.iload_n 1, 1) := by decide +kernel
theorem dX0_load_7 : decode cX0_load 7 = .ok (.bipush 7, 2) := by decide +kernel
theorem dX0_load_9 : decode cX0_load 9 = .ok (.invokevirtual 112, 3) := by decide +kernel
theorem dX0_load_12 : decode cX0_load 12 = .ok (.aload_n 0, 1) := by decide +kernel
theorem dX0_load_13 : decode cX0_load 13 = .ok (.iload_n 1, 1) := by decide +kernel
theorem dX0_load_14 : decode cX0_load 14 = .ok (.bipush 8, 2) := by decide +kernel
theorem dX0_load_16 : decode cX0_load 16 = .ok (.invokevirtual 92, 3) := by decide +kernel
theorem dX0_load_19 : decode cX0_load 19 = .ok (.aload_n 0, 1) := by decide +kernel
theorem dX0_load_20 : decode cX0_load 20 = .ok (.aload_n 0, 1) := by decide +kernel
theorem dX0_load_21 : decode cX0_load 21 = .ok (.getfield 20, 3) := by decide +kernel
theorem dX0_load_24 : decode cX0_load 24 = .ok (.iload_n 1, 1) := by decide +kernel
theorem dX0_load_25 : decode cX0_load 25 = .ok (.iaload, 1) := by decide +kernel
theorem dX0_load_26 : decode cX0_load 26 = .ok (.invokevirtual 115, 3) := by decide +kernel
theorem dX0_load_29 : decode cX0_load 29 = .ok (.ireturn, 1) := by decide +kernel
set_option maxRecDepth 20000 in
theorem ggX0_offload_X0_requireBag : GoodIn wsX0_offload wsX0_requireBag := goodIn_ca (goodIn_r _ [6, 7, 8, 9, 41, 42, 43, 44, 45, 46, 47, 48, 49, 50, 51, 52, 53, 54, 55, 56, 57] (by decide +kernel) (by decide +kernel)) (goodIn_sub (fun _ h => List.mem_cons_of_mem _ (List.mem_append_left _ (List.mem_append_right _ h))) (by decide +kernel))
set_option maxRecDepth 20000 in
theorem gX0_offload_X0_requireBag : GoodIn wsX0_offload (wsV RX0 99 RX0 yX0_requireBag wsX0_requireBag) := goodIn_app (goodIn_of _ (by decide +kernel)) ggX0_offload_X0_requireBag
set_option maxRecDepth 20000 in
theorem ggX0_offload_X0_requirePlace : GoodIn wsX0_offload wsX0_requirePlace := goodIn_ca (goodIn_r _ [13, 14, 15, 16, 41, 42, 43, 44, 45, 46, 47, 48, 49, 50, 51, 52, 53, 54, 55, 56, 57] (by decide +kernel) (by decide +kernel)) (goodIn_sub (fun _ h => List.mem_cons_of_mem _ (List.mem_append_right _ h)) (by decide +kernel))
set_option maxRecDepth 20000 in
theorem gX0_offload_X0_requirePlace : GoodIn wsX0_offload (wsV RX0 112 RX0 yX0_requirePlace wsX0_requirePlace) := goodIn_app (goodIn_of _ (by decide +kernel)) ggX0_offload_X0_requirePlace
set_option maxRecDepth 20000 in
theorem ggX0_offload_X0_bring : GoodIn wsX0_offload wsX0_bring := goodIn_r _ [20, 21, 16, 22, 23, 24, 25, 26, 27, 28, 5, 29, 30, 31, 32, 41, 42, 43, 44, 45, 46, 47, 48, 49, 50, 51, 52, 53, 54, 55, 56, 57] (by decide +kernel) (by decide +kernel)
set_option maxRecDepth 20000 in
theorem gX0_offload_X0_bring : GoodIn wsX0_offload (wsV RX0 92 RX0 yX0_bring wsX0_bring) := goodIn_app (goodIn_of _ (by decide +kernel)) ggX0_offload_X0_bring
set_option maxRecDepth 20000 in
theorem ggX0_offload_X0_loadedBags : GoodIn wsX0_offload wsX0_loadedBags := goodIn_r _ [36, 9, 37, 38, 39, 5, 40, 16, 1, 41, 42, 43, 44, 45, 46, 47, 48, 49, 50, 51, 52, 53, 54, 55, 56, 57] (by decide +kernel) (by decide +kernel)
set_option maxRecDepth 20000 in
theorem gX0_offload_X0_loadedBags : GoodIn wsX0_offload (wsV RX0 115 RX0 yX0_loadedBags wsX0_loadedBags) := goodIn_app (goodIn_of _ (by decide +kernel)) ggX0_offload_X0_loadedBags
theorem dX0_offload_0 : decode cX0_offload 0 = .ok (.aload_n 0, 1) := by decide +kernel
theorem dX0_offload_1 : decode cX0_offload 1 = .ok (.iload_n 1, 1) := by decide +kernel
theorem dX0_offload_2 : decode cX0_offload 2 = .ok (.invokevirtual 99, 3) := by decide +kernel
theorem dX0_offload_5 : decode cX0_offload 5 = .ok (.aload_n 0, 1) := by decide +kernel
theorem dX0_offload_6 : decode cX0_offload 6 = .ok (.iload_n 1, 1) := by decide +kernel
theorem dX0_offload_7 : decode cX0_offload 7 = .ok (.bipush 8, 2) := by decide +kernel
theorem dX0_offload_9 : decode cX0_offload 9 = .ok (.invokevirtual 112, 3) := by decide +kernel
theorem dX0_offload_12 : decode cX0_offload 12 = .ok (.aload_n 0, 1) := by decide +kernel
theorem dX0_offload_13 : decode cX0_offload 13 = .ok (.iload_n 1, 1) := by decide +kernel
theorem dX0_offload_14 : decode cX0_offload 14 = .ok (.bipush 10, 2) := by decide +kernel
theorem dX0_offload_16 : decode cX0_offload 16 = .ok (.invokevirtual 92, 3) := by decide +kernel
theorem dX0_offload_19 : decode cX0_offload 19 = .ok (.aload_n 0, 1) := by decide +kernel
theorem dX0_offload_20 : decode cX0_offload 20 = .ok (.aload_n 0, 1) := by decide +kernel
theorem dX0_offload_21 : decode cX0_offload 21 = .ok (.getfield 20, 3) := by decide +kernel
theorem dX0_offload_24 : decode cX0_offload 24 = .ok (.iload_n 1, 1) := by decide +kernel
theorem dX0_offload_25 : decode cX0_offload 25 = .ok (.iaload, 1) := by decide +kernel
theorem dX0_offload_26 : decode cX0_offload 26 = .ok (.invokevirtual 115, 3) := by decide +kernel
theorem dX0_offload_29 : decode cX0_offload 29 = .ok (.ireturn, 1) := by decide +kernel
set_option maxRecDepth 20000 in
theorem ggX0_sendOn_X0_requireBag : GoodIn wsX0_sendOn wsX0_requireBag := goodIn_ca (goodIn_r _ [10, 11, 12, 13, 61, 62, 63, 64, 65, 66, 67, 68, 69, 70, 71, 72, 73, 74, 75, 76, 77] (by decide +kernel) (by decide +kernel)) (goodIn_sub (fun _ h => List.mem_cons_of_mem _ (List.mem_append_right _ h)) (by decide +kernel))
set_option maxRecDepth 20000 in
theorem gX0_sendOn_X0_requireBag : GoodIn wsX0_sendOn (wsV RX0 99 RX0 yX0_requireBag wsX0_requireBag) := goodIn_app (goodIn_of _ (by decide +kernel)) ggX0_sendOn_X0_requireBag
set_option maxRecDepth 20000 in
theorem ggX0_sendOn_X0_requireFlight : GoodIn wsX0_sendOn wsX0_requireFlight := goodIn_ca (goodIn_r _ [17, 11, 12, 18, 61, 62, 63, 64, 65, 66, 67, 68, 69, 70, 71, 72, 73, 74, 75, 76, 77] (by decide +kernel) (by decide +kernel)) (goodIn_sub (fun _ h => List.mem_cons_of_mem _ (List.mem_append_right _ h)) (by decide +kernel))
set_option maxRecDepth 20000 in
theorem gX0_sendOn_X0_requireFlight : GoodIn wsX0_sendOn (wsV RX0 85 RX0 yX0_requireFlight wsX0_requireFlight) := goodIn_app (goodIn_of _ (by decide +kernel)) ggX0_sendOn_X0_requireFlight
set_option maxRecDepth 20000 in
theorem ggX0_sendOn_X0_requireNotDeparted : GoodIn wsX0_sendOn wsX0_requireNotDeparted := goodIn_ca (goodIn_r _ [22, 1, 2, 23, 24, 61, 62, 63, 64, 65, 66, 67, 68, 69, 70, 71, 72, 73, 74, 75, 76, 77] (by decide +kernel) (by decide +kernel)) (goodIn_sub (fun _ h => List.mem_cons_of_mem _ (List.mem_append_left _ (List.mem_append_right _ h))) (by decide +kernel))
set_option maxRecDepth 20000 in
theorem gX0_sendOn_X0_requireNotDeparted : GoodIn wsX0_sendOn (wsV RX0 120 RX0 yX0_requireNotDeparted wsX0_requireNotDeparted) := goodIn_app (goodIn_of _ (by decide +kernel)) ggX0_sendOn_X0_requireNotDeparted
set_option maxRecDepth 20000 in
theorem ggX0_sendOn_X0_route : GoodIn wsX0_sendOn wsX0_route := goodIn_r _ [28, 4, 3, 29, 30, 31, 9, 32, 33, 34, 35, 36, 37, 38, 23, 39, 40, 41, 42, 24, 43, 44, 45, 46, 47, 48, 49, 50, 51, 52, 53, 54, 55, 56, 57, 58, 59, 60, 61, 62, 63, 64, 65, 66, 67, 68, 69, 70, 71, 72, 73, 74, 75, 76, 77] (by decide +kernel) (by decide +kernel)
set_option maxRecDepth 20000 in
theorem gX0_sendOn_X0_route : GoodIn wsX0_sendOn (wsV RX0 96 RX0 yX0_route wsX0_route) := goodIn_app (goodIn_of _ (by decide +kernel)) ggX0_sendOn_X0_route
theorem dX0_sendOn_0 : decode cX0_sendOn 0 = .ok (.aload_n 0, 1) := by decide +kernel
theorem dX0_sendOn_1 : decode cX0_sendOn 1 = .ok (.iload_n 1, 1) := by decide +kernel
theorem dX0_sendOn_2 : decode cX0_sendOn 2 = .ok (.invokevirtual 99, 3) := by decide +kernel
theorem dX0_sendOn_5 : decode cX0_sendOn 5 = .ok (.aload_n 0, 1) := by decide +kernel
theorem dX0_sendOn_6 : decode cX0_sendOn 6 = .ok (.iload_n 2, 1) := by decide +kernel
theorem dX0_sendOn_7 : decode cX0_sendOn 7 = .ok (.invokevirtual 85, 3) := by decide +kernel
theorem dX0_sendOn_10 : decode cX0_sendOn 10 = .ok (.aload_n 0, 1) := by decide +kernel
theorem dX0_sendOn_11 : decode cX0_sendOn 11 = .ok (.getfield 29, 3) := by decide +kernel
theorem dX0_sendOn_14 : decode cX0_sendOn 14 = .ok (.iload_n 1, 1) := by decide +kernel
theorem dX0_sendOn_15 : decode cX0_sendOn 15 = .ok (.iaload, 1) := by decide +kernel
theorem dX0_sendOn_16 : decode cX0_sendOn 16 = .ok (.bipush 10, 2) := by decide +kernel
theorem dX0_sendOn_18 : decode cX0_sendOn 18 = .ok (.if_icmp .eq 24, 3) := by decide +kernel
theorem dX0_sendOn_21 : decode cX0_sendOn 21 = .ok (.aload_n 0, 1) := by decide +kernel
theorem dX0_sendOn_22 : decode cX0_sendOn 22 = .ok (.getfield 29, 3) := by decide +kernel
theorem dX0_sendOn_25 : decode cX0_sendOn 25 = .ok (.iload_n 1, 1) := by decide +kernel
theorem dX0_sendOn_26 : decode cX0_sendOn 26 = .ok (.iaload, 1) := by decide +kernel
theorem dX0_sendOn_27 : decode cX0_sendOn 27 = .ok (.bipush 11, 2) := by decide +kernel
theorem dX0_sendOn_29 : decode cX0_sendOn 29 = .ok (.if_icmp .eq 13, 3) := by decide +kernel
theorem dX0_sendOn_32 : decode cX0_sendOn 32 = .ok (.new 61, 3) := by decide +kernel
theorem dX0_sendOn_35 : decode cX0_sendOn 35 = .ok (.dup, 1) := by decide +kernel
theorem dX0_sendOn_36 : decode cX0_sendOn 36 = .ok (.ldc 118, 2) := by decide +kernel
theorem dX0_sendOn_38 : decode cX0_sendOn 38 = .ok (.invokespecial 65, 3) := by decide +kernel
theorem dX0_sendOn_41 : decode cX0_sendOn 41 = .ok (.athrow, 1) := by decide +kernel
theorem dX0_sendOn_42 : decode cX0_sendOn 42 = .ok (.aload_n 0, 1) := by decide +kernel
theorem dX0_sendOn_43 : decode cX0_sendOn 43 = .ok (.iload_n 2, 1) := by decide +kernel
theorem dX0_sendOn_44 : decode cX0_sendOn 44 = .ok (.invokevirtual 120, 3) := by decide +kernel
theorem dX0_sendOn_47 : decode cX0_sendOn 47 = .ok (.aload_n 0, 1) := by decide +kernel
theorem dX0_sendOn_48 : decode cX0_sendOn 48 = .ok (.getfield 20, 3) := by decide +kernel
theorem dX0_sendOn_51 : decode cX0_sendOn 51 = .ok (.iload_n 1, 1) := by decide +kernel
theorem dX0_sendOn_52 : decode cX0_sendOn 52 = .ok (.iload_n 2, 1) := by decide +kernel
theorem dX0_sendOn_53 : decode cX0_sendOn 53 = .ok (.iastore, 1) := by decide +kernel
theorem dX0_sendOn_54 : decode cX0_sendOn 54 = .ok (.aload_n 0, 1) := by decide +kernel
theorem dX0_sendOn_55 : decode cX0_sendOn 55 = .ok (.getfield 26, 3) := by decide +kernel
theorem dX0_sendOn_58 : decode cX0_sendOn 58 = .ok (.iload_n 1, 1) := by decide +kernel
theorem dX0_sendOn_59 : decode cX0_sendOn 59 = .ok (.iconst 1, 1) := by decide +kernel
theorem dX0_sendOn_60 : decode cX0_sendOn 60 = .ok (.bastore, 1) := by decide +kernel
theorem dX0_sendOn_61 : decode cX0_sendOn 61 = .ok (.aload_n 0, 1) := by decide +kernel
theorem dX0_sendOn_62 : decode cX0_sendOn 62 = .ok (.iload_n 1, 1) := by decide +kernel
theorem dX0_sendOn_63 : decode cX0_sendOn 63 = .ok (.invokevirtual 96, 3) := by decide +kernel
theorem dX0_sendOn_66 : decode cX0_sendOn 66 = .ok (.aload_n 0, 1) := by decide +kernel
theorem dX0_sendOn_67 : decode cX0_sendOn 67 = .ok (.getfield 29, 3) := by decide +kernel
theorem dX0_sendOn_70 : decode cX0_sendOn 70 = .ok (.iload_n 1, 1) := by decide +kernel
theorem dX0_sendOn_71 : decode cX0_sendOn 71 = .ok (.iaload, 1) := by decide +kernel
theorem dX0_sendOn_72 : decode cX0_sendOn 72 = .ok (.ireturn, 1) := by decide +kernel
theorem dX0_bags_0 : decode cX0_bags 0 = .ok (.aload_n 0, 1) := by decide +kernel
theorem dX0_bags_1 : decode cX0_bags 1 = .ok (.getfield 123, 3) := by decide +kernel
theorem dX0_bags_4 : decode cX0_bags 4 = .ok (.ireturn, 1) := by decide +kernel
set_option maxRecDepth 20000 in
theorem ggX0_placeOf_X0_requireBag : GoodIn wsX0_placeOf wsX0_requireBag := goodIn_ca (goodIn_r _ [6, 7, 8, 9, 10, 11, 12, 13, 14, 15, 16, 17, 18, 19, 20, 21, 22, 23, 24, 25, 26] (by decide +kernel) (by decide +kernel)) (goodIn_sub (fun _ h => List.mem_cons_of_mem _ (List.mem_append_right _ h)) (by decide +kernel))
set_option maxRecDepth 20000 in
theorem gX0_placeOf_X0_requireBag : GoodIn wsX0_placeOf (wsV RX0 99 RX0 yX0_requireBag wsX0_requireBag) := goodIn_app (goodIn_of _ (by decide +kernel)) ggX0_placeOf_X0_requireBag
theorem dX0_placeOf_0 : decode cX0_placeOf 0 = .ok (.aload_n 0, 1) := by decide +kernel
theorem dX0_placeOf_1 : decode cX0_placeOf 1 = .ok (.iload_n 1, 1) := by decide +kernel
theorem dX0_placeOf_2 : decode cX0_placeOf 2 = .ok (.invokevirtual 99, 3) := by decide +kernel
theorem dX0_placeOf_5 : decode cX0_placeOf 5 = .ok (.aload_n 0, 1) := by decide +kernel
theorem dX0_placeOf_6 : decode cX0_placeOf 6 = .ok (.getfield 29, 3) := by decide +kernel
theorem dX0_placeOf_9 : decode cX0_placeOf 9 = .ok (.iload_n 1, 1) := by decide +kernel
theorem dX0_placeOf_10 : decode cX0_placeOf 10 = .ok (.iaload, 1) := by decide +kernel
theorem dX0_placeOf_11 : decode cX0_placeOf 11 = .ok (.ireturn, 1) := by decide +kernel
set_option maxRecDepth 20000 in
theorem ggX0_placeByScans_X0_requireBag : GoodIn wsX0_placeByScans wsX0_requireBag := goodIn_ca (goodIn_r _ [12, 13, 14, 15, 16, 17, 18, 19, 20, 21, 22, 23, 24, 25, 26, 27, 28, 29, 30, 31, 32] (by decide +kernel) (by decide +kernel)) (goodIn_sub (fun _ h => List.mem_cons_of_mem _ (List.mem_append_right _ h)) (by decide +kernel))
set_option maxRecDepth 20000 in
theorem gX0_placeByScans_X0_requireBag : GoodIn wsX0_placeByScans (wsV RX0 99 RX0 yX0_requireBag wsX0_requireBag) := goodIn_app (goodIn_of _ (by decide +kernel)) ggX0_placeByScans_X0_requireBag
theorem dX0_placeByScans_0 : decode cX0_placeByScans 0 = .ok (.aload_n 0, 1) := by decide +kernel
theorem dX0_placeByScans_1 : decode cX0_placeByScans 1 = .ok (.iload_n 1, 1) := by decide +kernel
theorem dX0_placeByScans_2 : decode cX0_placeByScans 2 = .ok (.invokevirtual 99, 3) := by decide +kernel
theorem dX0_placeByScans_5 : decode cX0_placeByScans 5 = .ok (.iload_n 2, 1) := by decide +kernel
theorem dX0_placeByScans_6 : decode cX0_placeByScans 6 = .ok (.ifCond .lt 11, 3) := by decide +kernel
theorem dX0_placeByScans_9 : decode cX0_placeByScans 9 = .ok (.iload_n 2, 1) := by decide +kernel
theorem dX0_placeByScans_10 : decode cX0_placeByScans 10 = .ok (.aload_n 0, 1) := by decide +kernel
theorem dX0_placeByScans_11 : decode cX0_placeByScans 11 = .ok (.getfield 66, 3) := by decide +kernel
theorem dX0_placeByScans_14 : decode cX0_placeByScans 14 = .ok (.if_icmp .le 13, 3) := by decide +kernel
theorem dX0_placeByScans_17 : decode cX0_placeByScans 17 = .ok (.new 50, 3) := by decide +kernel
theorem dX0_placeByScans_20 : decode cX0_placeByScans 20 = .ok (.dup, 1) := by decide +kernel
theorem dX0_placeByScans_21 : decode cX0_placeByScans 21 = .ok (.ldc 126, 2) := by decide +kernel
theorem dX0_placeByScans_23 : decode cX0_placeByScans 23 = .ok (.invokespecial 54, 3) := by decide +kernel
theorem dX0_placeByScans_26 : decode cX0_placeByScans 26 = .ok (.athrow, 1) := by decide +kernel
theorem dX0_placeByScans_27 : decode cX0_placeByScans 27 = .ok (.aload_n 0, 1) := by decide +kernel
theorem dX0_placeByScans_28 : decode cX0_placeByScans 28 = .ok (.getfield 79, 3) := by decide +kernel
theorem dX0_placeByScans_31 : decode cX0_placeByScans 31 = .ok (.iconst 1, 1) := by decide +kernel
theorem dX0_placeByScans_32 : decode cX0_placeByScans 32 = .ok (.isub, 1) := by decide +kernel
theorem dX0_placeByScans_33 : decode cX0_placeByScans 33 = .ok (.istore_n 3, 1) := by decide +kernel
theorem dX0_placeByScans_34 : decode cX0_placeByScans 34 = .ok (.iload_n 3, 1) := by decide +kernel
theorem dX0_placeByScans_35 : decode cX0_placeByScans 35 = .ok (.ifCond .lt 36, 3) := by decide +kernel
theorem dX0_placeByScans_38 : decode cX0_placeByScans 38 = .ok (.aload_n 0, 1) := by decide +kernel
theorem dX0_placeByScans_39 : decode cX0_placeByScans 39 = .ok (.getfield 41, 3) := by decide +kernel
theorem dX0_placeByScans_42 : decode cX0_placeByScans 42 = .ok (.iload_n 3, 1) := by decide +kernel
theorem dX0_placeByScans_43 : decode cX0_placeByScans 43 = .ok (.iaload, 1) := by decide +kernel
theorem dX0_placeByScans_44 : decode cX0_placeByScans 44 = .ok (.iload_n 1, 1) := by decide +kernel
theorem dX0_placeByScans_45 : decode cX0_placeByScans 45 = .ok (.if_icmp .ne 20, 3) := by decide +kernel
theorem dX0_placeByScans_48 : decode cX0_placeByScans 48 = .ok (.aload_n 0, 1) := by decide +kernel
theorem dX0_placeByScans_49 : decode cX0_placeByScans 49 = .ok (.getfield 47, 3) := by decide +kernel
theorem dX0_placeByScans_52 : decode cX0_placeByScans 52 = .ok (.iload_n 3, 1) := by decide +kernel
theorem dX0_placeByScans_53 : decode cX0_placeByScans 53 = .ok (.iaload, 1) := by decide +kernel
theorem dX0_placeByScans_54 : decode cX0_placeByScans 54 = .ok (.iload_n 2, 1) := by decide +kernel
theorem dX0_placeByScans_55 : decode cX0_placeByScans 55 = .ok (.if_icmp .gt 10, 3) := by decide +kernel
theorem dX0_placeByScans_58 : decode cX0_placeByScans 58 = .ok (.aload_n 0, 1) := by decide +kernel
theorem dX0_placeByScans_59 : decode cX0_placeByScans 59 = .ok (.getfield 44, 3) := by decide +kernel
theorem dX0_placeByScans_62 : decode cX0_placeByScans 62 = .ok (.iload_n 3, 1) := by decide +kernel
theorem dX0_placeByScans_63 : decode cX0_placeByScans 63 = .ok (.iaload, 1) := by decide +kernel
theorem dX0_placeByScans_64 : decode cX0_placeByScans 64 = .ok (.ireturn, 1) := by decide +kernel
theorem dX0_placeByScans_65 : decode cX0_placeByScans 65 = .ok (.iinc 3 (-1), 3) := by decide +kernel
theorem dX0_placeByScans_68 : decode cX0_placeByScans 68 = .ok (.goto (-34), 3) := by decide +kernel
theorem dX0_placeByScans_71 : decode cX0_placeByScans 71 = .ok (.iconst (-1), 1) := by decide +kernel
theorem dX0_placeByScans_72 : decode cX0_placeByScans 72 = .ok (.ireturn, 1) := by decide +kernel
set_option maxRecDepth 20000 in
theorem ggX0_flightOf_X0_requireBag : GoodIn wsX0_flightOf wsX0_requireBag := goodIn_ca (goodIn_r _ [6, 7, 8, 9, 10, 11, 12, 13, 14, 15, 16, 17, 18, 19, 20, 21, 22, 23, 24, 25, 26] (by decide +kernel) (by decide +kernel)) (goodIn_sub (fun _ h => List.mem_cons_of_mem _ (List.mem_append_right _ h)) (by decide +kernel))
set_option maxRecDepth 20000 in
theorem gX0_flightOf_X0_requireBag : GoodIn wsX0_flightOf (wsV RX0 99 RX0 yX0_requireBag wsX0_requireBag) := goodIn_app (goodIn_of _ (by decide +kernel)) ggX0_flightOf_X0_requireBag
theorem dX0_flightOf_0 : decode cX0_flightOf 0 = .ok (.aload_n 0, 1) := by decide +kernel
theorem dX0_flightOf_1 : decode cX0_flightOf 1 = .ok (.iload_n 1, 1) := by decide +kernel
theorem dX0_flightOf_2 : decode cX0_flightOf 2 = .ok (.invokevirtual 99, 3) := by decide +kernel
theorem dX0_flightOf_5 : decode cX0_flightOf 5 = .ok (.aload_n 0, 1) := by decide +kernel
theorem dX0_flightOf_6 : decode cX0_flightOf 6 = .ok (.getfield 20, 3) := by decide +kernel
theorem dX0_flightOf_9 : decode cX0_flightOf 9 = .ok (.iload_n 1, 1) := by decide +kernel
theorem dX0_flightOf_10 : decode cX0_flightOf 10 = .ok (.iaload, 1) := by decide +kernel
theorem dX0_flightOf_11 : decode cX0_flightOf 11 = .ok (.ireturn, 1) := by decide +kernel
theorem dX0_count_0 : decode cX0_count 0 = .ok (.iload_n 1, 1) := by decide +kernel
theorem dX0_count_1 : decode cX0_count 1 = .ok (.iconst 1, 1) := by decide +kernel
theorem dX0_count_2 : decode cX0_count 2 = .ok (.if_icmp .lt 9, 3) := by decide +kernel
theorem dX0_count_5 : decode cX0_count 5 = .ok (.iload_n 1, 1) := by decide +kernel
theorem dX0_count_6 : decode cX0_count 6 = .ok (.bipush 11, 2) := by decide +kernel
theorem dX0_count_8 : decode cX0_count 8 = .ok (.if_icmp .le 13, 3) := by decide +kernel
theorem dX0_count_11 : decode cX0_count 11 = .ok (.new 50, 3) := by decide +kernel
theorem dX0_count_14 : decode cX0_count 14 = .ok (.dup, 1) := by decide +kernel
theorem dX0_count_15 : decode cX0_count 15 = .ok (.ldc 128, 2) := by decide +kernel
theorem dX0_count_17 : decode cX0_count 17 = .ok (.invokespecial 54, 3) := by decide +kernel
theorem dX0_count_20 : decode cX0_count 20 = .ok (.athrow, 1) := by decide +kernel
theorem dX0_count_21 : decode cX0_count 21 = .ok (.aload_n 0, 1) := by decide +kernel
theorem dX0_count_22 : decode cX0_count 22 = .ok (.getfield 38, 3) := by decide +kernel
theorem dX0_count_25 : decode cX0_count 25 = .ok (.iload_n 1, 1) := by decide +kernel
theorem dX0_count_26 : decode cX0_count 26 = .ok (.iaload, 1) := by decide +kernel
theorem dX0_count_27 : decode cX0_count 27 = .ok (.ireturn, 1) := by decide +kernel
theorem dX0_atLateral_0 : decode cX0_atLateral 0 = .ok (.iload_n 1, 1) := by decide +kernel
theorem dX0_atLateral_1 : decode cX0_atLateral 1 = .ok (.ifCond .lt 8, 3) := by decide +kernel
theorem dX0_atLateral_4 : decode cX0_atLateral 4 = .ok (.iload_n 1, 1) := by decide +kernel
theorem dX0_atLateral_5 : decode cX0_atLateral 5 = .ok (.iconst 4, 1) := by decide +kernel
theorem dX0_atLateral_6 : decode cX0_atLateral 6 = .ok (.if_icmp .lt 13, 3) := by decide +kernel
theorem dX0_atLateral_9 : decode cX0_atLateral 9 = .ok (.new 130, 3) := by decide +kernel
theorem dX0_atLateral_12 : decode cX0_atLateral 12 = .ok (.dup, 1) := by decide +kernel
theorem dX0_atLateral_13 : decode cX0_atLateral 13 = .ok (.ldc 132, 2) := by decide +kernel
theorem dX0_atLateral_15 : decode cX0_atLateral 15 = .ok (.invokespecial 134, 3) := by decide +kernel
theorem dX0_atLateral_18 : decode cX0_atLateral 18 = .ok (.athrow, 1) := by decide +kernel
theorem dX0_atLateral_19 : decode cX0_atLateral 19 = .ok (.iconst 0, 1) := by decide +kernel
theorem dX0_atLateral_20 : decode cX0_atLateral 20 = .ok (.istore_n 2, 1) := by decide +kernel
theorem dX0_atLateral_21 : decode cX0_atLateral 21 = .ok (.iconst 0, 1) := by decide +kernel
theorem dX0_atLateral_22 : decode cX0_atLateral 22 = .ok (.istore_n 3, 1) := by decide +kernel
theorem dX0_atLateral_23 : decode cX0_atLateral 23 = .ok (.iload_n 3, 1) := by decide +kernel
theorem dX0_atLateral_24 : decode cX0_atLateral 24 = .ok (.aload_n 0, 1) := by decide +kernel
theorem dX0_atLateral_25 : decode cX0_atLateral 25 = .ok (.getfield 123, 3) := by decide +kernel
theorem dX0_atLateral_28 : decode cX0_atLateral 28 = .ok (.if_icmp .ge 38, 3) := by decide +kernel
theorem dX0_atLateral_31 : decode cX0_atLateral 31 = .ok (.aload_n 0, 1) := by decide +kernel
theorem dX0_atLateral_32 : decode cX0_atLateral 32 = .ok (.getfield 29, 3) := by decide +kernel
theorem dX0_atLateral_35 : decode cX0_atLateral 35 = .ok (.iload_n 3, 1) := by decide +kernel
theorem dX0_atLateral_36 : decode cX0_atLateral 36 = .ok (.iaload, 1) := by decide +kernel
theorem dX0_atLateral_37 : decode cX0_atLateral 37 = .ok (.bipush 7, 2) := by decide +kernel
theorem dX0_atLateral_39 : decode cX0_atLateral 39 = .ok (.if_icmp .ne 21, 3) := by decide +kernel
theorem dX0_atLateral_42 : decode cX0_atLateral 42 = .ok (.aload_n 0, 1) := by decide +kernel
theorem dX0_atLateral_43 : decode cX0_atLateral 43 = .ok (.getfield 13, 3) := by decide +kernel
theorem dX0_atLateral_46 : decode cX0_atLateral 46 = .ok (.aload_n 0, 1) := by decide +kernel
theorem dX0_atLateral_47 : decode cX0_atLateral 47 = .ok (.getfield 20, 3) := by decide +kernel
theorem dX0_atLateral_50 : decode cX0_atLateral 50 = .ok (.iload_n 3, 1) := by decide +kernel
theorem dX0_atLateral_51 : decode cX0_atLateral 51 = .ok (.iaload, 1) := by decide +kernel
theorem dX0_atLateral_52 : decode cX0_atLateral 52 = .ok (.iaload, 1) := by decide +kernel
theorem dX0_atLateral_53 : decode cX0_atLateral 53 = .ok (.iload_n 1, 1) := by decide +kernel
theorem dX0_atLateral_54 : decode cX0_atLateral 54 = .ok (.if_icmp .ne 6, 3) := by decide +kernel
theorem dX0_atLateral_57 : decode cX0_atLateral 57 = .ok (.iinc 2 1, 3) := by decide +kernel
theorem dX0_atLateral_60 : decode cX0_atLateral 60 = .ok (.iinc 3 1, 3) := by decide +kernel
theorem dX0_atLateral_63 : decode cX0_atLateral 63 = .ok (.goto (-40), 3) := by decide +kernel
theorem dX0_atLateral_66 : decode cX0_atLateral 66 = .ok (.iload_n 2, 1) := by decide +kernel
theorem dX0_atLateral_67 : decode cX0_atLateral 67 = .ok (.ireturn, 1) := by decide +kernel
set_option maxRecDepth 20000 in
theorem ggX0_unmatched_X0_requireFlight : GoodIn wsX0_unmatched wsX0_requireFlight := goodIn_ca (goodIn_r _ [6, 7, 8, 9, 23, 24, 25, 26, 27, 28, 29, 30, 31, 32, 33, 34, 35, 36, 37, 38, 39] (by decide +kernel) (by decide +kernel)) (goodIn_sub (fun _ h => List.mem_cons_of_mem _ (List.mem_append_right _ h)) (by decide +kernel))
set_option maxRecDepth 20000 in
theorem gX0_unmatched_X0_requireFlight : GoodIn wsX0_unmatched (wsV RX0 85 RX0 yX0_requireFlight wsX0_requireFlight) := goodIn_app (goodIn_of _ (by decide +kernel)) ggX0_unmatched_X0_requireFlight
set_option maxRecDepth 20000 in
theorem ggX0_unmatched_X0_isLoadedFor : GoodIn wsX0_unmatched wsX0_isLoadedFor := goodIn_r _ [13, 14, 15, 23, 24, 25, 26, 27, 28, 29, 30, 31, 32, 33, 34, 35, 36, 37, 38, 39] (by decide +kernel) (by decide +kernel)
set_option maxRecDepth 20000 in
theorem gX0_unmatched_X0_isLoadedFor : GoodIn wsX0_unmatched (wsV RX0 135 RX0 yX0_isLoadedFor wsX0_isLoadedFor) := goodIn_app (goodIn_of _ (by decide +kernel)) ggX0_unmatched_X0_isLoadedFor
set_option maxRecDepth 20000 in
theorem ggX0_unmatched_X0_mayFly : GoodIn wsX0_unmatched wsX0_mayFly := goodIn_r _ [19, 20, 21, 22, 23, 24, 25, 26, 27, 28, 29, 30, 31, 32, 33, 34, 35, 36, 37, 38, 39] (by decide +kernel) (by decide +kernel)
set_option maxRecDepth 20000 in
theorem gX0_unmatched_X0_mayFly : GoodIn wsX0_unmatched (wsV RX0 139 RX0 yX0_mayFly wsX0_mayFly) := goodIn_app (goodIn_of _ (by decide +kernel)) ggX0_unmatched_X0_mayFly
theorem dX0_unmatched_0 : decode cX0_unmatched 0 = .ok (.aload_n 0, 1) := by decide +kernel
theorem dX0_unmatched_1 : decode cX0_unmatched 1 = .ok (.iload_n 1, 1) := by decide +kernel
theorem dX0_unmatched_2 : decode cX0_unmatched 2 = .ok (.invokevirtual 85, 3) := by decide +kernel
theorem dX0_unmatched_5 : decode cX0_unmatched 5 = .ok (.iconst 0, 1) := by decide +kernel
theorem dX0_unmatched_6 : decode cX0_unmatched 6 = .ok (.istore_n 2, 1) := by decide +kernel
theorem dX0_unmatched_7 : decode cX0_unmatched 7 = .ok (.iconst 0, 1) := by decide +kernel
theorem dX0_unmatched_8 : decode cX0_unmatched 8 = .ok (.istore_n 3, 1) := by decide +kernel
theorem dX0_unmatched_9 : decode cX0_unmatched 9 = .ok (.iload_n 3, 1) := by decide +kernel
theorem dX0_unmatched_10 : decode cX0_unmatched 10 = .ok (.aload_n 0, 1) := by decide +kernel
theorem dX0_unmatched_11 : decode cX0_unmatched 11 = .ok (.getfield 123, 3) := by decide +kernel
theorem dX0_unmatched_14 : decode cX0_unmatched 14 = .ok (.if_icmp .ge 29, 3) := by decide +kernel
theorem dX0_unmatched_17 : decode cX0_unmatched 17 = .ok (.aload_n 0, 1) := by decide +kernel
theorem dX0_unmatched_18 : decode cX0_unmatched 18 = .ok (.iload_n 3, 1) := by decide +kernel
theorem dX0_unmatched_19 : decode cX0_unmatched 19 = .ok (.iload_n 1, 1) := by decide +kernel
theorem dX0_unmatched_20 : decode cX0_unmatched 20 = .ok (.invokevirtual 135, 3) := by decide +kernel
theorem dX0_unmatched_23 : decode cX0_unmatched 23 = .ok (.ifCond .eq 14, 3) := by decide +kernel
theorem dX0_unmatched_26 : decode cX0_unmatched 26 = .ok (.aload_n 0, 1) := by decide +kernel
theorem dX0_unmatched_27 : decode cX0_unmatched 27 = .ok (.iload_n 3, 1) := by decide +kernel
theorem dX0_unmatched_28 : decode cX0_unmatched 28 = .ok (.invokevirtual 139, 3) := by decide +kernel
theorem dX0_unmatched_31 : decode cX0_unmatched 31 = .ok (.ifCond .ne 6, 3) := by decide +kernel
theorem dX0_unmatched_34 : decode cX0_unmatched 34 = .ok (.iinc 2 1, 3) := by decide +kernel
theorem dX0_unmatched_37 : decode cX0_unmatched 37 = .ok (.iinc 3 1, 3) := by decide +kernel
theorem dX0_unmatched_40 : decode cX0_unmatched 40 = .ok (.goto (-31), 3) := by decide +kernel
theorem dX0_unmatched_43 : decode cX0_unmatched 43 = .ok (.iload_n 2, 1) := by decide +kernel
theorem dX0_unmatched_44 : decode cX0_unmatched 44 = .ok (.ireturn, 1) := by decide +kernel
set_option maxRecDepth 20000 in
theorem ggX0_untilClose_X0_requireFlight : GoodIn wsX0_untilClose wsX0_requireFlight := goodIn_ca (goodIn_r _ [10, 11, 12, 13, 19, 20, 21, 22, 23, 24, 25, 26, 27, 28, 29, 30, 31, 32, 33, 34, 35] (by decide +kernel) (by decide +kernel)) (goodIn_sub (fun _ h => List.mem_cons_of_mem _ (List.mem_append_right _ h)) (by decide +kernel))
set_option maxRecDepth 20000 in
theorem gX0_untilClose_X0_requireFlight : GoodIn wsX0_untilClose (wsV RX0 85 RX0 yX0_requireFlight wsX0_requireFlight) := goodIn_app (goodIn_of _ (by decide +kernel)) ggX0_untilClose_X0_requireFlight
set_option maxRecDepth 20000 in
theorem ggX0_untilClose_X0_closing : GoodIn wsX0_untilClose wsX0_closing := goodIn_r _ [17, 18, 19, 20, 21, 22, 23, 24, 25, 26, 27, 28, 29, 30, 31, 32, 33, 34, 35] (by decide +kernel) (by decide +kernel)
set_option maxRecDepth 20000 in
theorem gX0_untilClose_X0_closing : GoodIn wsX0_untilClose (wsV RX0 143 RX0 yX0_closing wsX0_closing) := goodIn_app (goodIn_of _ (by decide +kernel)) ggX0_untilClose_X0_closing
theorem dX0_untilClose_0 : decode cX0_untilClose 0 = .ok (.aload_n 0, 1) := by decide +kernel
theorem dX0_untilClose_1 : decode cX0_untilClose 1 = .ok (.iload_n 1, 1) := by decide +kernel
theorem dX0_untilClose_2 : decode cX0_untilClose 2 = .ok (.invokevirtual 85, 3) := by decide +kernel
theorem dX0_untilClose_5 : decode cX0_untilClose 5 = .ok (.iconst 0, 1) := by decide +kernel
theorem dX0_untilClose_6 : decode cX0_untilClose 6 = .ok (.aload_n 0, 1) := by decide +kernel
theorem dX0_untilClose_7 : decode cX0_untilClose 7 = .ok (.iload_n 1, 1) := by decide +kernel
theorem dX0_untilClose_8 : decode cX0_untilClose 8 = .ok (.invokevirtual 143, 3) := by decide +kernel
theorem dX0_untilClose_11 : decode cX0_untilClose 11 = .ok (.aload_n 0, 1) := by decide +kernel
