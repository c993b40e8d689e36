section
/-! the tables of the mini machine, by program (wip/whole/gentab2.py) out of the printed names -/
def mm_cls : List String := ["PromisedStock$Acts", "PromisedStock$Best", "PromisedStock$Ledger", "PromisedStock$Net", "PromisedStock$Question", "PromisedStock$Row", "PromisedStock$Telling", "PromisedStock$Tokens", "PromisedStock", "PromisedStockModel", "PromisedStockLaw", "java/lang/Integer", "java/lang/Math", "java/util/Arrays"]
def mm_cn (i : Nat) : String := mm_cls.getD i ""
def mm_T0 : u_T := fun k => match k with
  | 0 => ("PromisedStock$Acts", "kind", "[I", true)
  | 1 => ("PromisedStock$Acts", "stage", "[I", true)
  | 2 => ("PromisedStock$Acts", "was", "[I", true)
  | 3 => ("PromisedStock$Acts", "size", "I", false)
  | _ => ("PromisedStock$Acts", "next", "I", false)
def mm_t0 : Nat → FieldType := fun k => match k with
  | 0 => .array (.int)
  | 1 => .array (.int)
  | 2 => .array (.int)
  | 3 => .int
  | _ => .int
theorem mm_nm0 : ∀ a, a < 5 → ∀ b, b < 5 → a ≠ b → (mm_T0 a).2.1 ≠ (mm_T0 b).2.1 := by decide +kernel
theorem mm_ok0 : ∀ k, k < 5 → parseFieldDescriptor (mm_T0 k).2.2.1 = some (mm_t0 k) := by decide +kernel
def mm_T1 : u_T := fun k => match k with
  | 0 => ("PromisedStock$Best", "rows", "[LPromisedStock$Row;", true)
  | 1 => ("PromisedStock$Best", "byThen", "LPromisedStock$Row;", true)
  | 2 => ("PromisedStock$Best", "justThen", "LPromisedStock$Row;", true)
  | 3 => ("PromisedStock$Best", "own", "LPromisedStock$Row;", true)
  | 4 => ("PromisedStock$Best", "picked", "LPromisedStock$Row;", true)
  | 5 => ("PromisedStock$Best", "prices", "[J", true)
  | 6 => ("PromisedStock$Best", "walk", "[I", true)
  | 7 => ("PromisedStock$Best", "inward", "[I", true)
  | 8 => ("PromisedStock$Best", "high", "J", false)
  | _ => ("PromisedStock$Best", "low", "J", false)
def mm_t1 : Nat → FieldType := fun k => match k with
  | 0 => .array (.object "PromisedStock$Row")
  | 1 => .object "PromisedStock$Row"
  | 2 => .object "PromisedStock$Row"
  | 3 => .object "PromisedStock$Row"
  | 4 => .object "PromisedStock$Row"
  | 5 => .array (.long)
  | 6 => .array (.int)
  | 7 => .array (.int)
  | 8 => .long
  | _ => .long
theorem mm_nm1 : ∀ a, a < 10 → ∀ b, b < 10 → a ≠ b → (mm_T1 a).2.1 ≠ (mm_T1 b).2.1 := by decide +kernel
theorem mm_ok1 : ∀ k, k < 10 → parseFieldDescriptor (mm_T1 k).2.2.1 = some (mm_t1 k) := by decide +kernel
def mm_T2 : u_T := fun k => match k with
  | 0 => ("PromisedStock$Ledger", "ahead", "[I", true)
  | 1 => ("PromisedStock$Ledger", "bounds", "[I", true)
  | 2 => ("PromisedStock$Ledger", "netDays", "I", false)
  | 3 => ("PromisedStock$Ledger", "base", "I", false)
  | _ => ("PromisedStock$Ledger", "time", "I", false)
def mm_t2 : Nat → FieldType := fun k => match k with
  | 0 => .array (.int)
  | 1 => .array (.int)
  | 2 => .int
  | 3 => .int
  | _ => .int
theorem mm_nm2 : ∀ a, a < 5 → ∀ b, b < 5 → a ≠ b → (mm_T2 a).2.1 ≠ (mm_T2 b).2.1 := by decide +kernel
theorem mm_ok2 : ∀ k, k < 5 → parseFieldDescriptor (mm_T2 k).2.2.1 = some (mm_t2 k) := by decide +kernel
def mm_T3 : u_T := fun k => match k with
  | 0 => ("PromisedStock$Net", "told", "[I", true)
  | 1 => ("PromisedStock$Net", "names", "[I", true)
  | 2 => ("PromisedStock$Net", "suppliers", "[I", true)
  | 3 => ("PromisedStock$Net", "customers", "[I", true)
  | 4 => ("PromisedStock$Net", "time", "[I", true)
  | 5 => ("PromisedStock$Net", "demands", "[I", true)
  | 6 => ("PromisedStock$Net", "order", "[I", true)
  | 7 => ("PromisedStock$Net", "flow", "[I", true)
  | 8 => ("PromisedStock$Net", "width", "[I", true)
  | 9 => ("PromisedStock$Net", "longest", "[I", true)
  | 10 => ("PromisedStock$Net", "count", "I", false)
  | 11 => ("PromisedStock$Net", "z", "I", false)
  | _ => ("PromisedStock$Net", "settled", "I", false)
def mm_t3 : Nat → FieldType := fun k => match k with
  | 0 => .array (.int)
  | 1 => .array (.int)
  | 2 => .array (.int)
  | 3 => .array (.int)
  | 4 => .array (.int)
  | 5 => .array (.int)
  | 6 => .array (.int)
  | 7 => .array (.int)
  | 8 => .array (.int)
  | 9 => .array (.int)
  | 10 => .int
  | 11 => .int
  | _ => .int
theorem mm_nm3 : ∀ a, a < 13 → ∀ b, b < 13 → a ≠ b → (mm_T3 a).2.1 ≠ (mm_T3 b).2.1 := by decide +kernel
theorem mm_ok3 : ∀ k, k < 13 → parseFieldDescriptor (mm_T3 k).2.2.1 = some (mm_t3 k) := by decide +kernel
def mm_T4 : u_T := fun k => match k with
  | 0 => ("PromisedStock$Question", "tokens", "LPromisedStock$Tokens;", true)
  | 1 => ("PromisedStock$Question", "net", "LPromisedStock$Net;", true)
  | 2 => ("PromisedStock$Question", "marks", "[I", true)
  | 3 => ("PromisedStock$Question", "stack", "[I", true)
  | 4 => ("PromisedStock$Question", "size", "I", false)
  | 5 => ("PromisedStock$Question", "asked", "I", false)
  | _ => ("PromisedStock$Question", "fault", "I", false)
def mm_t4 : Nat → FieldType := fun k => match k with
  | 0 => .object "PromisedStock$Tokens"
  | 1 => .object "PromisedStock$Net"
  | 2 => .array (.int)
  | 3 => .array (.int)
  | 4 => .int
  | 5 => .int
  | _ => .int
theorem mm_nm4 : ∀ a, a < 7 → ∀ b, b < 7 → a ≠ b → (mm_T4 a).2.1 ≠ (mm_T4 b).2.1 := by decide +kernel
theorem mm_ok4 : ∀ k, k < 7 → parseFieldDescriptor (mm_T4 k).2.2.1 = some (mm_t4 k) := by decide +kernel
def mm_T5 : u_T := fun k => match k with
  | 0 => ("PromisedStock$Row", "high", "[J", true)
  | _ => ("PromisedStock$Row", "low", "[J", true)
def mm_t5 : Nat → FieldType := fun k => match k with
  | 0 => .array (.long)
  | _ => .array (.long)
theorem mm_nm5 : ∀ a, a < 2 → ∀ b, b < 2 → a ≠ b → (mm_T5 a).2.1 ≠ (mm_T5 b).2.1 := by decide +kernel
theorem mm_ok5 : ∀ k, k < 2 → parseFieldDescriptor (mm_T5 k).2.2.1 = some (mm_t5 k) := by decide +kernel
def mm_T6 : u_T := fun k => match k with
  | 0 => ("PromisedStock$Telling", "tokens", "LPromisedStock$Tokens;", true)
  | 1 => ("PromisedStock$Telling", "draft", "LPromisedStock$Net;", true)
  | _ => ("PromisedStock$Telling", "fault", "I", false)
def mm_t6 : Nat → FieldType := fun k => match k with
  | 0 => .object "PromisedStock$Tokens"
  | 1 => .object "PromisedStock$Net"
  | _ => .int
theorem mm_nm6 : ∀ a, a < 3 → ∀ b, b < 3 → a ≠ b → (mm_T6 a).2.1 ≠ (mm_T6 b).2.1 := by decide +kernel
theorem mm_ok6 : ∀ k, k < 3 → parseFieldDescriptor (mm_T6 k).2.2.1 = some (mm_t6 k) := by decide +kernel
def mm_T7 : u_T := fun k => match k with
  | 0 => ("PromisedStock$Tokens", "tape", "[I", true)
  | 1 => ("PromisedStock$Tokens", "fed", "I", false)
  | 2 => ("PromisedStock$Tokens", "end", "I", false)
  | 3 => ("PromisedStock$Tokens", "start", "I", false)
  | 4 => ("PromisedStock$Tokens", "stop", "I", false)
  | _ => ("PromisedStock$Tokens", "kind", "I", false)
def mm_t7 : Nat → FieldType := fun k => match k with
  | 0 => .array (.int)
  | 1 => .int
  | 2 => .int
  | 3 => .int
  | 4 => .int
  | _ => .int
theorem mm_nm7 : ∀ a, a < 6 → ∀ b, b < 6 → a ≠ b → (mm_T7 a).2.1 ≠ (mm_T7 b).2.1 := by decide +kernel
theorem mm_ok7 : ∀ k, k < 6 → parseFieldDescriptor (mm_T7 k).2.2.1 = some (mm_t7 k) := by decide +kernel
def mm_T8 : u_T := fun k => match k with
  | 0 => ("PromisedStock", "tokens", "LPromisedStock$Tokens;", true)
  | 1 => ("PromisedStock", "net", "LPromisedStock$Net;", true)
  | 2 => ("PromisedStock", "draft", "LPromisedStock$Net;", true)
  | 3 => ("PromisedStock", "kept", "LPromisedStock$Net;", true)
  | 4 => ("PromisedStock", "acts", "LPromisedStock$Acts;", true)
  | 5 => ("PromisedStock", "best", "LPromisedStock$Best;", true)
  | 6 => ("PromisedStock", "ledger", "LPromisedStock$Ledger;", true)
  | 7 => ("PromisedStock", "telling", "LPromisedStock$Telling;", true)
  | 8 => ("PromisedStock", "question", "LPromisedStock$Question;", true)
  | 9 => ("PromisedStock", "evens", "[I", true)
  | 10 => ("PromisedStock", "evensKnown", "I", false)
  | 11 => ("PromisedStock", "evensSettled", "I", false)
  | 12 => ("PromisedStock", "somethingKept", "Z", false)
  | _ => ("PromisedStock", "faultPlace", "I", false)
def mm_t8 : Nat → FieldType := fun k => match k with
  | 0 => .object "PromisedStock$Tokens"
  | 1 => .object "PromisedStock$Net"
  | 2 => .object "PromisedStock$Net"
  | 3 => .object "PromisedStock$Net"
  | 4 => .object "PromisedStock$Acts"
  | 5 => .object "PromisedStock$Best"
  | 6 => .object "PromisedStock$Ledger"
  | 7 => .object "PromisedStock$Telling"
  | 8 => .object "PromisedStock$Question"
  | 9 => .array (.int)
  | 10 => .int
  | 11 => .int
  | 12 => .boolean
  | _ => .int
theorem mm_nm8 : ∀ a, a < 14 → ∀ b, b < 14 → a ≠ b → (mm_T8 a).2.1 ≠ (mm_T8 b).2.1 := by decide +kernel
theorem mm_ok8 : ∀ k, k < 14 → parseFieldDescriptor (mm_T8 k).2.2.1 = some (mm_t8 k) := by decide +kernel
def mm_T9 : u_T := fun k => match k with
  | 0 => ("PromisedStockModel", "code", "I", false)
  | 1 => ("PromisedStockModel", "net", "[I", true)
  | 2 => ("PromisedStockModel", "read", "[I", true)
  | 3 => ("PromisedStockModel", "past", "[I", true)
  | 4 => ("PromisedStockModel", "acts", "I", false)
  | 5 => ("PromisedStockModel", "time", "[I", true)
  | 6 => ("PromisedStockModel", "demands", "[I", true)
  | 7 => ("PromisedStockModel", "above", "[I", true)
  | 8 => ("PromisedStockModel", "side", "[I", true)
  | 9 => ("PromisedStockModel", "atMost", "[I", true)
  | 10 => ("PromisedStockModel", "just", "[I", true)
  | 11 => ("PromisedStockModel", "within", "[I", true)
  | 12 => ("PromisedStockModel", "below", "[I", true)
  | 13 => ("PromisedStockModel", "own", "[I", true)
  | 14 => ("PromisedStockModel", "roots", "[I", true)
  | 15 => ("PromisedStockModel", "horizon", "I", false)
  | 16 => ("PromisedStockModel", "wasPin", "[I", true)
  | 17 => ("PromisedStockModel", "wasPromise", "[I", true)
  | 18 => ("PromisedStockModel", "drawnSeed", "I", false)
  | 19 => ("PromisedStockModel", "calls", "[I", true)
  | 20 => ("PromisedStockModel", "bounds", "[I", true)
  | 21 => ("PromisedStockModel", "netThen", "[I", true)
  | 22 => ("PromisedStockModel", "timeThen", "[I", true)
  | 23 => ("PromisedStockModel", "demandsThen", "[I", true)
  | 24 => ("PromisedStockModel", "hasImage", "Z", false)
  | 25 => ("PromisedStockModel", "tape", "[I", true)
  | 26 => ("PromisedStockModel", "taped", "I", false)
  | 27 => ("PromisedStockModel", "size", "I", false)
  | 28 => ("PromisedStockModel", "at", "I", false)
  | 29 => ("PromisedStockModel", "token", "I", false)
  | 30 => ("PromisedStockModel", "begins", "I", false)
  | 31 => ("PromisedStockModel", "stops", "I", false)
  | 32 => ("PromisedStockModel", "bad", "I", false)
  | 33 => ("PromisedStockModel", "badPlace", "I", false)
  | 34 => ("PromisedStockModel", "faultPlace", "I", false)
  | 35 => ("PromisedStockModel", "open", "I", false)
  | 36 => ("PromisedStockModel", "asked", "I", false)
  | 37 => ("PromisedStockModel", "isAsking", "Z", false)
  | _ => ("PromisedStockModel", "kind", "I", false)
def mm_t9 : Nat → FieldType := fun k => match k with
  | 0 => .int
  | 1 => .array (.int)
  | 2 => .array (.int)
  | 3 => .array (.int)
  | 4 => .int
  | 5 => .array (.int)
  | 6 => .array (.int)
  | 7 => .array (.int)
  | 8 => .array (.int)
  | 9 => .array (.int)
  | 10 => .array (.int)
  | 11 => .array (.int)
  | 12 => .array (.int)
  | 13 => .array (.int)
  | 14 => .array (.int)
  | 15 => .int
  | 16 => .array (.int)
  | 17 => .array (.int)
  | 18 => .int
  | 19 => .array (.int)
  | 20 => .array (.int)
  | 21 => .array (.int)
  | 22 => .array (.int)
  | 23 => .array (.int)
  | 24 => .boolean
  | 25 => .array (.int)
  | 26 => .int
  | 27 => .int
  | 28 => .int
  | 29 => .int
  | 30 => .int
  | 31 => .int
  | 32 => .int
  | 33 => .int
  | 34 => .int
  | 35 => .int
  | 36 => .int
  | 37 => .boolean
  | _ => .int
theorem mm_nm9 : ∀ a, a < 39 → ∀ b, b < 39 → a ≠ b → (mm_T9 a).2.1 ≠ (mm_T9 b).2.1 := by decide +kernel
theorem mm_ok9 : ∀ k, k < 39 → parseFieldDescriptor (mm_T9 k).2.2.1 = some (mm_t9 k) := by decide +kernel
abbrev mm_vc : List vw_C := [("PromisedStock$Acts", mm_T0, 5), ("PromisedStock$Best", mm_T1, 10), ("PromisedStock$Ledger", mm_T2, 5), ("PromisedStock$Net", mm_T3, 13), ("PromisedStock$Question", mm_T4, 7), ("PromisedStock$Row", mm_T5, 2), ("PromisedStock$Telling", mm_T6, 3), ("PromisedStock$Tokens", mm_T7, 6), ("PromisedStock", mm_T8, 14), ("PromisedStockModel", mm_T9, 39)]
/-- a new object of each class -/
def mm_new : List (List Value) := [[.null, .null, .null, .int 0, .int 0], [.null, .null, .null, .null, .null, .null, .null, .null, .long 0, .long 0], [.null, .null, .int 0, .int 0, .int 0], [.null, .null, .null, .null, .null, .null, .null, .null, .null, .null, .int 0, .int 0, .int 0], [.null, .null, .null, .null, .int 0, .int 0, .int 0], [.null, .null], [.null, .null, .int 0], [.null, .int 0, .int 0, .int 0, .int 0, .int 0], [.null, .null, .null, .null, .null, .null, .null, .null, .null, .null, .int 0, .int 0, .int 0, .int 0], [.int 0, .null, .null, .null, .int 0, .null, .null, .null, .null, .null, .null, .null, .null, .null, .null, .int 0, .null, .null, .int 0, .null, .null, .null, .null, .null, .int 0, .null, .int 0, .int 0, .int 0, .int 0, .int 0, .int 0, .int 0, .int 0, .int 0, .int 0, .int 0, .int 0, .int 0]]
/-- which fields are final, by class -/
def mm_fin : List (List Bool) := [[true, true, true, false, false], [true, true, true, true, true, true, true, true, false, false], [true, true, false, false, false], [true, true, true, true, true, true, true, true, true, true, false, false, false], [true, true, true, true, false, false, false], [true, true], [true, true, false], [true, false, false, false, false, false], [true, true, true, true, true, true, true, true, true, true, false, false, false, false], [false, true, true, true, false, true, true, true, true, true, true, true, true, true, true, false, true, true, false, true, true, true, true, true, false, true, false, false, false, false, false, false, false, false, false, false, false, false, false]]
def mm_ml : List (List (Nat × Nat × Nat × Nat)) := [[(1, 1000, 144, 0), (26, 1005, 401, 0), (32, 1004, 430, 0)], [(3, 1000, 170, 0), (17, 75, 174, 0), (51, 8, 452, 0), (80, 9, 456, 0), (89, 61, 459, 0), (61, 10, 460, 0), (93, 48, 464, 0), (97, 30, 469, 0), (101, 11, 470, 0), (116, 76, 475, 0), (107, 32, 480, 0), (120, 12, 481, 0), (128, 77, 485, 0), (104, 13, 489, 0), (74, 7, 493, 0), (110, 16, 496, 0), (140, 17, 500, 0), (113, 14, 504, 0), (131, 15, 508, 0), (135, 1004, 512, 0), (68, 18, 513, 0)], [(3, 1000, 224, 0), (28, 51, 1010, 0), (34, 49, 1011, 0), (40, 59, 1012, 0), (46, 61, 1016, 0), (60, 28, 1021, 0), (72, 1005, 1024, 0), (77, 1004, 1025, 0), (63, 22, 1030, 0), (53, 48, 1035, 0), (66, 24, 1051, 0), (69, 23, 1056, 0)], [(3, 1000, 70, 0), (71, 31, 358, 0), (92, 44, 371, 0), (79, 61, 375, 0), (95, 45, 378, 0), (89, 30, 382, 0), (102, 32, 386, 0), (105, 1004, 390, 0), (99, 46, 393, 0), (83, 283, 416, 0), (75, 39, 439, 0), (119, 50, 521, 0), (131, 1005, 525, 0), (134, 57, 539, 0), (122, 51, 548, 0), (128, 52, 556, 0), (116, 47, 560, 0), (110, 48, 564, 0), (125, 49, 565, 0), (62, 1003, 586, 0), (68, 43, 589, 0), (58, 35, 598, 0), (52, 286, 690, 0)], [(3, 1000, 263, 0), (36, 94, 1073, 0), (44, 98, 1075, 0), (48, 95, 1076, 0), (51, 64, 1077, 0), (61, 65, 1081, 0), (80, 96, 1086, 0), (75, 70, 1087, 0), (70, 69, 1091, 0), (55, 66, 1095, 0), (84, 67, 1099, 0), (87, 68, 1103, 0), (91, 99, 1107, 0), (66, 97, 1110, 0), (102, 72, 1116, 0), (115, 73, 1120, 0), (119, 74, 1123, 0), (134, 283, 1127, 0), (142, 30, 1128, 0), (145, 52, 1129, 0), (106, 1004, 1130, 0), (112, 1005, 1131, 0)], [(1, 1000, 177, 0)], [(3, 1000, 247, 0), (23, 33, 686, 0), (28, 94, 693, 0), (37, 80, 705, 0), (52, 98, 710, 0), (56, 82, 762, 0), (65, 91, 766, 0), (44, 95, 770, 0), (76, 83, 771, 0), (92, 88, 775, 0), (95, 89, 780, 0), (109, 90, 784, 0), (99, 36, 788, 0), (79, 84, 789, 0), (113, 99, 793, 0), (116, 137, 798, 1), (120, 31, 799, 0), (84, 97, 801, 0), (59, 86, 808, 0), (127, 87, 812, 0), (130, 40, 816, 0), (133, 38, 817, 0), (62, 85, 818, 0), (41, 81, 822, 0), (69, 96, 826, 0), (47, 43, 830, 0)], [(3, 1000, 37, 0), (31, 1005, 697, 0), (37, 95, 698, 0), (40, 100, 702, 0), (48, 1001, 714, 0), (54, 1002, 724, 0), (44, 98, 805, 0)], [(1, 1000, 29, 0), (9, 92, 34, 1), (18, 29, 67, 1), (31, 0, 141, 1), (38, 4, 167, 0), (45, 19, 221, 1), (52, 78, 244, 0), (61, 62, 260, 0), (87, 93, 333, 0), (179, 132, 345, 0), (183, 137, 349, 0), (187, 36, 354, 0), (190, 31, 362, 0), (194, 38, 363, 0), (197, 43, 367, 0), (200, 1, 397, 0), (203, 40, 408, 0), (115, 41, 412, 0), (206, 2, 426, 0), (218, 141, 431, 0), (333, 37, 435, 0), (336, 39, 443, 0), (221, 5, 448, 0), (225, 57, 517, 0), (228, 142, 526, 0), (339, 6, 530, 0), (231, 58, 535, 0), (234, 56, 540, 0), (237, 53, 544, 0), (240, 54, 552, 0), (261, 144, 577, 0), (348, 61, 581, 0), (342, 35, 582, 0), (105, 34, 594, 0), (109, 3, 603, 0), (98, 79, 682, 0), (102, 138, 831, 0), (122, 42, 843, 0), (133, 133, 870, 0), (141, 134, 883, 0), (160, 30, 887, 0), (166, 47, 896, 0), (169, 49, 897, 0), (172, 139, 905, 0), (175, 140, 910, 0), (243, 136, 929, 0), (249, 52, 940, 0), (252, 55, 948, 0), (255, 143, 959, 0), (264, 135, 986, 0), (273, 20, 1006, 0), (277, 22, 1017, 0), (283, 23, 1026, 0), (286, 21, 1031, 0), (289, 24, 1036, 0), (292, 25, 1047, 0), (295, 26, 1052, 0), (298, 27, 1057, 0), (303, 63, 1069, 0), (304, 71, 1112, 0), (308, 60, 1140, 0)], [(7, 1000, 1162, 0), (80, 149, 1163, 0), (137, 151, 1288, 0), (84, 150, 1292, 0), (88, 147, 1296, 0), (134, 165, 1299, 0), (110, 162, 1303, 0), (103, 152, 1307, 0), (107, 158, 1311, 0), (96, 155, 1315, 0), (92, 156, 1319, 0), (99, 159, 1323, 0), (130, 164, 1326, 0), (141, 166, 1332, 0), (150, 146, 1340, 0), (116, 163, 1352, 0), (113, 157, 1356, 0), (119, 1004, 1360, 0), (153, 172, 1365, 0), (156, 171, 1368, 0), (159, 153, 1376, 0), (163, 154, 1379, 0), (167, 177, 1382, 0), (171, 161, 1390, 0), (175, 179, 1405, 0), (178, 180, 1409, 0), (184, 183, 1413, 0), (187, 182, 1421, 0), (181, 181, 1425, 0), (190, 184, 1429, 0), (202, 195, 1441, 0), (215, 193, 1445, 0), (218, 196, 1449, 0), (221, 197, 1453, 0), (228, 198, 1457, 0), (196, 1005, 1462, 0), (225, 191, 1463, 0), (240, 199, 1466, 0), (231, 194, 1470, 0), (234, 201, 1474, 0), (244, 192, 1478, 0), (247, 202, 1482, 0), (237, 200, 1486, 0), (199, 188, 1490, 0), (193, 160, 1494, 0), (205, 203, 1497, 0), (208, 189, 1501, 0), (251, 205, 1513, 0), (254, 206, 1517, 0), (257, 208, 1526, 0), (260, 212, 1542, 0), (267, 215, 1554, 0), (273, 218, 1563, 0), (270, 217, 1567, 0), (276, 219, 1571, 0), (279, 220, 1575, 0), (282, 223, 1587, 0), (289, 225, 1595, 0), (384, 238, 1614, 0), (332, 232, 1618, 0), (299, 229, 1622, 0), (308, 230, 1626, 0), (311, 231, 1629, 0), (387, 247, 1632, 0), (349, 235, 1637, 0), (323, 1001, 1641, 0), (328, 1002, 1642, 0), (375, 245, 1643, 0), (338, 233, 1647, 0), (341, 236, 1651, 0), (362, 242, 1655, 0), (366, 243, 1664, 0), (369, 239, 1668, 0), (378, 246, 1672, 0), (372, 244, 1676, 0), (381, 237, 1680, 0), (335, 234, 1684, 0), (390, 240, 1688, 0), (481, 260, 1696, 0), (459, 259, 1705, 0), (464, 258, 1709, 0), (456, 257, 1713, 0), (433, 252, 1718, 0), (436, 256, 1722, 0), (451, 255, 1726, 0), (448, 253, 1730, 0), (442, 249, 1734, 0), (408, 250, 1744, 0), (421, 251, 1753, 0), (445, 254, 1763, 0)], [(76, 101, 26, 0), (80, 102, 329, 0), (95, 104, 337, 0), (116, 110, 341, 0), (121, 111, 404, 0), (128, 113, 422, 0), (132, 114, 444, 0), (145, 118, 569, 0), (155, 121, 573, 0), (183, 130, 590, 0), (187, 131, 599, 0), (85, 262, 607, 0), (7, 103, 611, 0), (99, 263, 835, 0), (15, 105, 839, 0), (102, 264, 863, 0), (20, 106, 866, 0), (106, 265, 876, 0), (24, 107, 879, 0), (109, 266, 888, 0), (27, 108, 891, 0), (113, 267, 898, 0), (31, 109, 901, 0), (125, 268, 915, 0), (34, 112, 918, 0), (136, 269, 922, 0), (37, 115, 925, 0), (139, 270, 933, 0), (40, 116, 936, 0), (142, 271, 941, 0), (43, 117, 944, 0), (149, 272, 952, 0), (46, 119, 955, 0), (152, 273, 964, 0), (49, 120, 967, 0), (159, 274, 972, 0), (52, 122, 975, 0), (162, 275, 979, 0), (55, 123, 982, 0), (165, 276, 991, 0), (58, 124, 994, 0), (168, 277, 999, 0), (61, 125, 1002, 0), (171, 278, 1040, 0), (64, 126, 1043, 0), (174, 279, 1061, 0), (67, 127, 1064, 0), (177, 280, 1133, 0), (70, 128, 1136, 0), (180, 281, 1145, 0), (73, 129, 1148, 0), (91, 145, 1153, 0), (79, 148, 1159, 0), (112, 167, 1284, 0), (101, 168, 1336, 0), (105, 169, 1344, 0), (108, 170, 1348, 0), (115, 173, 1361, 0), (120, 174, 1372, 0), (124, 175, 1386, 0), (127, 176, 1393, 0), (131, 178, 1397, 0), (141, 185, 1401, 0), (144, 186, 1417, 0), (138, 187, 1433, 0), (135, 190, 1437, 0), (148, 204, 1505, 0), (151, 207, 1509, 0), (154, 209, 1522, 0), (158, 210, 1530, 0), (161, 211, 1534, 0), (182, 213, 1538, 0), (164, 214, 1546, 0), (167, 216, 1550, 0), (170, 221, 1559, 0), (173, 222, 1579, 0), (179, 224, 1583, 0), (186, 226, 1591, 0), (191, 227, 1598, 0), (84, 228, 1602, 0), (98, 241, 1606, 0), (90, 248, 1610, 0), (176, 261, 1692, 0)], [], [], []]
def mm_fl : List (List (Nat × Nat × Nat × Nat × Nat)) := [[(9, 0, 0, 2, 145), (13, 0, 1, 2, 147), (16, 0, 2, 2, 149), (19, 0, 3, 0, 151), (23, 0, 4, 0, 153)], [(83, 3, 2, 2, 76), (86, 3, 3, 2, 80), (65, 3, 9, 2, 98), (55, 3, 10, 0, 102), (124, 5, 0, 2, 179), (126, 5, 1, 2, 181), (11, 1, 0, 2, 188), (20, 1, 1, 2, 189), (24, 1, 2, 2, 190), (27, 1, 3, 2, 191), (30, 1, 4, 2, 192), (33, 1, 5, 2, 193), (37, 1, 6, 2, 194), (41, 1, 7, 2, 195), (44, 1, 8, 1, 196), (48, 1, 9, 1, 197)], [(38, 3, 4, 2, 84), (50, 3, 5, 2, 87), (57, 3, 7, 2, 91), (43, 3, 10, 0, 103), (9, 2, 0, 2, 225), (15, 2, 1, 2, 226), (18, 2, 2, 0, 227), (22, 2, 3, 0, 229), (25, 2, 4, 0, 230)], [(9, 3, 0, 2, 71), (15, 3, 1, 2, 72), (18, 3, 2, 2, 75), (21, 3, 3, 2, 79), (24, 3, 4, 2, 83), (27, 3, 5, 2, 86), (30, 3, 6, 2, 89), (33, 3, 7, 2, 90), (36, 3, 8, 2, 94), (39, 3, 9, 2, 97), (42, 3, 10, 0, 101), (46, 3, 11, 0, 107), (49, 3, 12, 0, 110)], [(58, 7, 5, 0, 50), (131, 3, 2, 2, 78), (139, 3, 3, 2, 82), (122, 3, 7, 2, 93), (125, 3, 8, 2, 96), (128, 3, 9, 2, 100), (97, 3, 10, 0, 106), (28, 4, 0, 2, 264), (32, 4, 1, 2, 265), (9, 4, 2, 2, 266), (15, 4, 3, 2, 267), (18, 4, 4, 0, 268), (22, 4, 5, 0, 269), (25, 4, 6, 0, 270)], [(7, 5, 0, 2, 178), (13, 5, 1, 2, 180)], [(142, 7, 0, 2, 39), (106, 7, 3, 0, 44), (137, 7, 4, 0, 47), (34, 7, 5, 0, 49), (102, 3, 1, 2, 74), (73, 3, 10, 0, 105), (124, 3, 11, 0, 109), (15, 6, 0, 2, 248), (19, 6, 1, 2, 249), (9, 6, 2, 0, 250)], [(9, 7, 0, 2, 38), (15, 7, 1, 0, 40), (19, 7, 2, 0, 42), (22, 7, 3, 0, 43), (25, 7, 4, 0, 46), (28, 7, 5, 0, 48)], [(84, 7, 1, 0, 41), (326, 7, 3, 0, 45), (138, 3, 1, 2, 73), (154, 3, 2, 2, 77), (157, 3, 3, 2, 81), (246, 3, 4, 2, 85), (269, 3, 5, 2, 88), (145, 3, 7, 2, 92), (148, 3, 8, 2, 95), (151, 3, 9, 2, 99), (112, 3, 10, 0, 104), (119, 3, 11, 0, 108), (345, 3, 12, 0, 111), (209, 0, 0, 2, 146), (212, 0, 1, 2, 148), (215, 0, 2, 2, 150), (125, 0, 3, 0, 152), (280, 2, 2, 0, 228), (10, 8, 0, 2, 286), (19, 8, 1, 2, 287), (23, 8, 2, 2, 288), (26, 8, 3, 2, 289), (32, 8, 4, 2, 290), (39, 8, 5, 2, 291), (46, 8, 6, 2, 292), (55, 8, 7, 2, 293), (62, 8, 8, 2, 294), (66, 8, 9, 2, 295), (70, 8, 10, 0, 296), (74, 8, 11, 0, 297), (77, 8, 12, 3, 298), (81, 8, 13, 0, 299)], [(1, 9, 0, 0, 1166), (13, 9, 1, 2, 1167), (17, 9, 2, 2, 1168), (20, 9, 3, 2, 1169), (144, 9, 4, 0, 1170), (23, 9, 5, 2, 1171), (26, 9, 6, 2, 1172), (29, 9, 7, 2, 1173), (32, 9, 8, 2, 1174), (35, 9, 9, 2, 1175), (38, 9, 10, 2, 1176), (41, 9, 11, 2, 1177), (44, 9, 12, 2, 1178), (47, 9, 13, 2, 1179), (50, 9, 14, 2, 1180), (212, 9, 15, 0, 1181), (53, 9, 16, 2, 1182), (56, 9, 17, 2, 1183), (263, 9, 18, 0, 1184), (59, 9, 19, 2, 1185), (62, 9, 20, 2, 1186), (65, 9, 21, 2, 1187), (68, 9, 22, 2, 1188), (71, 9, 23, 2, 1189), (285, 9, 24, 3, 1190), (74, 9, 25, 2, 1191), (147, 9, 26, 0, 1192), (293, 9, 27, 0, 1193), (296, 9, 28, 0, 1194), (305, 9, 29, 0, 1195), (302, 9, 30, 0, 1196), (314, 9, 31, 0, 1197), (317, 9, 32, 0, 1198), (320, 9, 33, 0, 1199), (77, 9, 34, 0, 1200), (344, 9, 35, 0, 1201), (395, 9, 36, 0, 1202), (439, 9, 37, 3, 1203), (476, 9, 38, 0, 1204)], [], [], [], []]
def mm_nw : List (List (Nat × Nat × Nat)) := [[], [(9, 5, 171)], [], [], [], [], [], [], [(7, 7, 32), (16, 3, 65), (29, 0, 139), (36, 1, 165), (43, 2, 219), (50, 6, 242), (59, 4, 258)], [], [(8, 8, 24), (77, 9, 1157)], [], [], []]
def mm_ct : List (List (Nat × Int32 × Nat)) := [[], [], [], [], [], [], [], [(58, 1000000, 797)], [(258, -1000000, 963), (272, 1103515245, 998), (307, -1000000000, 1132)], [(211, 1000000000, 1461), (250, -1000000, 1521), (266, 1103515245, 1558), (485, -1000000000, 1769)], [], [(265, 1431655765, 419), (266, 858993459, 420), (267, 252645135, 421)], [], []]
def mm_cj : List (List (Nat × Int64 × Nat)) := [[], [(72, 288230376151711744, 474), (78, 127, 534)], [], [(114, 10000, 468)], [], [(16, 288230376151711744, 479)], [], [], [], [(124, 100000, 1329), (126, 2, 1330), (128, 10000, 1331)], [], [], [], []]
def mm_sr : List (List (Nat × Nat × Nat)) := [[], [], [], [], [(42, 18, 1074), (78, 19, 1085), (95, 20, 1108), (64, 21, 1109), (73, 22, 1111)], [], [(50, 1, 709), (140, 2, 779), (82, 3, 800), (88, 4, 806), (90, 5, 807)], [], [(93, 0, 655), (130, 6, 856), (315, 7, 874), (136, 8, 875), (317, 9, 886), (164, 10, 895), (329, 11, 909), (331, 12, 914), (321, 13, 932), (259, 14, 971), (319, 15, 989), (267, 16, 990), (301, 17, 1068), (311, 23, 1144), (313, 24, 1152)], [(347, 25, 1636), (353, 26, 1659), (355, 27, 1660), (357, 28, 1661), (359, 29, 1662), (360, 30, 1663), (469, 31, 1700), (470, 32, 1701), (472, 33, 1702), (474, 34, 1703), (479, 35, 1704), (454, 36, 1717), (393, 37, 1738), (398, 38, 1739), (400, 39, 1740), (402, 40, 1741), (404, 41, 1742), (406, 42, 1743), (411, 43, 1748), (413, 44, 1749), (415, 45, 1750), (417, 46, 1751), (419, 47, 1752), (424, 48, 1757), (425, 49, 1758), (427, 50, 1759), (428, 51, 1760), (430, 52, 1761), (432, 53, 1762), (462, 54, 1767), (467, 55, 1768)], [], [], [], []]
/-- the texts of the String constants -/
def mm_tx : List (List Int32) := [[116, 104, 101, 32, 116, 97, 112, 101, 32, 104, 97, 115, 32, 110, 111, 116, 32, 115, 111, 32, 109, 97, 110, 121, 32, 98, 121, 116, 101, 115], [115, 116, 97, 103, 101, 32, 102, 114, 111, 109, 32, 122, 32], [115, 116, 97, 103, 101, 32, 111, 117, 116, 101, 114, 32, 100, 101, 109, 97, 110, 100, 32, 112, 114, 111, 109, 105, 115, 101, 32, 102, 114, 111, 109, 32, 122, 32], [111, 117, 116, 101, 114, 32], [100, 101, 109, 97, 110, 100, 32], [112, 114, 111, 109, 105, 115, 101, 32], [110, 111, 32, 115, 117, 99, 104, 32, 99, 111, 117, 110, 116], [110, 111, 32, 115, 117, 99, 104, 32, 115, 116, 97, 103, 101], [110, 111, 32, 115, 117, 99, 104, 32, 108, 101, 116, 116, 101, 114], [110, 111, 116, 104, 105, 110, 103, 32, 98, 101, 97, 114, 115, 32, 116, 104, 105, 115, 32, 110, 117, 109, 98, 101, 114], [110, 111, 32, 115, 117, 99, 104, 32, 110, 117, 109, 98, 101, 114, 32, 111, 102, 32, 100, 97, 121, 115], [110, 111, 32, 115, 117, 99, 104, 32, 90], [110, 111, 32, 115, 117, 99, 104, 32, 118, 97, 108, 117, 101], [110, 111, 32, 115, 117, 99, 104, 32, 116, 105, 109, 101], [110, 111, 32, 115, 117, 99, 104, 32, 112, 114, 111, 109, 105, 115, 101], [110, 111, 32, 115, 117, 99, 104, 32, 100, 97, 121], [110, 111, 32, 115, 117, 99, 104, 32, 100, 101, 109, 97, 110, 100], [116, 104, 101, 32, 116, 97, 112, 101, 32, 104, 97, 115, 32, 110, 111, 116, 32, 115, 111, 32, 109, 97, 110, 121, 32, 98, 121, 116, 101, 115, 44, 32, 111, 114, 32, 116, 104, 101, 121, 32, 97, 114, 101, 32, 116, 111, 111, 32, 109, 97, 110, 121], [109, 97, 110, 121, 32, 102, 105, 114, 115, 116, 32, 116, 111, 116, 97, 108, 32, 109, 111, 115, 116, 32, 108, 101, 97, 115, 116, 32], [110, 111, 116, 32], [110, 117, 109, 98, 101, 114, 32, 100, 97, 121, 115, 32, 99, 111, 115, 116, 32, 111, 117, 116, 101, 114, 32, 109, 101, 97, 110, 32, 115, 112, 114, 101, 97, 100, 32, 112, 114, 111, 109, 105, 115, 101, 32, 112, 105, 110, 32, 102, 108, 111, 119, 32, 119, 105, 100, 116, 104, 32, 108, 111, 110, 103, 101, 115, 116, 32, 115, 117, 112, 112, 108, 105, 101, 114, 115, 32, 99, 117, 115, 116, 111, 109, 101, 114, 115, 32, 116, 105, 109, 101, 32, 119, 97, 105, 116, 32, 110, 101, 116, 32, 104, 101, 108, 100, 32, 98, 97, 115, 101, 32, 112, 114, 105, 99, 101, 32], [97, 110, 100, 32], [111, 114, 32], [110, 111, 32, 115, 117, 99, 104, 32, 115, 116, 97, 103, 101, 32, 111, 102, 32, 116, 104, 101, 32, 99, 104, 97, 105, 110], [110, 111, 32, 115, 117, 99, 104, 32, 112, 114, 111, 109, 105, 115, 101, 32, 111, 102, 32, 116, 104, 101, 32, 102, 114, 111, 110, 116, 105, 101, 114], [115, 116, 97, 103, 101], [111, 117, 116, 101, 114], [100, 101, 109, 97, 110, 100], [112, 114, 111, 109, 105, 115, 101], [102, 114, 111, 109], [122], [109, 97, 110, 121], [102, 105, 114, 115, 116], [116, 111, 116, 97, 108], [109, 111, 115, 116], [108, 101, 97, 115, 116], [110, 111, 116], [110, 117, 109, 98, 101, 114], [100, 97, 121, 115], [99, 111, 115, 116], [109, 101, 97, 110], [115, 112, 114, 101, 97, 100], [112, 105, 110], [102, 108, 111, 119], [119, 105, 100, 116, 104], [108, 111, 110, 103, 101, 115, 116], [115, 117, 112, 112, 108, 105, 101, 114, 115], [99, 117, 115, 116, 111, 109, 101, 114, 115], [116, 105, 109, 101], [119, 97, 105, 116], [110, 101, 116], [104, 101, 108, 100], [98, 97, 115, 101], [112, 114, 105, 99, 101], [97, 110, 100], [111, 114]]
def mm_sc : List (Nat × Nat × String × Nat) := [(8, 93, "the tape has not so many bytes", 655), (6, 50, "stage from z ", 709), (6, 140, "stage outer demand promise from z ", 779), (6, 82, "outer ", 800), (6, 88, "demand ", 806), (6, 90, "promise ", 807), (8, 130, "no such count", 856), (8, 315, "no such stage", 874), (8, 136, "no such letter", 875), (8, 317, "nothing bears this number", 886), (8, 164, "no such number of days", 895), (8, 329, "no such Z", 909), (8, 331, "no such value", 914), (8, 321, "no such time", 932), (8, 259, "no such promise", 971), (8, 319, "no such day", 989), (8, 267, "no such demand", 990), (8, 301, "the tape has not so many bytes, or they are too many", 1068), (4, 42, "many first total most least ", 1074), (4, 78, "not ", 1085), (4, 95, "number days cost outer mean spread promise pin flow width longest suppliers customers time wait net held base price ", 1108), (4, 64, "and ", 1109), (4, 73, "or ", 1111), (8, 311, "no such stage of the chain", 1144), (8, 313, "no such promise of the frontier", 1152), (9, 347, "stage", 1636), (9, 353, "outer", 1659), (9, 355, "demand", 1660), (9, 357, "promise", 1661), (9, 359, "from", 1662), (9, 360, "z", 1663), (9, 469, "many", 1700), (9, 470, "first", 1701), (9, 472, "total", 1702), (9, 474, "most", 1703), (9, 479, "least", 1704), (9, 454, "not", 1717), (9, 393, "number", 1738), (9, 398, "days", 1739), (9, 400, "cost", 1740), (9, 402, "mean", 1741), (9, 404, "spread", 1742), (9, 406, "pin", 1743), (9, 411, "flow", 1748), (9, 413, "width", 1749), (9, 415, "longest", 1750), (9, 417, "suppliers", 1751), (9, 419, "customers", 1752), (9, 424, "time", 1757), (9, 425, "wait", 1758), (9, 427, "net", 1759), (9, 428, "held", 1760), (9, 430, "base", 1761), (9, 432, "price", 1762), (9, 462, "and", 1767), (9, 467, "or", 1768)]
abbrev mm_I : Type := (MethodName × ByteArray × Nat × Option FieldType) × (Nat × Nat × Nat) × (List Nat × List (Nat × Nat) × List (Nat × Int32)) × List (List (Nat × Instr × Nat))
/-- Acts.init -/
def mm_m0 : mm_I := ((⟨"PromisedStock$Acts", "<init>", "()V"⟩, prog_2_method_1_code, 1, none), (0, 1, 0), ([], [], []), [[(0, .aload_n 0, 1), (1, .invokespecial 1, 3), (4, .aload_n 0, 1), (5, .bipush 20, 2), (7, .newarray .int, 2), (9, .putfield 9, 3), (12, .aload_n 0, 1), (13, .bipush 20, 2), (15, .newarray .int, 2), (17, .putfield 13, 3), (20, .aload_n 0, 1), (21, .bipush 20, 2), (23, .newarray .int, 2), (25, .putfield 16, 3), (28, .aload_n 0, 1), (29, .iconst 0, 1), (30, .putfield 19, 3)], [(33, .aload_n 0, 1), (34, .iconst 0, 1), (35, .putfield 23, 3), (38, .return_, 1)]])
/-- Acts.note -/
def mm_m1 : mm_I := ((⟨"PromisedStock$Acts", "note", "(III)V"⟩, prog_2_method_2_code, 4, none), (0, 4, 0), ([30], [], []), [[(0, .aload_n 0, 1), (1, .getfield 9, 3), (4, .aload_n 0, 1), (5, .getfield 23, 3), (8, .iload_n 1, 1), (9, .iastore, 1), (10, .aload_n 0, 1), (11, .getfield 13, 3), (14, .aload_n 0, 1), (15, .getfield 23, 3), (18, .iload_n 2, 1), (19, .iastore, 1), (20, .aload_n 0, 1), (21, .getfield 16, 3), (24, .aload_n 0, 1), (25, .getfield 23, 3), (28, .iload_n 3, 1), (29, .iastore, 1), (30, .aload_n 0, 1), (31, .aload_n 0, 1)], [(32, .getfield 23, 3), (35, .bipush 19, 2), (37, .if_icmp .ne 7, 3), (40, .iconst 0, 1), (41, .goto 9, 3), (44, .aload_n 0, 1), (45, .getfield 23, 3), (48, .iconst 1, 1), (49, .iadd, 1), (50, .putfield 23, 3), (53, .aload_n 0, 1), (54, .aload_n 0, 1), (55, .getfield 19, 3), (58, .iconst 1, 1), (59, .iadd, 1), (60, .bipush 20, 2), (62, .invokestatic 26, 3)], [(65, .putfield 19, 3), (68, .return_, 1)]])
/-- Acts.takeLatest -/
def mm_m2 : mm_I := ((⟨"PromisedStock$Acts", "takeLatest", "()I"⟩, prog_2_method_3_code, 1, some .int), (0, 1, 1), ([], [], []), [[(0, .aload_n 0, 1), (1, .aload_n 0, 1), (2, .getfield 23, 3), (5, .ifCond .ne 8, 3), (8, .bipush 19, 2), (10, .goto 9, 3), (13, .aload_n 0, 1), (14, .getfield 23, 3), (17, .iconst 1, 1), (18, .isub, 1), (19, .putfield 23, 3), (22, .aload_n 0, 1), (23, .aload_n 0, 1), (24, .getfield 19, 3), (27, .iconst 1, 1), (28, .isub, 1), (29, .iconst 0, 1), (30, .invokestatic 32, 3)], [(33, .putfield 19, 3), (36, .aload_n 0, 1), (37, .getfield 23, 3), (40, .ireturn, 1)]])
/-- Acts.forget -/
def mm_m3 : mm_I := ((⟨"PromisedStock$Acts", "forget", "()V"⟩, prog_2_method_4_code, 1, none), (0, 1, 0), ([], [], []), [[(0, .aload_n 0, 1), (1, .iconst 0, 1), (2, .putfield 19, 3), (5, .return_, 1)]])
/-- Best.init -/
def mm_m4 : mm_I := ((⟨"PromisedStock$Best", "<init>", "()V"⟩, prog_3_method_1_code, 2, none), (1, 1, 0), ([39, 80, 100], [], []), [[(0, .aload_n 0, 1), (1, .invokespecial 3, 3), (4, .aload_n 0, 1), (5, .bipush 12, 2), (7, .anewarray 9, 3), (10, .putfield 11, 3), (13, .aload_n 0, 1), (14, .new 9, 3), (17, .dup, 1), (18, .bipush 120, 2), (20, .invokespecial 17, 3), (23, .putfield 20, 3), (26, .aload_n 0, 1), (27, .new 9, 3), (30, .dup, 1), (31, .bipush 120, 2)], [(33, .invokespecial 17, 3), (36, .putfield 24, 3), (39, .aload_n 0, 1), (40, .new 9, 3), (43, .dup, 1), (44, .bipush 120, 2), (46, .invokespecial 17, 3), (49, .putfield 27, 3), (52, .aload_n 0, 1), (53, .new 9, 3), (56, .dup, 1), (57, .iconst 1, 1), (58, .invokespecial 17, 3), (61, .putfield 30, 3)], [(64, .aload_n 0, 1), (65, .bipush 120, 2), (67, .newarray .long, 2), (69, .putfield 33, 3), (72, .aload_n 0, 1), (73, .bipush 12, 2), (75, .newarray .int, 2), (77, .putfield 37, 3), (80, .aload_n 0, 1), (81, .bipush 12, 2), (83, .newarray .int, 2), (85, .putfield 41, 3), (88, .aload_n 0, 1), (89, .lconst 0, 1), (90, .putfield 44, 3), (93, .aload_n 0, 1), (94, .lconst 0, 1), (95, .putfield 48, 3)], [(98, .iconst 0, 1), (99, .istore_n 1, 1), (100, .iload_n 1, 1), (101, .bipush 12, 2), (103, .if_icmp .ge 24, 3), (106, .aload_n 0, 1), (107, .getfield 11, 3), (110, .iload_n 1, 1), (111, .new 9, 3), (114, .dup, 1), (115, .bipush 120, 2), (117, .invokespecial 17, 3), (120, .aastore, 1), (121, .iinc 1 1, 3), (124, .goto (-24), 3), (127, .return_, 1)]])
/-- Best.leastPrice -/
def mm_m5 : mm_I := ((⟨"PromisedStock$Best", "leastPrice", "(LPromisedStock$Net;)I"⟩, prog_3_method_2_code, 4, some .int), (1, 2, 1), ([22, 49], [], []), [[(0, .aload_n 0, 1), (1, .lconst 0, 1), (2, .putfield 44, 3), (5, .aload_n 0, 1), (6, .lconst 0, 1), (7, .putfield 48, 3), (10, .aload_n 0, 1), (11, .aload_n 1, 1), (12, .invokevirtual 51, 3), (15, .aload_n 1, 1), (16, .getfield 55, 3), (19, .iconst 1, 1), (20, .isub, 1), (21, .istore_n 2, 1), (22, .iload_n 2, 1), (23, .ifCond .lt 48, 3), (26, .aload_n 0, 1), (27, .getfield 37, 3), (30, .iload_n 2, 1), (31, .iaload, 1)], [(32, .istore_n 3, 1), (33, .aload_n 0, 1), (34, .aload_n 1, 1), (35, .iload_n 3, 1), (36, .invokevirtual 61, 3), (39, .aload_n 0, 1), (40, .getfield 41, 3), (43, .iload_n 3, 1), (44, .iaload, 1), (45, .iconst (-1), 1), (46, .if_icmp .ne 19, 3), (49, .aload_n 0, 1), (50, .aload_n 0, 1), (51, .getfield 11, 3), (54, .iload_n 3, 1), (55, .aaload, 1), (56, .aload_n 1, 1), (57, .getfield 65, 3), (60, .iload_n 3, 1), (61, .iaload, 1), (62, .invokevirtual 68, 3)], [(65, .iinc 2 (-1), 3), (68, .goto (-46), 3), (71, .aload_n 0, 1), (72, .getfield 44, 3), (75, .ldc2_w 72, 3), (78, .lcmp, 1), (79, .ifCond .ge 14, 3), (82, .aload_n 0, 1), (83, .getfield 44, 3), (86, .bipush 28, 2), (88, .lshr, 1), (89, .l2i, 1), (90, .goto 4, 3), (93, .iconst (-1), 1), (94, .ireturn, 1)]])
/-- Best.timeOf -/
def mm_m6 : mm_I := ((⟨"PromisedStock$Best", "timeOf", "(I)I"⟩, prog_3_method_3_code, 2, some .int), (1, 2, 1), ([], [], []), [[(0, .iload_n 1, 1), (1, .iconst 4, 1), (2, .if_icmp .ge 10, 3), (5, .aload_n 0, 1), (6, .getfield 44, 3), (9, .goto 7, 3), (12, .aload_n 0, 1), (13, .getfield 48, 3), (16, .iload_n 1, 1), (17, .invokestatic 74, 3), (20, .lshr, 1), (21, .ldc2_w 78, 3), (24, .land, 1), (25, .l2i, 1), (26, .ireturn, 1)]])
/-- Best.shiftOf -/
def mm_m7 : mm_I := ((⟨"PromisedStock$Best", "shiftOf", "(I)I"⟩, prog_3_method_4_code, 1, some .int), (1, 1, 1), ([], [], []), [[(0, .iload_n 0, 1), (1, .iconst 4, 1), (2, .if_icmp .ge 13, 3), (5, .bipush 21, 2), (7, .bipush 7, 2), (9, .iload_n 0, 1), (10, .imul, 1), (11, .isub, 1), (12, .goto 12, 3), (15, .bipush 49, 2), (17, .bipush 7, 2), (19, .iload_n 0, 1), (20, .iconst 4, 1), (21, .isub, 1), (22, .imul, 1), (23, .isub, 1), (24, .ireturn, 1)]])
/-- Best.walkInward -/
def mm_m8 : mm_I := ((⟨"PromisedStock$Best", "walkInward", "(LPromisedStock$Net;)V"⟩, prog_3_method_5_code, 8, none), (1, 2, 0), ([7, 33, 46, 70, 94], [], []), [[(0, .iconst 0, 1), (1, .istore_n 2, 1), (2, .iconst 0, 1), (3, .istore_n 3, 1), (4, .iconst 0, 1), (5, .istore 4, 2), (7, .iload 4, 2), (9, .aload_n 1, 1), (10, .getfield 55, 3), (13, .if_icmp .ge 137, 3), (16, .iload 4, 2), (18, .iload_n 3, 1), (19, .if_icmp .ne 42, 3), (22, .aload_n 0, 1), (23, .getfield 37, 3), (26, .iload 4, 2), (28, .iload_n 2, 1), (29, .invokestatic 80, 3)], [(32, .iastore, 1), (33, .aload_n 0, 1), (34, .getfield 41, 3), (37, .aload_n 0, 1), (38, .getfield 37, 3), (41, .iload 4, 2), (43, .iaload, 1), (44, .iconst (-1), 1), (45, .iastore, 1), (46, .iload_n 2, 1), (47, .iconst 1, 1), (48, .aload_n 0, 1), (49, .getfield 37, 3), (52, .iload 4, 2), (54, .iaload, 1), (55, .ishl, 1), (56, .ior, 1), (57, .istore_n 2, 1), (58, .iinc 3 1, 3), (61, .aload_n 0, 1), (62, .getfield 37, 3)], [(65, .iload 4, 2), (67, .iaload, 1), (68, .istore 5, 2), (70, .aload_n 1, 1), (71, .getfield 83, 3), (74, .iload 5, 2), (76, .iaload, 1), (77, .aload_n 1, 1), (78, .getfield 86, 3), (81, .iload 5, 2), (83, .iaload, 1), (84, .ior, 1), (85, .iload_n 2, 1), (86, .iconst (-1), 1), (87, .ixor, 1), (88, .iand, 1), (89, .istore 6, 2), (91, .iconst 0, 1), (92, .istore 7, 2), (94, .iload 7, 2)], [(96, .aload_n 1, 1), (97, .getfield 55, 3), (100, .if_icmp .ge 39, 3), (103, .iload 6, 2), (105, .iload 7, 2), (107, .invokestatic 89, 3), (110, .ifCond .eq 23, 3), (113, .aload_n 0, 1), (114, .getfield 37, 3), (117, .iload_n 3, 1), (118, .iload 7, 2), (120, .iastore, 1), (121, .aload_n 0, 1), (122, .getfield 41, 3), (125, .iload 7, 2), (127, .iload 5, 2)], [(129, .iastore, 1), (130, .iinc 3 1, 3), (133, .iinc 7 1, 3), (136, .goto (-42), 3), (139, .iload_n 2, 1), (140, .iload 6, 2), (142, .ior, 1), (143, .istore_n 2, 1), (144, .iinc 4 1, 3), (147, .goto (-140), 3), (150, .return_, 1)]])
/-- Best.firstNotIn -/
def mm_m9 : mm_I := ((⟨"PromisedStock$Best", "firstNotIn", "(I)I"⟩, prog_3_method_6_code, 2, some .int), (1, 1, 1), ([2], [], []), [[(0, .iconst 0, 1), (1, .istore_n 1, 1), (2, .iload_n 1, 1), (3, .bipush 11, 2), (5, .if_icmp .ge 17, 3), (8, .iload_n 0, 1), (9, .iload_n 1, 1), (10, .invokestatic 89, 3), (13, .ifCond .eq 9, 3), (16, .iinc 1 1, 3), (19, .goto (-17), 3), (22, .iload_n 1, 1), (23, .ireturn, 1)]])
/-- Best.weigh -/
def mm_m10 : mm_I := ((⟨"PromisedStock$Best", "weigh", "(LPromisedStock$Net;I)V"⟩, prog_3_method_7_code, 5, none), (1, 3, 0), ([5, 25, 63, 73, 96], [], []), [[(0, .iconst 0, 1), (1, .istore_n 3, 1), (2, .iconst 0, 1), (3, .istore 4, 2), (5, .iload 4, 2), (7, .aload_n 1, 1), (8, .getfield 65, 3), (11, .iload_n 2, 1), (12, .iaload, 1), (13, .if_icmp .gt 38, 3), (16, .aload_n 1, 1), (17, .iload_n 3, 1), (18, .iload_n 2, 1), (19, .iload 4, 2), (21, .invokevirtual 93, 3), (24, .istore_n 3, 1), (25, .aload_n 0, 1), (26, .getfield 33, 3), (29, .iload 4, 2), (31, .aload_n 1, 1)], [(32, .iload_n 2, 1), (33, .iconst 1, 1), (34, .invokevirtual 97, 3), (37, .i2l, 1), (38, .iload_n 3, 1), (39, .i2l, 1), (40, .lmul, 1), (41, .bipush 28, 2), (43, .lshl, 1), (44, .lastore, 1), (45, .iinc 4 1, 3), (48, .goto (-43), 3), (51, .aload_n 0, 1), (52, .aload_n 1, 1), (53, .iload_n 2, 1), (54, .invokevirtual 101, 3), (57, .aload_n 0, 1), (58, .aload_n 1, 1), (59, .iload_n 2, 1), (60, .invokevirtual 104, 3), (63, .aload_n 0, 1)], [(64, .getfield 41, 3), (67, .iload_n 2, 1), (68, .iaload, 1), (69, .iconst (-1), 1), (70, .if_icmp .eq 26, 3), (73, .aload_n 1, 1), (74, .aload_n 0, 1), (75, .getfield 41, 3), (78, .iload_n 2, 1), (79, .iaload, 1), (80, .iload_n 2, 1), (81, .invokevirtual 107, 3), (84, .ifCond .eq 12, 3), (87, .aload_n 0, 1), (88, .aload_n 1, 1), (89, .iload_n 2, 1), (90, .invokevirtual 110, 3), (93, .goto 9, 3)], [(96, .aload_n 0, 1), (97, .aload_n 1, 1), (98, .iload_n 2, 1), (99, .invokevirtual 113, 3), (102, .return_, 1)]])
/-- Best.weighSuppliers -/
def mm_m11 : mm_I := ((⟨"PromisedStock$Best", "weighSuppliers", "(LPromisedStock$Net;I)V"⟩, prog_3_method_8_code, 6, none), (1, 3, 0), ([25, 55, 87, 117], [], []), [[(0, .aload_n 1, 1), (1, .iload_n 2, 1), (2, .iconst 2, 1), (3, .invokevirtual 97, 3), (6, .istore_n 3, 1), (7, .aload_n 1, 1), (8, .getfield 65, 3), (11, .iload_n 2, 1), (12, .iaload, 1), (13, .aload_n 1, 1), (14, .iload_n 2, 1), (15, .iconst 0, 1), (16, .invokevirtual 97, 3), (19, .isub, 1), (20, .istore 4, 2), (22, .iconst 0, 1), (23, .istore 5, 2), (25, .iload 5, 2), (27, .iload 4, 2), (29, .if_icmp .gt 55, 3)], [(32, .aload_n 0, 1), (33, .getfield 20, 3), (36, .iload 5, 2), (38, .iload 5, 2), (40, .iload_n 3, 1), (41, .if_icmp .ge 9, 3), (44, .ldc2_w 72, 3), (47, .goto 4, 3), (50, .lconst 0, 1), (51, .lconst 0, 1), (52, .invokevirtual 116, 3), (55, .aload_n 0, 1), (56, .getfield 24, 3), (59, .iload 5, 2), (61, .iload 5, 2), (63, .iload_n 3, 1)], [(64, .if_icmp .ne 7, 3), (67, .lconst 0, 1), (68, .goto 6, 3), (71, .ldc2_w 72, 3), (74, .lconst 0, 1), (75, .invokevirtual 116, 3), (78, .iinc 5 1, 3), (81, .goto (-56), 3), (84, .iconst 0, 1), (85, .istore 5, 2), (87, .iload 5, 2), (89, .aload_n 1, 1), (90, .getfield 55, 3), (93, .if_icmp .ge 50, 3)], [(96, .aload_n 1, 1), (97, .iload 5, 2), (99, .iload_n 2, 1), (100, .invokevirtual 107, 3), (103, .ifCond .eq 34, 3), (106, .iload 5, 2), (108, .aload_n 0, 1), (109, .getfield 41, 3), (112, .iload_n 2, 1), (113, .iaload, 1), (114, .if_icmp .eq 23, 3), (117, .aload_n 0, 1), (118, .aload_n 0, 1), (119, .getfield 11, 3), (122, .iload 5, 2), (124, .aaload, 1), (125, .aload_n 1, 1), (126, .getfield 65, 3)], [(129, .iload 5, 2), (131, .iaload, 1), (132, .iload 4, 2), (134, .invokevirtual 120, 3), (137, .iinc 5 1, 3), (140, .goto (-53), 3), (143, .return_, 1)]])
/-- Best.addSupplier -/
def mm_m12 : mm_I := ((⟨"PromisedStock$Best", "addSupplier", "(LPromisedStock$Row;II)V"⟩, prog_3_method_9_code, 5, none), (1, 4, 0), ([15, 49, 98, 149], [], []), [[(0, .aload_n 0, 1), (1, .getfield 30, 3), (4, .iconst 0, 1), (5, .ldc2_w 72, 3), (8, .lconst 0, 1), (9, .invokevirtual 116, 3), (12, .iconst 0, 1), (13, .istore 4, 2), (15, .iload 4, 2), (17, .iload_n 3, 1), (18, .if_icmp .gt 186, 3), (21, .iload 4, 2), (23, .iload_n 2, 1), (24, .if_icmp .gt 25, 3), (27, .aload_n 0, 1), (28, .getfield 30, 3), (31, .iconst 0, 1)], [(32, .aload_n 1, 1), (33, .getfield 124, 3), (36, .iload 4, 2), (38, .laload, 1), (39, .aload_n 1, 1), (40, .getfield 126, 3), (43, .iload 4, 2), (45, .laload, 1), (46, .invokevirtual 128, 3), (49, .aload_n 0, 1), (50, .getfield 24, 3), (53, .iload 4, 2), (55, .aload_n 0, 1), (56, .getfield 24, 3), (59, .getfield 124, 3), (62, .iload 4, 2)], [(64, .laload, 1), (65, .aload_n 0, 1), (66, .getfield 30, 3), (69, .getfield 124, 3), (72, .iconst 0, 1), (73, .laload, 1), (74, .ladd, 1), (75, .aload_n 0, 1), (76, .getfield 24, 3), (79, .getfield 126, 3), (82, .iload 4, 2), (84, .laload, 1), (85, .aload_n 0, 1), (86, .getfield 30, 3), (89, .getfield 126, 3), (92, .iconst 0, 1), (93, .laload, 1), (94, .ladd, 1), (95, .invokevirtual 116, 3)], [(98, .iload 4, 2), (100, .iload_n 2, 1), (101, .if_icmp .gt 48, 3), (104, .aload_n 0, 1), (105, .getfield 24, 3), (108, .iload 4, 2), (110, .aload_n 0, 1), (111, .getfield 20, 3), (114, .getfield 124, 3), (117, .iload 4, 2), (119, .laload, 1), (120, .aload_n 1, 1), (121, .getfield 124, 3), (124, .iload 4, 2), (126, .laload, 1), (127, .ladd, 1)], [(128, .aload_n 0, 1), (129, .getfield 20, 3), (132, .getfield 126, 3), (135, .iload 4, 2), (137, .laload, 1), (138, .aload_n 1, 1), (139, .getfield 126, 3), (142, .iload 4, 2), (144, .laload, 1), (145, .ladd, 1), (146, .invokevirtual 128, 3), (149, .aload_n 0, 1), (150, .getfield 20, 3), (153, .iload 4, 2), (155, .aload_n 0, 1), (156, .getfield 20, 3), (159, .getfield 124, 3)], [(162, .iload 4, 2), (164, .laload, 1), (165, .aload_n 0, 1), (166, .getfield 30, 3), (169, .getfield 124, 3), (172, .iconst 0, 1), (173, .laload, 1), (174, .ladd, 1), (175, .aload_n 0, 1), (176, .getfield 20, 3), (179, .getfield 126, 3), (182, .iload 4, 2), (184, .laload, 1), (185, .aload_n 0, 1), (186, .getfield 30, 3), (189, .getfield 126, 3)], [(192, .iconst 0, 1), (193, .laload, 1), (194, .ladd, 1), (195, .invokevirtual 116, 3), (198, .iinc 4 1, 3), (201, .goto (-186), 3), (204, .return_, 1)]])
/-- Best.weighCustomers -/
def mm_m13 : mm_I := ((⟨"PromisedStock$Best", "weighCustomers", "(LPromisedStock$Net;I)V"⟩, prog_3_method_10_code, 9, none), (1, 3, 0), ([19, 59, 99, 122, 155], [], []), [[(0, .aload_n 1, 1), (1, .iload_n 2, 1), (2, .bipush 6, 2), (4, .invokevirtual 97, 3), (7, .istore_n 3, 1), (8, .aload_n 1, 1), (9, .iload_n 2, 1), (10, .iconst 5, 1), (11, .invokevirtual 97, 3), (14, .istore 4, 2), (16, .iconst 0, 1), (17, .istore 5, 2), (19, .iload 5, 2), (21, .aload_n 1, 1), (22, .getfield 65, 3), (25, .iload_n 2, 1), (26, .iaload, 1), (27, .if_icmp .gt 92, 3), (30, .iload_n 3, 1), (31, .iconst (-1), 1)], [(32, .if_icmp .eq 9, 3), (35, .iload 5, 2), (37, .iload_n 3, 1), (38, .if_icmp .ne 20, 3), (41, .iload 4, 2), (43, .iconst (-1), 1), (44, .if_icmp .eq 10, 3), (47, .iload 5, 2), (49, .iload 4, 2), (51, .if_icmp .gt 7, 3), (54, .iconst 1, 1), (55, .goto 4, 3), (58, .iconst 0, 1), (59, .istore 6, 2), (61, .iload 5, 2), (63, .i2l, 1)], [(64, .iload_n 2, 1), (65, .invokestatic 74, 3), (68, .lshl, 1), (69, .lstore 7, 2), (71, .aload_n 0, 1), (72, .getfield 27, 3), (75, .iload 5, 2), (77, .iload 6, 2), (79, .ifCond .ne 9, 3), (82, .ldc2_w 72, 3), (85, .goto 14, 3), (88, .iload_n 2, 1), (89, .iconst 4, 1), (90, .if_icmp .ge 8, 3), (93, .lload 7, 2), (95, .goto 4, 3)], [(98, .lconst 0, 1), (99, .iload_n 2, 1), (100, .iconst 4, 1), (101, .if_icmp .ge 7, 3), (104, .lconst 0, 1), (105, .goto 5, 3), (108, .lload 7, 2), (110, .invokevirtual 116, 3), (113, .iinc 5 1, 3), (116, .goto (-97), 3), (119, .iconst 0, 1), (120, .istore 5, 2), (122, .iload 5, 2), (124, .aload_n 1, 1), (125, .getfield 55, 3)], [(128, .if_icmp .ge 107, 3), (131, .aload_n 1, 1), (132, .iload_n 2, 1), (133, .iload 5, 2), (135, .invokevirtual 107, 3), (138, .ifCond .eq 91, 3), (141, .iload 5, 2), (143, .aload_n 0, 1), (144, .getfield 41, 3), (147, .iload_n 2, 1), (148, .iaload, 1), (149, .if_icmp .eq 80, 3), (152, .iconst 0, 1), (153, .istore 6, 2), (155, .iload 6, 2), (157, .aload_n 1, 1), (158, .getfield 65, 3)], [(161, .iload_n 2, 1), (162, .iaload, 1), (163, .if_icmp .gt 66, 3), (166, .aload_n 0, 1), (167, .getfield 27, 3), (170, .iload 6, 2), (172, .aload_n 0, 1), (173, .getfield 27, 3), (176, .getfield 124, 3), (179, .iload 6, 2), (181, .laload, 1), (182, .aload_n 0, 1), (183, .getfield 11, 3), (186, .iload 5, 2), (188, .aaload, 1), (189, .getfield 124, 3)], [(192, .iload 6, 2), (194, .laload, 1), (195, .ladd, 1), (196, .aload_n 0, 1), (197, .getfield 27, 3), (200, .getfield 126, 3), (203, .iload 6, 2), (205, .laload, 1), (206, .aload_n 0, 1), (207, .getfield 11, 3), (210, .iload 5, 2), (212, .aaload, 1), (213, .getfield 126, 3), (216, .iload 6, 2), (218, .laload, 1), (219, .ladd, 1), (220, .invokevirtual 116, 3), (223, .iinc 6 1, 3)], [(226, .goto (-71), 3), (229, .iinc 5 1, 3), (232, .goto (-110), 3), (235, .return_, 1)]])
/-- Best.tellByTime -/
def mm_m14 : mm_I := ((⟨"PromisedStock$Best", "tellByTime", "(LPromisedStock$Net;I)V"⟩, prog_3_method_11_code, 7, none), (1, 3, 0), ([29, 67], [], []), [[(0, .aload_n 0, 1), (1, .getfield 11, 3), (4, .iload_n 2, 1), (5, .aaload, 1), (6, .astore_n 3, 1), (7, .aload_n 1, 1), (8, .iload_n 2, 1), (9, .iconst 0, 1), (10, .invokevirtual 97, 3), (13, .istore 4, 2), (15, .aload_n 1, 1), (16, .getfield 65, 3), (19, .iload_n 2, 1), (20, .iaload, 1), (21, .iload 4, 2), (23, .isub, 1), (24, .istore 5, 2), (26, .iconst 0, 1), (27, .istore 6, 2), (29, .iload 6, 2), (31, .aload_n 1, 1)], [(32, .getfield 65, 3), (35, .iload_n 2, 1), (36, .iaload, 1), (37, .if_icmp .gt 93, 3), (40, .aload_n 3, 1), (41, .iload 6, 2), (43, .ldc2_w 72, 3), (46, .lconst 0, 1), (47, .invokevirtual 116, 3), (50, .aload_n 0, 1), (51, .getfield 27, 3), (54, .getfield 124, 3), (57, .iload 6, 2), (59, .laload, 1), (60, .ldc2_w 72, 3), (63, .lcmp, 1)], [(64, .ifCond .ge 60, 3), (67, .aload_n 0, 1), (68, .iload 4, 2), (70, .iload 6, 2), (72, .isub, 1), (73, .iload 5, 2), (75, .invokevirtual 131, 3), (78, .aload_n 3, 1), (79, .iload 6, 2), (81, .aload_n 0, 1), (82, .getfield 30, 3), (85, .getfield 124, 3), (88, .iconst 0, 1), (89, .laload, 1), (90, .aload_n 0, 1), (91, .getfield 27, 3), (94, .getfield 124, 3)], [(97, .iload 6, 2), (99, .laload, 1), (100, .ladd, 1), (101, .aload_n 0, 1), (102, .getfield 30, 3), (105, .getfield 126, 3), (108, .iconst 0, 1), (109, .laload, 1), (110, .aload_n 0, 1), (111, .getfield 27, 3), (114, .getfield 126, 3), (117, .iload 6, 2), (119, .laload, 1), (120, .ladd, 1), (121, .invokevirtual 116, 3), (124, .iinc 6 1, 3), (127, .goto (-98), 3)], [(130, .return_, 1)]])
/-- Best.pickWait -/
def mm_m15 : mm_I := ((⟨"PromisedStock$Best", "pickWait", "(II)V"⟩, prog_3_method_12_code, 12, none), (1, 3, 0), ([33, 63, 71, 86], [], []), [[(0, .aload_n 0, 1), (1, .getfield 24, 3), (4, .getfield 124, 3), (7, .astore_n 3, 1), (8, .aload_n 0, 1), (9, .getfield 24, 3), (12, .getfield 126, 3), (15, .astore 4, 2), (17, .ldc2_w 72, 3), (20, .lstore 5, 2), (22, .lconst 0, 1), (23, .lstore 7, 2), (25, .iconst 0, 1), (26, .iload_n 1, 1), (27, .ineg, 1), (28, .invokestatic 135, 3), (31, .istore 9, 2)], [(33, .iload 9, 2), (35, .iload_n 2, 1), (36, .if_icmp .gt 63, 3), (39, .aload_n 3, 1), (40, .iload 9, 2), (42, .laload, 1), (43, .aload_n 0, 1), (44, .getfield 33, 3), (47, .iload 9, 2), (49, .iload_n 1, 1), (50, .iadd, 1), (51, .laload, 1), (52, .ladd, 1), (53, .lstore 10, 2), (55, .lload 10, 2), (57, .lload 5, 2), (59, .lcmp, 1), (60, .ifCond .lt 22, 3), (63, .lload 10, 2)], [(65, .lload 5, 2), (67, .lcmp, 1), (68, .ifCond .ne 25, 3), (71, .aload 4, 2), (73, .iload 9, 2), (75, .laload, 1), (76, .lload 7, 2), (78, .lcmp, 1), (79, .ifCond .ge 14, 3), (82, .lload 10, 2), (84, .lstore 5, 2), (86, .aload 4, 2), (88, .iload 9, 2), (90, .laload, 1), (91, .lstore 7, 2), (93, .iinc 9 1, 3)], [(96, .goto (-63), 3), (99, .aload_n 0, 1), (100, .getfield 30, 3), (103, .iconst 0, 1), (104, .lload 5, 2), (106, .lload 7, 2), (108, .invokevirtual 116, 3), (111, .return_, 1)]])
/-- Best.tellBySupplier -/
def mm_m16 : mm_I := ((⟨"PromisedStock$Best", "tellBySupplier", "(LPromisedStock$Net;I)V"⟩, prog_3_method_13_code, 12, none), (1, 3, 0), ([23, 46, 72, 118, 166, 209], [], []), [[(0, .aload_n 0, 1), (1, .getfield 11, 3), (4, .iload_n 2, 1), (5, .aaload, 1), (6, .astore_n 3, 1), (7, .aload_n 1, 1), (8, .iload_n 2, 1), (9, .iconst 2, 1), (10, .invokevirtual 97, 3), (13, .istore 4, 2), (15, .aload_n 1, 1), (16, .iload_n 2, 1), (17, .iconst 0, 1), (18, .invokevirtual 97, 3), (21, .istore 5, 2), (23, .aload_n 1, 1), (24, .getfield 65, 3), (27, .iload_n 2, 1), (28, .iaload, 1), (29, .iload 5, 2), (31, .isub, 1)], [(32, .istore 6, 2), (34, .ldc2_w 72, 3), (37, .lstore 7, 2), (39, .lconst 0, 1), (40, .lstore 9, 2), (42, .iload 6, 2), (44, .istore 11, 2), (46, .iload 11, 2), (48, .iload 4, 2), (50, .if_icmp .lt 156, 3), (53, .aload_n 0, 1), (54, .iload 11, 2), (56, .iload 5, 2), (58, .iadd, 1), (59, .invokevirtual 140, 3), (62, .aload_n 3, 1), (63, .iload 11, 2)], [(65, .lload 7, 2), (67, .lload 9, 2), (69, .invokevirtual 116, 3), (72, .aload_n 3, 1), (73, .iload 11, 2), (75, .aload_n 0, 1), (76, .getfield 20, 3), (79, .getfield 124, 3), (82, .iload 11, 2), (84, .laload, 1), (85, .aload_n 0, 1), (86, .getfield 30, 3), (89, .getfield 124, 3), (92, .iconst 0, 1), (93, .laload, 1), (94, .ladd, 1), (95, .aload_n 0, 1)], [(96, .getfield 20, 3), (99, .getfield 126, 3), (102, .iload 11, 2), (104, .laload, 1), (105, .aload_n 0, 1), (106, .getfield 30, 3), (109, .getfield 126, 3), (112, .iconst 0, 1), (113, .laload, 1), (114, .ladd, 1), (115, .invokevirtual 128, 3), (118, .aload_n 0, 1), (119, .getfield 30, 3), (122, .iconst 0, 1), (123, .aload_n 0, 1), (124, .getfield 24, 3), (127, .getfield 124, 3)], [(130, .iload 11, 2), (132, .laload, 1), (133, .aload_n 0, 1), (134, .getfield 30, 3), (137, .getfield 124, 3), (140, .iconst 0, 1), (141, .laload, 1), (142, .ladd, 1), (143, .aload_n 0, 1), (144, .getfield 24, 3), (147, .getfield 126, 3), (150, .iload 11, 2), (152, .laload, 1), (153, .aload_n 0, 1), (154, .getfield 30, 3), (157, .getfield 126, 3)], [(160, .iconst 0, 1), (161, .laload, 1), (162, .ladd, 1), (163, .invokevirtual 116, 3), (166, .aload_n 0, 1), (167, .getfield 30, 3), (170, .iconst 0, 1), (171, .lload 7, 2), (173, .lload 9, 2), (175, .invokevirtual 128, 3), (178, .aload_n 0, 1), (179, .getfield 30, 3), (182, .getfield 124, 3), (185, .iconst 0, 1), (186, .laload, 1), (187, .lstore 7, 2), (189, .aload_n 0, 1), (190, .getfield 30, 3)], [(193, .getfield 126, 3), (196, .iconst 0, 1), (197, .laload, 1), (198, .lstore 9, 2), (200, .iinc 11 (-1), 3), (203, .goto (-157), 3), (206, .iconst 0, 1), (207, .istore 11, 2), (209, .iload 11, 2), (211, .iload 4, 2), (213, .if_icmp .ge 29, 3), (216, .aload_n 3, 1), (217, .iload 11, 2), (219, .aload_n 3, 1), (220, .getfield 124, 3), (223, .iload 4, 2)], [(225, .laload, 1), (226, .aload_n 3, 1), (227, .getfield 126, 3), (230, .iload 4, 2), (232, .laload, 1), (233, .invokevirtual 116, 3), (236, .iinc 11 1, 3), (239, .goto (-30), 3), (242, .return_, 1)]])
/-- Best.pickTime -/
def mm_m17 : mm_I := ((⟨"PromisedStock$Best", "pickTime", "(I)V"⟩, prog_3_method_14_code, 11, none), (1, 2, 0), ([27, 57, 65, 79], [], []), [[(0, .aload_n 0, 1), (1, .getfield 27, 3), (4, .getfield 124, 3), (7, .astore_n 2, 1), (8, .aload_n 0, 1), (9, .getfield 27, 3), (12, .getfield 126, 3), (15, .astore_n 3, 1), (16, .ldc2_w 72, 3), (19, .lstore 4, 2), (21, .lconst 0, 1), (22, .lstore 6, 2), (24, .iconst 0, 1), (25, .istore 8, 2), (27, .iload 8, 2), (29, .iload_n 1, 1), (30, .if_icmp .gt 61, 3)], [(33, .aload_n 2, 1), (34, .iload 8, 2), (36, .laload, 1), (37, .aload_n 0, 1), (38, .getfield 33, 3), (41, .iload_n 1, 1), (42, .iload 8, 2), (44, .isub, 1), (45, .laload, 1), (46, .ladd, 1), (47, .lstore 9, 2), (49, .lload 9, 2), (51, .lload 4, 2), (53, .lcmp, 1), (54, .ifCond .lt 21, 3), (57, .lload 9, 2), (59, .lload 4, 2), (61, .lcmp, 1), (62, .ifCond .ne 23, 3)], [(65, .aload_n 3, 1), (66, .iload 8, 2), (68, .laload, 1), (69, .lload 6, 2), (71, .lcmp, 1), (72, .ifCond .ge 13, 3), (75, .lload 9, 2), (77, .lstore 4, 2), (79, .aload_n 3, 1), (80, .iload 8, 2), (82, .laload, 1), (83, .lstore 6, 2), (85, .iinc 8 1, 3), (88, .goto (-61), 3), (91, .aload_n 0, 1), (92, .getfield 30, 3), (95, .iconst 0, 1)], [(96, .lload 4, 2), (98, .lload 6, 2), (100, .invokevirtual 116, 3), (103, .return_, 1)]])
/-- Best.addLeast -/
def mm_m18 : mm_I := ((⟨"PromisedStock$Best", "addLeast", "(LPromisedStock$Row;I)V"⟩, prog_3_method_15_code, 4, none), (1, 3, 0), ([14, 63], [], []), [[(0, .aload_n 0, 1), (1, .getfield 30, 3), (4, .iconst 0, 1), (5, .ldc2_w 72, 3), (8, .lconst 0, 1), (9, .invokevirtual 116, 3), (12, .iconst 0, 1), (13, .istore_n 3, 1), (14, .iload_n 3, 1), (15, .iload_n 2, 1), (16, .if_icmp .gt 29, 3), (19, .aload_n 0, 1), (20, .getfield 30, 3), (23, .iconst 0, 1), (24, .aload_n 1, 1), (25, .getfield 124, 3), (28, .iload_n 3, 1), (29, .laload, 1), (30, .aload_n 1, 1), (31, .getfield 126, 3)], [(34, .iload_n 3, 1), (35, .laload, 1), (36, .invokevirtual 128, 3), (39, .iinc 3 1, 3), (42, .goto (-28), 3), (45, .aload_n 0, 1), (46, .dup, 1), (47, .getfield 44, 3), (50, .aload_n 0, 1), (51, .getfield 30, 3), (54, .getfield 124, 3), (57, .iconst 0, 1), (58, .laload, 1), (59, .ladd, 1), (60, .putfield 44, 3), (63, .aload_n 0, 1)], [(64, .dup, 1), (65, .getfield 48, 3), (68, .aload_n 0, 1), (69, .getfield 30, 3), (72, .getfield 126, 3), (75, .iconst 0, 1), (76, .laload, 1), (77, .ladd, 1), (78, .putfield 48, 3), (81, .return_, 1)]])
/-- Led.init -/
def mm_m19 : mm_I := ((⟨"PromisedStock$Ledger", "<init>", "()V"⟩, prog_4_method_1_code, 1, none), (2, 1, 0), ([], [], []), [[(0, .aload_n 0, 1), (1, .invokespecial 3, 3), (4, .aload_n 0, 1), (5, .bipush 41, 2), (7, .newarray .int, 2), (9, .putfield 9, 3), (12, .aload_n 0, 1), (13, .bipush 41, 2), (15, .newarray .int, 2), (17, .putfield 15, 3), (20, .aload_n 0, 1), (21, .iconst 0, 1), (22, .putfield 18, 3), (25, .aload_n 0, 1), (26, .iconst 0, 1), (27, .putfield 22, 3), (30, .aload_n 0, 1), (31, .iconst 0, 1)], [(32, .putfield 25, 3), (35, .return_, 1)]])
/-- Led.open -/
def mm_m20 : mm_I := ((⟨"PromisedStock$Ledger", "open", "(LPromisedStock$Net;I)V"⟩, prog_4_method_2_code, 7, none), (2, 3, 0), ([43, 52, 65], [], []), [[(0, .aload_n 0, 1), (1, .aload_n 1, 1), (2, .iload_n 2, 1), (3, .invokevirtual 28, 3), (6, .putfield 18, 3), (9, .aload_n 0, 1), (10, .aload_n 0, 1), (11, .getfield 18, 3), (14, .ifCond .ge 7, 3), (17, .iconst 0, 1), (18, .goto 12, 3), (21, .aload_n 1, 1), (22, .iload_n 2, 1), (23, .aload_n 0, 1), (24, .getfield 18, 3), (27, .invokevirtual 34, 3), (30, .putfield 22, 3)], [(33, .aload_n 0, 1), (34, .aload_n 1, 1), (35, .getfield 38, 3), (38, .iload_n 2, 1), (39, .iaload, 1), (40, .putfield 25, 3), (43, .aload_n 1, 1), (44, .iload_n 2, 1), (45, .invokevirtual 40, 3), (48, .istore_n 3, 1), (49, .iconst 0, 1), (50, .istore 4, 2), (52, .iload 4, 2), (54, .bipush 40, 2), (56, .if_icmp .ge 80, 3), (59, .iconst 0, 1), (60, .istore 5, 2), (62, .iconst 0, 1), (63, .istore 6, 2)], [(65, .iload 6, 2), (67, .aload_n 1, 1), (68, .getfield 43, 3), (71, .if_icmp .ge 40, 3), (74, .iload 5, 2), (76, .iload_n 3, 1), (77, .iload 6, 2), (79, .invokestatic 46, 3), (82, .ifCond .eq 19, 3), (85, .aload_n 1, 1), (86, .getfield 50, 3), (89, .iload 6, 2), (91, .bipush 40, 2), (93, .imul, 1), (94, .iload 4, 2)], [(96, .iadd, 1), (97, .iaload, 1), (98, .goto 4, 3), (101, .iconst 0, 1), (102, .iadd, 1), (103, .istore 5, 2), (105, .iinc 6 1, 3), (108, .goto (-43), 3), (111, .aload_n 0, 1), (112, .getfield 9, 3), (115, .iload 4, 2), (117, .iconst 1, 1), (118, .iadd, 1), (119, .aload_n 0, 1), (120, .getfield 9, 3), (123, .iload 4, 2), (125, .iaload, 1), (126, .iload 5, 2)], [(128, .iadd, 1), (129, .iastore, 1), (130, .iinc 4 1, 3), (133, .goto (-81), 3), (136, .return_, 1)]])
/-- Led.openBounds -/
def mm_m21 : mm_I := ((⟨"PromisedStock$Ledger", "openBounds", "(LPromisedStock$Net;I)V"⟩, prog_4_method_3_code, 5, none), (2, 3, 0), ([5, 24], [], []), [[(0, .iconst 0, 1), (1, .istore_n 3, 1), (2, .iconst 0, 1), (3, .istore 4, 2), (5, .iload 4, 2), (7, .aload_n 0, 1), (8, .getfield 15, 3), (11, .arraylength, 1), (12, .if_icmp .ge 36, 3), (15, .aload_n 1, 1), (16, .iload_n 3, 1), (17, .iload_n 2, 1), (18, .iload 4, 2), (20, .invokevirtual 53, 3), (23, .istore_n 3, 1), (24, .aload_n 0, 1), (25, .getfield 15, 3), (28, .iload 4, 2), (30, .iload 4, 2)], [(32, .aload_n 1, 1), (33, .getfield 57, 3), (36, .iload_n 2, 1), (37, .iaload, 1), (38, .imul, 1), (39, .iload_n 3, 1), (40, .iadd, 1), (41, .iastore, 1), (42, .iinc 4 1, 3), (45, .goto (-40), 3), (48, .return_, 1)]])
/-- Led.calledOn -/
def mm_m22 : mm_I := ((⟨"PromisedStock$Ledger", "calledOn", "(II)I"⟩, prog_4_method_4_code, 3, some .int), (2, 3, 1), ([], [], []), [[(0, .aload_n 0, 1), (1, .getfield 9, 3), (4, .iload_n 2, 1), (5, .iconst 1, 1), (6, .iadd, 1), (7, .invokestatic 60, 3), (10, .iaload, 1), (11, .aload_n 0, 1), (12, .getfield 9, 3), (15, .iload_n 1, 1), (16, .invokestatic 60, 3), (19, .iaload, 1), (20, .isub, 1), (21, .ireturn, 1)]])
/-- Led.onHand -/
def mm_m23 : mm_I := ((⟨"PromisedStock$Ledger", "onHand", "(I)I"⟩, prog_4_method_5_code, 3, some .int), (2, 2, 1), ([], [], []), [[(0, .iload_n 1, 1), (1, .aload_n 0, 1), (2, .getfield 25, 3), (5, .isub, 1), (6, .istore_n 2, 1), (7, .aload_n 0, 1), (8, .getfield 22, 3), (11, .aload_n 0, 1), (12, .iload_n 2, 1), (13, .aload_n 0, 1), (14, .getfield 18, 3), (17, .isub, 1), (18, .iconst 1, 1), (19, .iadd, 1), (20, .iload_n 2, 1), (21, .invokevirtual 63, 3), (24, .isub, 1), (25, .ireturn, 1)]])
/-- Led.longestBreak -/
def mm_m24 : mm_I := ((⟨"PromisedStock$Ledger", "longestBreak", "(I)I"⟩, prog_4_method_6_code, 3, some .int), (2, 2, 1), ([4], [], []), [[(0, .iload_n 1, 1), (1, .iconst 1, 1), (2, .iadd, 1), (3, .istore_n 2, 1), (4, .iload_n 2, 1), (5, .ifCond .le 30, 3), (8, .aload_n 0, 1), (9, .iload_n 1, 1), (10, .iload_n 2, 1), (11, .isub, 1), (12, .iconst 1, 1), (13, .iadd, 1), (14, .iload_n 1, 1), (15, .invokevirtual 63, 3), (18, .aload_n 0, 1), (19, .getfield 15, 3), (22, .iload_n 2, 1), (23, .iaload, 1), (24, .if_icmp .le 5, 3), (27, .iload_n 2, 1), (28, .ireturn, 1), (29, .iinc 2 (-1), 3)], [(32, .goto (-28), 3), (35, .iconst 0, 1), (36, .ireturn, 1)]])
/-- Led.firstBreak -/
def mm_m25 : mm_I := ((⟨"PromisedStock$Ledger", "firstBreak", "()I"⟩, prog_4_method_7_code, 2, some .int), (2, 1, 1), ([2], [], []), [[(0, .iconst 0, 1), (1, .istore_n 1, 1), (2, .iload_n 1, 1), (3, .bipush 40, 2), (5, .if_icmp .ge 19, 3), (8, .aload_n 0, 1), (9, .iload_n 1, 1), (10, .invokevirtual 66, 3), (13, .ifCond .le 5, 3), (16, .iload_n 1, 1), (17, .ireturn, 1), (18, .iinc 1 1, 3), (21, .goto (-19), 3), (24, .iconst (-1), 1), (25, .ireturn, 1)]])
/-- Led.shortDays -/
def mm_m26 : mm_I := ((⟨"PromisedStock$Ledger", "shortDays", "()I"⟩, prog_4_method_8_code, 3, some .int), (2, 1, 1), ([4], [], []), [[(0, .iconst 0, 1), (1, .istore_n 1, 1), (2, .iconst 0, 1), (3, .istore_n 2, 1), (4, .iload_n 2, 1), (5, .bipush 40, 2), (7, .if_icmp .ge 25, 3), (10, .iload_n 1, 1), (11, .aload_n 0, 1), (12, .iload_n 2, 1), (13, .invokevirtual 69, 3), (16, .ifCond .ge 7, 3), (19, .iconst 1, 1), (20, .goto 4, 3), (23, .iconst 0, 1), (24, .iadd, 1), (25, .istore_n 1, 1), (26, .iinc 2 1, 3), (29, .goto (-25), 3)], [(32, .iload_n 1, 1), (33, .ireturn, 1)]])
/-- Led.leastOnHand -/
def mm_m27 : mm_I := ((⟨"PromisedStock$Ledger", "leastOnHand", "()I"⟩, prog_4_method_9_code, 3, some .int), (2, 1, 1), ([8], [], []), [[(0, .aload_n 0, 1), (1, .iconst 0, 1), (2, .invokevirtual 69, 3), (5, .istore_n 1, 1), (6, .iconst 1, 1), (7, .istore_n 2, 1), (8, .iload_n 2, 1), (9, .bipush 40, 2), (11, .if_icmp .ge 19, 3), (14, .iload_n 1, 1), (15, .aload_n 0, 1), (16, .iload_n 2, 1), (17, .invokevirtual 69, 3), (20, .invokestatic 72, 3), (23, .istore_n 1, 1), (24, .iinc 2 1, 3), (27, .goto (-19), 3), (30, .iload_n 1, 1), (31, .ireturn, 1)]])
/-- Led.inside -/
def mm_m28 : mm_I := ((⟨"PromisedStock$Ledger", "inside", "(I)I"⟩, prog_4_method_10_code, 1, some .int), (2, 1, 1), ([], [], []), [[(0, .iconst 0, 1), (1, .iload_n 0, 1), (2, .bipush 40, 2), (4, .invokestatic 72, 3), (7, .invokestatic 77, 3), (10, .ireturn, 1)]])
/-- Net.init -/
def mm_m29 : mm_I := ((⟨"PromisedStock$Net", "<init>", "()V"⟩, prog_5_method_1_code, 1, none), (3, 1, 0), ([44, 85], [], []), [[(0, .aload_n 0, 1), (1, .invokespecial 3, 3), (4, .aload_n 0, 1), (5, .bipush 84, 2), (7, .newarray .int, 2), (9, .putfield 9, 3), (12, .aload_n 0, 1), (13, .bipush 72, 2), (15, .newarray .int, 2), (17, .putfield 15, 3), (20, .aload_n 0, 1), (21, .bipush 12, 2), (23, .newarray .int, 2), (25, .putfield 18, 3), (28, .aload_n 0, 1), (29, .bipush 12, 2), (31, .newarray .int, 2)], [(33, .putfield 21, 3), (36, .aload_n 0, 1), (37, .bipush 12, 2), (39, .newarray .int, 2), (41, .putfield 24, 3), (44, .aload_n 0, 1), (45, .sipush 480, 3), (48, .newarray .int, 2), (50, .putfield 27, 3), (53, .aload_n 0, 1), (54, .bipush 12, 2), (56, .newarray .int, 2), (58, .putfield 30, 3), (61, .aload_n 0, 1), (62, .bipush 12, 2)], [(64, .newarray .int, 2), (66, .putfield 33, 3), (69, .aload_n 0, 1), (70, .bipush 12, 2), (72, .newarray .int, 2), (74, .putfield 36, 3), (77, .aload_n 0, 1), (78, .bipush 12, 2), (80, .newarray .int, 2), (82, .putfield 39, 3), (85, .aload_n 0, 1), (86, .iconst 0, 1), (87, .putfield 42, 3), (90, .aload_n 0, 1), (91, .sipush 165, 3), (94, .putfield 46, 3)], [(97, .aload_n 0, 1), (98, .iconst 0, 1), (99, .putfield 49, 3), (102, .return_, 1)]])
/-- Net.told -/
def mm_m30 : mm_I := ((⟨"PromisedStock$Net", "told", "(II)I"⟩, prog_5_method_2_code, 3, some .int), (3, 3, 1), ([], [], []), [[(0, .aload_n 0, 1), (1, .getfield 9, 3), (4, .iload_n 1, 1), (5, .bipush 7, 2), (7, .imul, 1), (8, .iload_n 2, 1), (9, .iadd, 1), (10, .iaload, 1), (11, .ireturn, 1)]])
/-- Net.tell -/
def mm_m31 : mm_I := ((⟨"PromisedStock$Net", "tell", "(III)V"⟩, prog_5_method_3_code, 4, none), (3, 4, 0), ([], [], []), [[(0, .aload_n 0, 1), (1, .getfield 9, 3), (4, .iload_n 1, 1), (5, .bipush 7, 2), (7, .imul, 1), (8, .iload_n 2, 1), (9, .iadd, 1), (10, .iload_n 3, 1), (11, .iastore, 1), (12, .return_, 1)]])
/-- Net.supplies -/
def mm_m32 : mm_I := ((⟨"PromisedStock$Net", "supplies", "(II)Z"⟩, prog_5_method_4_code, 3, some .boolean), (3, 3, 2), ([], [], []), [[(0, .aload_n 0, 1), (1, .getfield 18, 3), (4, .iload_n 2, 1), (5, .iaload, 1), (6, .iload_n 1, 1), (7, .ishr, 1), (8, .iconst 1, 1), (9, .iand, 1), (10, .ifCond .eq 7, 3), (13, .iconst 1, 1), (14, .goto 4, 3), (17, .iconst 0, 1), (18, .ireturn, 1)]])
/-- Net.empty -/
def mm_m33 : mm_I := ((⟨"PromisedStock$Net", "empty", "()V"⟩, prog_5_method_5_code, 1, none), (3, 1, 0), ([44], [], []), [[(0, .aload_n 0, 1), (1, .iconst 0, 1), (2, .putfield 42, 3), (5, .aload_n 0, 1), (6, .sipush 165, 3), (9, .putfield 46, 3), (12, .aload_n 0, 1), (13, .getfield 15, 3), (16, .iconst 0, 1), (17, .invokestatic 52, 3), (20, .aload_n 0, 1), (21, .getfield 18, 3), (24, .iconst 0, 1), (25, .invokestatic 52, 3), (28, .aload_n 0, 1), (29, .getfield 21, 3)], [(32, .iconst 0, 1), (33, .invokestatic 52, 3), (36, .aload_n 0, 1), (37, .getfield 24, 3), (40, .iconst 0, 1), (41, .invokestatic 52, 3), (44, .aload_n 0, 1), (45, .getfield 27, 3), (48, .iconst 0, 1), (49, .invokestatic 52, 3), (52, .return_, 1)]])
/-- Net.become -/
def mm_m34 : mm_I := ((⟨"PromisedStock$Net", "become", "(LPromisedStock$Net;)V"⟩, prog_5_method_6_code, 2, none), (3, 2, 0), ([23], [], []), [[(0, .aload_n 0, 1), (1, .aload_n 1, 1), (2, .invokevirtual 58, 3), (5, .aload_n 1, 1), (6, .getfield 15, 3), (9, .iconst 0, 1), (10, .aload_n 0, 1), (11, .getfield 15, 3), (14, .iconst 0, 1), (15, .aload_n 0, 1), (16, .getfield 15, 3), (19, .arraylength, 1), (20, .invokestatic 62, 3), (23, .aload_n 1, 1), (24, .getfield 24, 3), (27, .iconst 0, 1), (28, .aload_n 0, 1), (29, .getfield 24, 3)], [(32, .iconst 0, 1), (33, .aload_n 0, 1), (34, .getfield 24, 3), (37, .arraylength, 1), (38, .invokestatic 62, 3), (41, .aload_n 1, 1), (42, .getfield 27, 3), (45, .iconst 0, 1), (46, .aload_n 0, 1), (47, .getfield 27, 3), (50, .iconst 0, 1), (51, .aload_n 0, 1), (52, .getfield 27, 3), (55, .arraylength, 1), (56, .invokestatic 62, 3), (59, .return_, 1)]])
/-- Net.becomeNetwork -/
def mm_m35 : mm_I := ((⟨"PromisedStock$Net", "becomeNetwork", "(LPromisedStock$Net;)V"⟩, prog_5_method_7_code, 2, none), (3, 2, 0), ([34], [], []), [[(0, .aload_n 0, 1), (1, .aload_n 1, 1), (2, .getfield 42, 3), (5, .putfield 42, 3), (8, .aload_n 0, 1), (9, .aload_n 1, 1), (10, .getfield 46, 3), (13, .putfield 46, 3), (16, .aload_n 1, 1), (17, .getfield 9, 3), (20, .iconst 0, 1), (21, .aload_n 0, 1), (22, .getfield 9, 3), (25, .iconst 0, 1), (26, .aload_n 0, 1), (27, .getfield 9, 3), (30, .arraylength, 1), (31, .invokestatic 62, 3)], [(34, .aload_n 1, 1), (35, .getfield 18, 3), (38, .iconst 0, 1), (39, .aload_n 0, 1), (40, .getfield 18, 3), (43, .iconst 0, 1), (44, .aload_n 0, 1), (45, .getfield 18, 3), (48, .arraylength, 1), (49, .invokestatic 62, 3), (52, .aload_n 1, 1), (53, .getfield 21, 3), (56, .iconst 0, 1), (57, .aload_n 0, 1), (58, .getfield 21, 3), (61, .iconst 0, 1), (62, .aload_n 0, 1), (63, .getfield 21, 3)], [(66, .arraylength, 1), (67, .invokestatic 62, 3), (70, .aload_n 0, 1), (71, .invokevirtual 68, 3), (74, .return_, 1)]])
/-- Net.grow -/
def mm_m36 : mm_I := ((⟨"PromisedStock$Net", "grow", "()I"⟩, prog_5_method_8_code, 3, some .int), (3, 1, 1), ([15], [], []), [[(0, .aload_n 0, 1), (1, .getfield 42, 3), (4, .istore_n 1, 1), (5, .iload_n 1, 1), (6, .bipush 12, 2), (8, .if_icmp .lt 5, 3), (11, .iconst (-1), 1), (12, .ireturn, 1), (13, .iconst 0, 1), (14, .istore_n 2, 1), (15, .iload_n 2, 1), (16, .bipush 7, 2), (18, .if_icmp .ge 31, 3), (21, .aload_n 0, 1), (22, .iload_n 1, 1), (23, .iload_n 2, 1), (24, .iload_n 2, 1), (25, .iconst 5, 1), (26, .if_icmp .eq 9, 3), (29, .iload_n 2, 1), (30, .bipush 6, 2)], [(32, .if_icmp .ne 7, 3), (35, .iconst (-1), 1), (36, .goto 4, 3), (39, .iconst 0, 1), (40, .invokevirtual 71, 3), (43, .iinc 2 1, 3), (46, .goto (-31), 3), (49, .aload_n 0, 1), (50, .dup, 1), (51, .getfield 42, 3), (54, .iconst 1, 1), (55, .iadd, 1), (56, .putfield 42, 3), (59, .iload_n 1, 1), (60, .ireturn, 1)]])
/-- Net.shrink -/
def mm_m37 : mm_I := ((⟨"PromisedStock$Net", "shrink", "()V"⟩, prog_5_method_9_code, 2, none), (3, 1, 0), ([20, 52, 91], [], []), [[(0, .aload_n 0, 1), (1, .getfield 42, 3), (4, .ifCond .ne 4, 3), (7, .return_, 1), (8, .aload_n 0, 1), (9, .dup, 1), (10, .getfield 42, 3), (13, .iconst 1, 1), (14, .isub, 1), (15, .putfield 42, 3), (18, .iconst 0, 1), (19, .istore_n 1, 1), (20, .iload_n 1, 1), (21, .bipush 12, 2), (23, .if_icmp .ge 27, 3), (26, .aload_n 0, 1), (27, .iload_n 1, 1), (28, .aload_n 0, 1), (29, .getfield 42, 3)], [(32, .invokevirtual 75, 3), (35, .aload_n 0, 1), (36, .aload_n 0, 1), (37, .getfield 42, 3), (40, .iload_n 1, 1), (41, .invokevirtual 75, 3), (44, .iinc 1 1, 3), (47, .goto (-27), 3), (50, .iconst 0, 1), (51, .istore_n 1, 1), (52, .iload_n 1, 1), (53, .bipush 6, 2), (55, .if_icmp .ge 24, 3), (58, .aload_n 0, 1), (59, .getfield 15, 3), (62, .aload_n 0, 1), (63, .getfield 42, 3)], [(66, .bipush 6, 2), (68, .imul, 1), (69, .iload_n 1, 1), (70, .iadd, 1), (71, .iconst 0, 1), (72, .iastore, 1), (73, .iinc 1 1, 3), (76, .goto (-24), 3), (79, .aload_n 0, 1), (80, .getfield 24, 3), (83, .aload_n 0, 1), (84, .getfield 42, 3), (87, .iconst 0, 1), (88, .iastore, 1), (89, .iconst 0, 1), (90, .istore_n 1, 1), (91, .iload_n 1, 1), (92, .bipush 40, 2), (94, .if_icmp .ge 24, 3)], [(97, .aload_n 0, 1), (98, .getfield 27, 3), (101, .aload_n 0, 1), (102, .getfield 42, 3), (105, .bipush 40, 2), (107, .imul, 1), (108, .iload_n 1, 1), (109, .iadd, 1), (110, .iconst 0, 1), (111, .iastore, 1), (112, .iinc 1 1, 3), (115, .goto (-24), 3), (118, .return_, 1)]])
/-- Net.join -/
def mm_m38 : mm_I := ((⟨"PromisedStock$Net", "join", "(II)V"⟩, prog_5_method_10_code, 3, none), (3, 3, 0), ([], [], []), [[(0, .aload_n 0, 1), (1, .getfield 18, 3), (4, .iload_n 2, 1), (5, .dup2, 1), (6, .iaload, 1), (7, .iconst 1, 1), (8, .iload_n 1, 1), (9, .ishl, 1), (10, .ior, 1), (11, .iastore, 1), (12, .aload_n 0, 1), (13, .getfield 21, 3), (16, .iload_n 1, 1), (17, .dup2, 1), (18, .iaload, 1), (19, .iconst 1, 1), (20, .iload_n 2, 1), (21, .ishl, 1), (22, .ior, 1), (23, .iastore, 1), (24, .return_, 1)]])
/-- Net.part -/
def mm_m39 : mm_I := ((⟨"PromisedStock$Net", "part", "(II)V"⟩, prog_5_method_11_code, 3, none), (3, 3, 0), ([14], [], []), [[(0, .aload_n 0, 1), (1, .getfield 18, 3), (4, .iload_n 2, 1), (5, .dup2, 1), (6, .iaload, 1), (7, .iconst 1, 1), (8, .iload_n 1, 1), (9, .ishl, 1), (10, .iconst (-1), 1), (11, .ixor, 1), (12, .iand, 1), (13, .iastore, 1), (14, .aload_n 0, 1), (15, .getfield 21, 3), (18, .iload_n 1, 1), (19, .dup2, 1), (20, .iaload, 1), (21, .iconst 1, 1), (22, .iload_n 2, 1), (23, .ishl, 1), (24, .iconst (-1), 1), (25, .ixor, 1), (26, .iand, 1), (27, .iastore, 1), (28, .return_, 1)]])
/-- Net.areInOnePart -/
def mm_m40 : mm_I := ((⟨"PromisedStock$Net", "areInOnePart", "(II)Z"⟩, prog_5_method_12_code, 6, some .boolean), (3, 3, 2), ([7, 19], [], []), [[(0, .iconst 1, 1), (1, .iload_n 1, 1), (2, .ishl, 1), (3, .istore_n 3, 1), (4, .iconst 0, 1), (5, .istore 4, 2), (7, .iload 4, 2), (9, .aload_n 0, 1), (10, .getfield 42, 3), (13, .if_icmp .ge 58, 3), (16, .iconst 0, 1), (17, .istore 5, 2), (19, .iload 5, 2), (21, .aload_n 0, 1), (22, .getfield 42, 3), (25, .if_icmp .ge 40, 3), (28, .iload_n 3, 1), (29, .iload_n 3, 1), (30, .iload 5, 2)], [(32, .invokestatic 79, 3), (35, .ifCond .eq 21, 3), (38, .aload_n 0, 1), (39, .getfield 18, 3), (42, .iload 5, 2), (44, .iaload, 1), (45, .aload_n 0, 1), (46, .getfield 21, 3), (49, .iload 5, 2), (51, .iaload, 1), (52, .ior, 1), (53, .goto 4, 3), (56, .iconst 0, 1), (57, .ior, 1), (58, .istore_n 3, 1), (59, .iinc 5 1, 3), (62, .goto (-43), 3)], [(65, .iinc 4 1, 3), (68, .goto (-61), 3), (71, .iload_n 3, 1), (72, .iload_n 2, 1), (73, .invokestatic 79, 3), (76, .ireturn, 1)]])
/-- Net.supplyCount -/
def mm_m41 : mm_I := ((⟨"PromisedStock$Net", "supplyCount", "()I"⟩, prog_5_method_13_code, 3, some .int), (3, 1, 1), ([4], [], []), [[(0, .iconst 0, 1), (1, .istore_n 1, 1), (2, .iconst 0, 1), (3, .istore_n 2, 1), (4, .iload_n 2, 1), (5, .aload_n 0, 1), (6, .getfield 42, 3), (9, .if_icmp .ge 21, 3), (12, .iload_n 1, 1), (13, .aload_n 0, 1), (14, .getfield 18, 3), (17, .iload_n 2, 1), (18, .iaload, 1), (19, .invokestatic 83, 3), (22, .iadd, 1), (23, .istore_n 1, 1), (24, .iinc 2 1, 3), (27, .goto (-23), 3), (30, .iload_n 1, 1), (31, .ireturn, 1)]])
/-- Net.pinCount -/
def mm_m42 : mm_I := ((⟨"PromisedStock$Net", "pinCount", "()I"⟩, prog_5_method_14_code, 3, some .int), (3, 1, 1), ([4], [], []), [[(0, .iconst 0, 1), (1, .istore_n 1, 1), (2, .iconst 0, 1), (3, .istore_n 2, 1), (4, .iload_n 2, 1), (5, .aload_n 0, 1), (6, .getfield 42, 3), (9, .if_icmp .ge 28, 3), (12, .iload_n 1, 1), (13, .aload_n 0, 1), (14, .iload_n 2, 1), (15, .bipush 6, 2), (17, .invokevirtual 89, 3), (20, .iconst (-1), 1), (21, .if_icmp .ne 7, 3), (24, .iconst 0, 1), (25, .goto 4, 3), (28, .iconst 1, 1), (29, .iadd, 1), (30, .istore_n 1, 1), (31, .iinc 2 1, 3)], [(34, .goto (-30), 3), (37, .iload_n 1, 1), (38, .ireturn, 1)]])
/-- Net.settle -/
def mm_m43 : mm_I := ((⟨"PromisedStock$Net", "settle", "()V"⟩, prog_5_method_15_code, 2, none), (3, 1, 0), ([16, 47], [], []), [[(0, .aload_n 0, 1), (1, .dup, 1), (2, .getfield 49, 3), (5, .iconst 1, 1), (6, .iadd, 1), (7, .putfield 49, 3), (10, .aload_n 0, 1), (11, .invokevirtual 92, 3), (14, .iconst 0, 1), (15, .istore_n 1, 1), (16, .iload_n 1, 1), (17, .aload_n 0, 1), (18, .getfield 42, 3), (21, .if_icmp .ge 19, 3), (24, .aload_n 0, 1), (25, .aload_n 0, 1), (26, .getfield 30, 3), (29, .iload_n 1, 1), (30, .iaload, 1), (31, .invokevirtual 95, 3)], [(34, .iinc 1 1, 3), (37, .goto (-21), 3), (40, .aload_n 0, 1), (41, .getfield 42, 3), (44, .iconst 1, 1), (45, .isub, 1), (46, .istore_n 1, 1), (47, .iload_n 1, 1), (48, .ifCond .lt 19, 3), (51, .aload_n 0, 1), (52, .aload_n 0, 1), (53, .getfield 30, 3), (56, .iload_n 1, 1), (57, .iaload, 1), (58, .invokevirtual 99, 3), (61, .iinc 1 (-1), 3)], [(64, .goto (-17), 3), (67, .return_, 1)]])
/-- Net.sortSuppliersAhead -/
def mm_m44 : mm_I := ((⟨"PromisedStock$Net", "sortSuppliersAhead", "()V"⟩, prog_5_method_16_code, 5, none), (3, 1, 0), ([6, 25, 57], [], []), [[(0, .iconst 0, 1), (1, .istore_n 1, 1), (2, .iconst 0, 1), (3, .istore_n 2, 1), (4, .iconst 0, 1), (5, .istore_n 3, 1), (6, .iload_n 3, 1), (7, .aload_n 0, 1), (8, .getfield 42, 3), (11, .if_icmp .ge 76, 3), (14, .iload_n 2, 1), (15, .aload_n 0, 1), (16, .getfield 42, 3), (19, .if_icmp .ge 68, 3), (22, .iconst 0, 1), (23, .istore 4, 2), (25, .iload 4, 2), (27, .aload_n 0, 1), (28, .getfield 42, 3), (31, .if_icmp .ge 50, 3)], [(34, .iload_n 1, 1), (35, .iload 4, 2), (37, .invokestatic 79, 3), (40, .ifCond .ne 35, 3), (43, .aload_n 0, 1), (44, .getfield 18, 3), (47, .iload 4, 2), (49, .iaload, 1), (50, .iload_n 1, 1), (51, .iconst (-1), 1), (52, .ixor, 1), (53, .iand, 1), (54, .ifCond .ne 21, 3), (57, .aload_n 0, 1), (58, .getfield 30, 3), (61, .iload_n 2, 1), (62, .iload 4, 2)], [(64, .iastore, 1), (65, .iinc 2 1, 3), (68, .iload_n 1, 1), (69, .iconst 1, 1), (70, .iload 4, 2), (72, .ishl, 1), (73, .ior, 1), (74, .istore_n 1, 1), (75, .iinc 4 1, 3), (78, .goto (-53), 3), (81, .iinc 3 1, 3), (84, .goto (-78), 3), (87, .return_, 1)]])
/-- Net.settleLongest -/
def mm_m45 : mm_I := ((⟨"PromisedStock$Net", "settleLongest", "(I)V"⟩, prog_5_method_17_code, 4, none), (3, 2, 0), ([9], [], []), [[(0, .aload_n 0, 1), (1, .iload_n 1, 1), (2, .iconst 2, 1), (3, .invokevirtual 89, 3), (6, .istore_n 2, 1), (7, .iconst 0, 1), (8, .istore_n 3, 1), (9, .iload_n 3, 1), (10, .aload_n 0, 1), (11, .getfield 42, 3), (14, .if_icmp .ge 29, 3), (17, .aload_n 0, 1), (18, .iload_n 3, 1), (19, .iload_n 1, 1), (20, .invokevirtual 102, 3), (23, .ifCond .eq 14, 3), (26, .iload_n 2, 1), (27, .aload_n 0, 1), (28, .getfield 39, 3), (31, .iload_n 3, 1)], [(32, .iaload, 1), (33, .invokestatic 105, 3), (36, .istore_n 2, 1), (37, .iinc 3 1, 3), (40, .goto (-31), 3), (43, .aload_n 0, 1), (44, .getfield 39, 3), (47, .iload_n 1, 1), (48, .iload_n 2, 1), (49, .aload_n 0, 1), (50, .iload_n 1, 1), (51, .iconst 0, 1), (52, .invokevirtual 89, 3), (55, .iadd, 1), (56, .iastore, 1), (57, .return_, 1)]])
/-- Net.settleFlow -/
def mm_m46 : mm_I := ((⟨"PromisedStock$Net", "settleFlow", "(I)V"⟩, prog_5_method_18_code, 3, none), (3, 2, 0), ([26, 58], [], []), [[(0, .aload_n 0, 1), (1, .getfield 33, 3), (4, .iload_n 1, 1), (5, .aload_n 0, 1), (6, .iload_n 1, 1), (7, .iconst 3, 1), (8, .invokevirtual 89, 3), (11, .iastore, 1), (12, .aload_n 0, 1), (13, .getfield 36, 3), (16, .iload_n 1, 1), (17, .aload_n 0, 1), (18, .iload_n 1, 1), (19, .iconst 4, 1), (20, .invokevirtual 89, 3), (23, .iastore, 1), (24, .iconst 0, 1), (25, .istore_n 2, 1), (26, .iload_n 2, 1), (27, .aload_n 0, 1), (28, .getfield 42, 3), (31, .if_icmp .ge 48, 3)], [(34, .aload_n 0, 1), (35, .iload_n 1, 1), (36, .iload_n 2, 1), (37, .invokevirtual 102, 3), (40, .ifCond .eq 33, 3), (43, .aload_n 0, 1), (44, .getfield 33, 3), (47, .iload_n 1, 1), (48, .dup2, 1), (49, .iaload, 1), (50, .aload_n 0, 1), (51, .getfield 33, 3), (54, .iload_n 2, 1), (55, .iaload, 1), (56, .iadd, 1), (57, .iastore, 1), (58, .aload_n 0, 1), (59, .getfield 36, 3), (62, .iload_n 1, 1), (63, .dup2, 1)], [(64, .iaload, 1), (65, .aload_n 0, 1), (66, .getfield 36, 3), (69, .iload_n 2, 1), (70, .iaload, 1), (71, .iadd, 1), (72, .iastore, 1), (73, .iinc 2 1, 3), (76, .goto (-50), 3), (79, .return_, 1)]])
/-- Net.rootBy -/
def mm_m47 : mm_I := ((⟨"PromisedStock$Net", "rootBy", "(II)I"⟩, prog_5_method_19_code, 3, some .int), (3, 3, 1), ([], [], []), [[(0, .aload_n 0, 1), (1, .iconst 0, 1), (2, .iload_n 1, 1), (3, .iload_n 2, 1), (4, .invokevirtual 110, 3), (7, .ireturn, 1)]])
/-- Net.rootFrom -/
def mm_m48 : mm_I := ((⟨"PromisedStock$Net", "rootFrom", "(III)I"⟩, prog_5_method_20_code, 10, some .int), (3, 4, 1), ([33, 81], [], []), [[(0, .aload_n 0, 1), (1, .getfield 46, 3), (4, .i2l, 1), (5, .aload_n 0, 1), (6, .getfield 46, 3), (9, .i2l, 1), (10, .lmul, 1), (11, .aload_n 0, 1), (12, .getfield 36, 3), (15, .iload_n 2, 1), (16, .iaload, 1), (17, .i2l, 1), (18, .lmul, 1), (19, .iload_n 3, 1), (20, .i2l, 1), (21, .lmul, 1), (22, .lstore 4, 2), (24, .iload_n 1, 1), (25, .istore 6, 2), (27, .iload_n 1, 1), (28, .istore 7, 2), (30, .iconst 0, 1), (31, .istore 8, 2)], [(33, .iload 8, 2), (35, .bipush 20, 2), (37, .if_icmp .ge 41, 3), (40, .ldc2_w 114, 3), (43, .iload 7, 2), (45, .i2l, 1), (46, .lmul, 1), (47, .iload 7, 2), (49, .i2l, 1), (50, .lmul, 1), (51, .lload 4, 2), (53, .lcmp, 1), (54, .ifCond .ge 24, 3), (57, .iload 7, 2), (59, .iconst 1, 1), (60, .iadd, 1), (61, .istore 6, 2), (63, .iload 7, 2)], [(65, .iconst 1, 1), (66, .iload 8, 2), (68, .ishl, 1), (69, .iadd, 1), (70, .istore 7, 2), (72, .iinc 8 1, 3), (75, .goto (-42), 3), (78, .iconst 0, 1), (79, .istore 8, 2), (81, .iload 8, 2), (83, .bipush 20, 2), (85, .if_icmp .ge 55, 3), (88, .iload 6, 2), (90, .iload 7, 2), (92, .if_icmp .ge 48, 3), (95, .iload 6, 2)], [(97, .iload 7, 2), (99, .iadd, 1), (100, .iconst 2, 1), (101, .idiv, 1), (102, .istore 9, 2), (104, .ldc2_w 114, 3), (107, .iload 9, 2), (109, .i2l, 1), (110, .lmul, 1), (111, .iload 9, 2), (113, .i2l, 1), (114, .lmul, 1), (115, .lload 4, 2), (117, .lcmp, 1), (118, .ifCond .lt 10, 3), (121, .iload 9, 2), (123, .istore 7, 2), (125, .goto 9, 3)], [(128, .iload 9, 2), (130, .iconst 1, 1), (131, .iadd, 1), (132, .istore 6, 2), (134, .iinc 8 1, 3), (137, .goto (-56), 3), (140, .iload 6, 2), (142, .ireturn, 1)]])
/-- Net.boundBy -/
def mm_m49 : mm_I := ((⟨"PromisedStock$Net", "boundBy", "(II)I"⟩, prog_5_method_21_code, 3, some .int), (3, 3, 1), ([], [], []), [[(0, .iload_n 2, 1), (1, .aload_n 0, 1), (2, .getfield 33, 3), (5, .iload_n 1, 1), (6, .iaload, 1), (7, .imul, 1), (8, .aload_n 0, 1), (9, .iload_n 1, 1), (10, .iload_n 2, 1), (11, .invokevirtual 116, 3), (14, .iadd, 1), (15, .ireturn, 1)]])
/-- Net.waitOf -/
def mm_m50 : mm_I := ((⟨"PromisedStock$Net", "waitOf", "(I)I"⟩, prog_5_method_22_code, 4, some .int), (3, 2, 1), ([9], [], []), [[(0, .aload_n 0, 1), (1, .iload_n 1, 1), (2, .iconst 2, 1), (3, .invokevirtual 89, 3), (6, .istore_n 2, 1), (7, .iconst 0, 1), (8, .istore_n 3, 1), (9, .iload_n 3, 1), (10, .aload_n 0, 1), (11, .getfield 42, 3), (14, .if_icmp .ge 29, 3), (17, .aload_n 0, 1), (18, .iload_n 3, 1), (19, .iload_n 1, 1), (20, .invokevirtual 102, 3), (23, .ifCond .eq 14, 3), (26, .iload_n 2, 1), (27, .aload_n 0, 1), (28, .getfield 24, 3), (31, .iload_n 3, 1)], [(32, .iaload, 1), (33, .invokestatic 105, 3), (36, .istore_n 2, 1), (37, .iinc 3 1, 3), (40, .goto (-31), 3), (43, .iload_n 2, 1), (44, .ireturn, 1)]])
/-- Net.netOf -/
def mm_m51 : mm_I := ((⟨"PromisedStock$Net", "netOf", "(I)I"⟩, prog_5_method_23_code, 2, some .int), (3, 2, 1), ([], [], []), [[(0, .aload_n 0, 1), (1, .iload_n 1, 1), (2, .invokevirtual 119, 3), (5, .aload_n 0, 1), (6, .iload_n 1, 1), (7, .iconst 0, 1), (8, .invokevirtual 89, 3), (11, .iadd, 1), (12, .aload_n 0, 1), (13, .getfield 24, 3), (16, .iload_n 1, 1), (17, .iaload, 1), (18, .isub, 1), (19, .ireturn, 1)]])
/-- Net.byPlan -/
def mm_m52 : mm_I := ((⟨"PromisedStock$Net", "byPlan", "(II)I"⟩, prog_5_method_24_code, 4, some .int), (3, 3, 1), ([], [], []), [[(0, .aload_n 0, 1), (1, .iload_n 1, 1), (2, .invokevirtual 122, 3), (5, .istore_n 3, 1), (6, .iload_n 2, 1), (7, .tableswitch 78 0 4 #[33, 40, 46, 48, 63], 33)], [(40, .aload_n 0, 1), (41, .getfield 24, 3), (44, .iload_n 1, 1), (45, .iaload, 1), (46, .ireturn, 1), (47, .aload_n 0, 1), (48, .iload_n 1, 1), (49, .invokevirtual 119, 3), (52, .ireturn, 1), (53, .iload_n 3, 1), (54, .ireturn, 1), (55, .iload_n 3, 1), (56, .ifCond .ge 7, 3), (59, .iconst (-1), 1), (60, .goto 9, 3), (63, .aload_n 0, 1)], [(64, .iload_n 1, 1), (65, .iload_n 3, 1), (66, .invokevirtual 116, 3), (69, .ireturn, 1), (70, .iload_n 3, 1), (71, .ifCond .ge 7, 3), (74, .iconst (-1), 1), (75, .goto 9, 3), (78, .aload_n 0, 1), (79, .iload_n 1, 1), (80, .iload_n 3, 1), (81, .invokevirtual 125, 3), (84, .ireturn, 1), (85, .iload_n 3, 1), (86, .ifCond .ge 7, 3), (89, .iconst (-1), 1), (90, .goto 16, 3), (93, .aload_n 0, 1), (94, .iload_n 1, 1), (95, .iconst 1, 1)], [(96, .invokevirtual 89, 3), (99, .aload_n 0, 1), (100, .iload_n 1, 1), (101, .iload_n 3, 1), (102, .invokevirtual 116, 3), (105, .imul, 1), (106, .ireturn, 1)]])
/-- Net.firstNotHolding -/
def mm_m53 : mm_I := ((⟨"PromisedStock$Net", "firstNotHolding", "()I"⟩, prog_5_method_25_code, 4, some .int), (3, 1, 1), ([2, 38, 48], [], []), [[(0, .iconst 0, 1), (1, .istore_n 1, 1), (2, .iload_n 1, 1), (3, .aload_n 0, 1), (4, .getfield 42, 3), (7, .if_icmp .ge 64, 3), (10, .aload_n 0, 1), (11, .iload_n 1, 1), (12, .iconst 5, 1), (13, .invokevirtual 89, 3), (16, .istore_n 2, 1), (17, .aload_n 0, 1), (18, .iload_n 1, 1), (19, .bipush 6, 2), (21, .invokevirtual 89, 3), (24, .istore_n 3, 1), (25, .aload_n 0, 1), (26, .iload_n 1, 1), (27, .invokevirtual 122, 3), (30, .ifCond .lt 33, 3)], [(33, .iload_n 2, 1), (34, .iconst (-1), 1), (35, .if_icmp .eq 13, 3), (38, .aload_n 0, 1), (39, .getfield 24, 3), (42, .iload_n 1, 1), (43, .iaload, 1), (44, .iload_n 2, 1), (45, .if_icmp .gt 18, 3), (48, .iload_n 3, 1), (49, .iconst (-1), 1), (50, .if_icmp .eq 15, 3), (53, .aload_n 0, 1), (54, .getfield 24, 3), (57, .iload_n 1, 1), (58, .iaload, 1), (59, .iload_n 3, 1), (60, .if_icmp .eq 5, 3), (63, .iload_n 1, 1)], [(64, .ireturn, 1), (65, .iinc 1 1, 3), (68, .goto (-66), 3), (71, .iconst (-1), 1), (72, .ireturn, 1)]])
/-- Net.priceAtHand -/
def mm_m54 : mm_I := ((⟨"PromisedStock$Net", "priceAtHand", "()I"⟩, prog_5_method_26_code, 3, some .int), (3, 1, 1), ([4], [], []), [[(0, .iconst 0, 1), (1, .istore_n 1, 1), (2, .iconst 0, 1), (3, .istore_n 2, 1), (4, .iload_n 2, 1), (5, .aload_n 0, 1), (6, .getfield 42, 3), (9, .if_icmp .ge 18, 3), (12, .iload_n 1, 1), (13, .aload_n 0, 1), (14, .iload_n 2, 1), (15, .iconst 5, 1), (16, .invokevirtual 128, 3), (19, .iadd, 1), (20, .istore_n 1, 1), (21, .iinc 2 1, 3), (24, .goto (-20), 3), (27, .iload_n 1, 1), (28, .ireturn, 1)]])
/-- Net.holding -/
def mm_m55 : mm_I := ((⟨"PromisedStock$Net", "holding", "()I"⟩, prog_5_method_27_code, 3, some .int), (3, 1, 1), ([4], [], []), [[(0, .iconst 0, 1), (1, .istore_n 1, 1), (2, .iconst 0, 1), (3, .istore_n 2, 1), (4, .iload_n 2, 1), (5, .aload_n 0, 1), (6, .getfield 42, 3), (9, .if_icmp .ge 28, 3), (12, .iload_n 1, 1), (13, .aload_n 0, 1), (14, .iload_n 2, 1), (15, .iconst 3, 1), (16, .invokevirtual 128, 3), (19, .ifCond .le 9, 3), (22, .iconst 1, 1), (23, .iload_n 2, 1), (24, .ishl, 1), (25, .goto 4, 3), (28, .iconst 0, 1), (29, .ior, 1), (30, .istore_n 1, 1), (31, .iinc 2 1, 3)], [(34, .goto (-30), 3), (37, .iload_n 1, 1), (38, .ireturn, 1)]])
/-- Net.planZero -/
def mm_m56 : mm_I := ((⟨"PromisedStock$Net", "planZero", "()V"⟩, prog_5_method_28_code, 2, none), (3, 1, 0), ([2], [], []), [[(0, .iconst 0, 1), (1, .istore_n 1, 1), (2, .iload_n 1, 1), (3, .aload_n 0, 1), (4, .getfield 42, 3), (7, .if_icmp .ge 16, 3), (10, .aload_n 0, 1), (11, .getfield 24, 3), (14, .iload_n 1, 1), (15, .iconst 0, 1), (16, .iastore, 1), (17, .iinc 1 1, 3), (20, .goto (-18), 3), (23, .return_, 1)]])
/-- Net.planLazily -/
def mm_m57 : mm_I := ((⟨"PromisedStock$Net", "planLazily", "()V"⟩, prog_5_method_29_code, 4, none), (3, 1, 0), ([2, 30, 55], [], []), [[(0, .iconst 0, 1), (1, .istore_n 1, 1), (2, .iload_n 1, 1), (3, .aload_n 0, 1), (4, .getfield 42, 3), (7, .if_icmp .ge 86, 3), (10, .aload_n 0, 1), (11, .getfield 30, 3), (14, .iload_n 1, 1), (15, .iaload, 1), (16, .istore_n 2, 1), (17, .aload_n 0, 1), (18, .iload_n 2, 1), (19, .invokevirtual 119, 3), (22, .aload_n 0, 1), (23, .iload_n 2, 1), (24, .iconst 0, 1), (25, .invokevirtual 89, 3), (28, .iadd, 1), (29, .istore_n 3, 1), (30, .aload_n 0, 1), (31, .iload_n 2, 1)], [(32, .iconst 5, 1), (33, .invokevirtual 89, 3), (36, .iconst (-1), 1), (37, .if_icmp .ne 7, 3), (40, .iload_n 3, 1), (41, .goto 13, 3), (44, .iload_n 3, 1), (45, .aload_n 0, 1), (46, .iload_n 2, 1), (47, .iconst 5, 1), (48, .invokevirtual 89, 3), (51, .invokestatic 131, 3), (54, .istore_n 3, 1), (55, .aload_n 0, 1), (56, .getfield 24, 3), (59, .iload_n 2, 1), (60, .aload_n 0, 1), (61, .iload_n 2, 1), (62, .bipush 6, 2)], [(64, .invokevirtual 89, 3), (67, .iconst (-1), 1), (68, .if_icmp .ne 7, 3), (71, .iload_n 3, 1), (72, .goto 14, 3), (75, .iload_n 3, 1), (76, .aload_n 0, 1), (77, .iload_n 2, 1), (78, .bipush 6, 2), (80, .invokevirtual 89, 3), (83, .invokestatic 131, 3), (86, .iastore, 1), (87, .iinc 1 1, 3), (90, .goto (-88), 3), (93, .return_, 1)]])
/-- Net.planHalf -/
def mm_m58 : mm_I := ((⟨"PromisedStock$Net", "planHalf", "()V"⟩, prog_5_method_30_code, 2, none), (3, 1, 0), ([6], [], []), [[(0, .aload_n 0, 1), (1, .invokevirtual 134, 3), (4, .iconst 0, 1), (5, .istore_n 1, 1), (6, .iload_n 1, 1), (7, .aload_n 0, 1), (8, .getfield 42, 3), (11, .if_icmp .ge 44, 3), (14, .aload_n 0, 1), (15, .getfield 24, 3), (18, .iload_n 1, 1), (19, .aload_n 0, 1), (20, .iload_n 1, 1), (21, .bipush 6, 2), (23, .invokevirtual 89, 3), (26, .iconst (-1), 1), (27, .if_icmp .ne 14, 3), (30, .aload_n 0, 1), (31, .getfield 24, 3)], [(34, .iload_n 1, 1), (35, .iaload, 1), (36, .iconst 2, 1), (37, .idiv, 1), (38, .goto 10, 3), (41, .aload_n 0, 1), (42, .iload_n 1, 1), (43, .bipush 6, 2), (45, .invokevirtual 89, 3), (48, .iastore, 1), (49, .iinc 1 1, 3), (52, .goto (-46), 3), (55, .return_, 1)]])
/-- Net.allBelow -/
def mm_m59 : mm_I := ((⟨"PromisedStock$Net", "allBelow", "(I)I"⟩, prog_5_method_31_code, 4, some .int), (3, 2, 1), ([6], [], []), [[(0, .iconst 1, 1), (1, .iload_n 1, 1), (2, .ishl, 1), (3, .istore_n 2, 1), (4, .iconst 0, 1), (5, .istore_n 3, 1), (6, .iload_n 3, 1), (7, .aload_n 0, 1), (8, .getfield 42, 3), (11, .if_icmp .ge 40, 3), (14, .iload_n 2, 1), (15, .iload_n 2, 1), (16, .aload_n 0, 1), (17, .getfield 30, 3), (20, .iload_n 3, 1), (21, .iaload, 1), (22, .invokestatic 79, 3), (25, .ifCond .eq 17, 3), (28, .aload_n 0, 1), (29, .getfield 21, 3)], [(32, .aload_n 0, 1), (33, .getfield 30, 3), (36, .iload_n 3, 1), (37, .iaload, 1), (38, .iaload, 1), (39, .goto 4, 3), (42, .iconst 0, 1), (43, .ior, 1), (44, .istore_n 2, 1), (45, .iinc 3 1, 3), (48, .goto (-42), 3), (51, .iload_n 2, 1), (52, .ireturn, 1)]])
/-- Net.aheadInChain -/
def mm_m60 : mm_I := ((⟨"PromisedStock$Net", "aheadInChain", "(I)I"⟩, prog_5_method_32_code, 4, some .int), (3, 2, 1), ([4, 26, 80, 82], [], []), [[(0, .iconst (-1), 1), (1, .istore_n 2, 1), (2, .iconst 0, 1), (3, .istore_n 3, 1), (4, .iload_n 3, 1), (5, .aload_n 0, 1), (6, .getfield 42, 3), (9, .if_icmp .ge 40, 3), (12, .aload_n 0, 1), (13, .iload_n 3, 1), (14, .iload_n 1, 1), (15, .invokevirtual 102, 3), (18, .ifCond .eq 25, 3), (21, .iload_n 2, 1), (22, .iconst (-1), 1), (23, .if_icmp .eq 18, 3), (26, .aload_n 0, 1), (27, .getfield 39, 3), (30, .iload_n 3, 1), (31, .iaload, 1)], [(32, .aload_n 0, 1), (33, .getfield 39, 3), (36, .iload_n 2, 1), (37, .iaload, 1), (38, .if_icmp .le 5, 3), (41, .iload_n 3, 1), (42, .istore_n 2, 1), (43, .iinc 3 1, 3), (46, .goto (-42), 3), (49, .iload_n 2, 1), (50, .iconst (-1), 1), (51, .if_icmp .eq 29, 3), (54, .aload_n 0, 1), (55, .getfield 39, 3), (58, .iload_n 2, 1), (59, .iaload, 1), (60, .aload_n 0, 1), (61, .iload_n 1, 1), (62, .iconst 0, 1), (63, .invokevirtual 89, 3)], [(66, .iadd, 1), (67, .aload_n 0, 1), (68, .getfield 39, 3), (71, .iload_n 1, 1), (72, .iaload, 1), (73, .if_icmp .ne 7, 3), (76, .iconst 1, 1), (77, .goto 4, 3), (80, .iconst 0, 1), (81, .istore_n 3, 1), (82, .iload_n 3, 1), (83, .ifCond .eq 7, 3), (86, .iload_n 2, 1), (87, .goto 4, 3), (90, .iconst (-1), 1), (91, .ireturn, 1)]])
/-- Net.has -/
def mm_m61 : mm_I := ((⟨"PromisedStock$Net", "has", "(II)Z"⟩, prog_5_method_33_code, 2, some .boolean), (3, 2, 2), ([], [], []), [[(0, .iload_n 0, 1), (1, .iload_n 1, 1), (2, .ishr, 1), (3, .iconst 1, 1), (4, .iand, 1), (5, .ifCond .eq 7, 3), (8, .iconst 1, 1), (9, .goto 4, 3), (12, .iconst 0, 1), (13, .ireturn, 1)]])
/-- Que.init -/
def mm_m62 : mm_I := ((⟨"PromisedStock$Question", "<init>", "(LPromisedStock$Tokens;LPromisedStock$Net;)V"⟩, prog_6_method_1_code, 3, none), (4, 3, 0), ([41], [], []), [[(0, .aload_n 0, 1), (1, .invokespecial 3, 3), (4, .aload_n 0, 1), (5, .sipush 200, 3), (8, .newarray .int, 2), (10, .putfield 9, 3), (13, .aload_n 0, 1), (14, .bipush 64, 2), (16, .newarray .int, 2), (18, .putfield 15, 3), (21, .aload_n 0, 1), (22, .iconst 0, 1), (23, .putfield 18, 3), (26, .aload_n 0, 1), (27, .iconst 0, 1), (28, .putfield 22, 3), (31, .aload_n 0, 1)], [(32, .iconst 0, 1), (33, .putfield 25, 3), (36, .aload_n 0, 1), (37, .aload_n 1, 1), (38, .putfield 28, 3), (41, .aload_n 0, 1), (42, .aload_n 2, 1), (43, .putfield 32, 3), (46, .return_, 1)]])
/-- Que.read -/
def mm_m63 : mm_I := ((⟨"PromisedStock$Question", "read", "(I)I"⟩, prog_6_method_2_code, 3, some .int), (4, 2, 1), ([41, 89], [], []), [[(0, .aload_n 0, 1), (1, .iconst 0, 1), (2, .putfield 25, 3), (5, .aload_n 0, 1), (6, .iconst 0, 1), (7, .putfield 18, 3), (10, .aload_n 0, 1), (11, .getfield 28, 3), (14, .iload_n 1, 1), (15, .invokevirtual 36, 3), (18, .aload_n 0, 1), (19, .aload_n 0, 1), (20, .getfield 28, 3), (23, .ldc 42, 2), (25, .invokevirtual 44, 3), (28, .putfield 22, 3), (31, .aload_n 0, 1)], [(32, .getfield 22, 3), (35, .iconst (-1), 1), (36, .if_icmp .ne 5, 3), (39, .iconst 1, 1), (40, .ireturn, 1), (41, .aload_n 0, 1), (42, .getfield 28, 3), (45, .invokevirtual 48, 3), (48, .aload_n 0, 1), (49, .getfield 22, 3), (52, .iconst 2, 1), (53, .if_icmp .ge 11, 3), (56, .aload_n 0, 1), (57, .iconst 0, 1), (58, .invokevirtual 51, 3), (61, .goto 8, 3)], [(64, .aload_n 0, 1), (65, .iconst 0, 1), (66, .invokevirtual 55, 3), (69, .istore_n 2, 1), (70, .iload_n 2, 1), (71, .ifCond .eq 18, 3), (74, .aload_n 0, 1), (75, .getfield 28, 3), (78, .getfield 58, 3), (81, .ifCond .eq 8, 3), (84, .aload_n 0, 1), (85, .iconst 1, 1), (86, .putfield 25, 3), (89, .aload_n 0, 1), (90, .getfield 25, 3), (93, .ireturn, 1)]])
/-- Que.readTest -/
def mm_m64 : mm_I := ((⟨"PromisedStock$Question", "readTest", "(I)Z"⟩, prog_6_method_3_code, 4, some .boolean), (4, 2, 2), ([2, 21, 74], [], []), [[(0, .iconst 0, 1), (1, .istore_n 2, 1), (2, .iload_n 2, 1), (3, .sipush 200, 3), (6, .if_icmp .ge 88, 3), (9, .aload_n 0, 1), (10, .iload_n 1, 1), (11, .invokevirtual 61, 3), (14, .ifCond .ne 5, 3), (17, .iconst 0, 1), (18, .ireturn, 1), (19, .iconst 0, 1), (20, .istore_n 3, 1), (21, .iload_n 3, 1), (22, .sipush 200, 3), (25, .if_icmp .ge 38, 3), (28, .aload_n 0, 1), (29, .getfield 28, 3)], [(32, .ldc 64, 2), (34, .invokevirtual 66, 3), (37, .ifCond .eq 26, 3), (40, .aload_n 0, 1), (41, .iload_n 1, 1), (42, .invokevirtual 61, 3), (45, .ifCond .ne 5, 3), (48, .iconst 0, 1), (49, .ireturn, 1), (50, .aload_n 0, 1), (51, .bipush 37, 2), (53, .invokevirtual 70, 3), (56, .pop, 1), (57, .iinc 3 1, 3), (60, .goto (-39), 3), (63, .iload_n 2, 1)], [(64, .ifCond .le 10, 3), (67, .aload_n 0, 1), (68, .bipush 38, 2), (70, .invokevirtual 70, 3), (73, .pop, 1), (74, .aload_n 0, 1), (75, .getfield 28, 3), (78, .ldc 73, 2), (80, .invokevirtual 66, 3), (83, .ifCond .ne 5, 3), (86, .iconst 1, 1), (87, .ireturn, 1), (88, .iinc 2 1, 3), (91, .goto (-89), 3), (94, .aload_n 0, 1), (95, .iconst 1, 1)], [(96, .invokevirtual 75, 3), (99, .ireturn, 1)]])
/-- Que.readFact -/
def mm_m65 : mm_I := ((⟨"PromisedStock$Question", "readFact", "(I)Z"⟩, prog_6_method_4_code, 4, some .boolean), (4, 2, 2), ([17, 34, 112, 148, 165, 183], [], []), [[(0, .aload_n 0, 1), (1, .getfield 28, 3), (4, .ldc 78, 2), (6, .invokevirtual 44, 3), (9, .ifCond .ne 7, 3), (12, .iconst 1, 1), (13, .goto 4, 3), (16, .iconst 0, 1), (17, .istore_n 2, 1), (18, .iload_n 2, 1), (19, .ifCond .ne 15, 3), (22, .aload_n 0, 1), (23, .getfield 28, 3), (26, .bipush 123, 2), (28, .invokevirtual 80, 3), (31, .ifCond .eq 90, 3)], [(34, .iload_n 1, 1), (35, .bipush 6, 2), (37, .if_icmp .lt 9, 3), (40, .aload_n 0, 1), (41, .iconst 3, 1), (42, .invokevirtual 75, 3), (45, .ireturn, 1), (46, .aload_n 0, 1), (47, .getfield 28, 3), (50, .invokevirtual 48, 3), (53, .iload_n 2, 1), (54, .ifCond .eq 28, 3), (57, .aload_n 0, 1), (58, .iload_n 1, 1), (59, .iconst 1, 1), (60, .iadd, 1), (61, .invokevirtual 61, 3)], [(64, .ifCond .eq 16, 3), (67, .aload_n 0, 1), (68, .bipush 36, 2), (70, .invokevirtual 70, 3), (73, .ifCond .eq 7, 3), (76, .iconst 1, 1), (77, .goto 4, 3), (80, .iconst 0, 1), (81, .ireturn, 1), (82, .aload_n 0, 1), (83, .iload_n 1, 1), (84, .iconst 1, 1), (85, .iadd, 1), (86, .invokevirtual 51, 3), (89, .ifCond .ne 5, 3), (92, .iconst 0, 1), (93, .ireturn, 1), (94, .aload_n 0, 1), (95, .getfield 28, 3)], [(98, .bipush 125, 2), (100, .invokevirtual 80, 3), (103, .ifCond .ne 9, 3), (106, .aload_n 0, 1), (107, .iconst 1, 1), (108, .invokevirtual 75, 3), (111, .ireturn, 1), (112, .aload_n 0, 1), (113, .getfield 28, 3), (116, .invokevirtual 48, 3), (119, .iconst 1, 1), (120, .ireturn, 1), (121, .aload_n 0, 1), (122, .iload_n 1, 1), (123, .invokevirtual 55, 3), (126, .ifCond .ne 5, 3)], [(129, .iconst 0, 1), (130, .ireturn, 1), (131, .aload_n 0, 1), (132, .getfield 28, 3), (135, .bipush 60, 2), (137, .invokevirtual 80, 3), (140, .ifCond .eq 8, 3), (143, .bipush 33, 2), (145, .goto 38, 3), (148, .aload_n 0, 1), (149, .getfield 28, 3), (152, .bipush 61, 2), (154, .invokevirtual 80, 3), (157, .ifCond .eq 8, 3)], [(160, .bipush 34, 2), (162, .goto 21, 3), (165, .aload_n 0, 1), (166, .getfield 28, 3), (169, .bipush 62, 2), (171, .invokevirtual 80, 3), (174, .ifCond .eq 8, 3), (177, .bipush 35, 2), (179, .goto 4, 3), (182, .iconst (-1), 1), (183, .istore_n 3, 1), (184, .iload_n 3, 1), (185, .iconst (-1), 1), (186, .if_icmp .ne 9, 3), (189, .aload_n 0, 1), (190, .iconst 1, 1), (191, .invokevirtual 75, 3)], [(194, .ireturn, 1), (195, .aload_n 0, 1), (196, .getfield 28, 3), (199, .invokevirtual 48, 3), (202, .aload_n 0, 1), (203, .iload_n 1, 1), (204, .invokevirtual 55, 3), (207, .ifCond .eq 15, 3), (210, .aload_n 0, 1), (211, .iload_n 3, 1), (212, .invokevirtual 70, 3), (215, .ifCond .eq 7, 3), (218, .iconst 1, 1), (219, .goto 4, 3), (222, .iconst 0, 1), (223, .ireturn, 1)]])
/-- Que.readSum -/
def mm_m66 : mm_I := ((⟨"PromisedStock$Question", "readSum", "(I)Z"⟩, prog_6_method_5_code, 5, some .boolean), (4, 2, 2), ([4, 24, 85], [], []), [[(0, .iconst (-1), 1), (1, .istore_n 2, 1), (2, .iconst 0, 1), (3, .istore_n 3, 1), (4, .iload_n 3, 1), (5, .sipush 200, 3), (8, .if_icmp .ge 133, 3), (11, .aload_n 0, 1), (12, .iload_n 1, 1), (13, .invokevirtual 84, 3), (16, .ifCond .ne 5, 3), (19, .iconst 0, 1), (20, .ireturn, 1), (21, .iconst 0, 1), (22, .istore 4, 2), (24, .iload 4, 2), (26, .sipush 200, 3), (29, .if_icmp .ge 45, 3)], [(32, .aload_n 0, 1), (33, .getfield 28, 3), (36, .bipush 42, 2), (38, .invokevirtual 80, 3), (41, .ifCond .eq 33, 3), (44, .aload_n 0, 1), (45, .getfield 28, 3), (48, .invokevirtual 48, 3), (51, .aload_n 0, 1), (52, .iload_n 1, 1), (53, .invokevirtual 84, 3), (56, .ifCond .ne 5, 3), (59, .iconst 0, 1), (60, .ireturn, 1), (61, .aload_n 0, 1), (62, .bipush 30, 2)], [(64, .invokevirtual 70, 3), (67, .pop, 1), (68, .iinc 4 1, 3), (71, .goto (-47), 3), (74, .iload_n 2, 1), (75, .iconst (-1), 1), (76, .if_icmp .eq 9, 3), (79, .aload_n 0, 1), (80, .iload_n 2, 1), (81, .invokevirtual 70, 3), (84, .pop, 1), (85, .aload_n 0, 1), (86, .getfield 28, 3), (89, .bipush 43, 2), (91, .invokevirtual 80, 3), (94, .ifCond .eq 8, 3)], [(97, .bipush 31, 2), (99, .goto 21, 3), (102, .aload_n 0, 1), (103, .getfield 28, 3), (106, .bipush 45, 2), (108, .invokevirtual 80, 3), (111, .ifCond .eq 8, 3), (114, .bipush 32, 2), (116, .goto 4, 3), (119, .iconst (-1), 1), (120, .istore_n 2, 1), (121, .iload_n 2, 1), (122, .iconst (-1), 1), (123, .if_icmp .ne 5, 3), (126, .iconst 1, 1), (127, .ireturn, 1)], [(128, .aload_n 0, 1), (129, .getfield 28, 3), (132, .invokevirtual 48, 3), (135, .iinc 3 1, 3), (138, .goto (-134), 3), (141, .aload_n 0, 1), (142, .iconst 1, 1), (143, .invokevirtual 75, 3), (146, .ireturn, 1)]])
/-- Que.readPart -/
def mm_m67 : mm_I := ((⟨"PromisedStock$Question", "readPart", "(I)Z"⟩, prog_6_method_6_code, 2, some .boolean), (4, 2, 2), ([55, 70], [], []), [[(0, .aload_n 0, 1), (1, .getfield 28, 3), (4, .bipush 40, 2), (6, .invokevirtual 80, 3), (9, .ifCond .eq 52, 3), (12, .iload_n 1, 1), (13, .bipush 6, 2), (15, .if_icmp .lt 9, 3), (18, .aload_n 0, 1), (19, .iconst 3, 1), (20, .invokevirtual 75, 3), (23, .ireturn, 1), (24, .aload_n 0, 1), (25, .getfield 28, 3), (28, .invokevirtual 48, 3), (31, .aload_n 0, 1)], [(32, .iload_n 1, 1), (33, .iconst 1, 1), (34, .iadd, 1), (35, .invokevirtual 55, 3), (38, .ifCond .ne 5, 3), (41, .iconst 0, 1), (42, .ireturn, 1), (43, .aload_n 0, 1), (44, .getfield 28, 3), (47, .bipush 41, 2), (49, .invokevirtual 80, 3), (52, .ifCond .ne 18, 3), (55, .aload_n 0, 1), (56, .iconst 1, 1), (57, .invokevirtual 75, 3), (60, .ireturn, 1), (61, .aload_n 0, 1), (62, .invokevirtual 87, 3)], [(65, .ifCond .ne 5, 3), (68, .iconst 0, 1), (69, .ireturn, 1), (70, .aload_n 0, 1), (71, .getfield 28, 3), (74, .invokevirtual 48, 3), (77, .iconst 1, 1), (78, .ireturn, 1)]])
/-- Que.markPart -/
def mm_m68 : mm_I := ((⟨"PromisedStock$Question", "markPart", "()Z"⟩, prog_6_method_7_code, 2, some .boolean), (4, 1, 2), ([], [], []), [[(0, .aload_n 0, 1), (1, .getfield 28, 3), (4, .getfield 58, 3), (7, .iconst 2, 1), (8, .if_icmp .ne 35, 3), (11, .aload_n 0, 1), (12, .getfield 28, 3), (15, .invokevirtual 91, 3), (18, .istore_n 1, 1), (19, .iload_n 1, 1), (20, .sipush 9999, 3), (23, .if_icmp .gt 14, 3), (26, .aload_n 0, 1), (27, .bipush 100, 2), (29, .iload_n 1, 1), (30, .iadd, 1), (31, .invokevirtual 70, 3)], [(34, .goto 8, 3), (37, .aload_n 0, 1), (38, .iconst 2, 1), (39, .invokevirtual 75, 3), (42, .ireturn, 1), (43, .aload_n 0, 1), (44, .getfield 28, 3), (47, .ldc 95, 2), (49, .invokevirtual 44, 3), (52, .istore_n 1, 1), (53, .iload_n 1, 1), (54, .iconst (-1), 1), (55, .if_icmp .eq 11, 3), (58, .aload_n 0, 1), (59, .iload_n 1, 1), (60, .invokevirtual 70, 3), (63, .goto 8, 3)], [(66, .aload_n 0, 1), (67, .iconst 1, 1), (68, .invokevirtual 75, 3), (71, .ireturn, 1)]])
/-- Que.mark -/
def mm_m69 : mm_I := ((⟨"PromisedStock$Question", "mark", "(I)Z"⟩, prog_6_method_8_code, 2, some .boolean), (4, 2, 2), ([], [], []), [[(0, .aload_n 0, 1), (1, .getfield 18, 3), (4, .aload_n 0, 1), (5, .getfield 9, 3), (8, .arraylength, 1), (9, .if_icmp .ge 23, 3), (12, .aload_n 0, 1), (13, .getfield 9, 3), (16, .aload_n 0, 1), (17, .getfield 18, 3), (20, .iload_n 1, 1), (21, .iastore, 1), (22, .aload_n 0, 1), (23, .dup, 1), (24, .getfield 18, 3), (27, .iconst 1, 1), (28, .iadd, 1), (29, .putfield 18, 3)], [(32, .iconst 1, 1), (33, .ireturn, 1)]])
/-- Que.refuse -/
def mm_m70 : mm_I := ((⟨"PromisedStock$Question", "refuse", "(I)Z"⟩, prog_6_method_9_code, 2, some .boolean), (4, 2, 2), ([], [], []), [[(0, .aload_n 0, 1), (1, .iload_n 1, 1), (2, .putfield 25, 3), (5, .iconst 0, 1), (6, .ireturn, 1)]])
/-- Que.answer -/
def mm_m71 : mm_I := ((⟨"PromisedStock$Question", "answer", "()I"⟩, prog_6_method_10_code, 4, some .int), (4, 1, 1), ([16], [], []), [[(0, .aload_n 0, 1), (1, .getfield 22, 3), (4, .iconst 1, 1), (5, .if_icmp .ne 7, 3), (8, .iconst (-1), 1), (9, .goto 4, 3), (12, .iconst 0, 1), (13, .istore_n 1, 1), (14, .iconst 0, 1), (15, .istore_n 2, 1), (16, .iload_n 2, 1), (17, .aload_n 0, 1), (18, .getfield 32, 3), (21, .getfield 97, 3), (24, .if_icmp .ge 94, 3), (27, .aload_n 0, 1), (28, .iload_n 2, 1), (29, .invokevirtual 102, 3)], [(32, .istore_n 3, 1), (33, .aload_n 0, 1), (34, .getfield 22, 3), (37, .tableswitch 71 1 4 #[31, 71, 37, 54], 31)], [(68, .iload_n 3, 1), (69, .ifCond .eq 43, 3), (72, .iload_n 2, 1), (73, .ireturn, 1), (74, .iload_n 2, 1), (75, .ifCond .ne 7, 3), (78, .iload_n 3, 1), (79, .goto 8, 3), (82, .iload_n 1, 1), (83, .iload_n 3, 1), (84, .invokestatic 106, 3), (87, .istore_n 1, 1), (88, .goto 24, 3), (91, .iload_n 2, 1), (92, .ifCond .ne 7, 3), (95, .iload_n 3, 1)], [(96, .goto 8, 3), (99, .iload_n 1, 1), (100, .iload_n 3, 1), (101, .invokestatic 112, 3), (104, .istore_n 1, 1), (105, .goto 7, 3), (108, .iload_n 1, 1), (109, .iload_n 3, 1), (110, .iadd, 1), (111, .istore_n 1, 1), (112, .iinc 2 1, 3), (115, .goto (-99), 3), (118, .iload_n 1, 1), (119, .ireturn, 1)]])
/-- Que.workOut -/
def mm_m72 : mm_I := ((⟨"PromisedStock$Question", "workOut", "(I)I"⟩, prog_6_method_11_code, 5, some .int), (4, 2, 1), ([4, 31, 52, 104], [], []), [[(0, .iconst 0, 1), (1, .istore_n 2, 1), (2, .iconst 0, 1), (3, .istore_n 3, 1), (4, .iload_n 3, 1), (5, .aload_n 0, 1), (6, .getfield 18, 3), (9, .if_icmp .ge 141, 3), (12, .aload_n 0, 1), (13, .getfield 9, 3), (16, .iload_n 3, 1), (17, .iaload, 1), (18, .istore 4, 2), (20, .iload 4, 2), (22, .bipush 36, 2), (24, .if_icmp .ne 28, 3), (27, .iload_n 2, 1), (28, .ifCond .le 24, 3), (31, .aload_n 0, 1)], [(32, .getfield 15, 3), (35, .iload_n 2, 1), (36, .iconst 1, 1), (37, .isub, 1), (38, .iconst 1, 1), (39, .aload_n 0, 1), (40, .getfield 15, 3), (43, .iload_n 2, 1), (44, .iconst 1, 1), (45, .isub, 1), (46, .iaload, 1), (47, .isub, 1), (48, .iastore, 1), (49, .goto 95, 3), (52, .iload 4, 2), (54, .bipush 30, 2), (56, .if_icmp .lt 48, 3), (59, .iload 4, 2), (61, .bipush 100, 2), (63, .if_icmp .ge 41, 3)], [(66, .iload_n 2, 1), (67, .iconst 1, 1), (68, .if_icmp .le 36, 3), (71, .iinc 2 (-1), 3), (74, .aload_n 0, 1), (75, .getfield 15, 3), (78, .iload_n 2, 1), (79, .iconst 1, 1), (80, .isub, 1), (81, .iload 4, 2), (83, .aload_n 0, 1), (84, .getfield 15, 3), (87, .iload_n 2, 1), (88, .iconst 1, 1), (89, .isub, 1), (90, .iaload, 1), (91, .aload_n 0, 1), (92, .getfield 15, 3), (95, .iload_n 2, 1)], [(96, .iaload, 1), (97, .invokestatic 115, 3), (100, .iastore, 1), (101, .goto 43, 3), (104, .iload_n 2, 1), (105, .aload_n 0, 1), (106, .getfield 15, 3), (109, .arraylength, 1), (110, .if_icmp .ge 34, 3), (113, .aload_n 0, 1), (114, .getfield 15, 3), (117, .iload_n 2, 1), (118, .iload 4, 2), (120, .bipush 100, 2), (122, .if_icmp .lt 11, 3), (125, .iload 4, 2), (127, .bipush 100, 2)], [(129, .isub, 1), (130, .goto 10, 3), (133, .aload_n 0, 1), (134, .iload_n 1, 1), (135, .iload 4, 2), (137, .invokevirtual 119, 3), (140, .iastore, 1), (141, .iinc 2 1, 3), (144, .iinc 3 1, 3), (147, .goto (-143), 3), (150, .aload_n 0, 1), (151, .getfield 15, 3), (154, .iconst 0, 1), (155, .iaload, 1), (156, .ireturn, 1)]])
/-- Que.joined -/
def mm_m73 : mm_I := ((⟨"PromisedStock$Question", "joined", "(III)I"⟩, prog_6_method_12_code, 3, some .int), (4, 3, 1), ([], [], []), [[(0, .iload_n 0, 1), (1, .tableswitch 96 30 37 #[47, 51, 55, 59, 70, 81, 96, 92], 47)], [(48, .iload_n 1, 1), (49, .iload_n 2, 1), (50, .imul, 1), (51, .ireturn, 1), (52, .iload_n 1, 1), (53, .iload_n 2, 1), (54, .iadd, 1), (55, .ireturn, 1), (56, .iload_n 1, 1), (57, .iload_n 2, 1), (58, .isub, 1), (59, .ireturn, 1), (60, .iload_n 1, 1), (61, .iload_n 2, 1), (62, .if_icmp .ge 7, 3)], [(65, .iconst 1, 1), (66, .goto 4, 3), (69, .iconst 0, 1), (70, .ireturn, 1), (71, .iload_n 1, 1), (72, .iload_n 2, 1), (73, .if_icmp .ne 7, 3), (76, .iconst 1, 1), (77, .goto 4, 3), (80, .iconst 0, 1), (81, .ireturn, 1), (82, .iload_n 1, 1), (83, .iload_n 2, 1), (84, .if_icmp .le 7, 3), (87, .iconst 1, 1), (88, .goto 4, 3), (91, .iconst 0, 1), (92, .ireturn, 1), (93, .iload_n 1, 1), (94, .iload_n 2, 1), (95, .iand, 1)], [(96, .ireturn, 1), (97, .iload_n 1, 1), (98, .iload_n 2, 1), (99, .ior, 1), (100, .ireturn, 1)]])
/-- Que.valueOf -/
def mm_m74 : mm_I := ((⟨"PromisedStock$Question", "valueOf", "(II)I"⟩, prog_6_method_13_code, 3, some .int), (4, 3, 1), ([], [], []), [[(0, .iload_n 2, 1), (1, .tableswitch 125 0 12 #[67, 125, 125, 125, 125, 125, 125, 125, 69, 79, 89, 99, 112], 67)], [], [(68, .iload_n 1, 1), (69, .ireturn, 1), (70, .aload_n 0, 1), (71, .getfield 32, 3), (74, .getfield 122, 3), (77, .iload_n 1, 1), (78, .iaload, 1), (79, .ireturn, 1), (80, .aload_n 0, 1), (81, .getfield 32, 3), (84, .getfield 125, 3), (87, .iload_n 1, 1), (88, .iaload, 1), (89, .ireturn, 1), (90, .aload_n 0, 1), (91, .getfield 32, 3), (94, .getfield 128, 3)], [(97, .iload_n 1, 1), (98, .iaload, 1), (99, .ireturn, 1), (100, .aload_n 0, 1), (101, .getfield 32, 3), (104, .getfield 131, 3), (107, .iload_n 1, 1), (108, .iaload, 1), (109, .invokestatic 134, 3), (112, .ireturn, 1), (113, .aload_n 0, 1), (114, .getfield 32, 3), (117, .getfield 139, 3), (120, .iload_n 1, 1), (121, .iaload, 1), (122, .invokestatic 134, 3), (125, .ireturn, 1), (126, .iload_n 2, 1), (127, .bipush 8, 2)], [(129, .if_icmp .ge 17, 3), (132, .aload_n 0, 1), (133, .getfield 32, 3), (136, .iload_n 1, 1), (137, .iload_n 2, 1), (138, .iconst 1, 1), (139, .isub, 1), (140, .invokevirtual 142, 3), (143, .goto 15, 3), (146, .aload_n 0, 1), (147, .getfield 32, 3), (150, .iload_n 1, 1), (151, .iload_n 2, 1), (152, .bipush 13, 2), (154, .isub, 1), (155, .invokevirtual 145, 3), (158, .ireturn, 1)]])
/-- Row.init -/
def mm_m75 : mm_I := ((⟨"PromisedStock$Row", "<init>", "(I)V"⟩, prog_7_method_1_code, 2, none), (5, 2, 0), ([], [], []), [[(0, .aload_n 0, 1), (1, .invokespecial 1, 3), (4, .aload_n 0, 1), (5, .iload_n 1, 1), (6, .newarray .long, 2), (8, .putfield 7, 3), (11, .aload_n 0, 1), (12, .iload_n 1, 1), (13, .newarray .long, 2), (15, .putfield 13, 3), (18, .return_, 1)]])
/-- Row.put -/
def mm_m76 : mm_I := ((⟨"PromisedStock$Row", "put", "(IJJ)V"⟩, prog_7_method_2_code, 7, none), (5, 4, 0), ([32], [], []), [[(0, .lload_n 2, 1), (1, .ldc2_w 16, 3), (4, .lcmp, 1), (5, .ifCond .ge 7, 3), (8, .iconst 1, 1), (9, .goto 4, 3), (12, .iconst 0, 1), (13, .istore 6, 2), (15, .aload_n 0, 1), (16, .getfield 7, 3), (19, .iload_n 1, 1), (20, .iload 6, 2), (22, .ifCond .eq 7, 3), (25, .lload_n 2, 1), (26, .goto 6, 3), (29, .ldc2_w 16, 3)], [(32, .lastore, 1), (33, .aload_n 0, 1), (34, .getfield 13, 3), (37, .iload_n 1, 1), (38, .iload 6, 2), (40, .ifCond .eq 8, 3), (43, .lload 4, 2), (45, .goto 4, 3), (48, .lconst 0, 1), (49, .lastore, 1), (50, .return_, 1)]])
/-- Row.lower -/
def mm_m77 : mm_I := ((⟨"PromisedStock$Row", "lower", "(IJJ)V"⟩, prog_7_method_3_code, 6, none), (5, 4, 0), ([34], [], []), [[(0, .lload_n 2, 1), (1, .aload_n 0, 1), (2, .getfield 7, 3), (5, .iload_n 1, 1), (6, .laload, 1), (7, .lcmp, 1), (8, .ifCond .lt 26, 3), (11, .lload_n 2, 1), (12, .aload_n 0, 1), (13, .getfield 7, 3), (16, .iload_n 1, 1), (17, .laload, 1), (18, .lcmp, 1), (19, .ifCond .ne 30, 3), (22, .lload 4, 2), (24, .aload_n 0, 1), (25, .getfield 13, 3), (28, .iload_n 1, 1), (29, .laload, 1), (30, .lcmp, 1), (31, .ifCond .ge 18, 3)], [(34, .aload_n 0, 1), (35, .getfield 7, 3), (38, .iload_n 1, 1), (39, .lload_n 2, 1), (40, .lastore, 1), (41, .aload_n 0, 1), (42, .getfield 13, 3), (45, .iload_n 1, 1), (46, .lload 4, 2), (48, .lastore, 1), (49, .return_, 1)]])
/-- Tel.init -/
def mm_m78 : mm_I := ((⟨"PromisedStock$Telling", "<init>", "(LPromisedStock$Tokens;LPromisedStock$Net;)V"⟩, prog_8_method_1_code, 3, none), (6, 3, 0), ([], [], []), [[(0, .aload_n 0, 1), (1, .invokespecial 3, 3), (4, .aload_n 0, 1), (5, .iconst 0, 1), (6, .putfield 9, 3), (9, .aload_n 0, 1), (10, .aload_n 1, 1), (11, .putfield 15, 3), (14, .aload_n 0, 1), (15, .aload_n 2, 1), (16, .putfield 19, 3), (19, .return_, 1)]])
/-- Tel.read -/
def mm_m79 : mm_I := ((⟨"PromisedStock$Telling", "read", "(I)I"⟩, prog_8_method_2_code, 3, some .int), (6, 2, 1), ([22], [], []), [[(0, .aload_n 0, 1), (1, .iconst 0, 1), (2, .putfield 9, 3), (5, .aload_n 0, 1), (6, .getfield 19, 3), (9, .invokevirtual 23, 3), (12, .aload_n 0, 1), (13, .getfield 15, 3), (16, .iload_n 1, 1), (17, .invokevirtual 28, 3), (20, .iconst 0, 1), (21, .istore_n 2, 1), (22, .iload_n 2, 1), (23, .sipush 400, 3), (26, .if_icmp .ge 47, 3), (29, .aload_n 0, 1), (30, .getfield 9, 3)], [(33, .ifCond .ne 40, 3), (36, .aload_n 0, 1), (37, .getfield 15, 3), (40, .getfield 34, 3), (43, .ifCond .eq 30, 3), (46, .aload_n 0, 1), (47, .invokevirtual 37, 3), (50, .ifCond .eq 17, 3), (53, .aload_n 0, 1), (54, .invokevirtual 41, 3), (57, .ifCond .eq 10, 3), (60, .aload_n 0, 1), (61, .getfield 15, 3)], [(64, .invokevirtual 44, 3), (67, .iinc 2 1, 3), (70, .goto (-48), 3), (73, .aload_n 0, 1), (74, .getfield 19, 3), (77, .invokevirtual 47, 3), (80, .aload_n 0, 1), (81, .getfield 9, 3), (84, .ireturn, 1)]])
/-- Tel.readLine -/
def mm_m80 : mm_I := ((⟨"PromisedStock$Telling", "readLine", "()Z"⟩, prog_8_method_3_code, 1, some .boolean), (6, 1, 2), ([], [], []), [[(0, .aload_n 0, 1), (1, .getfield 15, 3), (4, .ldc 50, 2), (6, .invokevirtual 52, 3), (9, .tableswitch 42 0 2 #[27, 32, 37], 27)], [(36, .aload_n 0, 1), (37, .invokevirtual 56, 3), (40, .ireturn, 1), (41, .aload_n 0, 1), (42, .invokevirtual 59, 3), (45, .ireturn, 1), (46, .aload_n 0, 1), (47, .invokevirtual 62, 3), (50, .ireturn, 1), (51, .aload_n 0, 1), (52, .iconst 1, 1), (53, .invokevirtual 65, 3), (56, .ireturn, 1)]])
/-- Tel.endLine -/
def mm_m81 : mm_I := ((⟨"PromisedStock$Telling", "endLine", "()Z"⟩, prog_8_method_4_code, 1, some .boolean), (6, 1, 2), ([], [], []), [[(0, .aload_n 0, 1), (1, .getfield 15, 3), (4, .bipush 59, 2), (6, .invokevirtual 69, 3), (9, .ifCond .ne 11, 3), (12, .aload_n 0, 1), (13, .iconst 1, 1), (14, .invokevirtual 65, 3), (17, .ifCond .eq 7, 3), (20, .iconst 1, 1), (21, .goto 4, 3), (24, .iconst 0, 1), (25, .ireturn, 1)]])
/-- Tel.readStage -/
def mm_m82 : mm_I := ((⟨"PromisedStock$Telling", "readStage", "()Z"⟩, prog_8_method_5_code, 1, some .boolean), (6, 1, 2), ([48, 68, 108], [], []), [[(0, .aload_n 0, 1), (1, .getfield 19, 3), (4, .getfield 73, 3), (7, .bipush 12, 2), (9, .if_icmp .lt 9, 3), (12, .aload_n 0, 1), (13, .iconst 5, 1), (14, .invokevirtual 65, 3), (17, .ireturn, 1), (18, .aload_n 0, 1), (19, .getfield 15, 3), (22, .invokevirtual 44, 3), (25, .aload_n 0, 1), (26, .invokevirtual 76, 3), (29, .ifCond .eq 91, 3)], [(32, .aload_n 0, 1), (33, .iconst 0, 1), (34, .invokevirtual 79, 3), (37, .ifCond .eq 83, 3), (40, .aload_n 0, 1), (41, .iconst 1, 1), (42, .invokevirtual 79, 3), (45, .ifCond .eq 75, 3), (48, .aload_n 0, 1), (49, .getfield 15, 3), (52, .ldc 82, 2), (54, .invokevirtual 84, 3), (57, .ifCond .eq 11, 3), (60, .aload_n 0, 1), (61, .iconst 2, 1), (62, .invokevirtual 79, 3)], [(65, .ifCond .eq 55, 3), (68, .aload_n 0, 1), (69, .getfield 15, 3), (72, .ldc 88, 2), (74, .invokevirtual 84, 3), (77, .ifCond .eq 19, 3), (80, .aload_n 0, 1), (81, .iconst 3, 1), (82, .invokevirtual 79, 3), (85, .ifCond .eq 35, 3), (88, .aload_n 0, 1), (89, .iconst 4, 1), (90, .invokevirtual 79, 3), (93, .ifCond .eq 27, 3)], [(96, .aload_n 0, 1), (97, .getfield 15, 3), (100, .ldc 90, 2), (102, .invokevirtual 84, 3), (105, .ifCond .eq 11, 3), (108, .aload_n 0, 1), (109, .iconst 5, 1), (110, .invokevirtual 79, 3), (113, .ifCond .eq 7, 3), (116, .iconst 1, 1), (117, .goto 4, 3), (120, .iconst 0, 1), (121, .ireturn, 1)]])
/-- Tel.readNewName -/
def mm_m83 : mm_I := ((⟨"PromisedStock$Telling", "readNewName", "()Z"⟩, prog_8_method_6_code, 3, some .boolean), (6, 1, 2), ([37], [], []), [[(0, .aload_n 0, 1), (1, .invokevirtual 92, 3), (4, .ifCond .ne 9, 3), (7, .aload_n 0, 1), (8, .iconst 1, 1), (9, .invokevirtual 65, 3), (12, .ireturn, 1), (13, .aload_n 0, 1), (14, .invokevirtual 95, 3), (17, .iconst (-1), 1), (18, .if_icmp .eq 9, 3), (21, .aload_n 0, 1), (22, .iconst 3, 1), (23, .invokevirtual 65, 3), (26, .ireturn, 1), (27, .aload_n 0, 1), (28, .getfield 19, 3), (31, .invokevirtual 99, 3)], [(34, .istore_n 1, 1), (35, .iconst 0, 1), (36, .istore_n 2, 1), (37, .iload_n 2, 1), (38, .bipush 6, 2), (40, .if_icmp .ge 41, 3), (43, .iload_n 1, 1), (44, .iconst (-1), 1), (45, .if_icmp .eq 36, 3), (48, .aload_n 0, 1), (49, .getfield 19, 3), (52, .getfield 102, 3), (55, .iload_n 1, 1), (56, .bipush 6, 2), (58, .imul, 1), (59, .iload_n 2, 1), (60, .iadd, 1), (61, .aload_n 0, 1), (62, .aload_n 0, 1), (63, .getfield 15, 3)], [(66, .getfield 106, 3), (69, .iload_n 2, 1), (70, .iadd, 1), (71, .invokevirtual 109, 3), (74, .iastore, 1), (75, .iinc 2 1, 3), (78, .goto (-41), 3), (81, .aload_n 0, 1), (82, .getfield 15, 3), (85, .invokevirtual 44, 3), (88, .iconst 1, 1), (89, .ireturn, 1)]])
/-- Tel.readTold -/
def mm_m84 : mm_I := ((⟨"PromisedStock$Telling", "readTold", "(I)Z"⟩, prog_8_method_7_code, 2, some .boolean), (6, 2, 2), ([37], [], []), [[(0, .aload_n 0, 1), (1, .getfield 15, 3), (4, .getfield 34, 3), (7, .iconst 2, 1), (8, .if_icmp .eq 9, 3), (11, .aload_n 0, 1), (12, .iconst 1, 1), (13, .invokevirtual 65, 3), (16, .ireturn, 1), (17, .iload_n 1, 1), (18, .aload_n 0, 1), (19, .getfield 15, 3), (22, .invokevirtual 113, 3), (25, .invokestatic 116, 3), (28, .ifCond .ne 9, 3), (31, .aload_n 0, 1)], [(32, .iconst 2, 1), (33, .invokevirtual 65, 3), (36, .ireturn, 1), (37, .aload_n 0, 1), (38, .getfield 19, 3), (41, .aload_n 0, 1), (42, .getfield 19, 3), (45, .getfield 73, 3), (48, .iconst 1, 1), (49, .isub, 1), (50, .iload_n 1, 1), (51, .aload_n 0, 1), (52, .getfield 15, 3), (55, .invokevirtual 113, 3), (58, .invokevirtual 120, 3), (61, .aload_n 0, 1), (62, .getfield 15, 3)], [(65, .invokevirtual 44, 3), (68, .iconst 1, 1), (69, .ireturn, 1)]])
/-- Tel.readZ -/
def mm_m85 : mm_I := ((⟨"PromisedStock$Telling", "readZ", "()Z"⟩, prog_8_method_8_code, 1, some .boolean), (6, 1, 2), ([57], [], []), [[(0, .aload_n 0, 1), (1, .getfield 15, 3), (4, .invokevirtual 44, 3), (7, .aload_n 0, 1), (8, .getfield 15, 3), (11, .getfield 34, 3), (14, .iconst 2, 1), (15, .if_icmp .eq 9, 3), (18, .aload_n 0, 1), (19, .iconst 1, 1), (20, .invokevirtual 65, 3), (23, .ireturn, 1), (24, .aload_n 0, 1), (25, .getfield 15, 3), (28, .invokevirtual 113, 3), (31, .sipush 400, 3)], [(34, .if_icmp .le 9, 3), (37, .aload_n 0, 1), (38, .iconst 2, 1), (39, .invokevirtual 65, 3), (42, .ireturn, 1), (43, .aload_n 0, 1), (44, .getfield 19, 3), (47, .aload_n 0, 1), (48, .getfield 15, 3), (51, .invokevirtual 113, 3), (54, .putfield 124, 3), (57, .aload_n 0, 1), (58, .getfield 15, 3), (61, .invokevirtual 44, 3)], [(64, .iconst 1, 1), (65, .ireturn, 1)]])
/-- Tel.readFrom -/
def mm_m86 : mm_I := ((⟨"PromisedStock$Telling", "readFrom", "()Z"⟩, prog_8_method_9_code, 3, some .boolean), (6, 1, 2), ([42], [], []), [[(0, .aload_n 0, 1), (1, .getfield 15, 3), (4, .invokevirtual 44, 3), (7, .aload_n 0, 1), (8, .invokevirtual 127, 3), (11, .ifCond .ne 5, 3), (14, .iconst 0, 1), (15, .ireturn, 1), (16, .aload_n 0, 1), (17, .invokevirtual 95, 3), (20, .istore_n 1, 1), (21, .aload_n 0, 1), (22, .getfield 15, 3), (25, .invokevirtual 44, 3), (28, .aload_n 0, 1), (29, .invokevirtual 127, 3)], [(32, .ifCond .ne 5, 3), (35, .iconst 0, 1), (36, .ireturn, 1), (37, .aload_n 0, 1), (38, .invokevirtual 95, 3), (41, .istore_n 2, 1), (42, .aload_n 0, 1), (43, .getfield 19, 3), (46, .iload_n 1, 1), (47, .iload_n 2, 1), (48, .invokevirtual 130, 3), (51, .ifCond .eq 9, 3), (54, .aload_n 0, 1), (55, .iconst 4, 1), (56, .invokevirtual 65, 3), (59, .ireturn, 1), (60, .aload_n 0, 1), (61, .getfield 19, 3)], [(64, .iload_n 1, 1), (65, .iload_n 2, 1), (66, .invokevirtual 133, 3), (69, .aload_n 0, 1), (70, .getfield 15, 3), (73, .invokevirtual 44, 3), (76, .iconst 1, 1), (77, .ireturn, 1)]])
/-- Tel.isToldName -/
def mm_m87 : mm_I := ((⟨"PromisedStock$Telling", "isToldName", "()Z"⟩, prog_8_method_10_code, 1, some .boolean), (6, 1, 2), ([], [], []), [[(0, .aload_n 0, 1), (1, .invokevirtual 92, 3), (4, .ifCond .ne 9, 3), (7, .aload_n 0, 1), (8, .iconst 1, 1), (9, .invokevirtual 65, 3), (12, .ireturn, 1), (13, .aload_n 0, 1), (14, .invokevirtual 95, 3), (17, .iconst (-1), 1), (18, .if_icmp .ne 11, 3), (21, .aload_n 0, 1), (22, .iconst 3, 1), (23, .invokevirtual 65, 3), (26, .ifCond .eq 7, 3), (29, .iconst 1, 1), (30, .goto 4, 3)], [(33, .iconst 0, 1), (34, .ireturn, 1)]])
/-- Tel.isName -/
def mm_m88 : mm_I := ((⟨"PromisedStock$Telling", "isName", "()Z"⟩, prog_8_method_11_code, 1, some .boolean), (6, 1, 2), ([], [], []), [[(0, .aload_n 0, 1), (1, .getfield 15, 3), (4, .getfield 34, 3), (7, .iconst 1, 1), (8, .if_icmp .ne 40, 3), (11, .aload_n 0, 1), (12, .getfield 15, 3), (15, .getfield 137, 3), (18, .aload_n 0, 1), (19, .getfield 15, 3), (22, .getfield 106, 3), (25, .isub, 1), (26, .bipush 6, 2), (28, .if_icmp .gt 20, 3), (31, .aload_n 0, 1)], [(32, .getfield 15, 3), (35, .ldc 140, 2), (37, .invokevirtual 52, 3), (40, .iconst (-1), 1), (41, .if_icmp .ne 7, 3), (44, .iconst 1, 1), (45, .goto 4, 3), (48, .iconst 0, 1), (49, .ireturn, 1)]])
/-- Tel.findName -/
def mm_m89 : mm_I := ((⟨"PromisedStock$Telling", "findName", "()I"⟩, prog_8_method_12_code, 4, some .int), (6, 1, 1), ([2, 17], [], []), [[(0, .iconst 0, 1), (1, .istore_n 1, 1), (2, .iload_n 1, 1), (3, .aload_n 0, 1), (4, .getfield 19, 3), (7, .getfield 73, 3), (10, .if_icmp .ge 71, 3), (13, .iconst 1, 1), (14, .istore_n 2, 1), (15, .iconst 0, 1), (16, .istore_n 3, 1), (17, .iload_n 3, 1), (18, .bipush 6, 2), (20, .if_icmp .ge 49, 3), (23, .iload_n 2, 1), (24, .ifCond .eq 37, 3), (27, .aload_n 0, 1), (28, .getfield 19, 3), (31, .getfield 102, 3)], [(34, .iload_n 1, 1), (35, .bipush 6, 2), (37, .imul, 1), (38, .iload_n 3, 1), (39, .iadd, 1), (40, .iaload, 1), (41, .aload_n 0, 1), (42, .aload_n 0, 1), (43, .getfield 15, 3), (46, .getfield 106, 3), (49, .iload_n 3, 1), (50, .iadd, 1), (51, .invokevirtual 109, 3), (54, .if_icmp .ne 7, 3), (57, .iconst 1, 1), (58, .goto 4, 3), (61, .iconst 0, 1), (62, .istore_n 2, 1), (63, .iinc 3 1, 3)], [(66, .goto (-49), 3), (69, .iload_n 2, 1), (70, .ifCond .eq 5, 3), (73, .iload_n 1, 1), (74, .ireturn, 1), (75, .iinc 1 1, 3), (78, .goto (-76), 3), (81, .iconst (-1), 1), (82, .ireturn, 1)]])
/-- Tel.letterAt -/
def mm_m90 : mm_I := ((⟨"PromisedStock$Telling", "letterAt", "(I)I"⟩, prog_8_method_13_code, 2, some .int), (6, 2, 1), ([], [], []), [[(0, .iload_n 1, 1), (1, .aload_n 0, 1), (2, .getfield 15, 3), (5, .getfield 137, 3), (8, .if_icmp .ge 20, 3), (11, .aload_n 0, 1), (12, .getfield 15, 3), (15, .getfield 142, 3), (18, .iload_n 1, 1), (19, .iaload, 1), (20, .bipush 97, 2), (22, .isub, 1), (23, .iconst 1, 1), (24, .iadd, 1), (25, .goto 4, 3), (28, .iconst 0, 1), (29, .ireturn, 1)]])
/-- Tel.refuse -/
def mm_m91 : mm_I := ((⟨"PromisedStock$Telling", "refuse", "(I)Z"⟩, prog_8_method_14_code, 2, some .boolean), (6, 2, 2), ([], [], []), [[(0, .aload_n 0, 1), (1, .iload_n 1, 1), (2, .putfield 9, 3), (5, .iconst 0, 1), (6, .ireturn, 1)]])
/-- Tok.init -/
def mm_m92 : mm_I := ((⟨"PromisedStock$Tokens", "<init>", "()V"⟩, prog_9_method_1_code, 1, none), (7, 1, 0), ([], [], []), [[(0, .aload_n 0, 1), (1, .invokespecial 3, 3), (4, .aload_n 0, 1), (5, .sipush 400, 3), (8, .newarray .int, 2), (10, .putfield 9, 3), (13, .aload_n 0, 1), (14, .iconst 0, 1), (15, .putfield 15, 3), (18, .aload_n 0, 1), (19, .iconst 0, 1), (20, .putfield 19, 3), (23, .aload_n 0, 1), (24, .iconst 0, 1), (25, .putfield 22, 3), (28, .aload_n 0, 1), (29, .iconst 0, 1), (30, .putfield 25, 3)], [(33, .aload_n 0, 1), (34, .iconst 0, 1), (35, .putfield 28, 3), (38, .return_, 1)]])
/-- Tok.put -/
def mm_m93 : mm_I := ((⟨"PromisedStock$Tokens", "put", "(I)V"⟩, prog_9_method_2_code, 3, none), (7, 2, 0), ([3, 33], [], []), [[(0, .bipush 24, 2), (2, .istore_n 2, 1), (3, .iload_n 2, 1), (4, .ifCond .lt 45, 3), (7, .aload_n 0, 1), (8, .getfield 15, 3), (11, .sipush 400, 3), (14, .if_icmp .ge 35, 3), (17, .aload_n 0, 1), (18, .getfield 9, 3), (21, .aload_n 0, 1), (22, .getfield 15, 3), (25, .iload_n 1, 1), (26, .iload_n 2, 1), (27, .iushr, 1), (28, .sipush 255, 3), (31, .iand, 1)], [(32, .iastore, 1), (33, .aload_n 0, 1), (34, .dup, 1), (35, .getfield 15, 3), (38, .iconst 1, 1), (39, .iadd, 1), (40, .putfield 15, 3), (43, .iinc 2 (-8), 3), (46, .goto (-43), 3), (49, .return_, 1)]])
/-- Tok.open -/
def mm_m94 : mm_I := ((⟨"PromisedStock$Tokens", "open", "(I)V"⟩, prog_9_method_3_code, 2, none), (7, 2, 0), ([], [], []), [[(0, .aload_n 0, 1), (1, .iload_n 1, 1), (2, .sipush 400, 3), (5, .invokestatic 31, 3), (8, .putfield 19, 3), (11, .aload_n 0, 1), (12, .iconst 0, 1), (13, .putfield 25, 3), (16, .aload_n 0, 1), (17, .invokevirtual 37, 3), (20, .return_, 1)]])
/-- Tok.advance -/
def mm_m95 : mm_I := ((⟨"PromisedStock$Tokens", "advance", "()V"⟩, prog_9_method_4_code, 1, none), (7, 1, 0), ([8, 47, 60, 88, 124], [], []), [[(0, .aload_n 0, 1), (1, .aload_n 0, 1), (2, .getfield 25, 3), (5, .putfield 22, 3), (8, .aload_n 0, 1), (9, .getfield 22, 3), (12, .aload_n 0, 1), (13, .getfield 19, 3), (16, .if_icmp .ge 44, 3), (19, .aload_n 0, 1), (20, .getfield 9, 3), (23, .aload_n 0, 1), (24, .getfield 22, 3), (27, .iaload, 1), (28, .bipush 32, 2), (30, .if_icmp .eq 17, 3)], [(33, .aload_n 0, 1), (34, .getfield 9, 3), (37, .aload_n 0, 1), (38, .getfield 22, 3), (41, .iaload, 1), (42, .bipush 10, 2), (44, .if_icmp .ne 16, 3), (47, .aload_n 0, 1), (48, .dup, 1), (49, .getfield 22, 3), (52, .iconst 1, 1), (53, .iadd, 1), (54, .putfield 22, 3), (57, .goto (-49), 3), (60, .aload_n 0, 1), (61, .aload_n 0, 1), (62, .getfield 22, 3)], [(65, .aload_n 0, 1), (66, .getfield 19, 3), (69, .if_icmp .ge 18, 3), (72, .aload_n 0, 1), (73, .getfield 9, 3), (76, .aload_n 0, 1), (77, .getfield 22, 3), (80, .iaload, 1), (81, .invokestatic 40, 3), (84, .goto 4, 3), (87, .iconst 0, 1), (88, .putfield 28, 3), (91, .aload_n 0, 1), (92, .aload_n 0, 1), (93, .getfield 22, 3)], [(96, .iconst 1, 1), (97, .iadd, 1), (98, .aload_n 0, 1), (99, .getfield 19, 3), (102, .invokestatic 31, 3), (105, .putfield 25, 3), (108, .aload_n 0, 1), (109, .getfield 28, 3), (112, .iconst 1, 1), (113, .if_icmp .eq 11, 3), (116, .aload_n 0, 1), (117, .getfield 28, 3), (120, .iconst 2, 1), (121, .if_icmp .ne 46, 3), (124, .aload_n 0, 1), (125, .getfield 25, 3)], [(128, .aload_n 0, 1), (129, .getfield 19, 3), (132, .if_icmp .ge 35, 3), (135, .aload_n 0, 1), (136, .getfield 9, 3), (139, .aload_n 0, 1), (140, .getfield 25, 3), (143, .iaload, 1), (144, .invokestatic 40, 3), (147, .aload_n 0, 1), (148, .getfield 28, 3), (151, .if_icmp .ne 16, 3), (154, .aload_n 0, 1), (155, .dup, 1), (156, .getfield 25, 3), (159, .iconst 1, 1)], [(160, .iadd, 1), (161, .putfield 25, 3), (164, .goto (-40), 3), (167, .return_, 1)]])
/-- Tok.isSign -/
def mm_m96 : mm_I := ((⟨"PromisedStock$Tokens", "isSign", "(C)Z"⟩, prog_9_method_5_code, 2, some .boolean), (7, 2, 2), ([], [], []), [[(0, .aload_n 0, 1), (1, .getfield 28, 3), (4, .iconst 3, 1), (5, .if_icmp .ne 20, 3), (8, .aload_n 0, 1), (9, .getfield 9, 3), (12, .aload_n 0, 1), (13, .getfield 22, 3), (16, .iaload, 1), (17, .iload_n 1, 1), (18, .if_icmp .ne 7, 3), (21, .iconst 1, 1), (22, .goto 4, 3), (25, .iconst 0, 1), (26, .ireturn, 1)]])
/-- Tok.skipWord -/
def mm_m97 : mm_I := ((⟨"PromisedStock$Tokens", "skipWord", "(Ljava/lang/String;)Z"⟩, prog_9_method_6_code, 3, some .boolean), (7, 2, 2), ([], [], []), [[(0, .aload_n 0, 1), (1, .aload_n 1, 1), (2, .invokevirtual 44, 3), (5, .ifCond .ne 7, 3), (8, .iconst 1, 1), (9, .goto 4, 3), (12, .iconst 0, 1), (13, .istore_n 2, 1), (14, .iload_n 2, 1), (15, .ifCond .eq 7, 3), (18, .aload_n 0, 1), (19, .invokevirtual 37, 3), (22, .iload_n 2, 1), (23, .ireturn, 1)]])
/-- Tok.among -/
def mm_m98 : mm_I := ((⟨"PromisedStock$Tokens", "among", "(Ljava/lang/String;)I"⟩, prog_9_method_7_code, 6, some .int), (7, 2, 1), ([23, 56, 102], [], []), [[(0, .aload_n 0, 1), (1, .getfield 28, 3), (4, .iconst 1, 1), (5, .if_icmp .eq 5, 3), (8, .iconst (-1), 1), (9, .ireturn, 1), (10, .iconst 0, 1), (11, .istore_n 2, 1), (12, .aload_n 0, 1), (13, .getfield 22, 3), (16, .istore_n 3, 1), (17, .iconst 1, 1), (18, .istore 4, 2), (20, .iconst 0, 1), (21, .istore 5, 2), (23, .iload 5, 2), (25, .aload_n 1, 1), (26, .invokevirtual 48, 3), (29, .if_icmp .ge 87, 3)], [(32, .aload_n 1, 1), (33, .iload 5, 2), (35, .invokevirtual 54, 3), (38, .bipush 32, 2), (40, .if_icmp .eq 44, 3), (43, .iload 4, 2), (45, .ifCond .eq 30, 3), (48, .iload_n 3, 1), (49, .aload_n 0, 1), (50, .getfield 25, 3), (53, .if_icmp .ge 22, 3), (56, .aload_n 0, 1), (57, .getfield 9, 3), (60, .iload_n 3, 1), (61, .iaload, 1), (62, .aload_n 1, 1), (63, .iload 5, 2)], [(65, .invokevirtual 54, 3), (68, .if_icmp .ne 7, 3), (71, .iconst 1, 1), (72, .goto 4, 3), (75, .iconst 0, 1), (76, .istore 4, 2), (78, .iinc 3 1, 3), (81, .goto 29, 3), (84, .iload 4, 2), (86, .ifCond .eq 13, 3), (89, .iload_n 3, 1), (90, .aload_n 0, 1), (91, .getfield 25, 3), (94, .if_icmp .ne 5, 3)], [(97, .iload_n 2, 1), (98, .ireturn, 1), (99, .iinc 2 1, 3), (102, .aload_n 0, 1), (103, .getfield 22, 3), (106, .istore_n 3, 1), (107, .iconst 1, 1), (108, .istore 4, 2), (110, .iinc 5 1, 3), (113, .goto (-90), 3), (116, .iconst (-1), 1), (117, .ireturn, 1)]])
/-- Tok.number -/
def mm_m99 : mm_I := ((⟨"PromisedStock$Tokens", "number", "()I"⟩, prog_9_method_8_code, 3, some .int), (7, 1, 1), ([7], [], []), [[(0, .iconst 0, 1), (1, .istore_n 1, 1), (2, .aload_n 0, 1), (3, .getfield 22, 3), (6, .istore_n 2, 1), (7, .iload_n 2, 1), (8, .aload_n 0, 1), (9, .getfield 25, 3), (12, .if_icmp .ge 29, 3), (15, .iload_n 1, 1), (16, .bipush 10, 2), (18, .imul, 1), (19, .aload_n 0, 1), (20, .getfield 9, 3), (23, .iload_n 2, 1), (24, .iaload, 1), (25, .iadd, 1), (26, .bipush 48, 2), (28, .isub, 1), (29, .ldc 58, 2), (31, .invokestatic 31, 3)], [(34, .istore_n 1, 1), (35, .iinc 2 1, 3), (38, .goto (-31), 3), (41, .iload_n 1, 1), (42, .ireturn, 1)]])
/-- Tok.kindOf -/
def mm_m100 : mm_I := ((⟨"PromisedStock$Tokens", "kindOf", "(I)I"⟩, prog_9_method_9_code, 1, some .int), (7, 1, 1), ([], [], []), [[(0, .iload_n 0, 1), (1, .bipush 97, 2), (3, .if_icmp .lt 11, 3), (6, .iload_n 0, 1), (7, .bipush 122, 2), (9, .if_icmp .gt 5, 3), (12, .iconst 1, 1), (13, .ireturn, 1), (14, .iload_n 0, 1), (15, .bipush 48, 2), (17, .if_icmp .lt 13, 3), (20, .iload_n 0, 1), (21, .bipush 57, 2), (23, .if_icmp .gt 7, 3), (26, .iconst 2, 1), (27, .goto 4, 3), (30, .iconst 3, 1), (31, .ireturn, 1)]])
/-- PS.init -/
def mm_m101 : mm_I := ((⟨"PromisedStock", "<init>", "()V"⟩, prog_1_method_1_code, 1, none), (8, 1, 0), ([48, 81, 127], [], []), [[(0, .aload_n 0, 1), (1, .invokespecial 1, 3), (4, .aload_n 0, 1), (5, .new 7, 3), (8, .dup, 1), (9, .invokespecial 9, 3), (12, .putfield 10, 3), (15, .aload_n 0, 1), (16, .new 16, 3), (19, .dup, 1), (20, .invokespecial 18, 3), (23, .putfield 19, 3), (26, .aload_n 0, 1), (27, .new 16, 3), (30, .dup, 1), (31, .invokespecial 18, 3)], [(34, .putfield 23, 3), (37, .aload_n 0, 1), (38, .new 16, 3), (41, .dup, 1), (42, .invokespecial 18, 3), (45, .putfield 26, 3), (48, .aload_n 0, 1), (49, .new 29, 3), (52, .dup, 1), (53, .invokespecial 31, 3), (56, .putfield 32, 3), (59, .aload_n 0, 1), (60, .new 36, 3), (63, .dup, 1)], [(64, .invokespecial 38, 3), (67, .putfield 39, 3), (70, .aload_n 0, 1), (71, .new 43, 3), (74, .dup, 1), (75, .invokespecial 45, 3), (78, .putfield 46, 3), (81, .aload_n 0, 1), (82, .new 50, 3), (85, .dup, 1), (86, .aload_n 0, 1), (87, .getfield 10, 3), (90, .aload_n 0, 1), (91, .getfield 23, 3), (94, .invokespecial 52, 3)], [(97, .putfield 55, 3), (100, .aload_n 0, 1), (101, .new 59, 3), (104, .dup, 1), (105, .aload_n 0, 1), (106, .getfield 10, 3), (109, .aload_n 0, 1), (110, .getfield 19, 3), (113, .invokespecial 61, 3), (116, .putfield 62, 3), (119, .aload_n 0, 1), (120, .bipush 21, 2), (122, .newarray .int, 2), (124, .putfield 66, 3), (127, .aload_n 0, 1)], [(128, .iconst 0, 1), (129, .putfield 70, 3), (132, .aload_n 0, 1), (133, .iconst 0, 1), (134, .putfield 74, 3), (137, .aload_n 0, 1), (138, .iconst 0, 1), (139, .putfield 77, 3), (142, .aload_n 0, 1), (143, .iconst (-1), 1), (144, .putfield 81, 3), (147, .return_, 1)]])
/-- PS.feed -/
def mm_m102 : mm_I := ((⟨"PromisedStock", "feed", "(IIIII)I"⟩, prog_1_method_2_code, 6, some .int), (8, 6, 1), ([42], [], []), [[(0, .aload_n 0, 1), (1, .getfield 10, 3), (4, .getfield 84, 3), (7, .bipush 20, 2), (9, .iadd, 1), (10, .sipush 400, 3), (13, .if_icmp .le 5, 3), (16, .iconst (-1), 1), (17, .ireturn, 1), (18, .aload_n 0, 1), (19, .getfield 10, 3), (22, .iload_n 1, 1), (23, .invokevirtual 87, 3), (26, .aload_n 0, 1), (27, .getfield 10, 3), (30, .iload_n 2, 1), (31, .invokevirtual 87, 3)], [(34, .aload_n 0, 1), (35, .getfield 10, 3), (38, .iload_n 3, 1), (39, .invokevirtual 87, 3), (42, .aload_n 0, 1), (43, .getfield 10, 3), (46, .iload 4, 2), (48, .invokevirtual 87, 3), (51, .aload_n 0, 1), (52, .getfield 10, 3), (55, .iload 5, 2), (57, .invokevirtual 87, 3), (60, .aload_n 0, 1), (61, .getfield 10, 3)], [(64, .getfield 84, 3), (67, .ireturn, 1)]])
/-- PS.network -/
def mm_m103 : mm_I := ((⟨"PromisedStock", "network", "(I)I"⟩, prog_1_method_3_code, 3, some .int), (8, 2, 1), ([59], [(15, 1)], []), [[(0, .iload_n 1, 1), (1, .ifCond .lt 14, 3), (4, .iload_n 1, 1), (5, .aload_n 0, 1), (6, .getfield 10, 3), (9, .getfield 84, 3), (12, .if_icmp .le 13, 3), (15, .new 91, 3), (18, .dup, 1), (19, .ldc 93, 2), (21, .invokespecial 95, 3), (24, .athrow, 1), (25, .aload_n 0, 1), (26, .getfield 55, 3), (29, .iload_n 1, 1), (30, .invokevirtual 98, 3)], [(33, .istore_n 2, 1), (34, .aload_n 0, 1), (35, .iload_n 2, 1), (36, .invokevirtual 102, 3), (39, .iload_n 2, 1), (40, .ifCond .eq 8, 3), (43, .bipush (-10), 2), (45, .iload_n 2, 1), (46, .isub, 1), (47, .ireturn, 1), (48, .aload_n 0, 1), (49, .getfield 19, 3), (52, .aload_n 0, 1), (53, .getfield 23, 3), (56, .invokevirtual 105, 3), (59, .aload_n 0, 1), (60, .getfield 32, 3), (63, .invokevirtual 109, 3)], [(66, .aload_n 0, 1), (67, .getfield 19, 3), (70, .getfield 112, 3), (73, .ireturn, 1)]])
/-- PS.fault -/
def mm_m104 : mm_I := ((⟨"PromisedStock", "fault", "()I"⟩, prog_1_method_4_code, 1, some .int), (8, 1, 1), ([], [], []), [[(0, .aload_n 0, 1), (1, .getfield 81, 3), (4, .ireturn, 1)]])
/-- PS.count -/
def mm_m105 : mm_I := ((⟨"PromisedStock", "count", "(I)I"⟩, prog_1_method_5_code, 2, some .int), (8, 2, 1), ([], [(108, 0)], []), [[(0, .iload_n 1, 1), (1, .tableswitch 107 0 6 #[43, 51, 59, 67, 83, 91, 99], 43)], [(44, .aload_n 0, 1), (45, .getfield 19, 3), (48, .getfield 112, 3), (51, .ireturn, 1), (52, .aload_n 0, 1), (53, .getfield 19, 3), (56, .invokevirtual 115, 3), (59, .ireturn, 1), (60, .aload_n 0, 1), (61, .getfield 19, 3)], [(64, .getfield 119, 3), (67, .ireturn, 1), (68, .aload_n 0, 1), (69, .getfield 19, 3), (72, .getfield 112, 3), (75, .aload_n 0, 1), (76, .getfield 19, 3), (79, .invokevirtual 115, 3), (82, .isub, 1), (83, .ireturn, 1), (84, .aload_n 0, 1), (85, .getfield 19, 3), (88, .invokevirtual 122, 3), (91, .ireturn, 1), (92, .aload_n 0, 1), (93, .getfield 32, 3)], [(96, .getfield 125, 3), (99, .ireturn, 1), (100, .aload_n 0, 1), (101, .getfield 10, 3), (104, .getfield 84, 3), (107, .ireturn, 1), (108, .new 128, 3), (111, .dup, 1), (112, .ldc 130, 2), (114, .invokespecial 132, 3), (117, .athrow, 1)]])
/-- PS.letter -/
def mm_m106 : mm_I := ((⟨"PromisedStock", "letter", "(II)I"⟩, prog_1_method_6_code, 3, some .int), (8, 3, 1), ([], [(15, 0)], []), [[(0, .aload_n 0, 1), (1, .iload_n 1, 1), (2, .invokevirtual 133, 3), (5, .iload_n 2, 1), (6, .ifCond .lt 9, 3), (9, .iload_n 2, 1), (10, .bipush 6, 2), (12, .if_icmp .lt 13, 3), (15, .new 128, 3), (18, .dup, 1), (19, .ldc 136, 2), (21, .invokespecial 132, 3), (24, .athrow, 1), (25, .aload_n 0, 1), (26, .getfield 19, 3), (29, .getfield 138, 3)], [(32, .iload_n 1, 1), (33, .bipush 6, 2), (35, .imul, 1), (36, .iload_n 2, 1), (37, .iadd, 1), (38, .iaload, 1), (39, .ireturn, 1)]])
/-- PS.stage -/
def mm_m107 : mm_I := ((⟨"PromisedStock", "stage", "(II)I"⟩, prog_1_method_7_code, 3, some .int), (8, 3, 1), ([], [], []), [[(0, .aload_n 0, 1), (1, .iload_n 1, 1), (2, .invokevirtual 133, 3), (5, .iload_n 2, 1), (6, .bipush 12, 2), (8, .invokestatic 141, 3), (11, .iload_n 2, 1), (12, .tableswitch 86 7 11 #[36, 46, 56, 66, 76], 36)], [(48, .aload_n 0, 1), (49, .getfield 19, 3), (52, .getfield 145, 3), (55, .iload_n 1, 1), (56, .iaload, 1), (57, .ireturn, 1), (58, .aload_n 0, 1), (59, .getfield 19, 3), (62, .getfield 148, 3)], [(65, .iload_n 1, 1), (66, .iaload, 1), (67, .ireturn, 1), (68, .aload_n 0, 1), (69, .getfield 19, 3), (72, .getfield 151, 3), (75, .iload_n 1, 1), (76, .iaload, 1), (77, .ireturn, 1), (78, .aload_n 0, 1), (79, .getfield 19, 3), (82, .getfield 154, 3), (85, .iload_n 1, 1), (86, .iaload, 1), (87, .ireturn, 1), (88, .aload_n 0, 1), (89, .getfield 19, 3), (92, .getfield 157, 3), (95, .iload_n 1, 1)], [(96, .iaload, 1), (97, .ireturn, 1), (98, .aload_n 0, 1), (99, .getfield 19, 3), (102, .iload_n 1, 1), (103, .iload_n 2, 1), (104, .invokevirtual 160, 3), (107, .ireturn, 1)]])
/-- PS.bound -/
def mm_m108 : mm_I := ((⟨"PromisedStock", "bound", "(III)I"⟩, prog_1_method_8_code, 4, some .int), (8, 4, 1), ([], [(21, 1)], []), [[(0, .aload_n 0, 1), (1, .iload_n 1, 1), (2, .invokevirtual 133, 3), (5, .iload_n 2, 1), (6, .iconst 2, 1), (7, .invokestatic 141, 3), (10, .iload_n 3, 1), (11, .ifCond .lt 10, 3), (14, .iload_n 3, 1), (15, .sipush 999, 3), (18, .if_icmp .le 13, 3), (21, .new 91, 3), (24, .dup, 1), (25, .ldc 164, 2), (27, .invokespecial 95, 3), (30, .athrow, 1), (31, .iload_n 2, 1)], [(32, .ifCond .ne 15, 3), (35, .aload_n 0, 1), (36, .getfield 19, 3), (39, .iload_n 1, 1), (40, .iload_n 3, 1), (41, .invokevirtual 166, 3), (44, .goto 12, 3), (47, .aload_n 0, 1), (48, .getfield 19, 3), (51, .iload_n 1, 1), (52, .iload_n 3, 1), (53, .invokevirtual 169, 3), (56, .ireturn, 1)]])
/-- PS.change -/
def mm_m109 : mm_I := ((⟨"PromisedStock", "change", "(III)I"⟩, prog_1_method_9_code, 4, some .int), (8, 4, 1), ([], [], []), [[(0, .iload_n 2, 1), (1, .bipush 7, 2), (3, .invokestatic 141, 3), (6, .iload_n 2, 1), (7, .bipush 6, 2), (9, .if_icmp .ne 9, 3), (12, .aload_n 0, 1), (13, .iload_n 3, 1), (14, .invokevirtual 172, 3), (17, .ireturn, 1), (18, .aload_n 0, 1), (19, .iload_n 1, 1), (20, .invokevirtual 133, 3), (23, .aload_n 0, 1), (24, .iload_n 1, 1), (25, .iload_n 2, 1), (26, .iload_n 3, 1), (27, .invokevirtual 175, 3), (30, .ireturn, 1)]])
/-- PS.add -/
def mm_m110 : mm_I := ((⟨"PromisedStock", "add", "(IZII)I"⟩, prog_1_method_10_code, 6, some .int), (8, 5, 1), ([48, 98], [], []), [[(0, .aload_n 0, 1), (1, .getfield 19, 3), (4, .getfield 112, 3), (7, .bipush 12, 2), (9, .if_icmp .ge 28, 3), (12, .aload_n 0, 1), (13, .iload_n 1, 1), (14, .invokevirtual 179, 3), (17, .ifCond .eq 20, 3), (20, .iconst 0, 1), (21, .iload_n 3, 1), (22, .invokestatic 183, 3), (25, .ifCond .eq 12, 3), (28, .iconst 1, 1), (29, .iload 4, 2), (31, .invokestatic 183, 3)], [(34, .ifCond .ne 5, 3), (37, .iconst (-1), 1), (38, .ireturn, 1), (39, .aload_n 0, 1), (40, .getfield 19, 3), (43, .invokevirtual 187, 3), (46, .istore 5, 2), (48, .aload_n 0, 1), (49, .getfield 19, 3), (52, .iload 5, 2), (54, .iconst 0, 1), (55, .iload_n 3, 1), (56, .invokevirtual 190, 3), (59, .aload_n 0, 1), (60, .getfield 19, 3), (63, .iload 5, 2)], [(65, .iconst 1, 1), (66, .iload 4, 2), (68, .invokevirtual 190, 3), (71, .iload_n 2, 1), (72, .ifCond .eq 16, 3), (75, .aload_n 0, 1), (76, .getfield 19, 3), (79, .iload 5, 2), (81, .iload_n 1, 1), (82, .invokevirtual 194, 3), (85, .goto 13, 3), (88, .aload_n 0, 1), (89, .getfield 19, 3), (92, .iload_n 1, 1), (93, .iload 5, 2), (95, .invokevirtual 194, 3)], [(98, .aload_n 0, 1), (99, .getfield 19, 3), (102, .invokevirtual 197, 3), (105, .aload_n 0, 1), (106, .getfield 32, 3), (109, .bipush 8, 2), (111, .iload 5, 2), (113, .iconst 0, 1), (114, .invokevirtual 200, 3), (117, .iload 5, 2), (119, .ireturn, 1)]])
/-- PS.supply -/
def mm_m111 : mm_I := ((⟨"PromisedStock", "supply", "(II)I"⟩, prog_1_method_11_code, 3, some .int), (8, 3, 1), ([46], [], []), [[(0, .aload_n 0, 1), (1, .iload_n 1, 1), (2, .invokevirtual 179, 3), (5, .ifCond .eq 23, 3), (8, .aload_n 0, 1), (9, .iload_n 2, 1), (10, .invokevirtual 179, 3), (13, .ifCond .eq 15, 3), (16, .aload_n 0, 1), (17, .getfield 19, 3), (20, .iload_n 1, 1), (21, .iload_n 2, 1), (22, .invokevirtual 203, 3), (25, .ifCond .eq 5, 3), (28, .iconst (-1), 1), (29, .ireturn, 1), (30, .aload_n 0, 1), (31, .getfield 19, 3)], [(34, .iload_n 1, 1), (35, .iload_n 2, 1), (36, .invokevirtual 194, 3), (39, .aload_n 0, 1), (40, .getfield 19, 3), (43, .invokevirtual 197, 3), (46, .aload_n 0, 1), (47, .getfield 32, 3), (50, .bipush 9, 2), (52, .iload_n 1, 1), (53, .iload_n 2, 1), (54, .invokevirtual 200, 3), (57, .aload_n 0, 1), (58, .getfield 19, 3), (61, .invokevirtual 115, 3)], [(64, .ireturn, 1)]])
/-- PS.pin -/
def mm_m112 : mm_I := ((⟨"PromisedStock", "pin", "(II)I"⟩, prog_1_method_12_code, 3, some .int), (8, 3, 1), ([], [], []), [[(0, .aload_n 0, 1), (1, .iload_n 1, 1), (2, .invokevirtual 133, 3), (5, .aload_n 0, 1), (6, .iload_n 1, 1), (7, .bipush 6, 2), (9, .iload_n 2, 1), (10, .invokevirtual 175, 3), (13, .ireturn, 1)]])
/-- PS.undo -/
def mm_m113 : mm_I := ((⟨"PromisedStock", "undo", "()I"⟩, prog_1_method_13_code, 2, some .int), (8, 1, 1), ([51], [], []), [[(0, .aload_n 0, 1), (1, .getfield 32, 3), (4, .getfield 125, 3), (7, .ifCond .ne 5, 3), (10, .iconst (-1), 1), (11, .ireturn, 1), (12, .aload_n 0, 1), (13, .getfield 32, 3), (16, .invokevirtual 206, 3), (19, .istore_n 1, 1), (20, .aload_n 0, 1), (21, .aload_n 0, 1), (22, .getfield 32, 3), (25, .getfield 209, 3), (28, .iload_n 1, 1), (29, .iaload, 1), (30, .aload_n 0, 1), (31, .getfield 32, 3)], [(34, .getfield 212, 3), (37, .iload_n 1, 1), (38, .iaload, 1), (39, .aload_n 0, 1), (40, .getfield 32, 3), (43, .getfield 215, 3), (46, .iload_n 1, 1), (47, .iaload, 1), (48, .invokevirtual 218, 3), (51, .aload_n 0, 1), (52, .getfield 19, 3), (55, .invokevirtual 197, 3), (58, .aload_n 0, 1), (59, .getfield 32, 3), (62, .getfield 125, 3)], [(65, .ireturn, 1)]])
/-- PS.take -/
def mm_m114 : mm_I := ((⟨"PromisedStock", "take", "(I)I"⟩, prog_1_method_14_code, 2, some .int), (8, 2, 1), ([94], [], []), [[(0, .iload_n 1, 1), (1, .ifCond .lt 8, 3), (4, .iload_n 1, 1), (5, .iconst 3, 1), (6, .if_icmp .le 5, 3), (9, .iconst (-1), 1), (10, .ireturn, 1), (11, .iload_n 1, 1), (12, .iconst 2, 1), (13, .if_icmp .ne 20, 3), (16, .aload_n 0, 1), (17, .getfield 39, 3), (20, .aload_n 0, 1), (21, .getfield 19, 3), (24, .invokevirtual 221, 3), (27, .iconst (-1), 1), (28, .if_icmp .ne 5, 3), (31, .iconst (-1), 1)], [(32, .ireturn, 1), (33, .iload_n 1, 1), (34, .tableswitch 53 1 3 #[26, 36, 43], 26), (60, .aload_n 0, 1), (61, .getfield 19, 3)], [(64, .invokevirtual 225, 3), (67, .goto 27, 3), (70, .aload_n 0, 1), (71, .invokevirtual 228, 3), (74, .goto 20, 3), (77, .aload_n 0, 1), (78, .getfield 19, 3), (81, .invokevirtual 231, 3), (84, .goto 10, 3), (87, .aload_n 0, 1), (88, .getfield 19, 3), (91, .invokevirtual 234, 3), (94, .aload_n 0, 1), (95, .getfield 19, 3)], [(98, .invokevirtual 237, 3), (101, .iconst (-1), 1), (102, .if_icmp .ne 13, 3), (105, .aload_n 0, 1), (106, .getfield 19, 3), (109, .invokevirtual 240, 3), (112, .goto 5, 3), (115, .bipush (-2), 2), (117, .ireturn, 1)]])
/-- PS.promise -/
def mm_m115 : mm_I := ((⟨"PromisedStock", "promise", "(II)I"⟩, prog_1_method_15_code, 4, some .int), (8, 3, 1), ([], [], []), [[(0, .aload_n 0, 1), (1, .iload_n 1, 1), (2, .invokevirtual 133, 3), (5, .iload_n 2, 1), (6, .invokestatic 243, 3), (9, .aload_n 0, 1), (10, .getfield 19, 3), (13, .getfield 246, 3), (16, .iload_n 1, 1), (17, .iaload, 1), (18, .istore_n 3, 1), (19, .aload_n 0, 1), (20, .getfield 19, 3), (23, .getfield 246, 3), (26, .iload_n 1, 1), (27, .iload_n 2, 1), (28, .iastore, 1), (29, .iload_n 3, 1), (30, .ireturn, 1)]])
/-- PS.planned -/
def mm_m116 : mm_I := ((⟨"PromisedStock", "planned", "(II)I"⟩, prog_1_method_16_code, 3, some .int), (8, 3, 1), ([], [], []), [[(0, .aload_n 0, 1), (1, .iload_n 1, 1), (2, .invokevirtual 133, 3), (5, .iload_n 2, 1), (6, .bipush 6, 2), (8, .invokestatic 141, 3), (11, .aload_n 0, 1), (12, .getfield 19, 3), (15, .iload_n 1, 1), (16, .iload_n 2, 1), (17, .invokevirtual 249, 3), (20, .ireturn, 1)]])
/-- PS.plan -/
def mm_m117 : mm_I := ((⟨"PromisedStock", "plan", "(I)I"⟩, prog_1_method_17_code, 2, some .int), (8, 2, 1), ([], [], []), [[(0, .iload_n 1, 1), (1, .iconst 3, 1), (2, .invokestatic 141, 3), (5, .iload_n 1, 1), (6, .lookupswitch 57 #[(0, 26), (1, 49)], 26)], [(32, .aload_n 0, 1), (33, .getfield 19, 3), (36, .invokevirtual 237, 3), (39, .iconst (-1), 1), (40, .if_icmp .ne 13, 3), (43, .aload_n 0, 1), (44, .getfield 19, 3), (47, .invokevirtual 240, 3), (50, .goto 4, 3), (53, .iconst (-1), 1), (54, .ireturn, 1), (55, .aload_n 0, 1), (56, .getfield 19, 3), (59, .invokevirtual 237, 3), (62, .ireturn, 1), (63, .aload_n 0, 1)], [(64, .getfield 19, 3), (67, .invokevirtual 252, 3), (70, .ireturn, 1)]])
/-- PS.least -/
def mm_m118 : mm_I := ((⟨"PromisedStock", "least", "()I"⟩, prog_1_method_18_code, 1, some .int), (8, 1, 1), ([], [], []), [[(0, .aload_n 0, 1), (1, .getfield 39, 3), (4, .aload_n 0, 1), (5, .getfield 19, 3), (8, .invokevirtual 221, 3), (11, .ireturn, 1)]])
/-- PS.worth -/
def mm_m119 : mm_I := ((⟨"PromisedStock", "worth", "(II)I"⟩, prog_1_method_19_code, 8, some .int), (8, 3, 1), ([29, 52, 81], [], []), [[(0, .aload_n 0, 1), (1, .iload_n 1, 1), (2, .invokevirtual 133, 3), (5, .iload_n 2, 1), (6, .iconst 3, 1), (7, .invokestatic 141, 3), (10, .iload_n 2, 1), (11, .ifCond .ne 7, 3), (14, .iconst 0, 1), (15, .goto 14, 3), (18, .iload_n 2, 1), (19, .iconst 1, 1), (20, .if_icmp .ne 7, 3), (23, .iconst 5, 1), (24, .goto 5, 3), (27, .bipush 6, 2), (29, .istore_n 3, 1), (30, .aload_n 0, 1), (31, .getfield 19, 3)], [(34, .iload_n 1, 1), (35, .iload_n 3, 1), (36, .invokevirtual 160, 3), (39, .istore 4, 2), (41, .iload 4, 2), (43, .iload_n 2, 1), (44, .ifCond .ne 7, 3), (47, .iconst 0, 1), (48, .goto 4, 3), (51, .iconst (-1), 1), (52, .if_icmp .ne 5, 3), (55, .iconst 0, 1), (56, .ireturn, 1), (57, .iload_n 2, 1), (58, .ifCond .ne 10, 3), (61, .iload 4, 2), (63, .iconst 1, 1)], [(64, .isub, 1), (65, .goto 16, 3), (68, .iload_n 2, 1), (69, .iconst 1, 1), (70, .if_icmp .ne 10, 3), (73, .iload 4, 2), (75, .iconst 1, 1), (76, .iadd, 1), (77, .goto 4, 3), (80, .iconst (-1), 1), (81, .istore 5, 2), (83, .aload_n 0, 1), (84, .getfield 39, 3), (87, .aload_n 0, 1), (88, .getfield 19, 3), (91, .invokevirtual 221, 3), (94, .istore 6, 2)], [(96, .aload_n 0, 1), (97, .iload_n 1, 1), (98, .iload_n 3, 1), (99, .iload 5, 2), (101, .invokevirtual 255, 3), (104, .istore 7, 2), (106, .iload 6, 2), (108, .iconst (-1), 1), (109, .if_icmp .eq 9, 3), (112, .iload 7, 2), (114, .iconst (-1), 1), (115, .if_icmp .ne 9, 3), (118, .ldc_w 258, 3), (121, .goto 8, 3), (124, .iload 6, 2), (126, .iload 7, 2)], [(128, .isub, 1), (129, .ireturn, 1)]])
/-- PS.even -/
def mm_m120 : mm_I := ((⟨"PromisedStock", "even", "(I)I"⟩, prog_1_method_20_code, 2, some .int), (8, 2, 1), ([], [(10, 1)], []), [[(0, .iload_n 1, 1), (1, .ifCond .lt 9, 3), (4, .iload_n 1, 1), (5, .bipush 20, 2), (7, .if_icmp .le 14, 3), (10, .new 91, 3), (13, .dup, 1), (14, .ldc_w 259, 3), (17, .invokespecial 95, 3), (20, .athrow, 1), (21, .aload_n 0, 1), (22, .iload_n 1, 1), (23, .invokevirtual 261, 3), (26, .ireturn, 1)]])
/-- PS.budget -/
def mm_m121 : mm_I := ((⟨"PromisedStock", "budget", "(I)I"⟩, prog_1_method_21_code, 4, some .int), (8, 2, 1), ([2], [], []), [[(0, .iconst 0, 1), (1, .istore_n 2, 1), (2, .iload_n 2, 1), (3, .bipush 20, 2), (5, .if_icmp .gt 27, 3), (8, .aload_n 0, 1), (9, .iload_n 2, 1), (10, .invokevirtual 261, 3), (13, .istore_n 3, 1), (14, .iload_n 3, 1), (15, .iconst (-1), 1), (16, .if_icmp .eq 10, 3), (19, .iload_n 3, 1), (20, .iload_n 1, 1), (21, .if_icmp .gt 5, 3), (24, .iload_n 2, 1), (25, .ireturn, 1), (26, .iinc 2 1, 3), (29, .goto (-27), 3)], [(32, .iconst (-1), 1), (33, .ireturn, 1)]])
/-- PS.pinned -/
def mm_m122 : mm_I := ((⟨"PromisedStock", "pinned", "(II)I"⟩, prog_1_method_22_code, 3, some .int), (8, 3, 1), ([], [], []), [[(0, .aload_n 0, 1), (1, .iload_n 1, 1), (2, .invokevirtual 133, 3), (5, .iload_n 2, 1), (6, .invokestatic 243, 3), (9, .aload_n 0, 1), (10, .iload_n 1, 1), (11, .bipush 6, 2), (13, .iload_n 2, 1), (14, .invokevirtual 255, 3), (17, .ireturn, 1)]])
/-- PS.demand -/
def mm_m123 : mm_I := ((⟨"PromisedStock", "demand", "(III)I"⟩, prog_1_method_23_code, 6, some .int), (8, 4, 1), ([51], [(20, 1)], []), [[(0, .aload_n 0, 1), (1, .iload_n 1, 1), (2, .invokevirtual 133, 3), (5, .iload_n 2, 1), (6, .invokestatic 264, 3), (9, .iload_n 3, 1), (10, .ifCond .lt 10, 3), (13, .iload_n 3, 1), (14, .sipush 999, 3), (17, .if_icmp .le 14, 3), (20, .new 91, 3), (23, .dup, 1), (24, .ldc_w 267, 3), (27, .invokespecial 95, 3), (30, .athrow, 1), (31, .iload_n 1, 1)], [(32, .bipush 40, 2), (34, .imul, 1), (35, .iload_n 2, 1), (36, .iadd, 1), (37, .istore 4, 2), (39, .aload_n 0, 1), (40, .getfield 19, 3), (43, .getfield 269, 3), (46, .iload 4, 2), (48, .iaload, 1), (49, .istore 5, 2), (51, .aload_n 0, 1), (52, .getfield 19, 3), (55, .getfield 269, 3), (58, .iload 4, 2), (60, .iload_n 3, 1), (61, .iastore, 1), (62, .iload 5, 2)], [(64, .ireturn, 1)]])
/-- PS.drawn -/
def mm_m124 : mm_I := ((⟨"PromisedStock", "drawn", "(II)I"⟩, prog_1_method_24_code, 8, some .int), (8, 3, 1), ([28, 68], [], []), [[(0, .aload_n 0, 1), (1, .iload_n 1, 1), (2, .invokevirtual 133, 3), (5, .iconst 2, 1), (6, .aload_n 0, 1), (7, .getfield 19, 3), (10, .iload_n 1, 1), (11, .iconst 3, 1), (12, .invokevirtual 160, 3), (15, .imul, 1), (16, .iconst 1, 1), (17, .iadd, 1), (18, .istore_n 3, 1), (19, .iload_n 2, 1), (20, .istore 4, 2), (22, .iconst 0, 1), (23, .istore 5, 2), (25, .iconst 0, 1), (26, .istore 6, 2), (28, .iload 6, 2), (30, .bipush 40, 2)], [(32, .if_icmp .ge 66, 3), (35, .iload 4, 2), (37, .ldc_w 272, 3), (40, .imul, 1), (41, .sipush 12345, 3), (44, .iadd, 1), (45, .istore 4, 2), (47, .iload_n 3, 1), (48, .ifCond .le 17, 3), (51, .iload 4, 2), (53, .bipush 16, 2), (55, .iushr, 1), (56, .sipush 32767, 3), (59, .iand, 1), (60, .iload_n 3, 1), (61, .irem, 1), (62, .goto 4, 3)], [(65, .iconst 0, 1), (66, .istore 7, 2), (68, .aload_n 0, 1), (69, .getfield 19, 3), (72, .getfield 269, 3), (75, .iload_n 1, 1), (76, .bipush 40, 2), (78, .imul, 1), (79, .iload 6, 2), (81, .iadd, 1), (82, .iload 7, 2), (84, .iastore, 1), (85, .iload 5, 2), (87, .iload 7, 2), (89, .iadd, 1), (90, .istore 5, 2), (92, .iinc 6 1, 3), (95, .goto (-67), 3)], [(98, .iload 5, 2), (100, .ireturn, 1)]])
/-- PS.day -/
def mm_m125 : mm_I := ((⟨"PromisedStock", "day", "(III)I"⟩, prog_1_method_25_code, 4, some .int), (8, 4, 1), ([52, 67, 77, 93, 102, 114], [], []), [[(0, .aload_n 0, 1), (1, .iload_n 1, 1), (2, .invokevirtual 133, 3), (5, .iload_n 2, 1), (6, .invokestatic 264, 3), (9, .iload_n 3, 1), (10, .iconst 4, 1), (11, .invokestatic 141, 3), (14, .aload_n 0, 1), (15, .getfield 46, 3), (18, .aload_n 0, 1), (19, .getfield 19, 3), (22, .iload_n 1, 1), (23, .invokevirtual 273, 3), (26, .iload_n 3, 1), (27, .tableswitch 75 0 2 #[25, 40, 50], 25)], [(52, .aload_n 0, 1), (53, .getfield 19, 3), (56, .getfield 269, 3), (59, .iload_n 1, 1), (60, .bipush 40, 2), (62, .imul, 1), (63, .iload_n 2, 1)], [(64, .iadd, 1), (65, .iaload, 1), (66, .ireturn, 1), (67, .aload_n 0, 1), (68, .getfield 46, 3), (71, .iload_n 2, 1), (72, .iload_n 2, 1), (73, .invokevirtual 277, 3), (76, .ireturn, 1), (77, .aload_n 0, 1), (78, .getfield 46, 3), (81, .getfield 280, 3), (84, .ifCond .ge 9, 3), (87, .ldc_w 258, 3), (90, .goto 11, 3), (93, .aload_n 0, 1), (94, .getfield 46, 3)], [(97, .iload_n 2, 1), (98, .invokevirtual 283, 3), (101, .ireturn, 1), (102, .aload_n 0, 1), (103, .getfield 46, 3), (106, .aload_n 0, 1), (107, .getfield 19, 3), (110, .iload_n 1, 1), (111, .invokevirtual 286, 3), (114, .aload_n 0, 1), (115, .getfield 46, 3), (118, .iload_n 2, 1), (119, .invokevirtual 289, 3), (122, .ireturn, 1)]])
/-- PS.days -/
def mm_m126 : mm_I := ((⟨"PromisedStock", "days", "(II)I"⟩, prog_1_method_26_code, 3, some .int), (8, 3, 1), ([39, 57, 69, 73, 83], [], []), [[(0, .aload_n 0, 1), (1, .iload_n 1, 1), (2, .invokevirtual 133, 3), (5, .iload_n 2, 1), (6, .iconst 3, 1), (7, .invokestatic 141, 3), (10, .aload_n 0, 1), (11, .getfield 46, 3), (14, .aload_n 0, 1), (15, .getfield 19, 3), (18, .iload_n 1, 1), (19, .invokevirtual 273, 3), (22, .iload_n 2, 1), (23, .iconst 1, 1), (24, .if_icmp .ne 23, 3), (27, .aload_n 0, 1), (28, .getfield 46, 3), (31, .aload_n 0, 1)], [(32, .getfield 19, 3), (35, .iload_n 1, 1), (36, .invokevirtual 286, 3), (39, .aload_n 0, 1), (40, .getfield 46, 3), (43, .invokevirtual 292, 3), (46, .ireturn, 1), (47, .aload_n 0, 1), (48, .getfield 46, 3), (51, .getfield 280, 3), (54, .ifCond .ge 15, 3), (57, .iload_n 2, 1), (58, .ifCond .ne 7, 3), (61, .iconst (-1), 1), (62, .goto 6, 3)], [(65, .ldc_w 258, 3), (68, .ireturn, 1), (69, .iload_n 2, 1), (70, .ifCond .ne 13, 3), (73, .aload_n 0, 1), (74, .getfield 46, 3), (77, .invokevirtual 295, 3), (80, .goto 10, 3), (83, .aload_n 0, 1), (84, .getfield 46, 3), (87, .invokevirtual 298, 3), (90, .ireturn, 1)]])
/-- PS.ask -/
def mm_m127 : mm_I := ((⟨"PromisedStock", "ask", "(I)I"⟩, prog_1_method_27_code, 3, some .int), (8, 2, 1), ([47, 51], [(22, 1)], []), [[(0, .iload_n 1, 1), (1, .ifCond .lt 21, 3), (4, .iload_n 1, 1), (5, .sipush 200, 3), (8, .if_icmp .gt 14, 3), (11, .iload_n 1, 1), (12, .aload_n 0, 1), (13, .getfield 10, 3), (16, .getfield 84, 3), (19, .if_icmp .le 14, 3), (22, .new 91, 3), (25, .dup, 1), (26, .ldc_w 301, 3), (29, .invokespecial 95, 3)], [(32, .athrow, 1), (33, .aload_n 0, 1), (34, .getfield 62, 3), (37, .iload_n 1, 1), (38, .invokevirtual 303, 3), (41, .istore_n 2, 1), (42, .aload_n 0, 1), (43, .iload_n 2, 1), (44, .invokevirtual 102, 3), (47, .iload_n 2, 1), (48, .ifCond .ne 13, 3), (51, .aload_n 0, 1), (52, .getfield 62, 3), (55, .invokevirtual 304, 3), (58, .goto 8, 3), (61, .ldc_w 307, 3)], [(64, .iload_n 2, 1), (65, .isub, 1), (66, .ireturn, 1)]])
/-- PS.chain -/
def mm_m128 : mm_I := ((⟨"PromisedStock", "chain", "(II)I"⟩, prog_1_method_28_code, 6, some .int), (8, 3, 1), ([13], [(56, 0)], []), [[(0, .aload_n 0, 1), (1, .iload_n 1, 1), (2, .invokevirtual 133, 3), (5, .iload_n 1, 1), (6, .istore_n 3, 1), (7, .iconst 0, 1), (8, .istore 4, 2), (10, .iconst 0, 1), (11, .istore 5, 2), (13, .iload 5, 2), (15, .bipush 12, 2), (17, .if_icmp .ge 34, 3), (20, .iload_n 3, 1), (21, .iconst (-1), 1), (22, .if_icmp .eq 29, 3), (25, .iload 4, 2), (27, .iload_n 2, 1), (28, .if_icmp .ne 5, 3), (31, .iload_n 3, 1)], [(32, .ireturn, 1), (33, .iinc 4 1, 3), (36, .aload_n 0, 1), (37, .getfield 19, 3), (40, .iload_n 3, 1), (41, .invokevirtual 308, 3), (44, .istore_n 3, 1), (45, .iinc 5 1, 3), (48, .goto (-35), 3), (51, .iload_n 2, 1), (52, .iconst (-1), 1), (53, .if_icmp .eq 14, 3), (56, .new 128, 3), (59, .dup, 1), (60, .ldc_w 311, 3), (63, .invokespecial 132, 3)], [(66, .athrow, 1), (67, .iload 4, 2), (69, .ireturn, 1)]])
/-- PS.frontier -/
def mm_m129 : mm_I := ((⟨"PromisedStock", "frontier", "(I)I"⟩, prog_1_method_29_code, 6, some .int), (8, 2, 1), ([29, 64], [(11, 0), (86, 0)], []), [[(0, .iload_n 1, 1), (1, .iconst (-1), 1), (2, .if_icmp .lt 9, 3), (5, .iload_n 1, 1), (6, .bipush 20, 2), (8, .if_icmp .le 14, 3), (11, .new 128, 3), (14, .dup, 1), (15, .ldc_w 313, 3), (18, .invokespecial 132, 3), (21, .athrow, 1), (22, .iconst 0, 1), (23, .istore_n 2, 1), (24, .iconst (-1), 1), (25, .istore_n 3, 1), (26, .iconst 0, 1), (27, .istore 4, 2), (29, .iload 4, 2), (31, .bipush 20, 2)], [(33, .if_icmp .gt 48, 3), (36, .aload_n 0, 1), (37, .iload 4, 2), (39, .invokevirtual 261, 3), (42, .istore 5, 2), (44, .iload 5, 2), (46, .iconst (-1), 1), (47, .if_icmp .eq 28, 3), (50, .iload_n 3, 1), (51, .iconst (-1), 1), (52, .if_icmp .eq 9, 3), (55, .iload 5, 2), (57, .iload_n 3, 1), (58, .if_icmp .ge 17, 3), (61, .iload 5, 2), (63, .istore_n 3, 1)], [(64, .iload_n 2, 1), (65, .iload_n 1, 1), (66, .if_icmp .ne 6, 3), (69, .iload 4, 2), (71, .ireturn, 1), (72, .iinc 2 1, 3), (75, .iinc 4 1, 3), (78, .goto (-49), 3), (81, .iload_n 1, 1), (82, .iconst (-1), 1), (83, .if_icmp .eq 14, 3), (86, .new 128, 3), (89, .dup, 1), (90, .ldc_w 313, 3), (93, .invokespecial 132, 3)], [(96, .athrow, 1), (97, .iload_n 2, 1), (98, .ireturn, 1)]])
/-- PS.image -/
def mm_m130 : mm_I := ((⟨"PromisedStock", "image", "()V"⟩, prog_1_method_30_code, 1, none), (8, 1, 0), ([], [], []), [[(0, .aload_n 0, 1), (1, .getfield 26, 3), (4, .aload_n 0, 1), (5, .getfield 19, 3), (8, .invokevirtual 105, 3), (11, .aload_n 0, 1), (12, .iconst 1, 1), (13, .putfield 77, 3), (16, .return_, 1)]])
/-- PS.back -/
def mm_m131 : mm_I := ((⟨"PromisedStock", "back", "()Z"⟩, prog_1_method_31_code, 1, some .boolean), (8, 1, 2), ([], [], []), [[(0, .aload_n 0, 1), (1, .getfield 77, 3), (4, .ifCond .ne 5, 3), (7, .iconst 0, 1), (8, .ireturn, 1), (9, .aload_n 0, 1), (10, .getfield 19, 3), (13, .aload_n 0, 1), (14, .getfield 26, 3), (17, .invokevirtual 105, 3), (20, .aload_n 0, 1), (21, .getfield 32, 3), (24, .invokevirtual 109, 3), (27, .iconst 1, 1), (28, .ireturn, 1)]])
/-- PS.isStage -/
def mm_m132 : mm_I := ((⟨"PromisedStock", "isStage", "(I)Z"⟩, prog_1_method_32_code, 2, some .boolean), (8, 2, 2), ([], [], []), [[(0, .iload_n 1, 1), (1, .ifCond .lt 18, 3), (4, .iload_n 1, 1), (5, .aload_n 0, 1), (6, .getfield 19, 3), (9, .getfield 112, 3), (12, .if_icmp .ge 7, 3), (15, .iconst 1, 1), (16, .goto 4, 3), (19, .iconst 0, 1), (20, .ireturn, 1)]])
/-- PS.checkStage -/
def mm_m133 : mm_I := ((⟨"PromisedStock", "checkStage", "(I)V"⟩, prog_1_method_33_code, 2, none), (8, 2, 0), ([], [(8, 0)], []), [[(0, .aload_n 0, 1), (1, .iload_n 1, 1), (2, .invokevirtual 179, 3), (5, .ifCond .ne 14, 3), (8, .new 128, 3), (11, .dup, 1), (12, .ldc_w 315, 3), (15, .invokespecial 132, 3), (18, .athrow, 1), (19, .return_, 1)]])
/-- PS.checkWhat -/
def mm_m134 : mm_I := ((⟨"PromisedStock", "checkWhat", "(II)V"⟩, prog_1_method_34_code, 2, none), (8, 2, 0), ([], [(9, 0)], []), [[(0, .iload_n 0, 1), (1, .ifCond .lt 8, 3), (4, .iload_n 0, 1), (5, .iload_n 1, 1), (6, .if_icmp .lt 14, 3), (9, .new 128, 3), (12, .dup, 1), (13, .ldc_w 317, 3), (16, .invokespecial 132, 3), (19, .athrow, 1), (20, .return_, 1)]])
/-- PS.checkDay -/
def mm_m135 : mm_I := ((⟨"PromisedStock", "checkDay", "(I)V"⟩, prog_1_method_35_code, 1, none), (8, 1, 0), ([], [(10, 0)], []), [[(0, .iload_n 0, 1), (1, .ifCond .lt 9, 3), (4, .iload_n 0, 1), (5, .bipush 40, 2), (7, .if_icmp .lt 14, 3), (10, .new 128, 3), (13, .dup, 1), (14, .ldc_w 319, 3), (17, .invokespecial 132, 3), (20, .athrow, 1), (21, .return_, 1)]])
/-- PS.checkTime -/
def mm_m136 : mm_I := ((⟨"PromisedStock", "checkTime", "(I)V"⟩, prog_1_method_36_code, 1, none), (8, 1, 0), ([], [(10, 1)], []), [[(0, .iload_n 0, 1), (1, .ifCond .lt 9, 3), (4, .iload_n 0, 1), (5, .bipush 120, 2), (7, .if_icmp .lt 14, 3), (10, .new 91, 3), (13, .dup, 1), (14, .ldc_w 321, 3), (17, .invokespecial 95, 3), (20, .athrow, 1), (21, .return_, 1)]])
/-- PS.fits -/
def mm_m137 : mm_I := ((⟨"PromisedStock", "fits", "(II)Z"⟩, prog_1_method_37_code, 3, some .boolean), (8, 2, 2), ([16], [], []), [[(0, .iload_n 0, 1), (1, .iconst 5, 1), (2, .if_icmp .eq 9, 3), (5, .iload_n 0, 1), (6, .bipush 6, 2), (8, .if_icmp .ne 7, 3), (11, .iconst (-1), 1), (12, .goto 4, 3), (15, .iconst 0, 1), (16, .istore_n 2, 1), (17, .iload_n 0, 1), (18, .ifCond .lt 29, 3), (21, .iload_n 0, 1), (22, .getstatic 323, 3), (25, .arraylength, 1), (26, .if_icmp .ge 21, 3), (29, .iload_n 1, 1), (30, .iload_n 2, 1), (31, .if_icmp .lt 16, 3)], [(34, .iload_n 1, 1), (35, .getstatic 323, 3), (38, .iload_n 0, 1), (39, .iaload, 1), (40, .if_icmp .gt 7, 3), (43, .iconst 1, 1), (44, .goto 4, 3), (47, .iconst 0, 1), (48, .ireturn, 1)]])
/-- PS.endReading -/
def mm_m138 : mm_I := ((⟨"PromisedStock", "endReading", "(I)V"⟩, prog_1_method_38_code, 2, none), (8, 2, 0), ([], [], []), [[(0, .aload_n 0, 1), (1, .iload_n 1, 1), (2, .ifCond .ne 7, 3), (5, .iconst (-1), 1), (6, .goto 10, 3), (9, .aload_n 0, 1), (10, .getfield 10, 3), (13, .getfield 326, 3), (16, .putfield 81, 3), (19, .aload_n 0, 1), (20, .getfield 10, 3), (23, .iconst 0, 1), (24, .putfield 84, 3), (27, .return_, 1)]])
/-- PS.changeZ -/
def mm_m139 : mm_I := ((⟨"PromisedStock", "changeZ", "(I)I"⟩, prog_1_method_39_code, 3, some .int), (8, 2, 1), ([45], [(11, 1)], []), [[(0, .iload_n 1, 1), (1, .ifCond .lt 10, 3), (4, .iload_n 1, 1), (5, .sipush 400, 3), (8, .if_icmp .le 14, 3), (11, .new 91, 3), (14, .dup, 1), (15, .ldc_w 329, 3), (18, .invokespecial 95, 3), (21, .athrow, 1), (22, .aload_n 0, 1), (23, .getfield 19, 3), (26, .getfield 119, 3), (29, .istore_n 2, 1), (30, .aload_n 0, 1), (31, .getfield 19, 3)], [(34, .iload_n 1, 1), (35, .putfield 119, 3), (38, .aload_n 0, 1), (39, .getfield 19, 3), (42, .invokevirtual 197, 3), (45, .aload_n 0, 1), (46, .getfield 32, 3), (49, .bipush 7, 2), (51, .iconst 0, 1), (52, .iload_n 2, 1), (53, .invokevirtual 200, 3), (56, .iload_n 2, 1), (57, .ireturn, 1)]])
/-- PS.changeTold -/
def mm_m140 : mm_I := ((⟨"PromisedStock", "changeTold", "(III)I"⟩, prog_1_method_40_code, 5, some .int), (8, 4, 1), ([47], [(8, 1)], []), [[(0, .iload_n 2, 1), (1, .iload_n 3, 1), (2, .invokestatic 183, 3), (5, .ifCond .ne 14, 3), (8, .new 91, 3), (11, .dup, 1), (12, .ldc_w 331, 3), (15, .invokespecial 95, 3), (18, .athrow, 1), (19, .aload_n 0, 1), (20, .getfield 19, 3), (23, .iload_n 1, 1), (24, .iload_n 2, 1), (25, .invokevirtual 160, 3), (28, .istore 4, 2), (30, .aload_n 0, 1), (31, .getfield 19, 3)], [(34, .iload_n 1, 1), (35, .iload_n 2, 1), (36, .iload_n 3, 1), (37, .invokevirtual 190, 3), (40, .aload_n 0, 1), (41, .getfield 19, 3), (44, .invokevirtual 197, 3), (47, .aload_n 0, 1), (48, .getfield 32, 3), (51, .iload_n 2, 1), (52, .iload_n 1, 1), (53, .iload 4, 2), (55, .invokevirtual 200, 3), (58, .iload 4, 2), (60, .ireturn, 1)]])
/-- PS.takeBack -/
def mm_m141 : mm_I := ((⟨"PromisedStock", "takeBack", "(III)V"⟩, prog_1_method_41_code, 4, none), (8, 4, 0), ([], [], []), [[(0, .iload_n 1, 1), (1, .tableswitch 60 7 9 #[27, 38, 48], 27), (28, .aload_n 0, 1), (29, .getfield 19, 3)], [(32, .iload_n 3, 1), (33, .putfield 119, 3), (36, .goto 35, 3), (39, .aload_n 0, 1), (40, .getfield 19, 3), (43, .invokevirtual 333, 3), (46, .goto 25, 3), (49, .aload_n 0, 1), (50, .getfield 19, 3), (53, .iload_n 2, 1), (54, .iload_n 3, 1), (55, .invokevirtual 336, 3), (58, .goto 13, 3), (61, .aload_n 0, 1), (62, .getfield 19, 3)], [(65, .iload_n 2, 1), (66, .iload_n 1, 1), (67, .iload_n 3, 1), (68, .invokevirtual 190, 3), (71, .return_, 1)]])
/-- PS.takeBest -/
def mm_m142 : mm_I := ((⟨"PromisedStock", "takeBest", "()V"⟩, prog_1_method_42_code, 2, none), (8, 1, 0), ([2], [], []), [[(0, .iconst 0, 1), (1, .istore_n 1, 1), (2, .iload_n 1, 1), (3, .aload_n 0, 1), (4, .getfield 19, 3), (7, .getfield 112, 3), (10, .if_icmp .ge 26, 3), (13, .aload_n 0, 1), (14, .getfield 19, 3), (17, .getfield 246, 3), (20, .iload_n 1, 1), (21, .aload_n 0, 1), (22, .getfield 39, 3), (25, .iload_n 1, 1), (26, .invokevirtual 339, 3), (29, .iastore, 1), (30, .iinc 1 1, 3)], [(33, .goto (-31), 3), (36, .return_, 1)]])
/-- PS.priceWith -/
def mm_m143 : mm_I := ((⟨"PromisedStock", "priceWith", "(III)I"⟩, prog_1_method_43_code, 4, some .int), (8, 4, 1), ([], [], []), [[(0, .aload_n 0, 1), (1, .getfield 23, 3), (4, .aload_n 0, 1), (5, .getfield 19, 3), (8, .invokevirtual 342, 3), (11, .aload_n 0, 1), (12, .getfield 23, 3), (15, .iload_n 1, 1), (16, .iload_n 2, 1), (17, .iload_n 3, 1), (18, .invokevirtual 190, 3), (21, .aload_n 0, 1), (22, .getfield 23, 3), (25, .invokevirtual 197, 3), (28, .aload_n 0, 1), (29, .getfield 39, 3)], [(32, .aload_n 0, 1), (33, .getfield 23, 3), (36, .invokevirtual 221, 3), (39, .ireturn, 1)]])
/-- PS.evenPrice -/
def mm_m144 : mm_I := ((⟨"PromisedStock", "evenPrice", "(I)I"⟩, prog_1_method_44_code, 3, some .int), (8, 2, 1), ([41, 54, 126], [], []), [[(0, .aload_n 0, 1), (1, .getfield 74, 3), (4, .aload_n 0, 1), (5, .getfield 19, 3), (8, .getfield 345, 3), (11, .if_icmp .eq 19, 3), (14, .aload_n 0, 1), (15, .aload_n 0, 1), (16, .getfield 19, 3), (19, .getfield 345, 3), (22, .putfield 74, 3), (25, .aload_n 0, 1), (26, .iconst 0, 1), (27, .putfield 70, 3), (30, .aload_n 0, 1), (31, .getfield 70, 3)], [(34, .iload_n 1, 1), (35, .invokestatic 348, 3), (38, .ifCond .ne 88, 3), (41, .aload_n 0, 1), (42, .getfield 23, 3), (45, .aload_n 0, 1), (46, .getfield 19, 3), (49, .invokevirtual 342, 3), (52, .iconst 0, 1), (53, .istore_n 2, 1), (54, .iload_n 2, 1), (55, .aload_n 0, 1), (56, .getfield 23, 3), (59, .getfield 112, 3), (62, .if_icmp .ge 35, 3)], [(65, .aload_n 0, 1), (66, .getfield 23, 3), (69, .iload_n 2, 1), (70, .iconst 5, 1), (71, .aload_n 0, 1), (72, .getfield 23, 3), (75, .getfield 157, 3), (78, .iload_n 2, 1), (79, .iaload, 1), (80, .ifCond .ne 7, 3), (83, .iload_n 1, 1), (84, .goto 4, 3), (87, .iconst (-1), 1), (88, .invokevirtual 190, 3), (91, .iinc 2 1, 3), (94, .goto (-40), 3)], [(97, .aload_n 0, 1), (98, .getfield 66, 3), (101, .iload_n 1, 1), (102, .aload_n 0, 1), (103, .getfield 39, 3), (106, .aload_n 0, 1), (107, .getfield 23, 3), (110, .invokevirtual 221, 3), (113, .iastore, 1), (114, .aload_n 0, 1), (115, .dup, 1), (116, .getfield 70, 3), (119, .iconst 1, 1), (120, .iload_n 1, 1), (121, .ishl, 1), (122, .ior, 1), (123, .putfield 70, 3), (126, .aload_n 0, 1), (127, .getfield 66, 3)], [(130, .iload_n 1, 1), (131, .iaload, 1), (132, .ireturn, 1)]])
/-- Mod.thrown -/
def mm_m145 : mm_I := ((⟨"PromisedStockModel", "thrown", "()I"⟩, prog_11_method_1_code, 1, some .int), (9, 1, 1), ([], [], []), [[(0, .aload_n 0, 1), (1, .getfield 1, 3), (4, .ireturn, 1)]])
/-- Mod.fail -/
def mm_m146 : mm_I := ((⟨"PromisedStockModel", "fail", "(I)I"⟩, prog_11_method_2_code, 2, some .int), (9, 2, 1), ([], [], []), [[(0, .aload_n 0, 1), (1, .iload_n 1, 1), (2, .putfield 1, 3), (5, .iconst 0, 1), (6, .ireturn, 1)]])
/-- Mod.isIn -/
def mm_m147 : mm_I := ((⟨"PromisedStockModel", "isIn", "(III)Z"⟩, prog_11_method_3_code, 3, some .boolean), (9, 3, 2), ([], [], []), [[(0, .iload_n 0, 1), (1, .iload_n 1, 1), (2, .if_icmp .lt 12, 3), (5, .iload_n 0, 1), (6, .iload_n 2, 1), (7, .if_icmp .gt 7, 3), (10, .iconst 1, 1), (11, .goto 4, 3), (14, .iconst 0, 1), (15, .ireturn, 1)]])
/-- Mod.init -/
def mm_m148 : mm_I := ((⟨"PromisedStockModel", "<init>", "()V"⟩, prog_11_method_4_code, 1, none), (9, 1, 0), ([48, 90, 131, 173], [], []), [[(0, .aload_n 0, 1), (1, .invokespecial 7, 3), (4, .aload_n 0, 1), (5, .sipush 190, 3), (8, .newarray .int, 2), (10, .putfield 13, 3), (13, .aload_n 0, 1), (14, .sipush 190, 3), (17, .newarray .int, 2), (19, .putfield 17, 3), (22, .aload_n 0, 1), (23, .sipush 3800, 3), (26, .newarray .int, 2), (28, .putfield 20, 3), (31, .aload_n 0, 1)], [(32, .bipush 12, 2), (34, .newarray .int, 2), (36, .putfield 23, 3), (39, .aload_n 0, 1), (40, .sipush 480, 3), (43, .newarray .int, 2), (45, .putfield 26, 3), (48, .aload_n 0, 1), (49, .bipush 12, 2), (51, .newarray .int, 2), (53, .putfield 29, 3), (56, .aload_n 0, 1), (57, .sipush 1440, 3), (60, .newarray .int, 2), (62, .putfield 32, 3)], [(65, .aload_n 0, 1), (66, .sipush 1440, 3), (69, .newarray .int, 2), (71, .putfield 35, 3), (74, .aload_n 0, 1), (75, .bipush 120, 2), (77, .newarray .int, 2), (79, .putfield 38, 3), (82, .aload_n 0, 1), (83, .bipush 120, 2), (85, .newarray .int, 2), (87, .putfield 41, 3), (90, .aload_n 0, 1), (91, .bipush 120, 2), (93, .newarray .int, 2), (95, .putfield 44, 3)], [(98, .aload_n 0, 1), (99, .bipush 120, 2), (101, .newarray .int, 2), (103, .putfield 47, 3), (106, .aload_n 0, 1), (107, .sipush 2880, 3), (110, .newarray .int, 2), (112, .putfield 50, 3), (115, .aload_n 0, 1), (116, .bipush 12, 2), (118, .newarray .int, 2), (120, .putfield 53, 3), (123, .aload_n 0, 1), (124, .bipush 12, 2), (126, .newarray .int, 2)], [(128, .putfield 56, 3), (131, .aload_n 0, 1), (132, .bipush 40, 2), (134, .newarray .int, 2), (136, .putfield 59, 3), (139, .aload_n 0, 1), (140, .bipush 41, 2), (142, .newarray .int, 2), (144, .putfield 62, 3), (147, .aload_n 0, 1), (148, .sipush 190, 3), (151, .newarray .int, 2), (153, .putfield 65, 3), (156, .aload_n 0, 1), (157, .bipush 12, 2), (159, .newarray .int, 2)], [(161, .putfield 68, 3), (164, .aload_n 0, 1), (165, .sipush 480, 3), (168, .newarray .int, 2), (170, .putfield 71, 3), (173, .aload_n 0, 1), (174, .sipush 400, 3), (177, .newarray .int, 2), (179, .putfield 74, 3), (182, .aload_n 0, 1), (183, .iconst (-1), 1), (184, .putfield 77, 3), (187, .aload_n 0, 1), (188, .getfield 13, 3), (191, .invokestatic 80, 3)], [(194, .return_, 1)]])
/-- Mod.bare -/
def mm_m149 : mm_I := ((⟨"PromisedStockModel", "bare", "([I)V"⟩, prog_11_method_5_code, 2, none), (9, 1, 0), ([2], [], []), [[(0, .iconst 0, 1), (1, .istore_n 1, 1), (2, .iload_n 1, 1), (3, .sipush 190, 3), (6, .if_icmp .ge 13, 3), (9, .aload_n 0, 1), (10, .iload_n 1, 1), (11, .iconst 0, 1), (12, .iastore, 1), (13, .iinc 1 1, 3), (16, .goto (-14), 3), (19, .aload_n 0, 1), (20, .iconst 1, 1), (21, .sipush 165, 3), (24, .iastore, 1), (25, .return_, 1)]])
/-- Mod.many -/
def mm_m150 : mm_I := ((⟨"PromisedStockModel", "many", "()I"⟩, prog_11_method_6_code, 1, some .int), (9, 1, 1), ([], [], []), [[(0, .aload_n 0, 1), (1, .getfield 13, 3), (4, .iconst 0, 1), (5, .iaload, 1), (6, .ireturn, 1)]])
/-- Mod.isStage -/
def mm_m151 : mm_I := ((⟨"PromisedStockModel", "isStage", "(I)Z"⟩, prog_11_method_7_code, 2, some .boolean), (9, 2, 2), ([], [], []), [[(0, .iload_n 1, 1), (1, .iconst 0, 1), (2, .aload_n 0, 1), (3, .invokevirtual 84, 3), (6, .iconst 1, 1), (7, .isub, 1), (8, .invokestatic 88, 3), (11, .ireturn, 1)]])
/-- Mod.of -/
def mm_m152 : mm_I := ((⟨"PromisedStockModel", "of", "(II)I"⟩, prog_11_method_8_code, 3, some .int), (9, 3, 1), ([], [], []), [[(0, .aload_n 0, 1), (1, .getfield 13, 3), (4, .iconst 3, 1), (5, .bipush 7, 2), (7, .iload_n 1, 1), (8, .imul, 1), (9, .iadd, 1), (10, .iload_n 2, 1), (11, .iadd, 1), (12, .iaload, 1), (13, .ireturn, 1)]])
/-- Mod.lay -/
def mm_m153 : mm_I := ((⟨"PromisedStockModel", "lay", "([IIII)V"⟩, prog_11_method_9_code, 6, none), (9, 4, 0), ([11, 53], [], []), [[(0, .iconst 3, 1), (1, .bipush 7, 2), (3, .iload_n 1, 1), (4, .imul, 1), (5, .iadd, 1), (6, .istore 4, 2), (8, .iconst 0, 1), (9, .istore 5, 2), (11, .iload 5, 2), (13, .bipush 7, 2), (15, .if_icmp .ge 17, 3), (18, .aload_n 0, 1), (19, .iload 4, 2), (21, .iload 5, 2), (23, .iadd, 1), (24, .iconst 0, 1), (25, .iastore, 1), (26, .iinc 5 1, 3), (29, .goto (-18), 3)], [(32, .aload_n 0, 1), (33, .iload 4, 2), (35, .iconst 0, 1), (36, .iadd, 1), (37, .iload_n 2, 1), (38, .iastore, 1), (39, .aload_n 0, 1), (40, .iload 4, 2), (42, .iconst 1, 1), (43, .iadd, 1), (44, .iload_n 3, 1), (45, .iastore, 1), (46, .aload_n 0, 1), (47, .iload 4, 2), (49, .iconst 5, 1), (50, .iadd, 1), (51, .iconst (-1), 1), (52, .iastore, 1), (53, .aload_n 0, 1), (54, .iload 4, 2), (56, .bipush 6, 2), (58, .iadd, 1), (59, .iconst (-1), 1), (60, .iastore, 1), (61, .return_, 1)]])
/-- Mod.join -/
def mm_m154 : mm_I := ((⟨"PromisedStockModel", "join", "([III)V"⟩, prog_11_method_10_code, 3, none), (9, 3, 0), ([26], [], []), [[(0, .aload_n 0, 1), (1, .sipush 159, 3), (4, .iconst 2, 1), (5, .aload_n 0, 1), (6, .iconst 2, 1), (7, .iaload, 1), (8, .imul, 1), (9, .iadd, 1), (10, .iload_n 1, 1), (11, .iastore, 1), (12, .aload_n 0, 1), (13, .sipush 159, 3), (16, .iconst 2, 1), (17, .aload_n 0, 1), (18, .iconst 2, 1), (19, .iaload, 1), (20, .imul, 1), (21, .iadd, 1), (22, .iconst 1, 1), (23, .iadd, 1), (24, .iload_n 2, 1), (25, .iastore, 1), (26, .aload_n 0, 1), (27, .iconst 2, 1), (28, .dup2, 1), (29, .iaload, 1), (30, .iconst 1, 1), (31, .iadd, 1)], [(32, .iastore, 1), (33, .return_, 1)]])
/-- Mod.from -/
def mm_m155 : mm_I := ((⟨"PromisedStockModel", "from", "(I)I"⟩, prog_11_method_11_code, 2, some .int), (9, 2, 1), ([], [], []), [[(0, .aload_n 0, 1), (1, .getfield 13, 3), (4, .sipush 159, 3), (7, .iconst 2, 1), (8, .iload_n 1, 1), (9, .imul, 1), (10, .iadd, 1), (11, .iaload, 1), (12, .ireturn, 1)]])
/-- Mod.to -/
def mm_m156 : mm_I := ((⟨"PromisedStockModel", "to", "(I)I"⟩, prog_11_method_12_code, 2, some .int), (9, 2, 1), ([], [], []), [[(0, .aload_n 0, 1), (1, .getfield 13, 3), (4, .sipush 159, 3), (7, .iconst 2, 1), (8, .iload_n 1, 1), (9, .imul, 1), (10, .iadd, 1), (11, .iconst 1, 1), (12, .iadd, 1), (13, .iaload, 1), (14, .ireturn, 1)]])
/-- Mod.suppliersOf -/
def mm_m157 : mm_I := ((⟨"PromisedStockModel", "suppliersOf", "(I)I"⟩, prog_11_method_13_code, 4, some .int), (9, 2, 1), ([4], [], []), [[(0, .iconst 0, 1), (1, .istore_n 2, 1), (2, .iconst 0, 1), (3, .istore_n 3, 1), (4, .iload_n 3, 1), (5, .aload_n 0, 1), (6, .getfield 13, 3), (9, .iconst 2, 1), (10, .iaload, 1), (11, .if_icmp .ge 32, 3), (14, .iload_n 2, 1), (15, .aload_n 0, 1), (16, .iload_n 3, 1), (17, .invokevirtual 92, 3), (20, .iload_n 1, 1), (21, .if_icmp .ne 13, 3), (24, .iconst 1, 1), (25, .aload_n 0, 1), (26, .iload_n 3, 1), (27, .invokevirtual 96, 3), (30, .ishl, 1), (31, .goto 4, 3)], [(34, .iconst 0, 1), (35, .ior, 1), (36, .istore_n 2, 1), (37, .iinc 3 1, 3), (40, .goto (-36), 3), (43, .iload_n 2, 1), (44, .ireturn, 1)]])
/-- Mod.customersOf -/
def mm_m158 : mm_I := ((⟨"PromisedStockModel", "customersOf", "(I)I"⟩, prog_11_method_14_code, 4, some .int), (9, 2, 1), ([4], [], []), [[(0, .iconst 0, 1), (1, .istore_n 2, 1), (2, .iconst 0, 1), (3, .istore_n 3, 1), (4, .iload_n 3, 1), (5, .aload_n 0, 1), (6, .getfield 13, 3), (9, .iconst 2, 1), (10, .iaload, 1), (11, .if_icmp .ge 32, 3), (14, .iload_n 2, 1), (15, .aload_n 0, 1), (16, .iload_n 3, 1), (17, .invokevirtual 96, 3), (20, .iload_n 1, 1), (21, .if_icmp .ne 13, 3), (24, .iconst 1, 1), (25, .aload_n 0, 1), (26, .iload_n 3, 1), (27, .invokevirtual 92, 3), (30, .ishl, 1), (31, .goto 4, 3)], [(34, .iconst 0, 1), (35, .ior, 1), (36, .istore_n 2, 1), (37, .iinc 3 1, 3), (40, .goto (-36), 3), (43, .iload_n 2, 1), (44, .ireturn, 1)]])
/-- Mod.isOf -/
def mm_m159 : mm_I := ((⟨"PromisedStockModel", "isOf", "(II)Z"⟩, prog_11_method_15_code, 2, some .boolean), (9, 2, 2), ([], [], []), [[(0, .iload_n 0, 1), (1, .iload_n 1, 1), (2, .ishr, 1), (3, .iconst 1, 1), (4, .iand, 1), (5, .iconst 1, 1), (6, .if_icmp .ne 7, 3), (9, .iconst 1, 1), (10, .goto 4, 3), (13, .iconst 0, 1), (14, .ireturn, 1)]])
/-- Mod.bitsOf -/
def mm_m160 : mm_I := ((⟨"PromisedStockModel", "bitsOf", "(I)I"⟩, prog_11_method_16_code, 3, some .int), (9, 1, 1), ([4], [], []), [[(0, .iconst 0, 1), (1, .istore_n 1, 1), (2, .iload_n 0, 1), (3, .istore_n 2, 1), (4, .iload_n 2, 1), (5, .ifCond .eq 15, 3), (8, .iinc 1 1, 3), (11, .iload_n 2, 1), (12, .iload_n 2, 1), (13, .iconst 1, 1), (14, .isub, 1), (15, .iand, 1), (16, .istore_n 2, 1), (17, .goto (-13), 3), (20, .iload_n 1, 1), (21, .ireturn, 1)]])
/-- Mod.partOf -/
def mm_m161 : mm_I := ((⟨"PromisedStockModel", "partOf", "([II)I"⟩, prog_11_method_17_code, 7, some .int), (9, 2, 1), ([6, 15, 49], [], []), [[(0, .iconst 1, 1), (1, .iload_n 1, 1), (2, .ishl, 1), (3, .istore_n 2, 1), (4, .iconst 1, 1), (5, .istore_n 3, 1), (6, .iload_n 3, 1), (7, .ifCond .eq 83, 3), (10, .iconst 0, 1), (11, .istore_n 3, 1), (12, .iconst 0, 1), (13, .istore 4, 2), (15, .iload 4, 2), (17, .aload_n 0, 1), (18, .iconst 2, 1), (19, .iaload, 1), (20, .if_icmp .ge 67, 3), (23, .aload_n 0, 1), (24, .sipush 159, 3), (27, .iconst 2, 1), (28, .iload 4, 2), (30, .imul, 1), (31, .iadd, 1)], [(32, .iaload, 1), (33, .istore 5, 2), (35, .aload_n 0, 1), (36, .sipush 159, 3), (39, .iconst 2, 1), (40, .iload 4, 2), (42, .imul, 1), (43, .iadd, 1), (44, .iconst 1, 1), (45, .iadd, 1), (46, .iaload, 1), (47, .istore 6, 2), (49, .iload_n 2, 1), (50, .iload 5, 2), (52, .invokestatic 99, 3), (55, .iload_n 2, 1), (56, .iload 6, 2), (58, .invokestatic 99, 3), (61, .if_icmp .ne 6, 3)], [(64, .goto 17, 3), (67, .iload_n 2, 1), (68, .iconst 1, 1), (69, .iload 5, 2), (71, .ishl, 1), (72, .iconst 1, 1), (73, .iload 6, 2), (75, .ishl, 1), (76, .ior, 1), (77, .ior, 1), (78, .istore_n 2, 1), (79, .iconst 1, 1), (80, .istore_n 3, 1), (81, .iinc 4 1, 3), (84, .goto (-69), 3), (87, .goto (-81), 3), (90, .iload_n 2, 1), (91, .ireturn, 1)]])
/-- Mod.flowOf -/
def mm_m162 : mm_I := ((⟨"PromisedStockModel", "flowOf", "(II)I"⟩, prog_11_method_18_code, 5, some .int), (9, 3, 1), ([10], [], []), [[(0, .aload_n 0, 1), (1, .iload_n 1, 1), (2, .iload_n 2, 1), (3, .invokevirtual 103, 3), (6, .istore_n 3, 1), (7, .iconst 0, 1), (8, .istore 4, 2), (10, .iload 4, 2), (12, .aload_n 0, 1), (13, .invokevirtual 84, 3), (16, .if_icmp .ge 36, 3), (19, .iload_n 3, 1), (20, .aload_n 0, 1), (21, .iload_n 1, 1), (22, .invokevirtual 107, 3), (25, .iload 4, 2), (27, .invokestatic 99, 3), (30, .ifCond .eq 13, 3)], [(33, .aload_n 0, 1), (34, .iload 4, 2), (36, .iload_n 2, 1), (37, .invokevirtual 110, 3), (40, .goto 4, 3), (43, .iconst 0, 1), (44, .iadd, 1), (45, .istore_n 3, 1), (46, .iinc 4 1, 3), (49, .goto (-39), 3), (52, .iload_n 3, 1), (53, .ireturn, 1)]])
/-- Mod.longestOf -/
def mm_m163 : mm_I := ((⟨"PromisedStockModel", "longestOf", "(I)I"⟩, prog_11_method_19_code, 4, some .int), (9, 2, 1), ([9], [], []), [[(0, .aload_n 0, 1), (1, .iload_n 1, 1), (2, .iconst 2, 1), (3, .invokevirtual 103, 3), (6, .istore_n 2, 1), (7, .iconst 0, 1), (8, .istore_n 3, 1), (9, .iload_n 3, 1), (10, .aload_n 0, 1), (11, .invokevirtual 84, 3), (14, .if_icmp .ge 31, 3), (17, .aload_n 0, 1), (18, .iload_n 1, 1), (19, .invokevirtual 113, 3), (22, .iload_n 3, 1), (23, .invokestatic 99, 3), (26, .ifCond .eq 13, 3), (29, .iload_n 2, 1), (30, .aload_n 0, 1), (31, .iload_n 3, 1)], [(32, .invokevirtual 116, 3), (35, .invokestatic 119, 3), (38, .istore_n 2, 1), (39, .iinc 3 1, 3), (42, .goto (-33), 3), (45, .iload_n 2, 1), (46, .aload_n 0, 1), (47, .iload_n 1, 1), (48, .iconst 0, 1), (49, .invokevirtual 103, 3), (52, .iadd, 1), (53, .ireturn, 1)]])
/-- Mod.rootOf -/
def mm_m164 : mm_I := ((⟨"PromisedStockModel", "rootOf", "(J)I"⟩, prog_11_method_20_code, 8, some .int), (9, 1, 1), ([7], [], []), [[(0, .lconst 0, 1), (1, .lstore_n 2, 1), (2, .ldc2_w 124, 3), (5, .lstore 4, 2), (7, .lload_n 2, 1), (8, .lload 4, 2), (10, .lcmp, 1), (11, .ifCond .ge 42, 3), (14, .lload_n 2, 1), (15, .lload 4, 2), (17, .ladd, 1), (18, .ldc2_w 126, 3), (21, .ldiv, 1), (22, .lstore 6, 2), (24, .ldc2_w 128, 3), (27, .lload 6, 2), (29, .lmul, 1), (30, .lload 6, 2)], [(32, .lmul, 1), (33, .lload_n 0, 1), (34, .lcmp, 1), (35, .ifCond .lt 10, 3), (38, .lload 6, 2), (40, .lstore 4, 2), (42, .goto 8, 3), (45, .lload 6, 2), (47, .lconst 1, 1), (48, .ladd, 1), (49, .lstore_n 2, 1), (50, .goto (-43), 3), (53, .lload_n 2, 1), (54, .l2i, 1), (55, .ireturn, 1)]])
/-- Mod.root -/
def mm_m165 : mm_I := ((⟨"PromisedStockModel", "root", "(II)I"⟩, prog_11_method_21_code, 3, some .int), (9, 3, 1), ([], [], []), [[(0, .aload_n 0, 1), (1, .getfield 13, 3), (4, .iconst 1, 1), (5, .iaload, 1), (6, .i2l, 1), (7, .aload_n 0, 1), (8, .getfield 13, 3), (11, .iconst 1, 1), (12, .iaload, 1), (13, .i2l, 1), (14, .lmul, 1), (15, .aload_n 0, 1), (16, .iload_n 1, 1), (17, .iconst 4, 1), (18, .invokevirtual 110, 3), (21, .i2l, 1), (22, .lmul, 1), (23, .iload_n 2, 1), (24, .i2l, 1), (25, .lmul, 1), (26, .invokestatic 130, 3), (29, .ireturn, 1)]])
/-- Mod.boundOf -/
def mm_m166 : mm_I := ((⟨"PromisedStockModel", "boundOf", "(II)I"⟩, prog_11_method_22_code, 3, some .int), (9, 3, 1), ([], [], []), [[(0, .iload_n 2, 1), (1, .aload_n 0, 1), (2, .iload_n 1, 1), (3, .iconst 3, 1), (4, .invokevirtual 110, 3), (7, .imul, 1), (8, .aload_n 0, 1), (9, .iload_n 1, 1), (10, .iload_n 2, 1), (11, .invokevirtual 134, 3), (14, .iadd, 1), (15, .ireturn, 1)]])
/-- Mod.bound -/
def mm_m167 : mm_I := ((⟨"PromisedStockModel", "bound", "(III)I"⟩, prog_11_method_23_code, 4, some .int), (9, 4, 1), ([38], [], []), [[(0, .aload_n 0, 1), (1, .aload_n 0, 1), (2, .iload_n 1, 1), (3, .invokevirtual 137, 3), (6, .ifCond .eq 12, 3), (9, .iload_n 2, 1), (10, .iconst 0, 1), (11, .iconst 1, 1), (12, .invokestatic 88, 3), (15, .ifCond .ne 7, 3), (18, .iconst 1, 1), (19, .goto 19, 3), (22, .iload_n 3, 1), (23, .iconst 0, 1), (24, .sipush 999, 3), (27, .invokestatic 88, 3), (30, .ifCond .ne 7, 3)], [(33, .iconst 2, 1), (34, .goto 4, 3), (37, .iconst 0, 1), (38, .putfield 1, 3), (41, .aload_n 0, 1), (42, .getfield 1, 3), (45, .ifCond .le 7, 3), (48, .iconst 0, 1), (49, .goto 22, 3), (52, .iload_n 2, 1), (53, .ifCond .ne 12, 3), (56, .aload_n 0, 1), (57, .iload_n 1, 1), (58, .iload_n 3, 1), (59, .invokevirtual 134, 3), (62, .goto 9, 3)], [(65, .aload_n 0, 1), (66, .iload_n 1, 1), (67, .iload_n 3, 1), (68, .invokevirtual 141, 3), (71, .ireturn, 1)]])
/-- Mod.count -/
def mm_m168 : mm_I := ((⟨"PromisedStockModel", "count", "(I)I"⟩, prog_11_method_24_code, 4, some .int), (9, 2, 1), ([83], [], []), [[(0, .aload_n 0, 1), (1, .iconst 0, 1), (2, .putfield 1, 3), (5, .iload_n 1, 1), (6, .tableswitch 122 0 6 #[42, 47, 54, 61, 73, 112, 117], 42)], [(48, .aload_n 0, 1), (49, .invokevirtual 84, 3), (52, .ireturn, 1), (53, .aload_n 0, 1), (54, .getfield 13, 3), (57, .iconst 2, 1), (58, .iaload, 1), (59, .ireturn, 1), (60, .aload_n 0, 1), (61, .getfield 13, 3)], [(64, .iconst 1, 1), (65, .iaload, 1), (66, .ireturn, 1), (67, .aload_n 0, 1), (68, .invokevirtual 84, 3), (71, .aload_n 0, 1), (72, .getfield 13, 3), (75, .iconst 2, 1), (76, .iaload, 1), (77, .isub, 1), (78, .ireturn, 1), (79, .iconst 0, 1), (80, .istore_n 2, 1), (81, .iconst 0, 1), (82, .istore_n 3, 1), (83, .iload_n 3, 1), (84, .aload_n 0, 1), (85, .invokevirtual 84, 3), (88, .if_icmp .ge 28, 3), (91, .iload_n 2, 1), (92, .aload_n 0, 1), (93, .iload_n 3, 1), (94, .bipush 6, 2)], [(96, .invokevirtual 103, 3), (99, .iconst (-1), 1), (100, .if_icmp .ne 7, 3), (103, .iconst 0, 1), (104, .goto 4, 3), (107, .iconst 1, 1), (108, .iadd, 1), (109, .istore_n 2, 1), (110, .iinc 3 1, 3), (113, .goto (-30), 3), (116, .iload_n 2, 1), (117, .ireturn, 1), (118, .aload_n 0, 1), (119, .getfield 144, 3), (122, .ireturn, 1), (123, .aload_n 0, 1), (124, .getfield 147, 3), (127, .ireturn, 1)], [(128, .aload_n 0, 1), (129, .iconst 1, 1), (130, .invokevirtual 150, 3), (133, .ireturn, 1)]])
/-- Mod.letter -/
def mm_m169 : mm_I := ((⟨"PromisedStockModel", "letter", "(II)I"⟩, prog_11_method_25_code, 3, some .int), (9, 3, 1), ([22, 39], [], []), [[(0, .aload_n 0, 1), (1, .iconst 0, 1), (2, .putfield 1, 3), (5, .aload_n 0, 1), (6, .iload_n 1, 1), (7, .invokevirtual 137, 3), (10, .ifCond .eq 29, 3), (13, .iload_n 2, 1), (14, .iconst 0, 1), (15, .iconst 5, 1), (16, .invokestatic 88, 3), (19, .ifCond .eq 20, 3), (22, .aload_n 0, 1), (23, .getfield 13, 3), (26, .bipush 87, 2), (28, .bipush 6, 2), (30, .iload_n 1, 1), (31, .imul, 1)], [(32, .iadd, 1), (33, .iload_n 2, 1), (34, .iadd, 1), (35, .iaload, 1), (36, .goto 8, 3), (39, .aload_n 0, 1), (40, .iconst 1, 1), (41, .invokevirtual 150, 3), (44, .ireturn, 1)]])
/-- Mod.stage -/
def mm_m170 : mm_I := ((⟨"PromisedStockModel", "stage", "(II)I"⟩, prog_11_method_26_code, 3, some .int), (9, 3, 1), ([], [], []), [[(0, .aload_n 0, 1), (1, .iconst 0, 1), (2, .putfield 1, 3), (5, .aload_n 0, 1), (6, .iload_n 1, 1), (7, .invokevirtual 137, 3), (10, .ifCond .eq 13, 3), (13, .iload_n 2, 1), (14, .iconst 0, 1), (15, .bipush 11, 2), (17, .invokestatic 88, 3), (20, .ifCond .ne 9, 3), (23, .aload_n 0, 1), (24, .iconst 1, 1), (25, .invokevirtual 150, 3), (28, .ireturn, 1), (29, .iload_n 2, 1), (30, .tableswitch 66 7 11 #[34, 41, 48, 54, 60], 34)], [], [(64, .aload_n 0, 1), (65, .iload_n 1, 1), (66, .iconst 3, 1), (67, .invokevirtual 110, 3), (70, .ireturn, 1), (71, .aload_n 0, 1), (72, .iload_n 1, 1), (73, .iconst 4, 1), (74, .invokevirtual 110, 3), (77, .ireturn, 1), (78, .aload_n 0, 1), (79, .iload_n 1, 1), (80, .invokevirtual 116, 3), (83, .ireturn, 1), (84, .aload_n 0, 1), (85, .iload_n 1, 1), (86, .invokevirtual 113, 3), (89, .ireturn, 1), (90, .aload_n 0, 1), (91, .iload_n 1, 1), (92, .invokevirtual 107, 3), (95, .ireturn, 1)], [(96, .aload_n 0, 1), (97, .iload_n 1, 1), (98, .iload_n 2, 1), (99, .invokevirtual 103, 3), (102, .ireturn, 1)]])
/-- Mod.keep -/
def mm_m171 : mm_I := ((⟨"PromisedStockModel", "keep", "()V"⟩, prog_11_method_27_code, 2, none), (9, 1, 0), ([13, 54], [], []), [[(0, .aload_n 0, 1), (1, .getfield 144, 3), (4, .bipush 20, 2), (6, .if_icmp .ne 46, 3), (9, .sipush 190, 3), (12, .istore_n 1, 1), (13, .iload_n 1, 1), (14, .sipush 3800, 3), (17, .if_icmp .ge 25, 3), (20, .aload_n 0, 1), (21, .getfield 20, 3), (24, .iload_n 1, 1), (25, .sipush 190, 3), (28, .isub, 1), (29, .aload_n 0, 1), (30, .getfield 20, 3)], [(33, .iload_n 1, 1), (34, .iaload, 1), (35, .iastore, 1), (36, .iinc 1 1, 3), (39, .goto (-26), 3), (42, .aload_n 0, 1), (43, .dup, 1), (44, .getfield 144, 3), (47, .iconst 1, 1), (48, .isub, 1), (49, .putfield 144, 3), (52, .iconst 0, 1), (53, .istore_n 1, 1), (54, .iload_n 1, 1), (55, .sipush 190, 3), (58, .if_icmp .ge 30, 3), (61, .aload_n 0, 1), (62, .getfield 20, 3)], [(65, .sipush 190, 3), (68, .aload_n 0, 1), (69, .getfield 144, 3), (72, .imul, 1), (73, .iload_n 1, 1), (74, .iadd, 1), (75, .aload_n 0, 1), (76, .getfield 13, 3), (79, .iload_n 1, 1), (80, .iaload, 1), (81, .iastore, 1), (82, .iinc 1 1, 3), (85, .goto (-31), 3), (88, .aload_n 0, 1), (89, .dup, 1), (90, .getfield 144, 3), (93, .iconst 1, 1), (94, .iadd, 1), (95, .putfield 144, 3)], [(98, .return_, 1)]])
/-- Mod.mostOf -/
def mm_m172 : mm_I := ((⟨"PromisedStockModel", "mostOf", "(I)I"⟩, prog_11_method_28_code, 1, some .int), (9, 1, 1), ([], [], []), [[(0, .iload_n 0, 1), (1, .tableswitch 56 0 5 #[39, 42, 39, 46, 49, 53], 39)], [(40, .bipush 9, 2), (42, .ireturn, 1), (43, .sipush 999, 3), (46, .ireturn, 1), (47, .bipush 99, 2), (49, .ireturn, 1), (50, .sipush 9999, 3), (53, .ireturn, 1), (54, .bipush 20, 2), (56, .ireturn, 1), (57, .sipush 400, 3), (60, .ireturn, 1)]])
/-- Mod.change -/
def mm_m173 : mm_I := ((⟨"PromisedStockModel", "change", "(III)I"⟩, prog_11_method_29_code, 6, some .int), (9, 4, 1), ([55, 100], [], []), [[(0, .aload_n 0, 1), (1, .iload_n 2, 1), (2, .iconst 0, 1), (3, .bipush 6, 2), (5, .invokestatic 88, 3), (8, .ifCond .eq 17, 3), (11, .iload_n 2, 1), (12, .bipush 6, 2), (14, .if_icmp .ge 15, 3), (17, .aload_n 0, 1), (18, .iload_n 1, 1), (19, .invokevirtual 137, 3), (22, .ifCond .ne 7, 3), (25, .iconst 1, 1), (26, .goto 29, 3), (29, .iload_n 3, 1), (30, .iload_n 2, 1), (31, .iconst 5, 1)], [(32, .if_icmp .ne 7, 3), (35, .iconst (-1), 1), (36, .goto 4, 3), (39, .iconst 0, 1), (40, .iload_n 2, 1), (41, .invokestatic 153, 3), (44, .invokestatic 88, 3), (47, .ifCond .ne 7, 3), (50, .iconst 2, 1), (51, .goto 4, 3), (54, .iconst 0, 1), (55, .putfield 1, 3), (58, .aload_n 0, 1), (59, .getfield 1, 3), (62, .ifCond .le 5, 3)], [(65, .iconst 0, 1), (66, .ireturn, 1), (67, .aload_n 0, 1), (68, .invokevirtual 156, 3), (71, .iload_n 2, 1), (72, .bipush 6, 2), (74, .if_icmp .ne 7, 3), (77, .iconst 1, 1), (78, .goto 11, 3), (81, .iconst 3, 1), (82, .bipush 7, 2), (84, .iload_n 1, 1), (85, .imul, 1), (86, .iadd, 1), (87, .iload_n 2, 1), (88, .iadd, 1), (89, .istore 4, 2), (91, .aload_n 0, 1), (92, .getfield 13, 3), (95, .iload 4, 2)], [(97, .iaload, 1), (98, .istore 5, 2), (100, .aload_n 0, 1), (101, .getfield 13, 3), (104, .iload 4, 2), (106, .iload_n 3, 1), (107, .iastore, 1), (108, .iload 5, 2), (110, .ireturn, 1)]])
/-- Mod.add -/
def mm_m174 : mm_I := ((⟨"PromisedStockModel", "add", "(IZII)I"⟩, prog_11_method_30_code, 7, some .int), (9, 5, 1), ([46, 71, 138], [], []), [[(0, .aload_n 0, 1), (1, .iconst 0, 1), (2, .putfield 1, 3), (5, .aload_n 0, 1), (6, .invokevirtual 84, 3), (9, .bipush 12, 2), (11, .if_icmp .eq 33, 3), (14, .aload_n 0, 1), (15, .iload_n 1, 1), (16, .invokevirtual 137, 3), (19, .ifCond .eq 25, 3), (22, .iload_n 3, 1), (23, .iconst 0, 1), (24, .bipush 9, 2), (26, .invokestatic 88, 3), (29, .ifCond .eq 15, 3)], [(32, .iload 4, 2), (34, .iconst 0, 1), (35, .sipush 999, 3), (38, .invokestatic 88, 3), (41, .ifCond .ne 5, 3), (44, .iconst (-1), 1), (45, .ireturn, 1), (46, .aload_n 0, 1), (47, .invokevirtual 156, 3), (50, .aload_n 0, 1), (51, .invokevirtual 84, 3), (54, .istore 5, 2), (56, .aload_n 0, 1), (57, .getfield 13, 3), (60, .iload 5, 2), (62, .iload_n 3, 1), (63, .iload 4, 2)], [(65, .invokestatic 159, 3), (68, .iconst 0, 1), (69, .istore 6, 2), (71, .iload 6, 2), (73, .bipush 6, 2), (75, .if_icmp .ge 26, 3), (78, .aload_n 0, 1), (79, .getfield 13, 3), (82, .bipush 87, 2), (84, .bipush 6, 2), (86, .iload 5, 2), (88, .imul, 1), (89, .iadd, 1), (90, .iload 6, 2), (92, .iadd, 1), (93, .iconst 0, 1), (94, .iastore, 1), (95, .iinc 6 1, 3)], [(98, .goto (-27), 3), (101, .aload_n 0, 1), (102, .getfield 13, 3), (105, .iconst 0, 1), (106, .dup2, 1), (107, .iaload, 1), (108, .iconst 1, 1), (109, .iadd, 1), (110, .iastore, 1), (111, .iload_n 2, 1), (112, .ifCond .eq 16, 3), (115, .aload_n 0, 1), (116, .getfield 13, 3), (119, .iload 5, 2), (121, .iload_n 1, 1), (122, .invokestatic 163, 3), (125, .goto 13, 3)], [(128, .aload_n 0, 1), (129, .getfield 13, 3), (132, .iload_n 1, 1), (133, .iload 5, 2), (135, .invokestatic 163, 3), (138, .aload_n 0, 1), (139, .iload 5, 2), (141, .invokevirtual 167, 3), (144, .iload 5, 2), (146, .ireturn, 1)]])
/-- Mod.supply -/
def mm_m175 : mm_I := ((⟨"PromisedStockModel", "supply", "(II)I"⟩, prog_11_method_31_code, 3, some .int), (9, 3, 1), ([42], [], []), [[(0, .aload_n 0, 1), (1, .iconst 0, 1), (2, .putfield 1, 3), (5, .aload_n 0, 1), (6, .iload_n 1, 1), (7, .invokevirtual 137, 3), (10, .ifCond .eq 26, 3), (13, .aload_n 0, 1), (14, .iload_n 2, 1), (15, .invokevirtual 137, 3), (18, .ifCond .eq 18, 3), (21, .aload_n 0, 1), (22, .getfield 13, 3), (25, .iload_n 1, 1), (26, .invokestatic 171, 3), (29, .iload_n 2, 1), (30, .invokestatic 99, 3)], [(33, .ifCond .eq 5, 3), (36, .iconst (-1), 1), (37, .ireturn, 1), (38, .aload_n 0, 1), (39, .invokevirtual 156, 3), (42, .aload_n 0, 1), (43, .getfield 13, 3), (46, .iload_n 1, 1), (47, .iload_n 2, 1), (48, .invokestatic 163, 3), (51, .aload_n 0, 1), (52, .getfield 13, 3), (55, .iconst 2, 1), (56, .iaload, 1), (57, .ireturn, 1)]])
/-- Mod.pin -/
def mm_m176 : mm_I := ((⟨"PromisedStockModel", "pin", "(II)I"⟩, prog_11_method_32_code, 4, some .int), (9, 3, 1), ([28, 52], [], []), [[(0, .aload_n 0, 1), (1, .aload_n 0, 1), (2, .iload_n 1, 1), (3, .invokevirtual 137, 3), (6, .ifCond .ne 7, 3), (9, .iconst 1, 1), (10, .goto 18, 3), (13, .iload_n 2, 1), (14, .iconst (-1), 1), (15, .bipush 119, 2), (17, .invokestatic 88, 3), (20, .ifCond .ne 7, 3), (23, .iconst 2, 1), (24, .goto 4, 3), (27, .iconst 0, 1), (28, .putfield 1, 3), (31, .aload_n 0, 1)], [(32, .getfield 1, 3), (35, .ifCond .le 5, 3), (38, .iconst 0, 1), (39, .ireturn, 1), (40, .aload_n 0, 1), (41, .invokevirtual 156, 3), (44, .aload_n 0, 1), (45, .iload_n 1, 1), (46, .bipush 6, 2), (48, .invokevirtual 103, 3), (51, .istore_n 3, 1), (52, .aload_n 0, 1), (53, .getfield 13, 3), (56, .iconst 3, 1), (57, .bipush 7, 2), (59, .iload_n 1, 1), (60, .imul, 1), (61, .iadd, 1), (62, .bipush 6, 2)], [(64, .iadd, 1), (65, .iload_n 2, 1), (66, .iastore, 1), (67, .iload_n 3, 1), (68, .ireturn, 1)]])
/-- Mod.clear -/
def mm_m177 : mm_I := ((⟨"PromisedStockModel", "clear", "(I)V"⟩, prog_11_method_33_code, 3, none), (9, 2, 0), ([9], [], []), [[(0, .aload_n 0, 1), (1, .getfield 23, 3), (4, .iload_n 1, 1), (5, .iconst 0, 1), (6, .iastore, 1), (7, .iconst 0, 1), (8, .istore_n 2, 1), (9, .iload_n 2, 1), (10, .bipush 40, 2), (12, .if_icmp .ge 21, 3), (15, .aload_n 0, 1), (16, .getfield 26, 3), (19, .bipush 40, 2), (21, .iload_n 1, 1), (22, .imul, 1), (23, .iload_n 2, 1), (24, .iadd, 1), (25, .iconst 0, 1), (26, .iastore, 1), (27, .iinc 2 1, 3), (30, .goto (-21), 3)], [(33, .return_, 1)]])
/-- Mod.undo -/
def mm_m178 : mm_I := ((⟨"PromisedStockModel", "undo", "()I"⟩, prog_11_method_34_code, 2, some .int), (9, 1, 1), ([26, 65], [], []), [[(0, .aload_n 0, 1), (1, .iconst 0, 1), (2, .putfield 1, 3), (5, .aload_n 0, 1), (6, .getfield 144, 3), (9, .ifCond .ne 5, 3), (12, .iconst (-1), 1), (13, .ireturn, 1), (14, .aload_n 0, 1), (15, .dup, 1), (16, .getfield 144, 3), (19, .iconst 1, 1), (20, .isub, 1), (21, .putfield 144, 3), (24, .iconst 0, 1), (25, .istore_n 1, 1), (26, .iload_n 1, 1), (27, .sipush 190, 3), (30, .if_icmp .ge 30, 3)], [(33, .aload_n 0, 1), (34, .getfield 13, 3), (37, .iload_n 1, 1), (38, .aload_n 0, 1), (39, .getfield 20, 3), (42, .sipush 190, 3), (45, .aload_n 0, 1), (46, .getfield 144, 3), (49, .imul, 1), (50, .iload_n 1, 1), (51, .iadd, 1), (52, .iaload, 1), (53, .iastore, 1), (54, .iinc 1 1, 3), (57, .goto (-31), 3), (60, .aload_n 0, 1), (61, .invokevirtual 84, 3)], [(64, .istore_n 1, 1), (65, .iload_n 1, 1), (66, .bipush 12, 2), (68, .if_icmp .ge 14, 3), (71, .aload_n 0, 1), (72, .iload_n 1, 1), (73, .invokevirtual 167, 3), (76, .iinc 1 1, 3), (79, .goto (-14), 3), (82, .aload_n 0, 1), (83, .getfield 144, 3), (86, .ireturn, 1)]])
/-- Mod.waitOf -/
def mm_m179 : mm_I := ((⟨"PromisedStockModel", "waitOf", "(I)I"⟩, prog_11_method_35_code, 4, some .int), (9, 2, 1), ([9], [], []), [[(0, .aload_n 0, 1), (1, .iload_n 1, 1), (2, .iconst 2, 1), (3, .invokevirtual 103, 3), (6, .istore_n 2, 1), (7, .iconst 0, 1), (8, .istore_n 3, 1), (9, .iload_n 3, 1), (10, .aload_n 0, 1), (11, .invokevirtual 84, 3), (14, .if_icmp .ge 32, 3), (17, .aload_n 0, 1), (18, .iload_n 1, 1), (19, .invokevirtual 113, 3), (22, .iload_n 3, 1), (23, .invokestatic 99, 3), (26, .ifCond .eq 14, 3), (29, .iload_n 2, 1), (30, .aload_n 0, 1), (31, .getfield 23, 3)], [(34, .iload_n 3, 1), (35, .iaload, 1), (36, .invokestatic 119, 3), (39, .istore_n 2, 1), (40, .iinc 3 1, 3), (43, .goto (-34), 3), (46, .iload_n 2, 1), (47, .ireturn, 1)]])
/-- Mod.netOf -/
def mm_m180 : mm_I := ((⟨"PromisedStockModel", "netOf", "(I)I"⟩, prog_11_method_36_code, 2, some .int), (9, 2, 1), ([], [], []), [[(0, .aload_n 0, 1), (1, .iload_n 1, 1), (2, .invokevirtual 175, 3), (5, .aload_n 0, 1), (6, .iload_n 1, 1), (7, .iconst 0, 1), (8, .invokevirtual 103, 3), (11, .iadd, 1), (12, .aload_n 0, 1), (13, .getfield 23, 3), (16, .iload_n 1, 1), (17, .iaload, 1), (18, .isub, 1), (19, .ireturn, 1)]])
/-- Mod.isRight -/
def mm_m181 : mm_I := ((⟨"PromisedStockModel", "isRight", "(I)Z"⟩, prog_11_method_37_code, 2, some .boolean), (9, 2, 2), ([35], [], []), [[(0, .aload_n 0, 1), (1, .iload_n 1, 1), (2, .invokevirtual 178, 3), (5, .ifCond .lt 28, 3), (8, .aload_n 0, 1), (9, .iload_n 1, 1), (10, .iconst 5, 1), (11, .invokevirtual 103, 3), (14, .iconst (-1), 1), (15, .if_icmp .eq 20, 3), (18, .aload_n 0, 1), (19, .getfield 23, 3), (22, .iload_n 1, 1), (23, .iaload, 1), (24, .aload_n 0, 1), (25, .iload_n 1, 1), (26, .iconst 5, 1), (27, .invokevirtual 103, 3), (30, .if_icmp .le 5, 3)], [(33, .iconst 0, 1), (34, .ireturn, 1), (35, .aload_n 0, 1), (36, .iload_n 1, 1), (37, .bipush 6, 2), (39, .invokevirtual 103, 3), (42, .iconst (-1), 1), (43, .if_icmp .eq 19, 3), (46, .aload_n 0, 1), (47, .getfield 23, 3), (50, .iload_n 1, 1), (51, .iaload, 1), (52, .aload_n 0, 1), (53, .iload_n 1, 1), (54, .bipush 6, 2), (56, .invokevirtual 103, 3), (59, .if_icmp .ne 7, 3), (62, .iconst 1, 1), (63, .goto 4, 3)], [(66, .iconst 0, 1), (67, .ireturn, 1)]])
/-- Mod.firstWrong -/
def mm_m182 : mm_I := ((⟨"PromisedStockModel", "firstWrong", "()I"⟩, prog_11_method_38_code, 2, some .int), (9, 1, 1), ([2], [], []), [[(0, .iconst 0, 1), (1, .istore_n 1, 1), (2, .iload_n 1, 1), (3, .aload_n 0, 1), (4, .invokevirtual 84, 3), (7, .if_icmp .ge 19, 3), (10, .aload_n 0, 1), (11, .iload_n 1, 1), (12, .invokevirtual 181, 3), (15, .ifCond .ne 5, 3), (18, .iload_n 1, 1), (19, .ireturn, 1), (20, .iinc 1 1, 3), (23, .goto (-21), 3), (26, .iconst (-1), 1), (27, .ireturn, 1)]])
/-- Mod.heldOf -/
def mm_m183 : mm_I := ((⟨"PromisedStockModel", "heldOf", "(I)I"⟩, prog_11_method_39_code, 2, some .int), (9, 2, 1), ([], [], []), [[(0, .aload_n 0, 1), (1, .iload_n 1, 1), (2, .invokevirtual 178, 3), (5, .ifCond .ge 7, 3), (8, .iconst (-1), 1), (9, .goto 13, 3), (12, .aload_n 0, 1), (13, .iload_n 1, 1), (14, .aload_n 0, 1), (15, .iload_n 1, 1), (16, .invokevirtual 178, 3), (19, .invokevirtual 134, 3), (22, .ireturn, 1)]])
/-- Mod.priceNow -/
def mm_m184 : mm_I := ((⟨"PromisedStockModel", "priceNow", "()I"⟩, prog_11_method_40_code, 3, some .int), (9, 1, 1), ([4], [], []), [[(0, .iconst 0, 1), (1, .istore_n 1, 1), (2, .iconst 0, 1), (3, .istore_n 2, 1), (4, .iload_n 2, 1), (5, .aload_n 0, 1), (6, .invokevirtual 84, 3), (9, .if_icmp .ge 24, 3), (12, .iload_n 1, 1), (13, .aload_n 0, 1), (14, .iload_n 2, 1), (15, .iconst 1, 1), (16, .invokevirtual 103, 3), (19, .aload_n 0, 1), (20, .iload_n 2, 1), (21, .invokevirtual 184, 3), (24, .imul, 1), (25, .iadd, 1), (26, .istore_n 1, 1), (27, .iinc 2 1, 3), (30, .goto (-26), 3)], [(33, .iload_n 1, 1), (34, .ireturn, 1)]])
/-- Mod.planned -/
def mm_m185 : mm_I := ((⟨"PromisedStockModel", "planned", "(II)I"⟩, prog_11_method_41_code, 3, some .int), (9, 3, 1), ([101, 124], [], []), [[(0, .aload_n 0, 1), (1, .iconst 0, 1), (2, .putfield 1, 3), (5, .aload_n 0, 1), (6, .iload_n 1, 1), (7, .invokevirtual 137, 3), (10, .ifCond .eq 12, 3), (13, .iload_n 2, 1), (14, .iconst 0, 1), (15, .iconst 5, 1), (16, .invokestatic 88, 3), (19, .ifCond .ne 9, 3), (22, .aload_n 0, 1), (23, .iconst 1, 1), (24, .invokevirtual 150, 3), (27, .ireturn, 1), (28, .iload_n 2, 1), (29, .tableswitch 83 0 4 #[35, 42, 48, 54, 60], 35)], [], [(64, .aload_n 0, 1), (65, .getfield 23, 3), (68, .iload_n 1, 1), (69, .iaload, 1), (70, .ireturn, 1), (71, .aload_n 0, 1), (72, .iload_n 1, 1), (73, .invokevirtual 175, 3), (76, .ireturn, 1), (77, .aload_n 0, 1), (78, .iload_n 1, 1), (79, .invokevirtual 178, 3), (82, .ireturn, 1), (83, .aload_n 0, 1), (84, .iload_n 1, 1), (85, .invokevirtual 184, 3), (88, .ireturn, 1), (89, .aload_n 0, 1), (90, .iload_n 1, 1), (91, .invokevirtual 178, 3), (94, .ifCond .ge 7, 3)], [(97, .iconst (-1), 1), (98, .goto 13, 3), (101, .aload_n 0, 1), (102, .iload_n 1, 1), (103, .aload_n 0, 1), (104, .iload_n 1, 1), (105, .invokevirtual 178, 3), (108, .invokevirtual 141, 3), (111, .ireturn, 1), (112, .aload_n 0, 1), (113, .iload_n 1, 1), (114, .invokevirtual 178, 3), (117, .ifCond .ge 7, 3), (120, .iconst (-1), 1), (121, .goto 15, 3), (124, .aload_n 0, 1), (125, .iload_n 1, 1), (126, .iconst 1, 1), (127, .invokevirtual 103, 3)], [(130, .aload_n 0, 1), (131, .iload_n 1, 1), (132, .invokevirtual 184, 3), (135, .imul, 1), (136, .ireturn, 1)]])
/-- Mod.plan -/
def mm_m186 : mm_I := ((⟨"PromisedStockModel", "plan", "(I)I"⟩, prog_11_method_42_code, 4, some .int), (9, 2, 1), ([58], [], []), [[(0, .aload_n 0, 1), (1, .iconst 0, 1), (2, .putfield 1, 3), (5, .iload_n 1, 1), (6, .tableswitch 86 0 2 #[26, 43, 48], 26)], [(32, .aload_n 0, 1), (33, .invokevirtual 187, 3), (36, .iconst (-1), 1), (37, .if_icmp .ne 10, 3), (40, .aload_n 0, 1), (41, .invokevirtual 190, 3), (44, .goto 4, 3), (47, .iconst (-1), 1), (48, .ireturn, 1), (49, .aload_n 0, 1), (50, .invokevirtual 187, 3), (53, .ireturn, 1), (54, .iconst 0, 1), (55, .istore_n 2, 1), (56, .iconst 0, 1), (57, .istore_n 3, 1), (58, .iload_n 3, 1), (59, .aload_n 0, 1), (60, .invokevirtual 84, 3), (63, .if_icmp .ge 27, 3)], [(66, .iload_n 2, 1), (67, .aload_n 0, 1), (68, .iload_n 3, 1), (69, .invokevirtual 184, 3), (72, .ifCond .le 9, 3), (75, .iconst 1, 1), (76, .iload_n 3, 1), (77, .ishl, 1), (78, .goto 4, 3), (81, .iconst 0, 1), (82, .ior, 1), (83, .istore_n 2, 1), (84, .iinc 3 1, 3), (87, .goto (-29), 3), (90, .iload_n 2, 1), (91, .ireturn, 1), (92, .aload_n 0, 1), (93, .iconst 1, 1), (94, .invokevirtual 150, 3)], [(97, .ireturn, 1)]])
/-- Mod.promise -/
def mm_m187 : mm_I := ((⟨"PromisedStockModel", "promise", "(II)I"⟩, prog_11_method_43_code, 4, some .int), (9, 3, 1), ([28], [], []), [[(0, .aload_n 0, 1), (1, .aload_n 0, 1), (2, .iload_n 1, 1), (3, .invokevirtual 137, 3), (6, .ifCond .ne 7, 3), (9, .iconst 1, 1), (10, .goto 18, 3), (13, .iload_n 2, 1), (14, .iconst 0, 1), (15, .bipush 119, 2), (17, .invokestatic 88, 3), (20, .ifCond .ne 7, 3), (23, .iconst 2, 1), (24, .goto 4, 3), (27, .iconst 0, 1), (28, .putfield 1, 3), (31, .aload_n 0, 1)], [(32, .getfield 1, 3), (35, .ifCond .le 5, 3), (38, .iconst 0, 1), (39, .ireturn, 1), (40, .aload_n 0, 1), (41, .getfield 23, 3), (44, .iload_n 1, 1), (45, .iaload, 1), (46, .istore_n 3, 1), (47, .aload_n 0, 1), (48, .getfield 23, 3), (51, .iload_n 1, 1), (52, .iload_n 2, 1), (53, .iastore, 1), (54, .iload_n 3, 1), (55, .ireturn, 1)]])
/-- Mod.lazy -/
def mm_m188 : mm_I := ((⟨"PromisedStockModel", "lazy", "()V"⟩, prog_11_method_44_code, 4, none), (9, 1, 0), ([2, 15, 46, 80, 103], [], []), [[(0, .iconst 0, 1), (1, .istore_n 1, 1), (2, .iload_n 1, 1), (3, .invokestatic 193, 3), (6, .aload_n 0, 1), (7, .invokevirtual 84, 3), (10, .if_icmp .ge 115, 3), (13, .iconst 0, 1), (14, .istore_n 2, 1), (15, .iload_n 2, 1), (16, .aload_n 0, 1), (17, .invokevirtual 84, 3), (20, .if_icmp .ge 102, 3), (23, .iload_n 1, 1), (24, .iload_n 2, 1), (25, .invokestatic 99, 3), (28, .ifCond .ne 88, 3), (31, .aload_n 0, 1)], [(32, .iload_n 2, 1), (33, .invokevirtual 113, 3), (36, .iload_n 1, 1), (37, .iconst (-1), 1), (38, .ixor, 1), (39, .iand, 1), (40, .ifCond .eq 6, 3), (43, .goto 73, 3), (46, .aload_n 0, 1), (47, .iload_n 2, 1), (48, .invokevirtual 175, 3), (51, .aload_n 0, 1), (52, .iload_n 2, 1), (53, .iconst 0, 1), (54, .invokevirtual 103, 3), (57, .iadd, 1), (58, .istore_n 3, 1), (59, .aload_n 0, 1), (60, .iload_n 2, 1), (61, .iconst 5, 1), (62, .invokevirtual 103, 3)], [(65, .iconst (-1), 1), (66, .if_icmp .eq 14, 3), (69, .iload_n 3, 1), (70, .aload_n 0, 1), (71, .iload_n 2, 1), (72, .iconst 5, 1), (73, .invokevirtual 103, 3), (76, .invokestatic 196, 3), (79, .istore_n 3, 1), (80, .aload_n 0, 1), (81, .iload_n 2, 1), (82, .bipush 6, 2), (84, .invokevirtual 103, 3), (87, .iconst (-1), 1), (88, .if_icmp .eq 15, 3), (91, .iload_n 3, 1), (92, .aload_n 0, 1), (93, .iload_n 2, 1), (94, .bipush 6, 2)], [(96, .invokevirtual 103, 3), (99, .invokestatic 196, 3), (102, .istore_n 3, 1), (103, .aload_n 0, 1), (104, .getfield 23, 3), (107, .iload_n 2, 1), (108, .iload_n 3, 1), (109, .iastore, 1), (110, .iload_n 1, 1), (111, .iconst 1, 1), (112, .iload_n 2, 1), (113, .ishl, 1), (114, .ior, 1), (115, .istore_n 1, 1), (116, .iinc 2 1, 3), (119, .goto (-104), 3), (122, .goto (-120), 3), (125, .return_, 1)]])
/-- Mod.halves -/
def mm_m189 : mm_I := ((⟨"PromisedStockModel", "halves", "()V"⟩, prog_11_method_45_code, 2, none), (9, 1, 0), ([6], [], []), [[(0, .aload_n 0, 1), (1, .invokevirtual 199, 3), (4, .iconst 0, 1), (5, .istore_n 1, 1), (6, .iload_n 1, 1), (7, .aload_n 0, 1), (8, .invokevirtual 84, 3), (11, .if_icmp .ge 44, 3), (14, .aload_n 0, 1), (15, .getfield 23, 3), (18, .iload_n 1, 1), (19, .aload_n 0, 1), (20, .iload_n 1, 1), (21, .bipush 6, 2), (23, .invokevirtual 103, 3), (26, .iconst (-1), 1), (27, .if_icmp .ne 14, 3), (30, .aload_n 0, 1), (31, .getfield 23, 3)], [(34, .iload_n 1, 1), (35, .iaload, 1), (36, .iconst 2, 1), (37, .idiv, 1), (38, .goto 10, 3), (41, .aload_n 0, 1), (42, .iload_n 1, 1), (43, .bipush 6, 2), (45, .invokevirtual 103, 3), (48, .iastore, 1), (49, .iinc 1 1, 3), (52, .goto (-46), 3), (55, .return_, 1)]])
/-- Mod.take -/
def mm_m190 : mm_I := ((⟨"PromisedStockModel", "take", "(I)I"⟩, prog_11_method_46_code, 3, some .int), (9, 2, 1), ([35, 64, 71, 87], [], []), [[(0, .aload_n 0, 1), (1, .iconst 0, 1), (2, .putfield 1, 3), (5, .iload_n 1, 1), (6, .iconst 0, 1), (7, .iconst 3, 1), (8, .invokestatic 88, 3), (11, .ifCond .eq 16, 3), (14, .iload_n 1, 1), (15, .iconst 2, 1), (16, .if_icmp .ne 13, 3), (19, .aload_n 0, 1), (20, .invokevirtual 202, 3), (23, .iconst (-1), 1), (24, .if_icmp .ne 5, 3), (27, .iconst (-1), 1), (28, .ireturn, 1), (29, .iload_n 1, 1), (30, .ifCond .ne 29, 3)], [(33, .iconst 0, 1), (34, .istore_n 2, 1), (35, .iload_n 2, 1), (36, .aload_n 0, 1), (37, .invokevirtual 84, 3), (40, .if_icmp .ge 16, 3), (43, .aload_n 0, 1), (44, .getfield 23, 3), (47, .iload_n 2, 1), (48, .iconst 0, 1), (49, .iastore, 1), (50, .iinc 2 1, 3), (53, .goto (-18), 3), (56, .goto 31, 3), (59, .iload_n 1, 1), (60, .iconst 1, 1), (61, .if_icmp .ne 10, 3)], [(64, .aload_n 0, 1), (65, .invokevirtual 199, 3), (68, .goto 19, 3), (71, .iload_n 1, 1), (72, .iconst 2, 1), (73, .if_icmp .ne 10, 3), (76, .aload_n 0, 1), (77, .invokevirtual 205, 3), (80, .goto 7, 3), (83, .aload_n 0, 1), (84, .invokevirtual 208, 3), (87, .aload_n 0, 1), (88, .invokevirtual 187, 3), (91, .iconst (-1), 1), (92, .if_icmp .ne 10, 3), (95, .aload_n 0, 1)], [(96, .invokevirtual 190, 3), (99, .goto 5, 3), (102, .bipush (-2), 2), (104, .ireturn, 1)]])
/-- Mod.plus -/
def mm_m191 : mm_I := ((⟨"PromisedStockModel", "plus", "(II)I"⟩, prog_11_method_47_code, 2, some .int), (9, 2, 1), ([], [], []), [[(0, .iload_n 0, 1), (1, .ldc 211, 2), (3, .if_icmp .ge 9, 3), (6, .iload_n 1, 1), (7, .ldc 211, 2), (9, .if_icmp .lt 8, 3), (12, .ldc 211, 2), (14, .goto 6, 3), (17, .iload_n 0, 1), (18, .iload_n 1, 1), (19, .iadd, 1), (20, .ireturn, 1)]])
/-- Mod.price -/
def mm_m192 : mm_I := ((⟨"PromisedStockModel", "price", "(II)I"⟩, prog_11_method_48_code, 3, some .int), (9, 3, 1), ([], [], []), [[(0, .aload_n 0, 1), (1, .iload_n 1, 1), (2, .iconst 1, 1), (3, .invokevirtual 103, 3), (6, .aload_n 0, 1), (7, .getfield 50, 3), (10, .sipush 240, 3), (13, .iload_n 1, 1), (14, .imul, 1), (15, .iload_n 2, 1), (16, .iadd, 1), (17, .iaload, 1), (18, .imul, 1), (19, .ireturn, 1)]])
/-- Mod.layRoots -/
def mm_m193 : mm_I := ((⟨"PromisedStockModel", "layRoots", "()V"⟩, prog_11_method_49_code, 5, none), (9, 1, 0), ([7, 39, 74], [], []), [[(0, .aload_n 0, 1), (1, .iconst 0, 1), (2, .putfield 212, 3), (5, .iconst 0, 1), (6, .istore_n 1, 1), (7, .iload_n 1, 1), (8, .aload_n 0, 1), (9, .invokevirtual 84, 3), (12, .if_icmp .ge 25, 3), (15, .aload_n 0, 1), (16, .aload_n 0, 1), (17, .getfield 212, 3), (20, .aload_n 0, 1), (21, .iload_n 1, 1), (22, .invokevirtual 116, 3), (25, .invokestatic 119, 3), (28, .putfield 212, 3), (31, .iinc 1 1, 3)], [(34, .goto (-27), 3), (37, .iconst 0, 1), (38, .istore_n 1, 1), (39, .iload_n 1, 1), (40, .aload_n 0, 1), (41, .invokevirtual 84, 3), (44, .if_icmp .ge 75, 3), (47, .aload_n 0, 1), (48, .getfield 13, 3), (51, .iconst 1, 1), (52, .iaload, 1), (53, .i2l, 1), (54, .aload_n 0, 1), (55, .getfield 13, 3), (58, .iconst 1, 1), (59, .iaload, 1), (60, .i2l, 1), (61, .lmul, 1), (62, .aload_n 0, 1), (63, .iload_n 1, 1)], [(64, .iconst 4, 1), (65, .invokevirtual 110, 3), (68, .i2l, 1), (69, .lmul, 1), (70, .lstore_n 2, 1), (71, .iconst 0, 1), (72, .istore 4, 2), (74, .iload 4, 2), (76, .aload_n 0, 1), (77, .getfield 212, 3), (80, .bipush 9, 2), (82, .iadd, 1), (83, .if_icmp .gt 30, 3), (86, .aload_n 0, 1), (87, .getfield 50, 3), (90, .sipush 240, 3), (93, .iload_n 1, 1), (94, .imul, 1), (95, .iload 4, 2)], [(97, .iadd, 1), (98, .lload_n 2, 1), (99, .iload 4, 2), (101, .i2l, 1), (102, .lmul, 1), (103, .invokestatic 130, 3), (106, .iastore, 1), (107, .iinc 4 1, 3), (110, .goto (-36), 3), (113, .iinc 1 1, 3), (116, .goto (-77), 3), (119, .return_, 1)]])
/-- Mod.mayBe -/
def mm_m194 : mm_I := ((⟨"PromisedStockModel", "mayBe", "(II)Z"⟩, prog_11_method_50_code, 3, some .boolean), (9, 3, 2), ([31], [], []), [[(0, .aload_n 0, 1), (1, .iload_n 1, 1), (2, .iconst 5, 1), (3, .invokevirtual 103, 3), (6, .iconst (-1), 1), (7, .if_icmp .eq 13, 3), (10, .iload_n 2, 1), (11, .aload_n 0, 1), (12, .iload_n 1, 1), (13, .iconst 5, 1), (14, .invokevirtual 103, 3), (17, .if_icmp .gt 29, 3), (20, .aload_n 0, 1), (21, .iload_n 1, 1), (22, .bipush 6, 2), (24, .invokevirtual 103, 3), (27, .iconst (-1), 1), (28, .if_icmp .eq 14, 3), (31, .iload_n 2, 1)], [(32, .aload_n 0, 1), (33, .iload_n 1, 1), (34, .bipush 6, 2), (36, .invokevirtual 103, 3), (39, .if_icmp .ne 7, 3), (42, .iconst 1, 1), (43, .goto 4, 3), (46, .iconst 0, 1), (47, .ireturn, 1)]])
/-- Mod.priceOfBest -/
def mm_m195 : mm_I := ((⟨"PromisedStockModel", "priceOfBest", "()I"⟩, prog_11_method_51_code, 1, some .int), (9, 1, 1), ([], [], []), [[(0, .aload_n 0, 1), (1, .invokevirtual 215, 3), (4, .aload_n 0, 1), (5, .invokevirtual 218, 3), (8, .ireturn, 1)]])
/-- Mod.priceByRoots -/
def mm_m196 : mm_I := ((⟨"PromisedStockModel", "priceByRoots", "()I"⟩, prog_11_method_52_code, 6, some .int), (9, 1, 1), ([6, 43, 56], [], []), [[(0, .iconst 0, 1), (1, .istore_n 1, 1), (2, .iconst 0, 1), (3, .istore_n 2, 1), (4, .iconst 0, 1), (5, .istore_n 3, 1), (6, .iload_n 3, 1), (7, .aload_n 0, 1), (8, .invokevirtual 84, 3), (11, .if_icmp .ge 92, 3), (14, .iload_n 1, 1), (15, .iload_n 3, 1), (16, .invokestatic 99, 3), (19, .ifCond .eq 6, 3), (22, .goto 75, 3), (25, .iload_n 1, 1), (26, .aload_n 0, 1), (27, .getfield 13, 3), (30, .iload_n 3, 1), (31, .invokestatic 171, 3)], [(34, .ior, 1), (35, .istore_n 1, 1), (36, .aload_n 0, 1), (37, .getfield 29, 3), (40, .iload_n 3, 1), (41, .iconst (-1), 1), (42, .iastore, 1), (43, .aload_n 0, 1), (44, .iload_n 3, 1), (45, .iconst 0, 1), (46, .invokevirtual 221, 3), (49, .ldc 211, 2), (51, .istore 4, 2), (53, .iconst 0, 1), (54, .istore 5, 2), (56, .iload 5, 2), (58, .aload_n 0, 1), (59, .getfield 212, 3), (62, .if_icmp .gt 28, 3)], [(65, .iload 4, 2), (67, .aload_n 0, 1), (68, .getfield 32, 3), (71, .bipush 120, 2), (73, .iload_n 3, 1), (74, .imul, 1), (75, .iload 5, 2), (77, .iadd, 1), (78, .iaload, 1), (79, .invokestatic 196, 3), (82, .istore 4, 2), (84, .iinc 5 1, 3), (87, .goto (-31), 3), (90, .iload_n 2, 1), (91, .iload 4, 2), (93, .invokestatic 225, 3)], [(96, .istore_n 2, 1), (97, .iinc 3 1, 3), (100, .goto (-94), 3), (103, .iload_n 2, 1), (104, .ldc 211, 2), (106, .if_icmp .lt 7, 3), (109, .iconst (-1), 1), (110, .goto 4, 3), (113, .iload_n 2, 1), (114, .ireturn, 1)]])
/-- Mod.lookFrom -/
def mm_m197 : mm_I := ((⟨"PromisedStockModel", "lookFrom", "(II)V"⟩, prog_11_method_53_code, 8, none), (9, 3, 0), ([17, 31, 87, 122, 217], [], []), [[(0, .iload_n 2, 1), (1, .iconst 1, 1), (2, .iload_n 1, 1), (3, .ishl, 1), (4, .ior, 1), (5, .istore_n 3, 1), (6, .aload_n 0, 1), (7, .iload_n 1, 1), (8, .invokevirtual 113, 3), (11, .iload_n 3, 1), (12, .iconst (-1), 1), (13, .ixor, 1), (14, .iand, 1), (15, .istore 4, 2), (17, .aload_n 0, 1), (18, .iload_n 1, 1), (19, .invokevirtual 107, 3), (22, .iload_n 3, 1), (23, .iconst (-1), 1), (24, .ixor, 1), (25, .iand, 1), (26, .istore 5, 2), (28, .iconst 0, 1), (29, .istore 6, 2), (31, .iload 6, 2)], [(33, .aload_n 0, 1), (34, .invokevirtual 84, 3), (37, .if_icmp .ge 40, 3), (40, .iload 4, 2), (42, .iload 5, 2), (44, .ior, 1), (45, .iload 6, 2), (47, .invokestatic 99, 3), (50, .ifCond .ne 6, 3), (53, .goto 18, 3), (56, .aload_n 0, 1), (57, .getfield 29, 3), (60, .iload 6, 2), (62, .iload_n 1, 1), (63, .iastore, 1)], [(64, .aload_n 0, 1), (65, .iload 6, 2), (67, .iload_n 3, 1), (68, .invokevirtual 221, 3), (71, .iinc 6 1, 3), (74, .goto (-43), 3), (77, .aload_n 0, 1), (78, .iload_n 1, 1), (79, .iload 4, 2), (81, .invokevirtual 228, 3), (84, .iconst 0, 1), (85, .istore 6, 2), (87, .iload 6, 2), (89, .aload_n 0, 1), (90, .getfield 212, 3), (93, .if_icmp .gt 90, 3)], [(96, .aload_n 0, 1), (97, .getfield 44, 3), (100, .iload 6, 2), (102, .aload_n 0, 1), (103, .iload_n 1, 1), (104, .iload 6, 2), (106, .invokevirtual 231, 3), (109, .ifCond .eq 7, 3), (112, .iconst 0, 1), (113, .goto 5, 3), (116, .ldc 211, 2), (118, .iastore, 1), (119, .iconst 0, 1), (120, .istore 7, 2), (122, .iload 7, 2), (124, .aload_n 0, 1), (125, .invokevirtual 84, 3)], [(128, .if_icmp .ge 49, 3), (131, .iload 5, 2), (133, .iload 7, 2), (135, .invokestatic 99, 3), (138, .ifCond .eq 33, 3), (141, .aload_n 0, 1), (142, .getfield 44, 3), (145, .iload 6, 2), (147, .aload_n 0, 1), (148, .getfield 44, 3), (151, .iload 6, 2), (153, .iaload, 1), (154, .aload_n 0, 1), (155, .getfield 32, 3), (158, .bipush 120, 2)], [(160, .iload 7, 2), (162, .imul, 1), (163, .iload 6, 2), (165, .iadd, 1), (166, .iaload, 1), (167, .invokestatic 225, 3), (170, .iastore, 1), (171, .iinc 7 1, 3), (174, .goto (-52), 3), (177, .iinc 6 1, 3), (180, .goto (-93), 3), (183, .aload_n 0, 1), (184, .getfield 29, 3), (187, .iload_n 1, 1), (188, .iaload, 1), (189, .iconst (-1), 1), (190, .if_icmp .eq 24, 3)], [(193, .aload_n 0, 1), (194, .iload_n 1, 1), (195, .invokevirtual 113, 3), (198, .aload_n 0, 1), (199, .getfield 29, 3), (202, .iload_n 1, 1), (203, .iaload, 1), (204, .invokestatic 99, 3), (207, .ifCond .eq 7, 3), (210, .iconst 1, 1), (211, .goto 4, 3), (214, .iconst 0, 1), (215, .istore 6, 2), (217, .iload 6, 2), (219, .ifCond .eq 11, 3), (222, .aload_n 0, 1), (223, .iload_n 1, 1)], [(224, .invokevirtual 234, 3), (227, .goto 8, 3), (230, .aload_n 0, 1), (231, .iload_n 1, 1), (232, .invokevirtual 237, 3), (235, .return_, 1)]])
/-- Mod.layWaits -/
def mm_m198 : mm_I := ((⟨"PromisedStockModel", "layWaits", "(II)V"⟩, prog_11_method_54_code, 6, none), (9, 3, 0), ([2, 28, 56, 84, 109, 129, 215], [], []), [[(0, .iconst 0, 1), (1, .istore_n 3, 1), (2, .iload_n 3, 1), (3, .aload_n 0, 1), (4, .invokevirtual 84, 3), (7, .if_icmp .ge 75, 3), (10, .iload_n 2, 1), (11, .iload_n 3, 1), (12, .invokestatic 99, 3), (15, .ifCond .ne 6, 3), (18, .goto 58, 3), (21, .ldc 211, 2), (23, .istore 4, 2), (25, .iconst 0, 1), (26, .istore 5, 2), (28, .iload 5, 2), (30, .aload_n 0, 1), (31, .getfield 212, 3)], [(34, .if_icmp .gt 42, 3), (37, .iload 4, 2), (39, .aload_n 0, 1), (40, .getfield 32, 3), (43, .bipush 120, 2), (45, .iload_n 3, 1), (46, .imul, 1), (47, .iload 5, 2), (49, .iadd, 1), (50, .iaload, 1), (51, .invokestatic 196, 3), (54, .istore 4, 2), (56, .aload_n 0, 1), (57, .getfield 35, 3), (60, .bipush 120, 2), (62, .iload_n 3, 1), (63, .imul, 1)], [(64, .iload 5, 2), (66, .iadd, 1), (67, .iload 4, 2), (69, .iastore, 1), (70, .iinc 5 1, 3), (73, .goto (-45), 3), (76, .iinc 3 1, 3), (79, .goto (-77), 3), (82, .iconst 0, 1), (83, .istore_n 3, 1), (84, .iload_n 3, 1), (85, .aload_n 0, 1), (86, .getfield 212, 3), (89, .if_icmp .gt 184, 3), (92, .iload_n 3, 1), (93, .aload_n 0, 1), (94, .iload_n 1, 1), (95, .iconst 2, 1)], [(96, .invokevirtual 103, 3), (99, .if_icmp .lt 7, 3), (102, .iconst 1, 1), (103, .goto 4, 3), (106, .iconst 0, 1), (107, .istore 4, 2), (109, .aload_n 0, 1), (110, .getfield 41, 3), (113, .iload_n 3, 1), (114, .iload 4, 2), (116, .ifCond .eq 7, 3), (119, .iconst 0, 1), (120, .goto 5, 3), (123, .ldc 211, 2), (125, .iastore, 1), (126, .iconst 0, 1), (127, .istore 5, 2)], [(129, .iload 5, 2), (131, .aload_n 0, 1), (132, .invokevirtual 84, 3), (135, .if_icmp .ge 50, 3), (138, .iload 4, 2), (140, .ifCond .eq 45, 3), (143, .iload_n 2, 1), (144, .iload 5, 2), (146, .invokestatic 99, 3), (149, .ifCond .eq 30, 3), (152, .aload_n 0, 1), (153, .getfield 41, 3), (156, .iload_n 3, 1), (157, .aload_n 0, 1), (158, .getfield 41, 3)], [(161, .iload_n 3, 1), (162, .iaload, 1), (163, .aload_n 0, 1), (164, .getfield 35, 3), (167, .bipush 120, 2), (169, .iload 5, 2), (171, .imul, 1), (172, .iload_n 3, 1), (173, .iadd, 1), (174, .iaload, 1), (175, .invokestatic 225, 3), (178, .iastore, 1), (179, .iinc 5 1, 3), (182, .goto (-53), 3), (185, .aload_n 0, 1), (186, .getfield 38, 3), (189, .iload_n 3, 1), (190, .iload_n 3, 1), (191, .aload_n 0, 1)], [(192, .iload_n 1, 1), (193, .iconst 2, 1), (194, .invokevirtual 103, 3), (197, .if_icmp .ne 12, 3), (200, .aload_n 0, 1), (201, .getfield 41, 3), (204, .iload_n 3, 1), (205, .iaload, 1), (206, .goto 5, 3), (209, .ldc 211, 2), (211, .iastore, 1), (212, .iconst 0, 1), (213, .istore 5, 2), (215, .iload 5, 2), (217, .aload_n 0, 1), (218, .invokevirtual 84, 3), (221, .if_icmp .ge 46, 3)], [(224, .iload 4, 2), (226, .ifCond .eq 41, 3), (229, .iload_n 2, 1), (230, .iload 5, 2), (232, .invokestatic 99, 3), (235, .ifCond .eq 26, 3), (238, .aload_n 0, 1), (239, .getfield 38, 3), (242, .iload_n 3, 1), (243, .aload_n 0, 1), (244, .getfield 38, 3), (247, .iload_n 3, 1), (248, .iaload, 1), (249, .aload_n 0, 1), (250, .iload_n 2, 1), (251, .iload 5, 2), (253, .iload_n 3, 1), (254, .invokevirtual 240, 3)], [(257, .invokestatic 196, 3), (260, .iastore, 1), (261, .iinc 5 1, 3), (264, .goto (-49), 3), (267, .iinc 3 1, 3), (270, .goto (-186), 3), (273, .return_, 1)]])
/-- Mod.withOneAt -/
def mm_m199 : mm_I := ((⟨"PromisedStockModel", "withOneAt", "(III)I"⟩, prog_11_method_55_code, 6, some .int), (9, 4, 1), ([16, 40], [], []), [[(0, .aload_n 0, 1), (1, .getfield 32, 3), (4, .bipush 120, 2), (6, .iload_n 2, 1), (7, .imul, 1), (8, .iload_n 3, 1), (9, .iadd, 1), (10, .iaload, 1), (11, .istore 4, 2), (13, .iconst 0, 1), (14, .istore 5, 2), (16, .iload 5, 2), (18, .aload_n 0, 1), (19, .invokevirtual 84, 3), (22, .if_icmp .ge 43, 3), (25, .iload 5, 2), (27, .iload_n 2, 1), (28, .if_icmp .eq 31, 3), (31, .iload_n 1, 1)], [(32, .iload 5, 2), (34, .invokestatic 99, 3), (37, .ifCond .eq 22, 3), (40, .iload 4, 2), (42, .aload_n 0, 1), (43, .getfield 35, 3), (46, .bipush 120, 2), (48, .iload 5, 2), (50, .imul, 1), (51, .iload_n 3, 1), (52, .iadd, 1), (53, .iaload, 1), (54, .invokestatic 225, 3), (57, .istore 4, 2), (59, .iinc 5 1, 3), (62, .goto (-46), 3)], [(65, .iload 4, 2), (67, .ireturn, 1)]])
/-- Mod.byOwnTimes -/
def mm_m200 : mm_I := ((⟨"PromisedStockModel", "byOwnTimes", "(I)V"⟩, prog_11_method_56_code, 6, none), (9, 2, 0), ([2, 16, 54], [], []), [[(0, .iconst 0, 1), (1, .istore_n 2, 1), (2, .iload_n 2, 1), (3, .aload_n 0, 1), (4, .getfield 212, 3), (7, .if_icmp .gt 117, 3), (10, .ldc 211, 2), (12, .istore_n 3, 1), (13, .iconst 0, 1), (14, .istore 4, 2), (16, .iload 4, 2), (18, .aload_n 0, 1), (19, .getfield 212, 3), (22, .if_icmp .gt 84, 3), (25, .aload_n 0, 1), (26, .getfield 44, 3), (29, .iload_n 2, 1), (30, .iaload, 1), (31, .ldc 211, 2)], [(33, .if_icmp .ge 73, 3), (36, .iload 4, 2), (38, .aload_n 0, 1), (39, .iload_n 1, 1), (40, .iconst 0, 1), (41, .invokevirtual 103, 3), (44, .iadd, 1), (45, .iload_n 2, 1), (46, .isub, 1), (47, .istore 5, 2), (49, .iload 5, 2), (51, .ifCond .lt 49, 3), (54, .aload_n 0, 1), (55, .getfield 38, 3), (58, .iload 4, 2), (60, .iaload, 1), (61, .ldc 211, 2), (63, .if_icmp .lt 6, 3)], [(66, .goto 34, 3), (69, .iload_n 3, 1), (70, .aload_n 0, 1), (71, .getfield 38, 3), (74, .iload 4, 2), (76, .iaload, 1), (77, .aload_n 0, 1), (78, .getfield 44, 3), (81, .iload_n 2, 1), (82, .iaload, 1), (83, .invokestatic 225, 3), (86, .aload_n 0, 1), (87, .iload_n 1, 1), (88, .iload 5, 2), (90, .invokevirtual 244, 3), (93, .invokestatic 225, 3)], [(96, .invokestatic 196, 3), (99, .istore_n 3, 1), (100, .iinc 4 1, 3), (103, .goto (-87), 3), (106, .aload_n 0, 1), (107, .getfield 32, 3), (110, .bipush 120, 2), (112, .iload_n 1, 1), (113, .imul, 1), (114, .iload_n 2, 1), (115, .iadd, 1), (116, .iload_n 3, 1), (117, .iastore, 1), (118, .iinc 2 1, 3), (121, .goto (-119), 3), (124, .return_, 1)]])
/-- Mod.bySupplier -/
def mm_m201 : mm_I := ((⟨"PromisedStockModel", "bySupplier", "(I)V"⟩, prog_11_method_57_code, 5, none), (9, 2, 0), ([2, 20, 45, 59, 104, 133], [], []), [[(0, .iconst 0, 1), (1, .istore_n 2, 1), (2, .iload_n 2, 1), (3, .aload_n 0, 1), (4, .getfield 212, 3), (7, .if_icmp .gt 95, 3), (10, .aload_n 0, 1), (11, .getfield 47, 3), (14, .iload_n 2, 1), (15, .ldc 211, 2), (17, .iastore, 1), (18, .iconst 0, 1), (19, .istore_n 3, 1), (20, .iload_n 3, 1), (21, .aload_n 0, 1), (22, .getfield 212, 3), (25, .if_icmp .gt 71, 3), (28, .iload_n 2, 1), (29, .aload_n 0, 1), (30, .iload_n 1, 1), (31, .iconst 0, 1)], [(32, .invokevirtual 103, 3), (35, .iadd, 1), (36, .iload_n 3, 1), (37, .isub, 1), (38, .istore 4, 2), (40, .iload 4, 2), (42, .ifCond .lt 48, 3), (45, .aload_n 0, 1), (46, .getfield 44, 3), (49, .iload_n 3, 1), (50, .iaload, 1), (51, .ldc 211, 2), (53, .if_icmp .lt 6, 3), (56, .goto 34, 3), (59, .aload_n 0, 1), (60, .getfield 47, 3), (63, .iload_n 2, 1)], [(64, .aload_n 0, 1), (65, .getfield 47, 3), (68, .iload_n 2, 1), (69, .iaload, 1), (70, .aload_n 0, 1), (71, .getfield 44, 3), (74, .iload_n 3, 1), (75, .iaload, 1), (76, .aload_n 0, 1), (77, .iload_n 1, 1), (78, .iload 4, 2), (80, .invokevirtual 244, 3), (83, .invokestatic 225, 3), (86, .invokestatic 196, 3), (89, .iastore, 1), (90, .iinc 3 1, 3), (93, .goto (-73), 3)], [(96, .iinc 2 1, 3), (99, .goto (-97), 3), (102, .iconst 0, 1), (103, .istore_n 2, 1), (104, .iload_n 2, 1), (105, .aload_n 0, 1), (106, .getfield 212, 3), (109, .if_icmp .gt 102, 3), (112, .aload_n 0, 1), (113, .getfield 41, 3), (116, .iload_n 2, 1), (117, .iaload, 1), (118, .aload_n 0, 1), (119, .getfield 47, 3), (122, .iload_n 2, 1), (123, .iaload, 1), (124, .invokestatic 225, 3), (127, .istore_n 3, 1)], [(128, .iload_n 2, 1), (129, .iconst 1, 1), (130, .iadd, 1), (131, .istore 4, 2), (133, .iload 4, 2), (135, .aload_n 0, 1), (136, .getfield 212, 3), (139, .if_icmp .gt 31, 3), (142, .iload_n 3, 1), (143, .aload_n 0, 1), (144, .getfield 38, 3), (147, .iload 4, 2), (149, .iaload, 1), (150, .aload_n 0, 1), (151, .getfield 47, 3), (154, .iload 4, 2), (156, .iaload, 1), (157, .invokestatic 225, 3)], [(160, .invokestatic 196, 3), (163, .istore_n 3, 1), (164, .iinc 4 1, 3), (167, .goto (-34), 3), (170, .aload_n 0, 1), (171, .getfield 32, 3), (174, .bipush 120, 2), (176, .iload_n 1, 1), (177, .imul, 1), (178, .iload_n 2, 1), (179, .iadd, 1), (180, .iload_n 2, 1), (181, .aload_n 0, 1), (182, .iload_n 1, 1), (183, .iconst 2, 1), (184, .invokevirtual 103, 3), (187, .if_icmp .ge 16, 3), (190, .aload_n 0, 1), (191, .aload_n 0, 1)], [(192, .iload_n 1, 1), (193, .iconst 2, 1), (194, .invokevirtual 103, 3), (197, .invokevirtual 247, 3), (200, .goto 4, 3), (203, .iload_n 3, 1), (204, .iastore, 1), (205, .iinc 2 1, 3), (208, .goto (-104), 3), (211, .return_, 1)]])
/-- Mod.leastFrom -/
def mm_m202 : mm_I := ((⟨"PromisedStockModel", "leastFrom", "(I)I"⟩, prog_11_method_58_code, 4, some .int), (9, 2, 1), ([5], [], []), [[(0, .ldc 211, 2), (2, .istore_n 2, 1), (3, .iload_n 1, 1), (4, .istore_n 3, 1), (5, .iload_n 3, 1), (6, .aload_n 0, 1), (7, .getfield 212, 3), (10, .if_icmp .gt 29, 3), (13, .iload_n 2, 1), (14, .aload_n 0, 1), (15, .getfield 38, 3), (18, .iload_n 3, 1), (19, .iaload, 1), (20, .aload_n 0, 1), (21, .getfield 47, 3), (24, .iload_n 3, 1), (25, .iaload, 1), (26, .invokestatic 225, 3), (29, .invokestatic 196, 3)], [(32, .istore_n 2, 1), (33, .iinc 3 1, 3), (36, .goto (-31), 3), (39, .iload_n 2, 1), (40, .ireturn, 1)]])
/-- Mod.layBest -/
def mm_m203 : mm_I := ((⟨"PromisedStockModel", "layBest", "()V"⟩, prog_11_method_59_code, 5, none), (9, 1, 0), ([7, 37, 67, 105], [], []), [[(0, .aload_n 0, 1), (1, .invokevirtual 202, 3), (4, .istore_n 1, 1), (5, .iconst 0, 1), (6, .istore_n 2, 1), (7, .iload_n 2, 1), (8, .aload_n 0, 1), (9, .invokevirtual 84, 3), (12, .if_icmp .ge 91, 3), (15, .iconst 3, 1), (16, .bipush 7, 2), (18, .iload_n 2, 1), (19, .imul, 1), (20, .iadd, 1), (21, .bipush 6, 2), (23, .iadd, 1), (24, .istore_n 3, 1), (25, .aload_n 0, 1), (26, .getfield 53, 3), (29, .iload_n 2, 1), (30, .aload_n 0, 1), (31, .getfield 13, 3)], [(34, .iload_n 3, 1), (35, .iaload, 1), (36, .iastore, 1), (37, .aload_n 0, 1), (38, .getfield 53, 3), (41, .iload_n 2, 1), (42, .iaload, 1), (43, .iconst (-1), 1), (44, .if_icmp .ne 7, 3), (47, .iconst 0, 1), (48, .goto 9, 3), (51, .aload_n 0, 1), (52, .getfield 53, 3), (55, .iload_n 2, 1), (56, .iaload, 1), (57, .istore 4, 2), (59, .aload_n 0, 1), (60, .getfield 13, 3), (63, .iload_n 3, 1)], [(64, .iload 4, 2), (66, .iastore, 1), (67, .aload_n 0, 1), (68, .invokevirtual 218, 3), (71, .iload_n 1, 1), (72, .if_icmp .eq 17, 3), (75, .iinc 4 1, 3), (78, .aload_n 0, 1), (79, .getfield 13, 3), (82, .iload_n 3, 1), (83, .iload 4, 2), (85, .iastore, 1), (86, .goto (-19), 3), (89, .aload_n 0, 1), (90, .getfield 23, 3), (93, .iload_n 2, 1), (94, .iload 4, 2)], [(96, .iastore, 1), (97, .iinc 2 1, 3), (100, .goto (-93), 3), (103, .iconst 0, 1), (104, .istore_n 2, 1), (105, .iload_n 2, 1), (106, .aload_n 0, 1), (107, .invokevirtual 84, 3), (110, .if_icmp .ge 29, 3), (113, .aload_n 0, 1), (114, .getfield 13, 3), (117, .iconst 3, 1), (118, .bipush 7, 2), (120, .iload_n 2, 1), (121, .imul, 1), (122, .iadd, 1), (123, .bipush 6, 2), (125, .iadd, 1), (126, .aload_n 0, 1), (127, .getfield 53, 3)], [(130, .iload_n 2, 1), (131, .iaload, 1), (132, .iastore, 1), (133, .iinc 2 1, 3), (136, .goto (-31), 3), (139, .return_, 1)]])
/-- Mod.least -/
def mm_m204 : mm_I := ((⟨"PromisedStockModel", "least", "()I"⟩, prog_11_method_60_code, 1, some .int), (9, 1, 1), ([], [], []), [[(0, .aload_n 0, 1), (1, .iconst 0, 1), (2, .putfield 1, 3), (5, .aload_n 0, 1), (6, .invokevirtual 202, 3), (9, .ireturn, 1)]])
/-- Mod.priceWith -/
def mm_m205 : mm_I := ((⟨"PromisedStockModel", "priceWith", "(III)I"⟩, prog_11_method_61_code, 7, some .int), (9, 4, 1), ([33], [], []), [[(0, .iconst 3, 1), (1, .bipush 7, 2), (3, .iload_n 1, 1), (4, .imul, 1), (5, .iadd, 1), (6, .iload_n 2, 1), (7, .iadd, 1), (8, .istore 4, 2), (10, .aload_n 0, 1), (11, .getfield 13, 3), (14, .iload 4, 2), (16, .iaload, 1), (17, .istore 5, 2), (19, .aload_n 0, 1), (20, .getfield 13, 3), (23, .iload 4, 2), (25, .iload_n 3, 1), (26, .iastore, 1), (27, .aload_n 0, 1), (28, .invokevirtual 202, 3), (31, .istore 6, 2)], [(33, .aload_n 0, 1), (34, .getfield 13, 3), (37, .iload 4, 2), (39, .iload 5, 2), (41, .iastore, 1), (42, .iload 6, 2), (44, .ireturn, 1)]])
/-- Mod.lessThan -/
def mm_m206 : mm_I := ((⟨"PromisedStockModel", "lessThan", "(II)I"⟩, prog_11_method_62_code, 3, some .int), (9, 3, 1), ([], [], []), [[(0, .iload_n 1, 1), (1, .iconst (-1), 1), (2, .if_icmp .eq 8, 3), (5, .iload_n 2, 1), (6, .iconst (-1), 1), (7, .if_icmp .ne 8, 3), (10, .ldc 250, 2), (12, .goto 6, 3), (15, .iload_n 1, 1), (16, .iload_n 2, 1), (17, .isub, 1), (18, .ireturn, 1)]])
/-- Mod.worth -/
def mm_m207 : mm_I := ((⟨"PromisedStockModel", "worth", "(II)I"⟩, prog_11_method_63_code, 5, some .int), (9, 3, 1), ([47, 76], [], []), [[(0, .aload_n 0, 1), (1, .iconst 0, 1), (2, .putfield 1, 3), (5, .aload_n 0, 1), (6, .iload_n 1, 1), (7, .invokevirtual 137, 3), (10, .ifCond .eq 12, 3), (13, .iload_n 2, 1), (14, .iconst 0, 1), (15, .iconst 2, 1), (16, .invokestatic 88, 3), (19, .ifCond .ne 9, 3), (22, .aload_n 0, 1), (23, .iconst 1, 1), (24, .invokevirtual 150, 3), (27, .ireturn, 1), (28, .iload_n 2, 1), (29, .ifCond .ne 7, 3)], [(32, .iconst 0, 1), (33, .goto 14, 3), (36, .iload_n 2, 1), (37, .iconst 1, 1), (38, .if_icmp .ne 7, 3), (41, .iconst 5, 1), (42, .goto 5, 3), (45, .bipush 6, 2), (47, .istore_n 3, 1), (48, .aload_n 0, 1), (49, .iload_n 1, 1), (50, .iload_n 3, 1), (51, .invokevirtual 103, 3), (54, .istore 4, 2), (56, .iload_n 2, 1), (57, .ifCond .ne 11, 3), (60, .iload 4, 2), (62, .ifCond .ne 14, 3)], [(65, .goto 9, 3), (68, .iload 4, 2), (70, .iconst (-1), 1), (71, .if_icmp .ne 5, 3), (74, .iconst 0, 1), (75, .ireturn, 1), (76, .aload_n 0, 1), (77, .aload_n 0, 1), (78, .invokevirtual 202, 3), (81, .aload_n 0, 1), (82, .iload_n 1, 1), (83, .iload_n 3, 1), (84, .iload_n 2, 1), (85, .ifCond .ne 10, 3), (88, .iload 4, 2), (90, .iconst 1, 1), (91, .isub, 1), (92, .goto 16, 3), (95, .iload_n 2, 1)], [(96, .iconst 1, 1), (97, .if_icmp .ne 10, 3), (100, .iload 4, 2), (102, .iconst 1, 1), (103, .iadd, 1), (104, .goto 4, 3), (107, .iconst (-1), 1), (108, .invokevirtual 251, 3), (111, .invokevirtual 254, 3), (114, .ireturn, 1)]])
/-- Mod.evenPrice -/
def mm_m208 : mm_I := ((⟨"PromisedStockModel", "evenPrice", "(I)I"⟩, prog_11_method_64_code, 4, some .int), (9, 2, 1), ([2, 31, 63], [], []), [[(0, .iconst 0, 1), (1, .istore_n 2, 1), (2, .iload_n 2, 1), (3, .aload_n 0, 1), (4, .invokevirtual 84, 3), (7, .if_icmp .ge 49, 3), (10, .iconst 3, 1), (11, .bipush 7, 2), (13, .iload_n 2, 1), (14, .imul, 1), (15, .iadd, 1), (16, .iconst 5, 1), (17, .iadd, 1), (18, .istore_n 3, 1), (19, .aload_n 0, 1), (20, .getfield 56, 3), (23, .iload_n 2, 1), (24, .aload_n 0, 1), (25, .getfield 13, 3), (28, .iload_n 3, 1), (29, .iaload, 1), (30, .iastore, 1), (31, .aload_n 0, 1)], [(32, .getfield 13, 3), (35, .iload_n 3, 1), (36, .aload_n 0, 1), (37, .iload_n 2, 1), (38, .invokevirtual 107, 3), (41, .ifCond .ne 7, 3), (44, .iload_n 1, 1), (45, .goto 4, 3), (48, .iconst (-1), 1), (49, .iastore, 1), (50, .iinc 2 1, 3), (53, .goto (-51), 3), (56, .aload_n 0, 1), (57, .invokevirtual 202, 3), (60, .istore_n 2, 1), (61, .iconst 0, 1), (62, .istore_n 3, 1), (63, .iload_n 3, 1)], [(64, .aload_n 0, 1), (65, .invokevirtual 84, 3), (68, .if_icmp .ge 28, 3), (71, .aload_n 0, 1), (72, .getfield 13, 3), (75, .iconst 3, 1), (76, .bipush 7, 2), (78, .iload_n 3, 1), (79, .imul, 1), (80, .iadd, 1), (81, .iconst 5, 1), (82, .iadd, 1), (83, .aload_n 0, 1), (84, .getfield 56, 3), (87, .iload_n 3, 1), (88, .iaload, 1), (89, .iastore, 1), (90, .iinc 3 1, 3), (93, .goto (-30), 3)], [(96, .iload_n 2, 1), (97, .ireturn, 1)]])
/-- Mod.even -/
def mm_m209 : mm_I := ((⟨"PromisedStockModel", "even", "(I)I"⟩, prog_11_method_65_code, 2, some .int), (9, 2, 1), ([], [], []), [[(0, .aload_n 0, 1), (1, .iconst 0, 1), (2, .putfield 1, 3), (5, .iload_n 1, 1), (6, .iconst 0, 1), (7, .bipush 20, 2), (9, .invokestatic 88, 3), (12, .ifCond .eq 11, 3), (15, .aload_n 0, 1), (16, .iload_n 1, 1), (17, .invokevirtual 257, 3), (20, .goto 8, 3), (23, .aload_n 0, 1), (24, .iconst 1, 1), (25, .invokevirtual 150, 3), (28, .ireturn, 1)]])
/-- Mod.budget -/
def mm_m210 : mm_I := ((⟨"PromisedStockModel", "budget", "(I)I"⟩, prog_11_method_66_code, 4, some .int), (9, 2, 1), ([7], [], []), [[(0, .aload_n 0, 1), (1, .iconst 0, 1), (2, .putfield 1, 3), (5, .iconst 0, 1), (6, .istore_n 2, 1), (7, .iload_n 2, 1), (8, .bipush 20, 2), (10, .if_icmp .gt 27, 3), (13, .aload_n 0, 1), (14, .iload_n 2, 1), (15, .invokevirtual 257, 3), (18, .istore_n 3, 1), (19, .iload_n 3, 1), (20, .iconst (-1), 1), (21, .if_icmp .eq 10, 3), (24, .iload_n 3, 1), (25, .iload_n 1, 1), (26, .if_icmp .gt 5, 3), (29, .iload_n 2, 1), (30, .ireturn, 1), (31, .iinc 2 1, 3)], [(34, .goto (-27), 3), (37, .iconst (-1), 1), (38, .ireturn, 1)]])
/-- Mod.pinned -/
def mm_m211 : mm_I := ((⟨"PromisedStockModel", "pinned", "(II)I"⟩, prog_11_method_67_code, 3, some .int), (9, 3, 1), ([], [], []), [[(0, .aload_n 0, 1), (1, .aload_n 0, 1), (2, .iload_n 1, 1), (3, .invokevirtual 137, 3), (6, .ifCond .ne 7, 3), (9, .iconst 1, 1), (10, .goto 18, 3), (13, .iload_n 2, 1), (14, .iconst 0, 1), (15, .bipush 119, 2), (17, .invokestatic 88, 3), (20, .ifCond .ne 7, 3), (23, .iconst 2, 1), (24, .goto 4, 3), (27, .iconst 0, 1), (28, .putfield 1, 3), (31, .aload_n 0, 1)], [(32, .getfield 1, 3), (35, .ifCond .le 7, 3), (38, .iconst 0, 1), (39, .goto 11, 3), (42, .aload_n 0, 1), (43, .iload_n 1, 1), (44, .bipush 6, 2), (46, .iload_n 2, 1), (47, .invokevirtual 251, 3), (50, .ireturn, 1)]])
/-- Mod.frontierAt -/
def mm_m212 : mm_I := ((⟨"PromisedStockModel", "frontierAt", "(I)I"⟩, prog_11_method_68_code, 6, some .int), (9, 2, 1), ([8], [], []), [[(0, .iconst 0, 1), (1, .istore_n 2, 1), (2, .ldc 211, 2), (4, .istore_n 3, 1), (5, .iconst 0, 1), (6, .istore 4, 2), (8, .iload 4, 2), (10, .bipush 20, 2), (12, .if_icmp .gt 46, 3), (15, .aload_n 0, 1), (16, .iload 4, 2), (18, .invokevirtual 257, 3), (21, .istore 5, 2), (23, .iload 5, 2), (25, .iconst (-1), 1), (26, .if_icmp .eq 26, 3), (29, .iload 5, 2), (31, .iload_n 3, 1)], [(32, .if_icmp .lt 6, 3), (35, .goto 17, 3), (38, .iload 5, 2), (40, .istore_n 3, 1), (41, .iload_n 2, 1), (42, .iload_n 1, 1), (43, .if_icmp .ne 6, 3), (46, .iload 4, 2), (48, .ireturn, 1), (49, .iinc 2 1, 3), (52, .iinc 4 1, 3), (55, .goto (-47), 3), (58, .iload_n 1, 1), (59, .iconst (-1), 1), (60, .if_icmp .ne 7, 3), (63, .iload_n 2, 1)], [(64, .goto 5, 3), (67, .bipush (-2), 2), (69, .ireturn, 1)]])
/-- Mod.frontier -/
def mm_m213 : mm_I := ((⟨"PromisedStockModel", "frontier", "(I)I"⟩, prog_11_method_69_code, 3, some .int), (9, 2, 1), ([], [], []), [[(0, .aload_n 0, 1), (1, .iconst 0, 1), (2, .putfield 1, 3), (5, .iload_n 1, 1), (6, .iconst (-1), 1), (7, .if_icmp .ge 8, 3), (10, .bipush (-2), 2), (12, .goto 8, 3), (15, .aload_n 0, 1), (16, .iload_n 1, 1), (17, .invokevirtual 260, 3), (20, .istore_n 2, 1), (21, .iload_n 2, 1), (22, .bipush (-2), 2), (24, .if_icmp .ne 11, 3), (27, .aload_n 0, 1), (28, .iconst 1, 1), (29, .invokevirtual 150, 3)], [(32, .goto 4, 3), (35, .iload_n 2, 1), (36, .ireturn, 1)]])
/-- Mod.demand -/
def mm_m214 : mm_I := ((⟨"PromisedStockModel", "demand", "(III)I"⟩, prog_11_method_70_code, 5, some .int), (9, 4, 1), ([39, 64], [], []), [[(0, .aload_n 0, 1), (1, .aload_n 0, 1), (2, .iload_n 1, 1), (3, .invokevirtual 137, 3), (6, .ifCond .eq 13, 3), (9, .iload_n 2, 1), (10, .iconst 0, 1), (11, .bipush 39, 2), (13, .invokestatic 88, 3), (16, .ifCond .ne 7, 3), (19, .iconst 1, 1), (20, .goto 19, 3), (23, .iload_n 3, 1), (24, .iconst 0, 1), (25, .sipush 999, 3), (28, .invokestatic 88, 3), (31, .ifCond .ne 7, 3)], [(34, .iconst 2, 1), (35, .goto 4, 3), (38, .iconst 0, 1), (39, .putfield 1, 3), (42, .aload_n 0, 1), (43, .getfield 1, 3), (46, .ifCond .le 5, 3), (49, .iconst 0, 1), (50, .ireturn, 1), (51, .aload_n 0, 1), (52, .getfield 26, 3), (55, .bipush 40, 2), (57, .iload_n 1, 1), (58, .imul, 1), (59, .iload_n 2, 1), (60, .iadd, 1), (61, .iaload, 1), (62, .istore 4, 2)], [(64, .aload_n 0, 1), (65, .getfield 26, 3), (68, .bipush 40, 2), (70, .iload_n 1, 1), (71, .imul, 1), (72, .iload_n 2, 1), (73, .iadd, 1), (74, .iload_n 3, 1), (75, .iastore, 1), (76, .iload 4, 2), (78, .ireturn, 1)]])
/-- Mod.draw -/
def mm_m215 : mm_I := ((⟨"PromisedStockModel", "draw", "(I)I"⟩, prog_11_method_71_code, 2, some .int), (9, 2, 1), ([], [], []), [[(0, .aload_n 0, 1), (1, .aload_n 0, 1), (2, .getfield 263, 3), (5, .ldc_w 266, 3), (8, .imul, 1), (9, .sipush 12345, 3), (12, .iadd, 1), (13, .putfield 263, 3), (16, .aload_n 0, 1), (17, .getfield 263, 3), (20, .bipush 16, 2), (22, .ishr, 1), (23, .sipush 32767, 3), (26, .iand, 1), (27, .iload_n 1, 1), (28, .irem, 1), (29, .ireturn, 1)]])
/-- Mod.drawn -/
def mm_m216 : mm_I := ((⟨"PromisedStockModel", "drawn", "(II)I"⟩, prog_11_method_72_code, 6, some .int), (9, 3, 1), ([29, 52], [], []), [[(0, .aload_n 0, 1), (1, .iconst 0, 1), (2, .putfield 1, 3), (5, .aload_n 0, 1), (6, .iload_n 1, 1), (7, .invokevirtual 137, 3), (10, .ifCond .ne 9, 3), (13, .aload_n 0, 1), (14, .iconst 1, 1), (15, .invokevirtual 150, 3), (18, .ireturn, 1), (19, .aload_n 0, 1), (20, .iload_n 2, 1), (21, .putfield 263, 3), (24, .iconst 0, 1), (25, .istore_n 3, 1), (26, .iconst 0, 1), (27, .istore 4, 2), (29, .iload 4, 2), (31, .bipush 40, 2)], [(33, .if_icmp .ge 44, 3), (36, .aload_n 0, 1), (37, .iconst 2, 1), (38, .aload_n 0, 1), (39, .iload_n 1, 1), (40, .iconst 3, 1), (41, .invokevirtual 103, 3), (44, .imul, 1), (45, .iconst 1, 1), (46, .iadd, 1), (47, .invokevirtual 267, 3), (50, .istore 5, 2), (52, .aload_n 0, 1), (53, .getfield 26, 3), (56, .bipush 40, 2), (58, .iload_n 1, 1), (59, .imul, 1), (60, .iload 4, 2), (62, .iadd, 1), (63, .iload 5, 2)], [(65, .iastore, 1), (66, .iload_n 3, 1), (67, .iload 5, 2), (69, .iadd, 1), (70, .istore_n 3, 1), (71, .iinc 4 1, 3), (74, .goto (-45), 3), (77, .iload_n 3, 1), (78, .ireturn, 1)]])
/-- Mod.called -/
def mm_m217 : mm_I := ((⟨"PromisedStockModel", "called", "(II)I"⟩, prog_11_method_73_code, 5, some .int), (9, 3, 1), ([21], [], []), [[(0, .iload_n 2, 1), (1, .ifCond .ge 5, 3), (4, .iconst 0, 1), (5, .ireturn, 1), (6, .aload_n 0, 1), (7, .getfield 26, 3), (10, .bipush 40, 2), (12, .iload_n 1, 1), (13, .imul, 1), (14, .iload_n 2, 1), (15, .iadd, 1), (16, .iaload, 1), (17, .istore_n 3, 1), (18, .iconst 0, 1), (19, .istore 4, 2), (21, .iload 4, 2), (23, .aload_n 0, 1), (24, .invokevirtual 84, 3), (27, .if_icmp .ge 32, 3), (30, .aload_n 0, 1), (31, .iload_n 1, 1)], [(32, .invokevirtual 107, 3), (35, .iload 4, 2), (37, .invokestatic 99, 3), (40, .ifCond .eq 13, 3), (43, .iload_n 3, 1), (44, .aload_n 0, 1), (45, .iload 4, 2), (47, .iload_n 2, 1), (48, .invokevirtual 270, 3), (51, .iadd, 1), (52, .istore_n 3, 1), (53, .iinc 4 1, 3), (56, .goto (-35), 3), (59, .iload_n 3, 1), (60, .ireturn, 1)]])
/-- Mod.layCalls -/
def mm_m218 : mm_I := ((⟨"PromisedStockModel", "layCalls", "(I)V"⟩, prog_11_method_74_code, 3, none), (9, 2, 0), ([2, 28], [], []), [[(0, .iconst 0, 1), (1, .istore_n 2, 1), (2, .iload_n 2, 1), (3, .bipush 40, 2), (5, .if_icmp .ge 21, 3), (8, .aload_n 0, 1), (9, .getfield 59, 3), (12, .iload_n 2, 1), (13, .aload_n 0, 1), (14, .iload_n 1, 1), (15, .iload_n 2, 1), (16, .invokevirtual 270, 3), (19, .iastore, 1), (20, .iinc 2 1, 3), (23, .goto (-21), 3), (26, .iconst 0, 1), (27, .istore_n 2, 1), (28, .iload_n 2, 1), (29, .bipush 40, 2), (31, .if_icmp .gt 21, 3)], [(34, .aload_n 0, 1), (35, .getfield 62, 3), (38, .iload_n 2, 1), (39, .aload_n 0, 1), (40, .iload_n 1, 1), (41, .iload_n 2, 1), (42, .invokevirtual 141, 3), (45, .iastore, 1), (46, .iinc 2 1, 3), (49, .goto (-21), 3), (52, .return_, 1)]])
/-- Mod.onHand -/
def mm_m219 : mm_I := ((⟨"PromisedStockModel", "onHand", "(II)I"⟩, prog_11_method_75_code, 6, some .int), (9, 3, 1), ([29, 43], [], []), [[(0, .aload_n 0, 1), (1, .iload_n 1, 1), (2, .invokevirtual 178, 3), (5, .istore_n 3, 1), (6, .iload_n 3, 1), (7, .ifCond .ge 6, 3), (10, .ldc 250, 2), (12, .ireturn, 1), (13, .iload_n 3, 1), (14, .ifCond .ne 7, 3), (17, .iconst 0, 1), (18, .goto 9, 3), (21, .aload_n 0, 1), (22, .iload_n 1, 1), (23, .iload_n 3, 1), (24, .invokevirtual 141, 3), (27, .istore 4, 2), (29, .iload_n 2, 1), (30, .aload_n 0, 1), (31, .getfield 23, 3)], [(34, .iload_n 1, 1), (35, .iaload, 1), (36, .isub, 1), (37, .iload_n 3, 1), (38, .isub, 1), (39, .iconst 1, 1), (40, .iadd, 1), (41, .istore 5, 2), (43, .iload 5, 2), (45, .iload_n 2, 1), (46, .aload_n 0, 1), (47, .getfield 23, 3), (50, .iload_n 1, 1), (51, .iaload, 1), (52, .isub, 1), (53, .if_icmp .gt 30, 3), (56, .iload 4, 2), (58, .iload 5, 2), (60, .ifCond .ge 7, 3), (63, .iconst 0, 1)], [(64, .goto 10, 3), (67, .aload_n 0, 1), (68, .getfield 59, 3), (71, .iload 5, 2), (73, .iaload, 1), (74, .isub, 1), (75, .istore 4, 2), (77, .iinc 5 1, 3), (80, .goto (-37), 3), (83, .iload 4, 2), (85, .ireturn, 1)]])
/-- Mod.breaking -/
def mm_m220 : mm_I := ((⟨"PromisedStockModel", "breaking", "(I)I"⟩, prog_11_method_76_code, 5, some .int), (9, 2, 1), ([7, 29], [], []), [[(0, .iconst 0, 1), (1, .istore_n 2, 1), (2, .iconst 0, 1), (3, .istore_n 3, 1), (4, .iconst 1, 1), (5, .istore 4, 2), (7, .iload 4, 2), (9, .iload_n 1, 1), (10, .iconst 1, 1), (11, .iadd, 1), (12, .if_icmp .gt 37, 3), (15, .iload_n 3, 1), (16, .aload_n 0, 1), (17, .getfield 59, 3), (20, .iload_n 1, 1), (21, .iload 4, 2), (23, .isub, 1), (24, .iconst 1, 1), (25, .iadd, 1), (26, .iaload, 1), (27, .iadd, 1), (28, .istore_n 3, 1), (29, .iload_n 3, 1), (30, .aload_n 0, 1), (31, .getfield 62, 3)], [(34, .iload 4, 2), (36, .iaload, 1), (37, .if_icmp .le 6, 3), (40, .iload 4, 2), (42, .istore_n 2, 1), (43, .iinc 4 1, 3), (46, .goto (-39), 3), (49, .iload_n 2, 1), (50, .ireturn, 1)]])
/-- Mod.day -/
def mm_m221 : mm_I := ((⟨"PromisedStockModel", "day", "(III)I"⟩, prog_11_method_77_code, 4, some .int), (9, 4, 1), ([47, 61], [], []), [[(0, .aload_n 0, 1), (1, .iconst 0, 1), (2, .putfield 1, 3), (5, .aload_n 0, 1), (6, .iload_n 1, 1), (7, .invokevirtual 137, 3), (10, .ifCond .eq 22, 3), (13, .iload_n 2, 1), (14, .iconst 0, 1), (15, .bipush 39, 2), (17, .invokestatic 88, 3), (20, .ifCond .eq 12, 3), (23, .iload_n 3, 1), (24, .iconst 0, 1), (25, .iconst 3, 1), (26, .invokestatic 88, 3), (29, .ifCond .ne 9, 3)], [(32, .aload_n 0, 1), (33, .iconst 1, 1), (34, .invokevirtual 150, 3), (37, .ireturn, 1), (38, .aload_n 0, 1), (39, .iload_n 1, 1), (40, .invokevirtual 273, 3), (43, .iload_n 3, 1), (44, .ifCond .ne 17, 3), (47, .aload_n 0, 1), (48, .getfield 26, 3), (51, .bipush 40, 2), (53, .iload_n 1, 1), (54, .imul, 1), (55, .iload_n 2, 1), (56, .iadd, 1), (57, .iaload, 1), (58, .goto 36, 3), (61, .iload_n 3, 1), (62, .iconst 1, 1), (63, .if_icmp .ne 12, 3)], [(66, .aload_n 0, 1), (67, .getfield 59, 3), (70, .iload_n 2, 1), (71, .iaload, 1), (72, .goto 22, 3), (75, .iload_n 3, 1), (76, .iconst 2, 1), (77, .if_icmp .ne 12, 3), (80, .aload_n 0, 1), (81, .iload_n 1, 1), (82, .iload_n 2, 1), (83, .invokevirtual 276, 3), (86, .goto 8, 3), (89, .aload_n 0, 1), (90, .iload_n 2, 1), (91, .invokevirtual 279, 3), (94, .ireturn, 1)]])
/-- Mod.days -/
def mm_m222 : mm_I := ((⟨"PromisedStockModel", "days", "(II)I"⟩, prog_11_method_78_code, 7, some .int), (9, 3, 1), ([40, 72, 83, 96], [], []), [[(0, .aload_n 0, 1), (1, .iconst 0, 1), (2, .putfield 1, 3), (5, .aload_n 0, 1), (6, .iload_n 1, 1), (7, .invokevirtual 137, 3), (10, .ifCond .eq 12, 3), (13, .iload_n 2, 1), (14, .iconst 0, 1), (15, .iconst 2, 1), (16, .invokestatic 88, 3), (19, .ifCond .ne 9, 3), (22, .aload_n 0, 1), (23, .iconst 1, 1), (24, .invokevirtual 150, 3), (27, .ireturn, 1), (28, .aload_n 0, 1), (29, .iload_n 1, 1), (30, .invokevirtual 273, 3)], [(33, .iload_n 2, 1), (34, .iconst 1, 1), (35, .if_icmp .ne 29, 3), (38, .iconst 0, 1), (39, .istore_n 3, 1), (40, .iload_n 3, 1), (41, .bipush 40, 2), (43, .if_icmp .ge 19, 3), (46, .aload_n 0, 1), (47, .iload_n 3, 1), (48, .invokevirtual 279, 3), (51, .ifCond .le 5, 3), (54, .iload_n 3, 1), (55, .ireturn, 1), (56, .iinc 3 1, 3), (59, .goto (-19), 3), (62, .iconst (-1), 1), (63, .ireturn, 1)], [(64, .aload_n 0, 1), (65, .iload_n 1, 1), (66, .invokevirtual 178, 3), (69, .ifCond .ge 14, 3), (72, .iload_n 2, 1), (73, .ifCond .ne 7, 3), (76, .iconst (-1), 1), (77, .goto 5, 3), (80, .ldc 250, 2), (82, .ireturn, 1), (83, .iconst 0, 1), (84, .istore_n 3, 1), (85, .aload_n 0, 1), (86, .iload_n 1, 1), (87, .iconst 0, 1), (88, .invokevirtual 276, 3), (91, .istore 4, 2), (93, .iconst 0, 1), (94, .istore 5, 2)], [(96, .iload 5, 2), (98, .bipush 40, 2), (100, .if_icmp .ge 40, 3), (103, .aload_n 0, 1), (104, .iload_n 1, 1), (105, .iload 5, 2), (107, .invokevirtual 276, 3), (110, .istore 6, 2), (112, .iload_n 3, 1), (113, .iload 6, 2), (115, .ifCond .ge 7, 3), (118, .iconst 1, 1), (119, .goto 4, 3), (122, .iconst 0, 1), (123, .iadd, 1), (124, .istore_n 3, 1), (125, .iload 4, 2), (127, .iload 6, 2)], [(129, .invokestatic 196, 3), (132, .istore 4, 2), (134, .iinc 5 1, 3), (137, .goto (-41), 3), (140, .iload_n 2, 1), (141, .ifCond .ne 7, 3), (144, .iload_n 3, 1), (145, .goto 5, 3), (148, .iload 4, 2), (150, .ireturn, 1)]])
/-- Mod.aheadOf -/
def mm_m223 : mm_I := ((⟨"PromisedStockModel", "aheadOf", "(I)I"⟩, prog_11_method_79_code, 4, some .int), (9, 2, 1), ([4, 29], [], []), [[(0, .iconst (-1), 1), (1, .istore_n 2, 1), (2, .iconst 0, 1), (3, .istore_n 3, 1), (4, .iload_n 3, 1), (5, .aload_n 0, 1), (6, .invokevirtual 84, 3), (9, .if_icmp .ge 41, 3), (12, .aload_n 0, 1), (13, .iload_n 1, 1), (14, .invokevirtual 113, 3), (17, .iload_n 3, 1), (18, .invokestatic 99, 3), (21, .ifCond .eq 23, 3), (24, .iload_n 2, 1), (25, .iconst (-1), 1), (26, .if_icmp .eq 16, 3), (29, .aload_n 0, 1), (30, .iload_n 3, 1), (31, .invokevirtual 116, 3)], [(34, .aload_n 0, 1), (35, .iload_n 2, 1), (36, .invokevirtual 116, 3), (39, .if_icmp .le 5, 3), (42, .iload_n 3, 1), (43, .istore_n 2, 1), (44, .iinc 3 1, 3), (47, .goto (-43), 3), (50, .iload_n 2, 1), (51, .iconst (-1), 1), (52, .if_icmp .eq 27, 3), (55, .aload_n 0, 1), (56, .iload_n 2, 1), (57, .invokevirtual 116, 3), (60, .aload_n 0, 1), (61, .iload_n 1, 1), (62, .iconst 0, 1), (63, .invokevirtual 103, 3)], [(66, .iadd, 1), (67, .aload_n 0, 1), (68, .iload_n 1, 1), (69, .invokevirtual 116, 3), (72, .if_icmp .ne 7, 3), (75, .iload_n 2, 1), (76, .goto 4, 3), (79, .iconst (-1), 1), (80, .ireturn, 1)]])
/-- Mod.chain -/
def mm_m224 : mm_I := ((⟨"PromisedStockModel", "chain", "(II)I"⟩, prog_11_method_80_code, 5, some .int), (9, 3, 1), ([29], [], []), [[(0, .aload_n 0, 1), (1, .iconst 0, 1), (2, .putfield 1, 3), (5, .aload_n 0, 1), (6, .iload_n 1, 1), (7, .invokevirtual 137, 3), (10, .ifCond .eq 8, 3), (13, .iload_n 2, 1), (14, .iconst (-1), 1), (15, .if_icmp .ge 9, 3), (18, .aload_n 0, 1), (19, .iconst 1, 1), (20, .invokevirtual 150, 3), (23, .ireturn, 1), (24, .iconst 0, 1), (25, .istore_n 3, 1), (26, .iload_n 1, 1), (27, .istore 4, 2), (29, .iload 4, 2), (31, .iconst (-1), 1)], [(32, .if_icmp .eq 25, 3), (35, .iload_n 3, 1), (36, .iload_n 2, 1), (37, .if_icmp .ne 6, 3), (40, .iload 4, 2), (42, .ireturn, 1), (43, .iinc 3 1, 3), (46, .aload_n 0, 1), (47, .iload 4, 2), (49, .invokevirtual 282, 3), (52, .istore 4, 2), (54, .goto (-25), 3), (57, .iload_n 2, 1), (58, .iconst (-1), 1), (59, .if_icmp .ne 7, 3), (62, .iload_n 3, 1), (63, .goto 8, 3)], [(66, .aload_n 0, 1), (67, .iconst 1, 1), (68, .invokevirtual 150, 3), (71, .ireturn, 1)]])
/-- Mod.copy -/
def mm_m225 : mm_I := ((⟨"PromisedStockModel", "copy", "([I[I)V"⟩, prog_11_method_81_code, 3, none), (9, 2, 0), ([2], [], []), [[(0, .iconst 0, 1), (1, .istore_n 2, 1), (2, .iload_n 2, 1), (3, .aload_n 0, 1), (4, .arraylength, 1), (5, .if_icmp .ge 15, 3), (8, .aload_n 0, 1), (9, .iload_n 2, 1), (10, .aload_n 1, 1), (11, .iload_n 2, 1), (12, .iaload, 1), (13, .iastore, 1), (14, .iinc 2 1, 3), (17, .goto (-15), 3), (20, .return_, 1)]])
/-- Mod.image -/
def mm_m226 : mm_I := ((⟨"PromisedStockModel", "image", "()V"⟩, prog_11_method_82_code, 1, none), (9, 1, 0), ([], [], []), [[(0, .aload_n 0, 1), (1, .iconst 0, 1), (2, .putfield 1, 3), (5, .aload_n 0, 1), (6, .iconst 1, 1), (7, .putfield 285, 3), (10, .aload_n 0, 1), (11, .getfield 65, 3), (14, .aload_n 0, 1), (15, .getfield 13, 3), (18, .invokestatic 289, 3), (21, .aload_n 0, 1), (22, .getfield 68, 3), (25, .aload_n 0, 1), (26, .getfield 23, 3), (29, .invokestatic 289, 3)], [(32, .aload_n 0, 1), (33, .getfield 71, 3), (36, .aload_n 0, 1), (37, .getfield 26, 3), (40, .invokestatic 289, 3), (43, .return_, 1)]])
/-- Mod.back -/
def mm_m227 : mm_I := ((⟨"PromisedStockModel", "back", "()Z"⟩, prog_11_method_83_code, 1, some .boolean), (9, 1, 2), ([47], [], []), [[(0, .aload_n 0, 1), (1, .iconst 0, 1), (2, .putfield 1, 3), (5, .aload_n 0, 1), (6, .getfield 285, 3), (9, .ifCond .ne 5, 3), (12, .iconst 0, 1), (13, .ireturn, 1), (14, .aload_n 0, 1), (15, .getfield 13, 3), (18, .aload_n 0, 1), (19, .getfield 65, 3), (22, .invokestatic 289, 3), (25, .aload_n 0, 1), (26, .getfield 23, 3), (29, .aload_n 0, 1), (30, .getfield 68, 3)], [(33, .invokestatic 289, 3), (36, .aload_n 0, 1), (37, .getfield 26, 3), (40, .aload_n 0, 1), (41, .getfield 71, 3), (44, .invokestatic 289, 3), (47, .aload_n 0, 1), (48, .iconst 0, 1), (49, .putfield 144, 3), (52, .iconst 1, 1), (53, .ireturn, 1)]])
/-- Mod.feed -/
def mm_m228 : mm_I := ((⟨"PromisedStockModel", "feed", "(IIIII)I"⟩, prog_11_method_84_code, 8, some .int), (9, 6, 1), ([23, 76, 104], [], []), [[(0, .aload_n 0, 1), (1, .iconst 0, 1), (2, .putfield 1, 3), (5, .aload_n 0, 1), (6, .getfield 147, 3), (9, .bipush 20, 2), (11, .iadd, 1), (12, .sipush 400, 3), (15, .if_icmp .le 5, 3), (18, .iconst (-1), 1), (19, .ireturn, 1), (20, .iconst 0, 1), (21, .istore 6, 2), (23, .iload 6, 2), (25, .bipush 20, 2), (27, .if_icmp .ge 93, 3), (30, .iload 6, 2)], [(32, .iconst 4, 1), (33, .if_icmp .ge 7, 3), (36, .iload_n 1, 1), (37, .goto 39, 3), (40, .iload 6, 2), (42, .bipush 8, 2), (44, .if_icmp .ge 7, 3), (47, .iload_n 2, 1), (48, .goto 28, 3), (51, .iload 6, 2), (53, .bipush 12, 2), (55, .if_icmp .ge 7, 3), (58, .iload_n 3, 1), (59, .goto 17, 3), (62, .iload 6, 2)], [(64, .bipush 16, 2), (66, .if_icmp .ge 8, 3), (69, .iload 4, 2), (71, .goto 5, 3), (74, .iload 5, 2), (76, .istore 7, 2), (78, .aload_n 0, 1), (79, .getfield 74, 3), (82, .aload_n 0, 1), (83, .getfield 147, 3), (86, .iload 7, 2), (88, .bipush 24, 2), (90, .bipush 8, 2), (92, .iload 6, 2), (94, .iconst 4, 1), (95, .irem, 1)], [(96, .imul, 1), (97, .isub, 1), (98, .ishr, 1), (99, .sipush 255, 3), (102, .iand, 1), (103, .iastore, 1), (104, .aload_n 0, 1), (105, .dup, 1), (106, .getfield 147, 3), (109, .iconst 1, 1), (110, .iadd, 1), (111, .putfield 147, 3), (114, .iinc 6 1, 3), (117, .goto (-94), 3), (120, .aload_n 0, 1), (121, .getfield 147, 3), (124, .ireturn, 1)]])
/-- Mod.byteAt -/
def mm_m229 : mm_I := ((⟨"PromisedStockModel", "byteAt", "(I)I"⟩, prog_11_method_85_code, 2, some .int), (9, 2, 1), ([], [], []), [[(0, .iload_n 1, 1), (1, .aload_n 0, 1), (2, .getfield 293, 3), (5, .if_icmp .ge 12, 3), (8, .aload_n 0, 1), (9, .getfield 74, 3), (12, .iload_n 1, 1), (13, .iaload, 1), (14, .goto 4, 3), (17, .iconst (-1), 1), (18, .ireturn, 1)]])
/-- Mod.isSmall -/
def mm_m230 : mm_I := ((⟨"PromisedStockModel", "isSmall", "(I)Z"⟩, prog_11_method_86_code, 1, some .boolean), (9, 1, 2), ([], [], []), [[(0, .iload_n 0, 1), (1, .bipush 97, 2), (3, .if_icmp .lt 13, 3), (6, .iload_n 0, 1), (7, .bipush 122, 2), (9, .if_icmp .gt 7, 3), (12, .iconst 1, 1), (13, .goto 4, 3), (16, .iconst 0, 1), (17, .ireturn, 1)]])
/-- Mod.isFigure -/
def mm_m231 : mm_I := ((⟨"PromisedStockModel", "isFigure", "(I)Z"⟩, prog_11_method_87_code, 1, some .boolean), (9, 1, 2), ([], [], []), [[(0, .iload_n 0, 1), (1, .bipush 48, 2), (3, .if_icmp .lt 13, 3), (6, .iload_n 0, 1), (7, .bipush 57, 2), (9, .if_icmp .gt 7, 3), (12, .iconst 1, 1), (13, .goto 4, 3), (16, .iconst 0, 1), (17, .ireturn, 1)]])
/-- Mod.step -/
def mm_m232 : mm_I := ((⟨"PromisedStockModel", "step", "()V"⟩, prog_11_method_88_code, 2, none), (9, 1, 0), ([0, 56, 76, 118], [], []), [[(0, .aload_n 0, 1), (1, .aload_n 0, 1), (2, .getfield 296, 3), (5, .invokevirtual 299, 3), (8, .bipush 32, 2), (10, .if_icmp .eq 16, 3), (13, .aload_n 0, 1), (14, .aload_n 0, 1), (15, .getfield 296, 3), (18, .invokevirtual 299, 3), (21, .bipush 10, 2), (23, .if_icmp .ne 16, 3), (26, .aload_n 0, 1), (27, .dup, 1), (28, .getfield 296, 3), (31, .iconst 1, 1)], [(32, .iadd, 1), (33, .putfield 296, 3), (36, .goto (-36), 3), (39, .aload_n 0, 1), (40, .aload_n 0, 1), (41, .getfield 296, 3), (44, .putfield 302, 3), (47, .aload_n 0, 1), (48, .aload_n 0, 1), (49, .getfield 296, 3), (52, .invokevirtual 299, 3), (55, .istore_n 1, 1), (56, .iload_n 1, 1), (57, .iconst (-1), 1), (58, .if_icmp .ne 11, 3), (61, .aload_n 0, 1), (62, .iconst 0, 1), (63, .putfield 305, 3)], [(66, .goto 102, 3), (69, .iload_n 1, 1), (70, .invokestatic 308, 3), (73, .ifCond .eq 38, 3), (76, .aload_n 0, 1), (77, .aload_n 0, 1), (78, .getfield 296, 3), (81, .invokevirtual 299, 3), (84, .invokestatic 308, 3), (87, .ifCond .eq 16, 3), (90, .aload_n 0, 1), (91, .dup, 1), (92, .getfield 296, 3), (95, .iconst 1, 1)], [(96, .iadd, 1), (97, .putfield 296, 3), (100, .goto (-24), 3), (103, .aload_n 0, 1), (104, .iconst 1, 1), (105, .putfield 305, 3), (108, .goto 60, 3), (111, .iload_n 1, 1), (112, .invokestatic 311, 3), (115, .ifCond .eq 38, 3), (118, .aload_n 0, 1), (119, .aload_n 0, 1), (120, .getfield 296, 3), (123, .invokevirtual 299, 3), (126, .invokestatic 311, 3)], [(129, .ifCond .eq 16, 3), (132, .aload_n 0, 1), (133, .dup, 1), (134, .getfield 296, 3), (137, .iconst 1, 1), (138, .iadd, 1), (139, .putfield 296, 3), (142, .goto (-24), 3), (145, .aload_n 0, 1), (146, .iconst 2, 1), (147, .putfield 305, 3), (150, .goto 18, 3), (153, .aload_n 0, 1), (154, .dup, 1), (155, .getfield 296, 3), (158, .iconst 1, 1), (159, .iadd, 1)], [(160, .putfield 296, 3), (163, .aload_n 0, 1), (164, .iconst 3, 1), (165, .putfield 305, 3), (168, .aload_n 0, 1), (169, .aload_n 0, 1), (170, .getfield 296, 3), (173, .putfield 314, 3), (176, .return_, 1)]])
/-- Mod.wrong -/
def mm_m233 : mm_I := ((⟨"PromisedStockModel", "wrong", "(I)V"⟩, prog_11_method_89_code, 2, none), (9, 2, 0), ([], [], []), [[(0, .aload_n 0, 1), (1, .getfield 317, 3), (4, .ifCond .eq 4, 3), (7, .return_, 1), (8, .aload_n 0, 1), (9, .iload_n 1, 1), (10, .putfield 317, 3), (13, .aload_n 0, 1), (14, .aload_n 0, 1), (15, .getfield 302, 3), (18, .putfield 320, 3), (21, .return_, 1)]])
/-- Mod.isSign -/
def mm_m234 : mm_I := ((⟨"PromisedStockModel", "isSign", "(I)Z"⟩, prog_11_method_90_code, 2, some .boolean), (9, 2, 2), ([], [], []), [[(0, .aload_n 0, 1), (1, .getfield 317, 3), (4, .ifCond .ne 28, 3), (7, .aload_n 0, 1), (8, .getfield 305, 3), (11, .iconst 3, 1), (12, .if_icmp .ne 20, 3), (15, .aload_n 0, 1), (16, .getfield 74, 3), (19, .aload_n 0, 1), (20, .getfield 302, 3), (23, .iaload, 1), (24, .iload_n 1, 1), (25, .if_icmp .ne 7, 3), (28, .iconst 1, 1), (29, .goto 4, 3)], [(32, .iconst 0, 1), (33, .ireturn, 1)]])
/-- Mod.isWord -/
def mm_m235 : mm_I := ((⟨"PromisedStockModel", "isWord", "(Ljava/lang/String;)Z"⟩, prog_11_method_91_code, 4, some .boolean), (9, 2, 2), ([39], [], []), [[(0, .aload_n 0, 1), (1, .getfield 317, 3), (4, .ifCond .ne 31, 3), (7, .aload_n 0, 1), (8, .getfield 305, 3), (11, .iconst 1, 1), (12, .if_icmp .ne 23, 3), (15, .aload_n 1, 1), (16, .invokevirtual 323, 3), (19, .aload_n 0, 1), (20, .getfield 314, 3), (23, .aload_n 0, 1), (24, .getfield 302, 3), (27, .isub, 1), (28, .if_icmp .ne 7, 3), (31, .iconst 1, 1)], [(32, .goto 4, 3), (35, .iconst 0, 1), (36, .istore_n 2, 1), (37, .iconst 0, 1), (38, .istore_n 3, 1), (39, .iload_n 2, 1), (40, .ifCond .eq 42, 3), (43, .iload_n 3, 1), (44, .aload_n 1, 1), (45, .invokevirtual 323, 3), (48, .if_icmp .ge 34, 3), (51, .aload_n 1, 1), (52, .iload_n 3, 1), (53, .invokevirtual 328, 3), (56, .aload_n 0, 1), (57, .getfield 74, 3), (60, .aload_n 0, 1), (61, .getfield 302, 3)], [(64, .iload_n 3, 1), (65, .iadd, 1), (66, .iaload, 1), (67, .if_icmp .ne 7, 3), (70, .iconst 1, 1), (71, .goto 4, 3), (74, .iconst 0, 1), (75, .istore_n 2, 1), (76, .iinc 3 1, 3), (79, .goto (-40), 3), (82, .iload_n 2, 1), (83, .ireturn, 1)]])
/-- Mod.pass -/
def mm_m236 : mm_I := ((⟨"PromisedStockModel", "pass", "()V"⟩, prog_11_method_92_code, 1, none), (9, 1, 0), ([], [], []), [[(0, .aload_n 0, 1), (1, .getfield 317, 3), (4, .ifCond .ne 7, 3), (7, .aload_n 0, 1), (8, .invokevirtual 332, 3), (11, .return_, 1)]])
/-- Mod.must -/
def mm_m237 : mm_I := ((⟨"PromisedStockModel", "must", "(I)V"⟩, prog_11_method_93_code, 2, none), (9, 2, 0), ([], [], []), [[(0, .aload_n 0, 1), (1, .iload_n 1, 1), (2, .invokevirtual 335, 3), (5, .ifCond .ne 8, 3), (8, .aload_n 0, 1), (9, .iconst 1, 1), (10, .invokevirtual 338, 3), (13, .aload_n 0, 1), (14, .invokevirtual 341, 3), (17, .return_, 1)]])
/-- Mod.opens -/
def mm_m238 : mm_I := ((⟨"PromisedStockModel", "opens", "(I)V"⟩, prog_11_method_94_code, 2, none), (9, 2, 0), ([], [], []), [[(0, .aload_n 0, 1), (1, .iload_n 1, 1), (2, .putfield 293, 3), (5, .aload_n 0, 1), (6, .iconst 0, 1), (7, .putfield 296, 3), (10, .aload_n 0, 1), (11, .iconst 0, 1), (12, .putfield 317, 3), (15, .aload_n 0, 1), (16, .iconst 0, 1), (17, .putfield 344, 3), (20, .aload_n 0, 1), (21, .invokevirtual 332, 3), (24, .return_, 1)]])
/-- Mod.readNumber -/
def mm_m239 : mm_I := ((⟨"PromisedStockModel", "readNumber", "(I)I"⟩, prog_11_method_95_code, 4, some .int), (9, 2, 1), ([27], [], []), [[(0, .aload_n 0, 1), (1, .getfield 317, 3), (4, .ifCond .ne 16, 3), (7, .aload_n 0, 1), (8, .getfield 305, 3), (11, .iconst 2, 1), (12, .if_icmp .eq 8, 3), (15, .aload_n 0, 1), (16, .iconst 1, 1), (17, .invokevirtual 338, 3), (20, .iconst 0, 1), (21, .istore_n 2, 1), (22, .aload_n 0, 1), (23, .getfield 302, 3), (26, .istore_n 3, 1), (27, .aload_n 0, 1), (28, .getfield 317, 3), (31, .ifCond .ne 38, 3)], [(34, .iload_n 3, 1), (35, .aload_n 0, 1), (36, .getfield 314, 3), (39, .if_icmp .ge 30, 3), (42, .sipush 10000, 3), (45, .bipush 10, 2), (47, .iload_n 2, 1), (48, .imul, 1), (49, .aload_n 0, 1), (50, .getfield 74, 3), (53, .iload_n 3, 1), (54, .iaload, 1), (55, .iadd, 1), (56, .bipush 48, 2), (58, .isub, 1), (59, .invokestatic 196, 3), (62, .istore_n 2, 1), (63, .iinc 3 1, 3)], [(66, .goto (-39), 3), (69, .iload_n 2, 1), (70, .iload_n 1, 1), (71, .if_icmp .le 8, 3), (74, .aload_n 0, 1), (75, .iconst 2, 1), (76, .invokevirtual 338, 3), (79, .aload_n 0, 1), (80, .invokevirtual 341, 3), (83, .iload_n 2, 1), (84, .ireturn, 1)]])
/-- Mod.ends -/
def mm_m240 : mm_I := ((⟨"PromisedStockModel", "ends", "()I"⟩, prog_11_method_96_code, 1, some .int), (9, 1, 1), ([], [], []), [[(0, .aload_n 0, 1), (1, .iconst 0, 1), (2, .putfield 147, 3), (5, .aload_n 0, 1), (6, .aload_n 0, 1), (7, .getfield 317, 3), (10, .ifCond .ne 7, 3), (13, .iconst (-1), 1), (14, .goto 7, 3), (17, .aload_n 0, 1), (18, .getfield 320, 3), (21, .putfield 77, 3), (24, .aload_n 0, 1), (25, .getfield 317, 3), (28, .ireturn, 1)]])
/-- Mod.fault -/
def mm_m241 : mm_I := ((⟨"PromisedStockModel", "fault", "()I"⟩, prog_11_method_97_code, 1, some .int), (9, 1, 1), ([], [], []), [[(0, .aload_n 0, 1), (1, .iconst 0, 1), (2, .putfield 1, 3), (5, .aload_n 0, 1), (6, .getfield 77, 3), (9, .ireturn, 1)]])
/-- Mod.isName -/
def mm_m242 : mm_I := ((⟨"PromisedStockModel", "isName", "()Z"⟩, prog_11_method_98_code, 1, some .boolean), (9, 1, 2), ([39, 49], [], []), [[(0, .aload_n 0, 1), (1, .getfield 317, 3), (4, .ifCond .ne 89, 3), (7, .aload_n 0, 1), (8, .getfield 305, 3), (11, .iconst 1, 1), (12, .if_icmp .ne 81, 3), (15, .aload_n 0, 1), (16, .getfield 314, 3), (19, .aload_n 0, 1), (20, .getfield 302, 3), (23, .isub, 1), (24, .bipush 6, 2), (26, .if_icmp .gt 67, 3), (29, .aload_n 0, 1), (30, .ldc_w 347, 3)], [(33, .invokevirtual 349, 3), (36, .ifCond .ne 57, 3), (39, .aload_n 0, 1), (40, .ldc_w 353, 3), (43, .invokevirtual 349, 3), (46, .ifCond .ne 47, 3), (49, .aload_n 0, 1), (50, .ldc_w 355, 3), (53, .invokevirtual 349, 3), (56, .ifCond .ne 37, 3), (59, .aload_n 0, 1), (60, .ldc_w 357, 3), (63, .invokevirtual 349, 3)], [(66, .ifCond .ne 27, 3), (69, .aload_n 0, 1), (70, .ldc_w 359, 3), (73, .invokevirtual 349, 3), (76, .ifCond .ne 17, 3), (79, .aload_n 0, 1), (80, .ldc_w 360, 3), (83, .invokevirtual 349, 3), (86, .ifCond .ne 7, 3), (89, .iconst 1, 1), (90, .goto 4, 3), (93, .iconst 0, 1), (94, .ireturn, 1)]])
/-- Mod.named -/
def mm_m243 : mm_I := ((⟨"PromisedStockModel", "named", "()I"⟩, prog_11_method_99_code, 4, some .int), (9, 1, 1), ([2, 16], [], []), [[(0, .iconst 0, 1), (1, .istore_n 1, 1), (2, .iload_n 1, 1), (3, .aload_n 0, 1), (4, .getfield 17, 3), (7, .iconst 0, 1), (8, .iaload, 1), (9, .if_icmp .ge 89, 3), (12, .iconst 1, 1), (13, .istore_n 2, 1), (14, .iconst 0, 1), (15, .istore_n 3, 1), (16, .iload_n 3, 1), (17, .bipush 6, 2), (19, .if_icmp .ge 67, 3), (22, .iload_n 2, 1), (23, .ifCond .eq 55, 3), (26, .aload_n 0, 1), (27, .getfield 17, 3), (30, .bipush 87, 2)], [(32, .bipush 6, 2), (34, .iload_n 1, 1), (35, .imul, 1), (36, .iadd, 1), (37, .iload_n 3, 1), (38, .iadd, 1), (39, .iaload, 1), (40, .aload_n 0, 1), (41, .getfield 302, 3), (44, .iload_n 3, 1), (45, .iadd, 1), (46, .aload_n 0, 1), (47, .getfield 314, 3), (50, .if_icmp .ge 20, 3), (53, .aload_n 0, 1), (54, .getfield 74, 3), (57, .aload_n 0, 1), (58, .getfield 302, 3), (61, .iload_n 3, 1), (62, .iadd, 1), (63, .iaload, 1)], [(64, .bipush 96, 2), (66, .isub, 1), (67, .goto 4, 3), (70, .iconst 0, 1), (71, .if_icmp .ne 7, 3), (74, .iconst 1, 1), (75, .goto 4, 3), (78, .iconst 0, 1), (79, .istore_n 2, 1), (80, .iinc 3 1, 3), (83, .goto (-67), 3), (86, .iload_n 2, 1), (87, .ifCond .eq 5, 3), (90, .iload_n 1, 1), (91, .ireturn, 1), (92, .iinc 1 1, 3), (95, .goto (-93), 3)], [(98, .iconst (-1), 1), (99, .ireturn, 1)]])
/-- Mod.readKnown -/
def mm_m244 : mm_I := ((⟨"PromisedStockModel", "readKnown", "()I"⟩, prog_11_method_100_code, 2, some .int), (9, 1, 1), ([27], [], []), [[(0, .aload_n 0, 1), (1, .invokevirtual 362, 3), (4, .ifCond .ne 8, 3), (7, .aload_n 0, 1), (8, .iconst 1, 1), (9, .invokevirtual 338, 3), (12, .aload_n 0, 1), (13, .getfield 317, 3), (16, .ifCond .ne 10, 3), (19, .aload_n 0, 1), (20, .invokevirtual 366, 3), (23, .goto 4, 3), (26, .iconst 0, 1), (27, .istore_n 1, 1), (28, .iload_n 1, 1), (29, .iconst (-1), 1), (30, .if_icmp .ne 8, 3)], [(33, .aload_n 0, 1), (34, .iconst 3, 1), (35, .invokevirtual 338, 3), (38, .iload_n 1, 1), (39, .ireturn, 1)]])
/-- Mod.readStage -/
def mm_m245 : mm_I := ((⟨"PromisedStockModel", "readStage", "()V"⟩, prog_11_method_101_code, 4, none), (9, 1, 0), ([48, 65, 156, 198, 227, 255], [], []), [[(0, .aload_n 0, 1), (1, .getfield 17, 3), (4, .iconst 0, 1), (5, .iaload, 1), (6, .bipush 12, 2), (8, .if_icmp .ne 8, 3), (11, .aload_n 0, 1), (12, .iconst 5, 1), (13, .invokevirtual 338, 3), (16, .aload_n 0, 1), (17, .invokevirtual 341, 3), (20, .aload_n 0, 1), (21, .invokevirtual 362, 3), (24, .ifCond .ne 11, 3), (27, .aload_n 0, 1), (28, .iconst 1, 1), (29, .invokevirtual 338, 3)], [(32, .goto 16, 3), (35, .aload_n 0, 1), (36, .invokevirtual 366, 3), (39, .iconst (-1), 1), (40, .if_icmp .eq 8, 3), (43, .aload_n 0, 1), (44, .iconst 3, 1), (45, .invokevirtual 338, 3), (48, .aload_n 0, 1), (49, .getfield 317, 3), (52, .ifCond .eq 4, 3), (55, .return_, 1), (56, .aload_n 0, 1), (57, .getfield 17, 3), (60, .iconst 0, 1), (61, .iaload, 1), (62, .istore_n 1, 1), (63, .iconst 0, 1)], [(64, .istore_n 2, 1), (65, .iload_n 2, 1), (66, .bipush 6, 2), (68, .if_icmp .ge 54, 3), (71, .aload_n 0, 1), (72, .getfield 17, 3), (75, .bipush 87, 2), (77, .bipush 6, 2), (79, .iload_n 1, 1), (80, .imul, 1), (81, .iadd, 1), (82, .iload_n 2, 1), (83, .iadd, 1), (84, .aload_n 0, 1), (85, .getfield 302, 3), (88, .iload_n 2, 1), (89, .iadd, 1), (90, .aload_n 0, 1), (91, .getfield 314, 3), (94, .if_icmp .ge 20, 3)], [(97, .aload_n 0, 1), (98, .getfield 74, 3), (101, .aload_n 0, 1), (102, .getfield 302, 3), (105, .iload_n 2, 1), (106, .iadd, 1), (107, .iaload, 1), (108, .bipush 96, 2), (110, .isub, 1), (111, .goto 4, 3), (114, .iconst 0, 1), (115, .iastore, 1), (116, .iinc 2 1, 3), (119, .goto (-54), 3), (122, .aload_n 0, 1), (123, .invokevirtual 341, 3), (126, .aload_n 0, 1), (127, .bipush 9, 2)], [(129, .invokevirtual 369, 3), (132, .istore_n 2, 1), (133, .aload_n 0, 1), (134, .getfield 17, 3), (137, .iload_n 1, 1), (138, .iload_n 2, 1), (139, .aload_n 0, 1), (140, .sipush 999, 3), (143, .invokevirtual 369, 3), (146, .invokestatic 159, 3), (149, .iconst 3, 1), (150, .bipush 7, 2), (152, .iload_n 1, 1), (153, .imul, 1), (154, .iadd, 1), (155, .istore_n 3, 1), (156, .aload_n 0, 1), (157, .ldc_w 353, 3)], [(160, .invokevirtual 349, 3), (163, .ifCond .eq 21, 3), (166, .aload_n 0, 1), (167, .invokevirtual 341, 3), (170, .aload_n 0, 1), (171, .getfield 17, 3), (174, .iload_n 3, 1), (175, .iconst 2, 1), (176, .iadd, 1), (177, .aload_n 0, 1), (178, .bipush 9, 2), (180, .invokevirtual 369, 3), (183, .iastore, 1), (184, .aload_n 0, 1), (185, .ldc_w 355, 3), (188, .invokevirtual 349, 3), (191, .ifCond .eq 36, 3)], [(194, .aload_n 0, 1), (195, .invokevirtual 341, 3), (198, .aload_n 0, 1), (199, .getfield 17, 3), (202, .iload_n 3, 1), (203, .iconst 3, 1), (204, .iadd, 1), (205, .aload_n 0, 1), (206, .bipush 99, 2), (208, .invokevirtual 369, 3), (211, .iastore, 1), (212, .aload_n 0, 1), (213, .getfield 17, 3), (216, .iload_n 3, 1), (217, .iconst 4, 1), (218, .iadd, 1), (219, .aload_n 0, 1), (220, .sipush 9999, 3), (223, .invokevirtual 369, 3)], [(226, .iastore, 1), (227, .aload_n 0, 1), (228, .ldc_w 357, 3), (231, .invokevirtual 349, 3), (234, .ifCond .eq 21, 3), (237, .aload_n 0, 1), (238, .invokevirtual 341, 3), (241, .aload_n 0, 1), (242, .getfield 17, 3), (245, .iload_n 3, 1), (246, .iconst 5, 1), (247, .iadd, 1), (248, .aload_n 0, 1), (249, .bipush 20, 2), (251, .invokevirtual 369, 3), (254, .iastore, 1), (255, .aload_n 0, 1)], [(256, .getfield 17, 3), (259, .iconst 0, 1), (260, .dup2, 1), (261, .iaload, 1), (262, .iconst 1, 1), (263, .iadd, 1), (264, .iastore, 1), (265, .return_, 1)]])
/-- Mod.readSupply -/
def mm_m246 : mm_I := ((⟨"PromisedStockModel", "readSupply", "()V"⟩, prog_11_method_102_code, 3, none), (9, 1, 0), ([40, 49], [], []), [[(0, .aload_n 0, 1), (1, .invokevirtual 341, 3), (4, .aload_n 0, 1), (5, .invokevirtual 372, 3), (8, .istore_n 1, 1), (9, .aload_n 0, 1), (10, .invokevirtual 341, 3), (13, .aload_n 0, 1), (14, .invokevirtual 372, 3), (17, .istore_n 2, 1), (18, .aload_n 0, 1), (19, .getfield 317, 3), (22, .ifCond .ne 23, 3), (25, .aload_n 0, 1), (26, .getfield 17, 3), (29, .iload_n 1, 1), (30, .invokestatic 171, 3)], [(33, .iload_n 2, 1), (34, .invokestatic 99, 3), (37, .ifCond .eq 8, 3), (40, .aload_n 0, 1), (41, .iconst 4, 1), (42, .invokevirtual 338, 3), (45, .aload_n 0, 1), (46, .invokevirtual 341, 3), (49, .aload_n 0, 1), (50, .getfield 317, 3), (53, .ifCond .ne 12, 3), (56, .aload_n 0, 1), (57, .getfield 17, 3), (60, .iload_n 1, 1), (61, .iload_n 2, 1), (62, .invokestatic 163, 3)], [(65, .return_, 1)]])
/-- Mod.readLine -/
def mm_m247 : mm_I := ((⟨"PromisedStockModel", "readLine", "()V"⟩, prog_11_method_103_code, 1, none), (9, 1, 0), ([69], [], []), [[(0, .aload_n 0, 1), (1, .ldc_w 347, 3), (4, .invokevirtual 349, 3), (7, .ifCond .eq 10, 3), (10, .aload_n 0, 1), (11, .invokevirtual 375, 3), (14, .goto 55, 3), (17, .aload_n 0, 1), (18, .ldc_w 359, 3), (21, .invokevirtual 349, 3), (24, .ifCond .eq 10, 3), (27, .aload_n 0, 1), (28, .invokevirtual 378, 3), (31, .goto 38, 3)], [(34, .aload_n 0, 1), (35, .ldc_w 360, 3), (38, .invokevirtual 349, 3), (41, .ifCond .eq 23, 3), (44, .aload_n 0, 1), (45, .invokevirtual 341, 3), (48, .aload_n 0, 1), (49, .getfield 17, 3), (52, .iconst 1, 1), (53, .aload_n 0, 1), (54, .sipush 400, 3), (57, .invokevirtual 369, 3), (60, .iastore, 1), (61, .goto 8, 3)], [(64, .aload_n 0, 1), (65, .iconst 1, 1), (66, .invokevirtual 338, 3), (69, .aload_n 0, 1), (70, .bipush 59, 2), (72, .invokevirtual 381, 3), (75, .return_, 1)]])
/-- Mod.network -/
def mm_m248 : mm_I := ((⟨"PromisedStockModel", "network", "(I)I"⟩, prog_11_method_104_code, 4, some .int), (9, 2, 1), ([35, 88], [], []), [[(0, .aload_n 0, 1), (1, .iconst 0, 1), (2, .putfield 1, 3), (5, .iload_n 1, 1), (6, .ifCond .lt 11, 3), (9, .iload_n 1, 1), (10, .aload_n 0, 1), (11, .getfield 147, 3), (14, .if_icmp .le 9, 3), (17, .aload_n 0, 1), (18, .iconst 1, 1), (19, .invokevirtual 150, 3), (22, .ireturn, 1), (23, .aload_n 0, 1), (24, .getfield 17, 3), (27, .invokestatic 80, 3), (30, .aload_n 0, 1), (31, .iload_n 1, 1)], [(32, .invokevirtual 384, 3), (35, .aload_n 0, 1), (36, .getfield 317, 3), (39, .ifCond .ne 17, 3), (42, .aload_n 0, 1), (43, .getfield 305, 3), (46, .ifCond .eq 10, 3), (49, .aload_n 0, 1), (50, .invokevirtual 387, 3), (53, .goto (-18), 3), (56, .aload_n 0, 1), (57, .invokevirtual 390, 3), (60, .istore_n 2, 1), (61, .iload_n 2, 1), (62, .ifCond .eq 8, 3)], [(65, .bipush (-10), 2), (67, .iload_n 2, 1), (68, .isub, 1), (69, .ireturn, 1), (70, .aload_n 0, 1), (71, .getfield 13, 3), (74, .aload_n 0, 1), (75, .getfield 17, 3), (78, .invokestatic 289, 3), (81, .aload_n 0, 1), (82, .iconst 0, 1), (83, .putfield 144, 3), (86, .iconst 0, 1), (87, .istore_n 3, 1), (88, .iload_n 3, 1), (89, .bipush 12, 2), (91, .if_icmp .ge 14, 3), (94, .aload_n 0, 1), (95, .iload_n 3, 1)], [(96, .invokevirtual 167, 3), (99, .iinc 3 1, 3), (102, .goto (-14), 3), (105, .aload_n 0, 1), (106, .invokevirtual 84, 3), (109, .ireturn, 1)]])
/-- Mod.toldOf -/
def mm_m249 : mm_I := ((⟨"PromisedStockModel", "toldOf", "()I"⟩, prog_11_method_105_code, 1, some .int), (9, 1, 1), ([85, 95], [], []), [[(0, .aload_n 0, 1), (1, .ldc_w 393, 3), (4, .invokevirtual 349, 3), (7, .ifCond .eq 8, 3), (10, .aload_n 0, 1), (11, .getfield 395, 3), (14, .ireturn, 1), (15, .aload_n 0, 1), (16, .ldc_w 398, 3), (19, .invokevirtual 349, 3), (22, .ifCond .eq 13, 3), (25, .aload_n 0, 1), (26, .aload_n 0, 1), (27, .getfield 395, 3), (30, .iconst 0, 1), (31, .invokevirtual 103, 3)], [(34, .ireturn, 1), (35, .aload_n 0, 1), (36, .ldc_w 400, 3), (39, .invokevirtual 349, 3), (42, .ifCond .eq 13, 3), (45, .aload_n 0, 1), (46, .aload_n 0, 1), (47, .getfield 395, 3), (50, .iconst 1, 1), (51, .invokevirtual 103, 3), (54, .ireturn, 1), (55, .aload_n 0, 1), (56, .ldc_w 353, 3), (59, .invokevirtual 349, 3), (62, .ifCond .eq 13, 3)], [(65, .aload_n 0, 1), (66, .aload_n 0, 1), (67, .getfield 395, 3), (70, .iconst 2, 1), (71, .invokevirtual 103, 3), (74, .ireturn, 1), (75, .aload_n 0, 1), (76, .ldc_w 402, 3), (79, .invokevirtual 349, 3), (82, .ifCond .eq 13, 3), (85, .aload_n 0, 1), (86, .aload_n 0, 1), (87, .getfield 395, 3), (90, .iconst 3, 1), (91, .invokevirtual 103, 3), (94, .ireturn, 1), (95, .aload_n 0, 1)], [(96, .ldc_w 404, 3), (99, .invokevirtual 349, 3), (102, .ifCond .eq 13, 3), (105, .aload_n 0, 1), (106, .aload_n 0, 1), (107, .getfield 395, 3), (110, .iconst 4, 1), (111, .invokevirtual 103, 3), (114, .ireturn, 1), (115, .aload_n 0, 1), (116, .ldc_w 357, 3), (119, .invokevirtual 349, 3), (122, .ifCond .eq 13, 3), (125, .aload_n 0, 1), (126, .aload_n 0, 1), (127, .getfield 395, 3)], [(130, .iconst 5, 1), (131, .invokevirtual 103, 3), (134, .ireturn, 1), (135, .aload_n 0, 1), (136, .ldc_w 406, 3), (139, .invokevirtual 349, 3), (142, .ifCond .eq 14, 3), (145, .aload_n 0, 1), (146, .aload_n 0, 1), (147, .getfield 395, 3), (150, .bipush 6, 2), (152, .invokevirtual 103, 3), (155, .ireturn, 1), (156, .aload_n 0, 1), (157, .invokevirtual 408, 3)], [(160, .ireturn, 1)]])
/-- Mod.madeOf -/
def mm_m250 : mm_I := ((⟨"PromisedStockModel", "madeOf", "()I"⟩, prog_11_method_106_code, 1, some .int), (9, 1, 1), ([91, 103], [], []), [[(0, .aload_n 0, 1), (1, .ldc_w 411, 3), (4, .invokevirtual 349, 3), (7, .ifCond .eq 13, 3), (10, .aload_n 0, 1), (11, .aload_n 0, 1), (12, .getfield 395, 3), (15, .iconst 3, 1), (16, .invokevirtual 110, 3), (19, .ireturn, 1), (20, .aload_n 0, 1), (21, .ldc_w 413, 3), (24, .invokevirtual 349, 3), (27, .ifCond .eq 13, 3), (30, .aload_n 0, 1), (31, .aload_n 0, 1)], [(32, .getfield 395, 3), (35, .iconst 4, 1), (36, .invokevirtual 110, 3), (39, .ireturn, 1), (40, .aload_n 0, 1), (41, .ldc_w 415, 3), (44, .invokevirtual 349, 3), (47, .ifCond .eq 12, 3), (50, .aload_n 0, 1), (51, .aload_n 0, 1), (52, .getfield 395, 3), (55, .invokevirtual 116, 3), (58, .ireturn, 1), (59, .aload_n 0, 1), (60, .ldc_w 417, 3), (63, .invokevirtual 349, 3)], [(66, .ifCond .eq 15, 3), (69, .aload_n 0, 1), (70, .aload_n 0, 1), (71, .getfield 395, 3), (74, .invokevirtual 113, 3), (77, .invokestatic 193, 3), (80, .ireturn, 1), (81, .aload_n 0, 1), (82, .ldc_w 419, 3), (85, .invokevirtual 349, 3), (88, .ifCond .eq 15, 3), (91, .aload_n 0, 1), (92, .aload_n 0, 1), (93, .getfield 395, 3)], [(96, .invokevirtual 107, 3), (99, .invokestatic 193, 3), (102, .ireturn, 1), (103, .aload_n 0, 1), (104, .invokevirtual 421, 3), (107, .ireturn, 1)]])
/-- Mod.plannedOf -/
def mm_m251 : mm_I := ((⟨"PromisedStockModel", "plannedOf", "()I"⟩, prog_11_method_107_code, 4, some .int), (9, 1, 1), ([67, 76, 99], [], []), [[(0, .aload_n 0, 1), (1, .ldc_w 424, 3), (4, .invokevirtual 349, 3), (7, .ifCond .eq 13, 3), (10, .aload_n 0, 1), (11, .getfield 23, 3), (14, .aload_n 0, 1), (15, .getfield 395, 3), (18, .iaload, 1), (19, .ireturn, 1), (20, .aload_n 0, 1), (21, .ldc_w 425, 3), (24, .invokevirtual 349, 3), (27, .ifCond .eq 12, 3), (30, .aload_n 0, 1), (31, .aload_n 0, 1)], [(32, .getfield 395, 3), (35, .invokevirtual 175, 3), (38, .ireturn, 1), (39, .aload_n 0, 1), (40, .ldc_w 427, 3), (43, .invokevirtual 349, 3), (46, .istore_n 1, 1), (47, .aload_n 0, 1), (48, .ldc_w 428, 3), (51, .invokevirtual 349, 3), (54, .istore_n 2, 1), (55, .aload_n 0, 1), (56, .ldc_w 430, 3), (59, .invokevirtual 349, 3), (62, .istore_n 3, 1), (63, .iload_n 1, 1)], [(64, .ifCond .eq 12, 3), (67, .aload_n 0, 1), (68, .aload_n 0, 1), (69, .getfield 395, 3), (72, .invokevirtual 178, 3), (75, .ireturn, 1), (76, .iload_n 2, 1), (77, .ifCond .ne 22, 3), (80, .iload_n 3, 1), (81, .ifCond .ne 18, 3), (84, .aload_n 0, 1), (85, .ldc_w 432, 3), (88, .invokevirtual 349, 3), (91, .ifCond .ne 8, 3), (94, .aload_n 0, 1), (95, .iconst 1, 1)], [(96, .invokevirtual 338, 3), (99, .aload_n 0, 1), (100, .getfield 317, 3), (103, .ifCond .ne 14, 3), (106, .aload_n 0, 1), (107, .aload_n 0, 1), (108, .getfield 395, 3), (111, .invokevirtual 178, 3), (114, .ifCond .ge 5, 3), (117, .iconst (-1), 1), (118, .ireturn, 1), (119, .iload_n 2, 1), (120, .ifCond .eq 14, 3), (123, .aload_n 0, 1), (124, .aload_n 0, 1), (125, .getfield 395, 3)], [(128, .invokevirtual 184, 3), (131, .goto 44, 3), (134, .iload_n 3, 1), (135, .ifCond .eq 22, 3), (138, .aload_n 0, 1), (139, .aload_n 0, 1), (140, .getfield 395, 3), (143, .aload_n 0, 1), (144, .aload_n 0, 1), (145, .getfield 395, 3), (148, .invokevirtual 178, 3), (151, .invokevirtual 141, 3), (154, .goto 21, 3), (157, .aload_n 0, 1), (158, .aload_n 0, 1), (159, .getfield 395, 3)], [(162, .iconst 1, 1), (163, .invokevirtual 103, 3), (166, .aload_n 0, 1), (167, .aload_n 0, 1), (168, .getfield 395, 3), (171, .invokevirtual 184, 3), (174, .imul, 1), (175, .ireturn, 1)]])
/-- Mod.goesIn -/
def mm_m252 : mm_I := ((⟨"PromisedStockModel", "goesIn", "()V"⟩, prog_11_method_108_code, 1, none), (9, 1, 0), ([], [], []), [[(0, .aload_n 0, 1), (1, .getfield 317, 3), (4, .ifCond .ne 17, 3), (7, .aload_n 0, 1), (8, .getfield 344, 3), (11, .bipush 6, 2), (13, .if_icmp .ne 8, 3), (16, .aload_n 0, 1), (17, .iconst 3, 1), (18, .invokevirtual 338, 3), (21, .aload_n 0, 1), (22, .dup, 1), (23, .getfield 344, 3), (26, .iconst 1, 1), (27, .iadd, 1), (28, .putfield 344, 3), (31, .aload_n 0, 1)], [(32, .invokevirtual 341, 3), (35, .return_, 1)]])
/-- Mod.readPart -/
def mm_m253 : mm_I := ((⟨"PromisedStockModel", "readPart", "()I"⟩, prog_11_method_109_code, 2, some .int), (9, 1, 1), ([49], [], []), [[(0, .aload_n 0, 1), (1, .getfield 317, 3), (4, .ifCond .eq 5, 3), (7, .iconst 0, 1), (8, .ireturn, 1), (9, .aload_n 0, 1), (10, .getfield 305, 3), (13, .iconst 2, 1), (14, .if_icmp .ne 11, 3), (17, .aload_n 0, 1), (18, .sipush 9999, 3), (21, .invokevirtual 369, 3), (24, .ireturn, 1), (25, .aload_n 0, 1), (26, .bipush 40, 2), (28, .invokevirtual 335, 3), (31, .ifCond .eq 30, 3)], [(34, .aload_n 0, 1), (35, .invokevirtual 433, 3), (38, .aload_n 0, 1), (39, .invokevirtual 436, 3), (42, .istore_n 1, 1), (43, .aload_n 0, 1), (44, .bipush 41, 2), (46, .invokevirtual 381, 3), (49, .aload_n 0, 1), (50, .dup, 1), (51, .getfield 344, 3), (54, .iconst 1, 1), (55, .isub, 1), (56, .putfield 344, 3), (59, .iload_n 1, 1), (60, .ireturn, 1), (61, .aload_n 0, 1), (62, .getfield 439, 3)], [(65, .ifCond .eq 10, 3), (68, .aload_n 0, 1), (69, .invokevirtual 442, 3), (72, .goto 7, 3), (75, .aload_n 0, 1), (76, .invokevirtual 445, 3), (79, .istore_n 1, 1), (80, .aload_n 0, 1), (81, .invokevirtual 341, 3), (84, .iload_n 1, 1), (85, .ireturn, 1)]])
/-- Mod.lookAtWord -/
def mm_m254 : mm_I := ((⟨"PromisedStockModel", "lookAtWord", "()I"⟩, prog_11_method_110_code, 2, some .int), (9, 1, 1), ([50, 105, 150, 200, 206], [], []), [[(0, .aload_n 0, 1), (1, .ldc_w 393, 3), (4, .invokevirtual 349, 3), (7, .ifCond .ne 93, 3), (10, .aload_n 0, 1), (11, .ldc_w 398, 3), (14, .invokevirtual 349, 3), (17, .ifCond .ne 83, 3), (20, .aload_n 0, 1), (21, .ldc_w 400, 3), (24, .invokevirtual 349, 3), (27, .ifCond .ne 73, 3), (30, .aload_n 0, 1), (31, .ldc_w 353, 3)], [(34, .invokevirtual 349, 3), (37, .ifCond .ne 63, 3), (40, .aload_n 0, 1), (41, .ldc_w 402, 3), (44, .invokevirtual 349, 3), (47, .ifCond .ne 53, 3), (50, .aload_n 0, 1), (51, .ldc_w 404, 3), (54, .invokevirtual 349, 3), (57, .ifCond .ne 43, 3), (60, .aload_n 0, 1), (61, .ldc_w 357, 3)], [(64, .invokevirtual 349, 3), (67, .ifCond .ne 33, 3), (70, .aload_n 0, 1), (71, .ldc_w 406, 3), (74, .invokevirtual 349, 3), (77, .ifCond .ne 23, 3), (80, .aload_n 0, 1), (81, .ldc_w 411, 3), (84, .invokevirtual 349, 3), (87, .ifCond .ne 13, 3), (90, .aload_n 0, 1), (91, .ldc_w 413, 3), (94, .invokevirtual 349, 3)], [(97, .ifCond .eq 7, 3), (100, .iconst 1, 1), (101, .goto 4, 3), (104, .iconst 0, 1), (105, .istore_n 1, 1), (106, .iload_n 1, 1), (107, .ifCond .ne 93, 3), (110, .aload_n 0, 1), (111, .ldc_w 415, 3), (114, .invokevirtual 349, 3), (117, .ifCond .ne 83, 3), (120, .aload_n 0, 1), (121, .ldc_w 417, 3), (124, .invokevirtual 349, 3), (127, .ifCond .ne 73, 3)], [(130, .aload_n 0, 1), (131, .ldc_w 419, 3), (134, .invokevirtual 349, 3), (137, .ifCond .ne 63, 3), (140, .aload_n 0, 1), (141, .ldc_w 424, 3), (144, .invokevirtual 349, 3), (147, .ifCond .ne 53, 3), (150, .aload_n 0, 1), (151, .ldc_w 425, 3), (154, .invokevirtual 349, 3), (157, .ifCond .ne 43, 3)], [(160, .aload_n 0, 1), (161, .ldc_w 427, 3), (164, .invokevirtual 349, 3), (167, .ifCond .ne 33, 3), (170, .aload_n 0, 1), (171, .ldc_w 428, 3), (174, .invokevirtual 349, 3), (177, .ifCond .ne 23, 3), (180, .aload_n 0, 1), (181, .ldc_w 430, 3), (184, .invokevirtual 349, 3), (187, .ifCond .ne 13, 3), (190, .aload_n 0, 1), (191, .ldc_w 432, 3)], [(194, .invokevirtual 349, 3), (197, .ifCond .eq 7, 3), (200, .iconst 1, 1), (201, .goto 4, 3), (204, .iconst 0, 1), (205, .istore_n 1, 1), (206, .iload_n 1, 1), (207, .ifCond .ne 8, 3), (210, .aload_n 0, 1), (211, .iconst 1, 1), (212, .invokevirtual 338, 3), (215, .iconst 0, 1), (216, .ireturn, 1)]])
/-- Mod.readProduct -/
def mm_m255 : mm_I := ((⟨"PromisedStockModel", "readProduct", "()I"⟩, prog_11_method_111_code, 2, some .int), (9, 1, 1), ([5], [], []), [[(0, .aload_n 0, 1), (1, .invokevirtual 448, 3), (4, .istore_n 1, 1), (5, .aload_n 0, 1), (6, .bipush 42, 2), (8, .invokevirtual 335, 3), (11, .ifCond .eq 17, 3), (14, .aload_n 0, 1), (15, .invokevirtual 341, 3), (18, .iload_n 1, 1), (19, .aload_n 0, 1), (20, .invokevirtual 448, 3), (23, .imul, 1), (24, .istore_n 1, 1), (25, .goto (-20), 3), (28, .iload_n 1, 1), (29, .ireturn, 1)]])
/-- Mod.readSum -/
def mm_m256 : mm_I := ((⟨"PromisedStockModel", "readSum", "()I"⟩, prog_11_method_112_code, 4, some .int), (9, 1, 1), ([5, 39], [], []), [[(0, .aload_n 0, 1), (1, .invokevirtual 451, 3), (4, .istore_n 1, 1), (5, .aload_n 0, 1), (6, .bipush 43, 2), (8, .invokevirtual 335, 3), (11, .ifCond .ne 12, 3), (14, .aload_n 0, 1), (15, .bipush 45, 2), (17, .invokevirtual 335, 3), (20, .ifCond .eq 36, 3), (23, .aload_n 0, 1), (24, .bipush 43, 2), (26, .invokevirtual 335, 3), (29, .istore_n 2, 1), (30, .aload_n 0, 1), (31, .invokevirtual 341, 3)], [(34, .aload_n 0, 1), (35, .invokevirtual 451, 3), (38, .istore_n 3, 1), (39, .iload_n 2, 1), (40, .ifCond .eq 9, 3), (43, .iload_n 1, 1), (44, .iload_n 3, 1), (45, .iadd, 1), (46, .goto 6, 3), (49, .iload_n 1, 1), (50, .iload_n 3, 1), (51, .isub, 1), (52, .istore_n 1, 1), (53, .goto (-48), 3), (56, .iload_n 1, 1), (57, .ireturn, 1)]])
/-- Mod.readFact -/
def mm_m257 : mm_I := ((⟨"PromisedStockModel", "readFact", "()Z"⟩, prog_11_method_113_code, 4, some .boolean), (9, 1, 2), ([63, 106, 121, 131], [], []), [[(0, .aload_n 0, 1), (1, .ldc_w 454, 3), (4, .invokevirtual 349, 3), (7, .ifCond .eq 32, 3), (10, .aload_n 0, 1), (11, .invokevirtual 433, 3), (14, .aload_n 0, 1), (15, .invokevirtual 456, 3), (18, .istore_n 1, 1), (19, .aload_n 0, 1), (20, .dup, 1), (21, .getfield 344, 3), (24, .iconst 1, 1), (25, .isub, 1), (26, .putfield 344, 3), (29, .iload_n 1, 1), (30, .ifCond .ne 7, 3)], [(33, .iconst 1, 1), (34, .goto 4, 3), (37, .iconst 0, 1), (38, .ireturn, 1), (39, .aload_n 0, 1), (40, .bipush 123, 2), (42, .invokevirtual 335, 3), (45, .ifCond .eq 30, 3), (48, .aload_n 0, 1), (49, .invokevirtual 433, 3), (52, .aload_n 0, 1), (53, .invokevirtual 459, 3), (56, .istore_n 1, 1), (57, .aload_n 0, 1), (58, .bipush 125, 2), (60, .invokevirtual 381, 3), (63, .aload_n 0, 1)], [(64, .dup, 1), (65, .getfield 344, 3), (68, .iconst 1, 1), (69, .isub, 1), (70, .putfield 344, 3), (73, .iload_n 1, 1), (74, .ireturn, 1), (75, .aload_n 0, 1), (76, .invokevirtual 436, 3), (79, .istore_n 1, 1), (80, .aload_n 0, 1), (81, .bipush 60, 2), (83, .invokevirtual 335, 3), (86, .ifCond .eq 7, 3), (89, .iconst (-1), 1), (90, .goto 30, 3), (93, .aload_n 0, 1), (94, .bipush 61, 2)], [(96, .invokevirtual 335, 3), (99, .ifCond .eq 7, 3), (102, .iconst 0, 1), (103, .goto 17, 3), (106, .aload_n 0, 1), (107, .bipush 62, 2), (109, .invokevirtual 335, 3), (112, .ifCond .eq 7, 3), (115, .iconst 1, 1), (116, .goto 4, 3), (119, .iconst 2, 1), (120, .istore_n 2, 1), (121, .iload_n 2, 1), (122, .iconst 2, 1), (123, .if_icmp .ne 8, 3), (126, .aload_n 0, 1), (127, .iconst 1, 1)], [(128, .invokevirtual 338, 3), (131, .aload_n 0, 1), (132, .invokevirtual 341, 3), (135, .aload_n 0, 1), (136, .invokevirtual 436, 3), (139, .istore_n 3, 1), (140, .iload_n 2, 1), (141, .ifCond .ge 16, 3), (144, .iload_n 1, 1), (145, .iload_n 3, 1), (146, .if_icmp .ge 7, 3), (149, .iconst 1, 1), (150, .goto 34, 3), (153, .iconst 0, 1), (154, .goto 30, 3), (157, .iload_n 2, 1), (158, .ifCond .ne 16, 3)], [(161, .iload_n 1, 1), (162, .iload_n 3, 1), (163, .if_icmp .ne 7, 3), (166, .iconst 1, 1), (167, .goto 17, 3), (170, .iconst 0, 1), (171, .goto 13, 3), (174, .iload_n 1, 1), (175, .iload_n 3, 1), (176, .if_icmp .le 7, 3), (179, .iconst 1, 1), (180, .goto 4, 3), (183, .iconst 0, 1), (184, .ireturn, 1)]])
/-- Mod.readBoth -/
def mm_m258 : mm_I := ((⟨"PromisedStockModel", "readBoth", "()Z"⟩, prog_11_method_114_code, 3, some .boolean), (9, 1, 2), ([5], [], []), [[(0, .aload_n 0, 1), (1, .invokevirtual 456, 3), (4, .istore_n 1, 1), (5, .aload_n 0, 1), (6, .ldc_w 462, 3), (9, .invokevirtual 349, 3), (12, .ifCond .eq 29, 3), (15, .aload_n 0, 1), (16, .invokevirtual 341, 3), (19, .aload_n 0, 1), (20, .invokevirtual 456, 3), (23, .istore_n 2, 1), (24, .iload_n 1, 1), (25, .ifCond .eq 11, 3), (28, .iload_n 2, 1), (29, .ifCond .eq 7, 3)], [(32, .iconst 1, 1), (33, .goto 4, 3), (36, .iconst 0, 1), (37, .istore_n 1, 1), (38, .goto (-33), 3), (41, .iload_n 1, 1), (42, .ireturn, 1)]])
/-- Mod.readTest -/
def mm_m259 : mm_I := ((⟨"PromisedStockModel", "readTest", "()Z"⟩, prog_11_method_115_code, 3, some .boolean), (9, 1, 2), ([5], [], []), [[(0, .aload_n 0, 1), (1, .invokevirtual 464, 3), (4, .istore_n 1, 1), (5, .aload_n 0, 1), (6, .ldc_w 467, 3), (9, .invokevirtual 349, 3), (12, .ifCond .eq 29, 3), (15, .aload_n 0, 1), (16, .invokevirtual 341, 3), (19, .aload_n 0, 1), (20, .invokevirtual 464, 3), (23, .istore_n 2, 1), (24, .iload_n 1, 1), (25, .ifCond .ne 7, 3), (28, .iload_n 2, 1), (29, .ifCond .eq 7, 3)], [(32, .iconst 1, 1), (33, .goto 4, 3), (36, .iconst 0, 1), (37, .istore_n 1, 1), (38, .goto (-33), 3), (41, .iload_n 1, 1), (42, .ireturn, 1)]])
/-- Mod.readAll -/
def mm_m260 : mm_I := ((⟨"PromisedStockModel", "readAll", "(IIZ)I"⟩, prog_11_method_116_code, 5, some .int), (9, 4, 1), ([73, 99, 130], [], []), [[(0, .aload_n 0, 1), (1, .iload_n 2, 1), (2, .putfield 395, 3), (5, .aload_n 0, 1), (6, .iload_n 3, 1), (7, .putfield 439, 3), (10, .aload_n 0, 1), (11, .iload_n 1, 1), (12, .invokevirtual 384, 3), (15, .aload_n 0, 1), (16, .aload_n 0, 1), (17, .ldc_w 469, 3), (20, .invokevirtual 349, 3), (23, .ifCond .eq 7, 3), (26, .iconst 0, 1), (27, .goto 46, 3), (30, .aload_n 0, 1), (31, .ldc_w 470, 3)], [(34, .invokevirtual 349, 3), (37, .ifCond .eq 7, 3), (40, .iconst 1, 1), (41, .goto 32, 3), (44, .aload_n 0, 1), (45, .ldc_w 472, 3), (48, .invokevirtual 349, 3), (51, .ifCond .eq 7, 3), (54, .iconst 2, 1), (55, .goto 18, 3), (58, .aload_n 0, 1), (59, .ldc_w 474, 3), (62, .invokevirtual 349, 3)], [(65, .ifCond .eq 7, 3), (68, .iconst 3, 1), (69, .goto 4, 3), (72, .iconst 4, 1), (73, .putfield 476, 3), (76, .aload_n 0, 1), (77, .getfield 476, 3), (80, .iconst 4, 1), (81, .if_icmp .ne 18, 3), (84, .aload_n 0, 1), (85, .ldc_w 479, 3), (88, .invokevirtual 349, 3), (91, .ifCond .ne 8, 3), (94, .aload_n 0, 1), (95, .iconst 1, 1)], [(96, .invokevirtual 338, 3), (99, .aload_n 0, 1), (100, .invokevirtual 341, 3), (103, .aload_n 0, 1), (104, .getfield 476, 3), (107, .iconst 2, 1), (108, .if_icmp .ge 18, 3), (111, .aload_n 0, 1), (112, .invokevirtual 459, 3), (115, .ifCond .eq 7, 3), (118, .iconst 1, 1), (119, .goto 11, 3), (122, .iconst 0, 1), (123, .goto 7, 3), (126, .aload_n 0, 1), (127, .invokevirtual 436, 3)], [(130, .istore 4, 2), (132, .aload_n 0, 1), (133, .getfield 317, 3), (136, .ifCond .ne 15, 3), (139, .aload_n 0, 1), (140, .getfield 305, 3), (143, .ifCond .eq 8, 3), (146, .aload_n 0, 1), (147, .iconst 1, 1), (148, .invokevirtual 338, 3), (151, .iload 4, 2), (153, .ireturn, 1)]])
/-- Mod.ask -/
def mm_m261 : mm_I := ((⟨"PromisedStockModel", "ask", "(I)I"⟩, prog_11_method_117_code, 7, some .int), (9, 2, 1), ([43, 71, 104, 122, 140, 145], [], []), [[(0, .aload_n 0, 1), (1, .iconst 0, 1), (2, .putfield 1, 3), (5, .iload_n 1, 1), (6, .ifCond .lt 18, 3), (9, .iload_n 1, 1), (10, .aload_n 0, 1), (11, .getfield 147, 3), (14, .if_icmp .gt 10, 3), (17, .iload_n 1, 1), (18, .sipush 200, 3), (21, .if_icmp .le 9, 3), (24, .aload_n 0, 1), (25, .iconst 1, 1), (26, .invokevirtual 150, 3), (29, .ireturn, 1), (30, .aload_n 0, 1), (31, .iload_n 1, 1)], [(32, .iconst 0, 1), (33, .iconst 0, 1), (34, .invokevirtual 481, 3), (37, .istore_n 2, 1), (38, .aload_n 0, 1), (39, .invokevirtual 390, 3), (42, .istore_n 3, 1), (43, .iload_n 3, 1), (44, .ifCond .eq 9, 3), (47, .ldc_w 485, 3), (50, .iload_n 3, 1), (51, .isub, 1), (52, .ireturn, 1), (53, .aload_n 0, 1), (54, .getfield 476, 3), (57, .iconst 1, 1), (58, .if_icmp .ne 7, 3), (61, .iconst (-1), 1), (62, .goto 4, 3)], [(65, .iconst 0, 1), (66, .istore 4, 2), (68, .iconst 0, 1), (69, .istore 5, 2), (71, .iload 5, 2), (73, .aload_n 0, 1), (74, .invokevirtual 84, 3), (77, .if_icmp .ge 103, 3), (80, .aload_n 0, 1), (81, .iload_n 1, 1), (82, .iload 5, 2), (84, .iconst 1, 1), (85, .invokevirtual 481, 3), (88, .istore 6, 2), (90, .aload_n 0, 1), (91, .getfield 476, 3), (94, .iconst 1, 1), (95, .if_icmp .ne 27, 3)], [(98, .iload 4, 2), (100, .iconst (-1), 1), (101, .if_icmp .ne 14, 3), (104, .iload 6, 2), (106, .iconst 1, 1), (107, .if_icmp .ne 8, 3), (110, .iload 5, 2), (112, .goto 5, 3), (115, .iload 4, 2), (117, .istore 4, 2), (119, .goto 55, 3), (122, .aload_n 0, 1), (123, .getfield 476, 3), (126, .iconst 3, 1), (127, .if_icmp .ge 13, 3)], [(130, .iload 4, 2), (132, .iload 6, 2), (134, .iadd, 1), (135, .istore 4, 2), (137, .goto 37, 3), (140, .iload 5, 2), (142, .ifCond .eq 28, 3), (145, .aload_n 0, 1), (146, .getfield 476, 3), (149, .iconst 3, 1), (150, .if_icmp .ne 13, 3), (153, .iload 6, 2), (155, .iload 4, 2), (157, .if_icmp .le 17, 3)], [(160, .goto 10, 3), (163, .iload 6, 2), (165, .iload 4, 2), (167, .if_icmp .ge 7, 3), (170, .iload 6, 2), (172, .istore 4, 2), (174, .iinc 5 1, 3), (177, .goto (-106), 3), (180, .iload 4, 2), (182, .ireturn, 1)]])
/-- Law.network -/
def mm_m262 : mm_I := ((⟨"PromisedStockLaw", "network", "(LPromisedStock;I[J)I"⟩, method_3_code, 4, some .int), (10, 3, 1), ([], [], [(1, 1)]), [[(0, .aload_n 2, 1), (1, .iconst 0, 1), (2, .aload_n 0, 1), (3, .iload_n 1, 1), (4, .invokevirtual 7, 3), (7, .i2l, 1), (8, .lastore, 1), (9, .goto 6, 3), (12, .astore_n 3, 1), (13, .iconst 1, 1), (14, .ireturn, 1), (15, .iconst 0, 1), (16, .ireturn, 1)]])
/-- Law.count -/
def mm_m263 : mm_I := ((⟨"PromisedStockLaw", "count", "(LPromisedStock;I[J)I"⟩, method_4_code, 4, some .int), (10, 3, 1), ([], [], [(0, 1)]), [[(0, .aload_n 2, 1), (1, .iconst 0, 1), (2, .aload_n 0, 1), (3, .iload_n 1, 1), (4, .invokevirtual 15, 3), (7, .i2l, 1), (8, .lastore, 1), (9, .goto 6, 3), (12, .astore_n 3, 1), (13, .iconst 1, 1), (14, .ireturn, 1), (15, .iconst 0, 1), (16, .ireturn, 1)]])
/-- Law.letter -/
def mm_m264 : mm_I := ((⟨"PromisedStockLaw", "letter", "(LPromisedStock;II[J)I"⟩, method_5_code, 5, some .int), (10, 4, 1), ([], [], [(0, 1)]), [[(0, .aload_n 3, 1), (1, .iconst 0, 1), (2, .aload_n 0, 1), (3, .iload_n 1, 1), (4, .iload_n 2, 1), (5, .invokevirtual 20, 3), (8, .i2l, 1), (9, .lastore, 1), (10, .goto 7, 3), (13, .astore 4, 2), (15, .iconst 1, 1), (16, .ireturn, 1), (17, .iconst 0, 1), (18, .ireturn, 1)]])
/-- Law.stage -/
def mm_m265 : mm_I := ((⟨"PromisedStockLaw", "stage", "(LPromisedStock;II[J)I"⟩, method_6_code, 5, some .int), (10, 4, 1), ([], [], [(0, 1)]), [[(0, .aload_n 3, 1), (1, .iconst 0, 1), (2, .aload_n 0, 1), (3, .iload_n 1, 1), (4, .iload_n 2, 1), (5, .invokevirtual 24, 3), (8, .i2l, 1), (9, .lastore, 1), (10, .goto 7, 3), (13, .astore 4, 2), (15, .iconst 1, 1), (16, .ireturn, 1), (17, .iconst 0, 1), (18, .ireturn, 1)]])
/-- Law.bound -/
def mm_m266 : mm_I := ((⟨"PromisedStockLaw", "bound", "(LPromisedStock;III[J)I"⟩, method_7_code, 6, some .int), (10, 5, 1), ([], [], [(0, 1), (1, 2)]), [[(0, .aload 4, 2), (2, .iconst 0, 1), (3, .aload_n 0, 1), (4, .iload_n 1, 1), (5, .iload_n 2, 1), (6, .iload_n 3, 1), (7, .invokevirtual 27, 3), (10, .i2l, 1), (11, .lastore, 1), (12, .goto 11, 3), (15, .astore 5, 2), (17, .iconst 1, 1), (18, .ireturn, 1), (19, .astore 5, 2), (21, .iconst 2, 1), (22, .ireturn, 1), (23, .iconst 0, 1), (24, .ireturn, 1)]])
/-- Law.change -/
def mm_m267 : mm_I := ((⟨"PromisedStockLaw", "change", "(LPromisedStock;III[J)I"⟩, method_8_code, 6, some .int), (10, 5, 1), ([], [], [(0, 1), (1, 2)]), [[(0, .aload 4, 2), (2, .iconst 0, 1), (3, .aload_n 0, 1), (4, .iload_n 1, 1), (5, .iload_n 2, 1), (6, .iload_n 3, 1), (7, .invokevirtual 31, 3), (10, .i2l, 1), (11, .lastore, 1), (12, .goto 11, 3), (15, .astore 5, 2), (17, .iconst 1, 1), (18, .ireturn, 1), (19, .astore 5, 2), (21, .iconst 2, 1), (22, .ireturn, 1), (23, .iconst 0, 1), (24, .ireturn, 1)]])
/-- Law.pin -/
def mm_m268 : mm_I := ((⟨"PromisedStockLaw", "pin", "(LPromisedStock;II[J)I"⟩, method_9_code, 5, some .int), (10, 4, 1), ([], [], [(0, 1), (1, 2)]), [[(0, .aload_n 3, 1), (1, .iconst 0, 1), (2, .aload_n 0, 1), (3, .iload_n 1, 1), (4, .iload_n 2, 1), (5, .invokevirtual 34, 3), (8, .i2l, 1), (9, .lastore, 1), (10, .goto 11, 3), (13, .astore 4, 2), (15, .iconst 1, 1), (16, .ireturn, 1), (17, .astore 4, 2), (19, .iconst 2, 1), (20, .ireturn, 1), (21, .iconst 0, 1), (22, .ireturn, 1)]])
/-- Law.promise -/
def mm_m269 : mm_I := ((⟨"PromisedStockLaw", "promise", "(LPromisedStock;II[J)I"⟩, method_10_code, 5, some .int), (10, 4, 1), ([], [], [(0, 1), (1, 2)]), [[(0, .aload_n 3, 1), (1, .iconst 0, 1), (2, .aload_n 0, 1), (3, .iload_n 1, 1), (4, .iload_n 2, 1), (5, .invokevirtual 37, 3), (8, .i2l, 1), (9, .lastore, 1), (10, .goto 11, 3), (13, .astore 4, 2), (15, .iconst 1, 1), (16, .ireturn, 1), (17, .astore 4, 2), (19, .iconst 2, 1), (20, .ireturn, 1), (21, .iconst 0, 1), (22, .ireturn, 1)]])
/-- Law.planned -/
def mm_m270 : mm_I := ((⟨"PromisedStockLaw", "planned", "(LPromisedStock;II[J)I"⟩, method_11_code, 5, some .int), (10, 4, 1), ([], [], [(0, 1)]), [[(0, .aload_n 3, 1), (1, .iconst 0, 1), (2, .aload_n 0, 1), (3, .iload_n 1, 1), (4, .iload_n 2, 1), (5, .invokevirtual 40, 3), (8, .i2l, 1), (9, .lastore, 1), (10, .goto 7, 3), (13, .astore 4, 2), (15, .iconst 1, 1), (16, .ireturn, 1), (17, .iconst 0, 1), (18, .ireturn, 1)]])
/-- Law.plan -/
def mm_m271 : mm_I := ((⟨"PromisedStockLaw", "plan", "(LPromisedStock;I[J)I"⟩, method_12_code, 4, some .int), (10, 3, 1), ([], [], [(0, 1)]), [[(0, .aload_n 2, 1), (1, .iconst 0, 1), (2, .aload_n 0, 1), (3, .iload_n 1, 1), (4, .invokevirtual 43, 3), (7, .i2l, 1), (8, .lastore, 1), (9, .goto 6, 3), (12, .astore_n 3, 1), (13, .iconst 1, 1), (14, .ireturn, 1), (15, .iconst 0, 1), (16, .ireturn, 1)]])
/-- Law.worth -/
def mm_m272 : mm_I := ((⟨"PromisedStockLaw", "worth", "(LPromisedStock;II[J)I"⟩, method_13_code, 5, some .int), (10, 4, 1), ([], [], [(0, 1)]), [[(0, .aload_n 3, 1), (1, .iconst 0, 1), (2, .aload_n 0, 1), (3, .iload_n 1, 1), (4, .iload_n 2, 1), (5, .invokevirtual 46, 3), (8, .i2l, 1), (9, .lastore, 1), (10, .goto 7, 3), (13, .astore 4, 2), (15, .iconst 1, 1), (16, .ireturn, 1), (17, .iconst 0, 1), (18, .ireturn, 1)]])
/-- Law.even -/
def mm_m273 : mm_I := ((⟨"PromisedStockLaw", "even", "(LPromisedStock;I[J)I"⟩, method_14_code, 4, some .int), (10, 3, 1), ([], [], [(1, 1)]), [[(0, .aload_n 2, 1), (1, .iconst 0, 1), (2, .aload_n 0, 1), (3, .iload_n 1, 1), (4, .invokevirtual 49, 3), (7, .i2l, 1), (8, .lastore, 1), (9, .goto 6, 3), (12, .astore_n 3, 1), (13, .iconst 1, 1), (14, .ireturn, 1), (15, .iconst 0, 1), (16, .ireturn, 1)]])
/-- Law.pinned -/
def mm_m274 : mm_I := ((⟨"PromisedStockLaw", "pinned", "(LPromisedStock;II[J)I"⟩, method_15_code, 5, some .int), (10, 4, 1), ([], [], [(0, 1), (1, 2)]), [[(0, .aload_n 3, 1), (1, .iconst 0, 1), (2, .aload_n 0, 1), (3, .iload_n 1, 1), (4, .iload_n 2, 1), (5, .invokevirtual 52, 3), (8, .i2l, 1), (9, .lastore, 1), (10, .goto 11, 3), (13, .astore 4, 2), (15, .iconst 1, 1), (16, .ireturn, 1), (17, .astore 4, 2), (19, .iconst 2, 1), (20, .ireturn, 1), (21, .iconst 0, 1), (22, .ireturn, 1)]])
/-- Law.demand -/
def mm_m275 : mm_I := ((⟨"PromisedStockLaw", "demand", "(LPromisedStock;III[J)I"⟩, method_16_code, 6, some .int), (10, 5, 1), ([], [], [(0, 1), (1, 2)]), [[(0, .aload 4, 2), (2, .iconst 0, 1), (3, .aload_n 0, 1), (4, .iload_n 1, 1), (5, .iload_n 2, 1), (6, .iload_n 3, 1), (7, .invokevirtual 55, 3), (10, .i2l, 1), (11, .lastore, 1), (12, .goto 11, 3), (15, .astore 5, 2), (17, .iconst 1, 1), (18, .ireturn, 1), (19, .astore 5, 2), (21, .iconst 2, 1), (22, .ireturn, 1), (23, .iconst 0, 1), (24, .ireturn, 1)]])
/-- Law.drawn -/
def mm_m276 : mm_I := ((⟨"PromisedStockLaw", "drawn", "(LPromisedStock;II[J)I"⟩, method_17_code, 5, some .int), (10, 4, 1), ([], [], [(0, 1)]), [[(0, .aload_n 3, 1), (1, .iconst 0, 1), (2, .aload_n 0, 1), (3, .iload_n 1, 1), (4, .iload_n 2, 1), (5, .invokevirtual 58, 3), (8, .i2l, 1), (9, .lastore, 1), (10, .goto 7, 3), (13, .astore 4, 2), (15, .iconst 1, 1), (16, .ireturn, 1), (17, .iconst 0, 1), (18, .ireturn, 1)]])
/-- Law.day -/
def mm_m277 : mm_I := ((⟨"PromisedStockLaw", "day", "(LPromisedStock;III[J)I"⟩, method_18_code, 6, some .int), (10, 5, 1), ([], [], [(0, 1)]), [[(0, .aload 4, 2), (2, .iconst 0, 1), (3, .aload_n 0, 1), (4, .iload_n 1, 1), (5, .iload_n 2, 1), (6, .iload_n 3, 1), (7, .invokevirtual 61, 3), (10, .i2l, 1), (11, .lastore, 1), (12, .goto 7, 3), (15, .astore 5, 2), (17, .iconst 1, 1), (18, .ireturn, 1), (19, .iconst 0, 1), (20, .ireturn, 1)]])
/-- Law.days -/
def mm_m278 : mm_I := ((⟨"PromisedStockLaw", "days", "(LPromisedStock;II[J)I"⟩, method_19_code, 5, some .int), (10, 4, 1), ([], [], [(0, 1)]), [[(0, .aload_n 3, 1), (1, .iconst 0, 1), (2, .aload_n 0, 1), (3, .iload_n 1, 1), (4, .iload_n 2, 1), (5, .invokevirtual 64, 3), (8, .i2l, 1), (9, .lastore, 1), (10, .goto 7, 3), (13, .astore 4, 2), (15, .iconst 1, 1), (16, .ireturn, 1), (17, .iconst 0, 1), (18, .ireturn, 1)]])
/-- Law.ask -/
def mm_m279 : mm_I := ((⟨"PromisedStockLaw", "ask", "(LPromisedStock;I[J)I"⟩, method_20_code, 4, some .int), (10, 3, 1), ([], [], [(1, 1)]), [[(0, .aload_n 2, 1), (1, .iconst 0, 1), (2, .aload_n 0, 1), (3, .iload_n 1, 1), (4, .invokevirtual 67, 3), (7, .i2l, 1), (8, .lastore, 1), (9, .goto 6, 3), (12, .astore_n 3, 1), (13, .iconst 1, 1), (14, .ireturn, 1), (15, .iconst 0, 1), (16, .ireturn, 1)]])
/-- Law.chain -/
def mm_m280 : mm_I := ((⟨"PromisedStockLaw", "chain", "(LPromisedStock;II[J)I"⟩, method_21_code, 5, some .int), (10, 4, 1), ([], [], [(0, 1)]), [[(0, .aload_n 3, 1), (1, .iconst 0, 1), (2, .aload_n 0, 1), (3, .iload_n 1, 1), (4, .iload_n 2, 1), (5, .invokevirtual 70, 3), (8, .i2l, 1), (9, .lastore, 1), (10, .goto 7, 3), (13, .astore 4, 2), (15, .iconst 1, 1), (16, .ireturn, 1), (17, .iconst 0, 1), (18, .ireturn, 1)]])
/-- Law.frontier -/
def mm_m281 : mm_I := ((⟨"PromisedStockLaw", "frontier", "(LPromisedStock;I[J)I"⟩, method_22_code, 4, some .int), (10, 3, 1), ([], [], [(0, 1)]), [[(0, .aload_n 2, 1), (1, .iconst 0, 1), (2, .aload_n 0, 1), (3, .iload_n 1, 1), (4, .invokevirtual 73, 3), (7, .i2l, 1), (8, .lastore, 1), (9, .goto 6, 3), (12, .astore_n 3, 1), (13, .iconst 1, 1), (14, .ireturn, 1), (15, .iconst 0, 1), (16, .ireturn, 1)]])
/-- Law.law -/
def mm_m282 : mm_I := ((⟨"PromisedStockLaw", "law", "([I)Z"⟩, code, 7, some .boolean), (10, 1, 2), ([23, 176, 249, 285, 305, 318, 354, 374, 393, 427, 442, 461, 495, 510, 535, 559, 570, 590, 615, 639, 650, 670, 691, 747, 784, 803, 837, 852, 865, 890, 909, 943, 958, 977, 1011, 1026, 1062, 1082, 1095, 1114, 1148, 1163, 1199, 1219, 1244, 1263, 1297, 1312, 1337, 1361, 1372, 1392, 1411, 1445, 1460, 1485, 1509, 1520, 1540, 1559, 1593, 1608, 1644, 1664, 1683, 1717, 1732, 1768, 1788, 1799, 1812], [], []), [[(0, .new 8, 3), (3, .dup, 1), (4, .invokespecial 76, 3), (7, .astore_n 1, 1), (8, .new 77, 3), (11, .dup, 1), (12, .invokespecial 79, 3), (15, .astore_n 2, 1), (16, .iconst 1, 1), (17, .newarray .long, 2), (19, .astore_n 3, 1), (20, .iconst 0, 1), (21, .istore 4, 2), (23, .iload 4, 2), (25, .aload_n 0, 1), (26, .arraylength, 1), (27, .bipush 6, 2), (29, .isub, 1), (30, .if_icmp .gt 1788, 3)], [(33, .aload_n 0, 1), (34, .iload 4, 2), (36, .iaload, 1), (37, .bipush 31, 2), (39, .iand, 1), (40, .tableswitch 1772 0 29 #[136, 209, 265, 278, 334, 402, 470, 550, 630, 707, 744, 812, 825, 850, 918, 986, 1042, 1055, 1123, 1179, 1204, 1272, 1352, 1420, 1500, 1568, 1624, 1692, 1748, 1759], 136)], [], [], [], [(176, .aload_n 1, 1), (177, .aload_n 0, 1), (178, .iload 4, 2), (180, .iconst 1, 1), (181, .iadd, 1), (182, .iaload, 1), (183, .aload_n 0, 1), (184, .iload 4, 2), (186, .iconst 2, 1), (187, .iadd, 1), (188, .iaload, 1), (189, .aload_n 0, 1), (190, .iload 4, 2)], [(192, .iconst 3, 1), (193, .iadd, 1), (194, .iaload, 1), (195, .aload_n 0, 1), (196, .iload 4, 2), (198, .iconst 4, 1), (199, .iadd, 1), (200, .iaload, 1), (201, .aload_n 0, 1), (202, .iload 4, 2), (204, .iconst 5, 1), (205, .iadd, 1), (206, .iaload, 1), (207, .invokevirtual 80, 3), (210, .aload_n 2, 1), (211, .aload_n 0, 1), (212, .iload 4, 2), (214, .iconst 1, 1), (215, .iadd, 1), (216, .iaload, 1), (217, .aload_n 0, 1), (218, .iload 4, 2), (220, .iconst 2, 1), (221, .iadd, 1), (222, .iaload, 1), (223, .aload_n 0, 1)], [(224, .iload 4, 2), (226, .iconst 3, 1), (227, .iadd, 1), (228, .iaload, 1), (229, .aload_n 0, 1), (230, .iload 4, 2), (232, .iconst 4, 1), (233, .iadd, 1), (234, .iaload, 1), (235, .aload_n 0, 1), (236, .iload 4, 2), (238, .iconst 5, 1), (239, .iadd, 1), (240, .iaload, 1), (241, .invokevirtual 84, 3), (244, .if_icmp .eq 1568, 3), (247, .iconst 0, 1), (248, .ireturn, 1), (249, .aload_n 1, 1), (250, .aload_n 0, 1), (251, .iload 4, 2), (253, .iconst 1, 1), (254, .iadd, 1), (255, .iaload, 1)], [(256, .aload_n 3, 1), (257, .invokestatic 85, 3), (260, .istore 5, 2), (262, .aload_n 2, 1), (263, .aload_n 0, 1), (264, .iload 4, 2), (266, .iconst 1, 1), (267, .iadd, 1), (268, .iaload, 1), (269, .invokevirtual 90, 3), (272, .istore 6, 2), (274, .aload_n 2, 1), (275, .invokevirtual 91, 3), (278, .iload 5, 2), (280, .if_icmp .eq 5, 3), (283, .iconst 0, 1), (284, .ireturn, 1), (285, .iload 5, 2), (287, .ifCond .ne 15, 3)], [(290, .aload_n 3, 1), (291, .iconst 0, 1), (292, .laload, 1), (293, .iload 6, 2), (295, .i2l, 1), (296, .lcmp, 1), (297, .ifCond .eq 5, 3), (300, .iconst 0, 1), (301, .ireturn, 1), (302, .goto 1510, 3), (305, .aload_n 1, 1), (306, .invokevirtual 95, 3), (309, .aload_n 2, 1), (310, .invokevirtual 98, 3), (313, .if_icmp .eq 1499, 3), (316, .iconst 0, 1), (317, .ireturn, 1), (318, .aload_n 1, 1), (319, .aload_n 0, 1)], [(320, .iload 4, 2), (322, .iconst 1, 1), (323, .iadd, 1), (324, .iaload, 1), (325, .aload_n 3, 1), (326, .invokestatic 99, 3), (329, .istore 5, 2), (331, .aload_n 2, 1), (332, .aload_n 0, 1), (333, .iload 4, 2), (335, .iconst 1, 1), (336, .iadd, 1), (337, .iaload, 1), (338, .invokevirtual 101, 3), (341, .istore 6, 2), (343, .aload_n 2, 1), (344, .invokevirtual 91, 3), (347, .iload 5, 2), (349, .if_icmp .eq 5, 3)], [(352, .iconst 0, 1), (353, .ireturn, 1), (354, .iload 5, 2), (356, .ifCond .ne 15, 3), (359, .aload_n 3, 1), (360, .iconst 0, 1), (361, .laload, 1), (362, .iload 6, 2), (364, .i2l, 1), (365, .lcmp, 1), (366, .ifCond .eq 5, 3), (369, .iconst 0, 1), (370, .ireturn, 1), (371, .goto 1441, 3), (374, .aload_n 1, 1), (375, .aload_n 0, 1), (376, .iload 4, 2), (378, .iconst 1, 1), (379, .iadd, 1), (380, .iaload, 1), (381, .aload_n 0, 1), (382, .iload 4, 2)], [(384, .iconst 2, 1), (385, .iadd, 1), (386, .iaload, 1), (387, .aload_n 3, 1), (388, .invokestatic 102, 3), (391, .istore 5, 2), (393, .aload_n 2, 1), (394, .aload_n 0, 1), (395, .iload 4, 2), (397, .iconst 1, 1), (398, .iadd, 1), (399, .iaload, 1), (400, .aload_n 0, 1), (401, .iload 4, 2), (403, .iconst 2, 1), (404, .iadd, 1), (405, .iaload, 1), (406, .invokevirtual 105, 3), (409, .istore 6, 2), (411, .aload_n 2, 1), (412, .invokevirtual 91, 3), (415, .iload 5, 2)], [(417, .if_icmp .eq 5, 3), (420, .iconst 0, 1), (421, .ireturn, 1), (422, .iload 5, 2), (424, .ifCond .ne 15, 3), (427, .aload_n 3, 1), (428, .iconst 0, 1), (429, .laload, 1), (430, .iload 6, 2), (432, .i2l, 1), (433, .lcmp, 1), (434, .ifCond .eq 5, 3), (437, .iconst 0, 1), (438, .ireturn, 1), (439, .goto 1373, 3), (442, .aload_n 1, 1), (443, .aload_n 0, 1), (444, .iload 4, 2), (446, .iconst 1, 1), (447, .iadd, 1)], [(448, .iaload, 1), (449, .aload_n 0, 1), (450, .iload 4, 2), (452, .iconst 2, 1), (453, .iadd, 1), (454, .iaload, 1), (455, .aload_n 3, 1), (456, .invokestatic 106, 3), (459, .istore 5, 2), (461, .aload_n 2, 1), (462, .aload_n 0, 1), (463, .iload 4, 2), (465, .iconst 1, 1), (466, .iadd, 1), (467, .iaload, 1), (468, .aload_n 0, 1), (469, .iload 4, 2), (471, .iconst 2, 1), (472, .iadd, 1), (473, .iaload, 1), (474, .invokevirtual 108, 3), (477, .istore 6, 2), (479, .aload_n 2, 1)], [(480, .invokevirtual 91, 3), (483, .iload 5, 2), (485, .if_icmp .eq 5, 3), (488, .iconst 0, 1), (489, .ireturn, 1), (490, .iload 5, 2), (492, .ifCond .ne 15, 3), (495, .aload_n 3, 1), (496, .iconst 0, 1), (497, .laload, 1), (498, .iload 6, 2), (500, .i2l, 1), (501, .lcmp, 1), (502, .ifCond .eq 5, 3), (505, .iconst 0, 1), (506, .ireturn, 1), (507, .goto 1305, 3), (510, .aload_n 1, 1), (511, .aload_n 0, 1)], [(512, .iload 4, 2), (514, .iconst 1, 1), (515, .iadd, 1), (516, .iaload, 1), (517, .aload_n 0, 1), (518, .iload 4, 2), (520, .iconst 2, 1), (521, .iadd, 1), (522, .iaload, 1), (523, .aload_n 0, 1), (524, .iload 4, 2), (526, .iconst 3, 1), (527, .iadd, 1), (528, .iaload, 1), (529, .aload_n 3, 1), (530, .invokestatic 109, 3), (533, .istore 5, 2), (535, .aload_n 2, 1), (536, .aload_n 0, 1), (537, .iload 4, 2), (539, .iconst 1, 1), (540, .iadd, 1), (541, .iaload, 1), (542, .aload_n 0, 1), (543, .iload 4, 2)], [(545, .iconst 2, 1), (546, .iadd, 1), (547, .iaload, 1), (548, .aload_n 0, 1), (549, .iload 4, 2), (551, .iconst 3, 1), (552, .iadd, 1), (553, .iaload, 1), (554, .invokevirtual 112, 3), (557, .istore 6, 2), (559, .aload_n 2, 1), (560, .invokevirtual 91, 3), (563, .iload 5, 2), (565, .if_icmp .eq 5, 3), (568, .iconst 0, 1), (569, .ireturn, 1), (570, .iload 5, 2), (572, .ifCond .ne 15, 3), (575, .aload_n 3, 1)], [(576, .iconst 0, 1), (577, .laload, 1), (578, .iload 6, 2), (580, .i2l, 1), (581, .lcmp, 1), (582, .ifCond .eq 5, 3), (585, .iconst 0, 1), (586, .ireturn, 1), (587, .goto 1225, 3), (590, .aload_n 1, 1), (591, .aload_n 0, 1), (592, .iload 4, 2), (594, .iconst 1, 1), (595, .iadd, 1), (596, .iaload, 1), (597, .aload_n 0, 1), (598, .iload 4, 2), (600, .iconst 2, 1), (601, .iadd, 1), (602, .iaload, 1), (603, .aload_n 0, 1), (604, .iload 4, 2), (606, .iconst 3, 1), (607, .iadd, 1)], [(608, .iaload, 1), (609, .aload_n 3, 1), (610, .invokestatic 113, 3), (613, .istore 5, 2), (615, .aload_n 2, 1), (616, .aload_n 0, 1), (617, .iload 4, 2), (619, .iconst 1, 1), (620, .iadd, 1), (621, .iaload, 1), (622, .aload_n 0, 1), (623, .iload 4, 2), (625, .iconst 2, 1), (626, .iadd, 1), (627, .iaload, 1), (628, .aload_n 0, 1), (629, .iload 4, 2), (631, .iconst 3, 1), (632, .iadd, 1), (633, .iaload, 1), (634, .invokevirtual 115, 3), (637, .istore 6, 2), (639, .aload_n 2, 1)], [(640, .invokevirtual 91, 3), (643, .iload 5, 2), (645, .if_icmp .eq 5, 3), (648, .iconst 0, 1), (649, .ireturn, 1), (650, .iload 5, 2), (652, .ifCond .ne 15, 3), (655, .aload_n 3, 1), (656, .iconst 0, 1), (657, .laload, 1), (658, .iload 6, 2), (660, .i2l, 1), (661, .lcmp, 1), (662, .ifCond .eq 5, 3), (665, .iconst 0, 1), (666, .ireturn, 1), (667, .goto 1145, 3), (670, .aload_n 1, 1), (671, .aload_n 0, 1)], [(672, .iload 4, 2), (674, .iconst 1, 1), (675, .iadd, 1), (676, .iaload, 1), (677, .aload_n 0, 1), (678, .iload 4, 2), (680, .iconst 2, 1), (681, .iadd, 1), (682, .iaload, 1), (683, .ifCond .eq 7, 3), (686, .iconst 1, 1), (687, .goto 4, 3), (690, .iconst 0, 1), (691, .aload_n 0, 1), (692, .iload 4, 2), (694, .iconst 3, 1), (695, .iadd, 1), (696, .iaload, 1), (697, .aload_n 0, 1), (698, .iload 4, 2), (700, .iconst 4, 1), (701, .iadd, 1), (702, .iaload, 1), (703, .invokevirtual 116, 3)], [(706, .aload_n 2, 1), (707, .aload_n 0, 1), (708, .iload 4, 2), (710, .iconst 1, 1), (711, .iadd, 1), (712, .iaload, 1), (713, .aload_n 0, 1), (714, .iload 4, 2), (716, .iconst 2, 1), (717, .iadd, 1), (718, .iaload, 1), (719, .ifCond .eq 7, 3), (722, .iconst 1, 1), (723, .goto 4, 3), (726, .iconst 0, 1), (727, .aload_n 0, 1), (728, .iload 4, 2), (730, .iconst 3, 1), (731, .iadd, 1), (732, .iaload, 1), (733, .aload_n 0, 1), (734, .iload 4, 2)], [(736, .iconst 4, 1), (737, .iadd, 1), (738, .iaload, 1), (739, .invokevirtual 120, 3), (742, .if_icmp .eq 1070, 3), (745, .iconst 0, 1), (746, .ireturn, 1), (747, .aload_n 1, 1), (748, .aload_n 0, 1), (749, .iload 4, 2), (751, .iconst 1, 1), (752, .iadd, 1), (753, .iaload, 1), (754, .aload_n 0, 1), (755, .iload 4, 2), (757, .iconst 2, 1), (758, .iadd, 1), (759, .iaload, 1), (760, .invokevirtual 121, 3), (763, .aload_n 2, 1), (764, .aload_n 0, 1), (765, .iload 4, 2), (767, .iconst 1, 1)], [(768, .iadd, 1), (769, .iaload, 1), (770, .aload_n 0, 1), (771, .iload 4, 2), (773, .iconst 2, 1), (774, .iadd, 1), (775, .iaload, 1), (776, .invokevirtual 124, 3), (779, .if_icmp .eq 1033, 3), (782, .iconst 0, 1), (783, .ireturn, 1), (784, .aload_n 1, 1), (785, .aload_n 0, 1), (786, .iload 4, 2), (788, .iconst 1, 1), (789, .iadd, 1), (790, .iaload, 1), (791, .aload_n 0, 1), (792, .iload 4, 2), (794, .iconst 2, 1), (795, .iadd, 1), (796, .iaload, 1), (797, .aload_n 3, 1), (798, .invokestatic 125, 3)], [(801, .istore 5, 2), (803, .aload_n 2, 1), (804, .aload_n 0, 1), (805, .iload 4, 2), (807, .iconst 1, 1), (808, .iadd, 1), (809, .iaload, 1), (810, .aload_n 0, 1), (811, .iload 4, 2), (813, .iconst 2, 1), (814, .iadd, 1), (815, .iaload, 1), (816, .invokevirtual 127, 3), (819, .istore 6, 2), (821, .aload_n 2, 1), (822, .invokevirtual 91, 3), (825, .iload 5, 2), (827, .if_icmp .eq 5, 3), (830, .iconst 0, 1), (831, .ireturn, 1)], [(832, .iload 5, 2), (834, .ifCond .ne 15, 3), (837, .aload_n 3, 1), (838, .iconst 0, 1), (839, .laload, 1), (840, .iload 6, 2), (842, .i2l, 1), (843, .lcmp, 1), (844, .ifCond .eq 5, 3), (847, .iconst 0, 1), (848, .ireturn, 1), (849, .goto 963, 3), (852, .aload_n 1, 1), (853, .invokevirtual 128, 3), (856, .aload_n 2, 1), (857, .invokevirtual 131, 3), (860, .if_icmp .eq 952, 3), (863, .iconst 0, 1)], [(864, .ireturn, 1), (865, .aload_n 1, 1), (866, .aload_n 0, 1), (867, .iload 4, 2), (869, .iconst 1, 1), (870, .iadd, 1), (871, .iaload, 1), (872, .invokevirtual 132, 3), (875, .aload_n 2, 1), (876, .aload_n 0, 1), (877, .iload 4, 2), (879, .iconst 1, 1), (880, .iadd, 1), (881, .iaload, 1), (882, .invokevirtual 135, 3), (885, .if_icmp .eq 927, 3), (888, .iconst 0, 1), (889, .ireturn, 1), (890, .aload_n 1, 1), (891, .aload_n 0, 1), (892, .iload 4, 2), (894, .iconst 1, 1), (895, .iadd, 1)], [(896, .iaload, 1), (897, .aload_n 0, 1), (898, .iload 4, 2), (900, .iconst 2, 1), (901, .iadd, 1), (902, .iaload, 1), (903, .aload_n 3, 1), (904, .invokestatic 136, 3), (907, .istore 5, 2), (909, .aload_n 2, 1), (910, .aload_n 0, 1), (911, .iload 4, 2), (913, .iconst 1, 1), (914, .iadd, 1), (915, .iaload, 1), (916, .aload_n 0, 1), (917, .iload 4, 2), (919, .iconst 2, 1), (920, .iadd, 1), (921, .iaload, 1), (922, .invokevirtual 138, 3), (925, .istore 6, 2), (927, .aload_n 2, 1)], [(928, .invokevirtual 91, 3), (931, .iload 5, 2), (933, .if_icmp .eq 5, 3), (936, .iconst 0, 1), (937, .ireturn, 1), (938, .iload 5, 2), (940, .ifCond .ne 15, 3), (943, .aload_n 3, 1), (944, .iconst 0, 1), (945, .laload, 1), (946, .iload 6, 2), (948, .i2l, 1), (949, .lcmp, 1), (950, .ifCond .eq 5, 3), (953, .iconst 0, 1), (954, .ireturn, 1), (955, .goto 857, 3), (958, .aload_n 1, 1), (959, .aload_n 0, 1)], [(960, .iload 4, 2), (962, .iconst 1, 1), (963, .iadd, 1), (964, .iaload, 1), (965, .aload_n 0, 1), (966, .iload 4, 2), (968, .iconst 2, 1), (969, .iadd, 1), (970, .iaload, 1), (971, .aload_n 3, 1), (972, .invokestatic 139, 3), (975, .istore 5, 2), (977, .aload_n 2, 1), (978, .aload_n 0, 1), (979, .iload 4, 2), (981, .iconst 1, 1), (982, .iadd, 1), (983, .iaload, 1), (984, .aload_n 0, 1), (985, .iload 4, 2), (987, .iconst 2, 1), (988, .iadd, 1), (989, .iaload, 1), (990, .invokevirtual 141, 3)], [(993, .istore 6, 2), (995, .aload_n 2, 1), (996, .invokevirtual 91, 3), (999, .iload 5, 2), (1001, .if_icmp .eq 5, 3), (1004, .iconst 0, 1), (1005, .ireturn, 1), (1006, .iload 5, 2), (1008, .ifCond .ne 15, 3), (1011, .aload_n 3, 1), (1012, .iconst 0, 1), (1013, .laload, 1), (1014, .iload 6, 2), (1016, .i2l, 1), (1017, .lcmp, 1), (1018, .ifCond .eq 5, 3), (1021, .iconst 0, 1), (1022, .ireturn, 1), (1023, .goto 789, 3)], [(1026, .aload_n 1, 1), (1027, .aload_n 0, 1), (1028, .iload 4, 2), (1030, .iconst 1, 1), (1031, .iadd, 1), (1032, .iaload, 1), (1033, .aload_n 3, 1), (1034, .invokestatic 142, 3), (1037, .istore 5, 2), (1039, .aload_n 2, 1), (1040, .aload_n 0, 1), (1041, .iload 4, 2), (1043, .iconst 1, 1), (1044, .iadd, 1), (1045, .iaload, 1), (1046, .invokevirtual 144, 3), (1049, .istore 6, 2), (1051, .aload_n 2, 1), (1052, .invokevirtual 91, 3), (1055, .iload 5, 2)], [(1057, .if_icmp .eq 5, 3), (1060, .iconst 0, 1), (1061, .ireturn, 1), (1062, .iload 5, 2), (1064, .ifCond .ne 15, 3), (1067, .aload_n 3, 1), (1068, .iconst 0, 1), (1069, .laload, 1), (1070, .iload 6, 2), (1072, .i2l, 1), (1073, .lcmp, 1), (1074, .ifCond .eq 5, 3), (1077, .iconst 0, 1), (1078, .ireturn, 1), (1079, .goto 733, 3), (1082, .aload_n 1, 1), (1083, .invokevirtual 145, 3), (1086, .aload_n 2, 1), (1087, .invokevirtual 148, 3)], [(1090, .if_icmp .eq 722, 3), (1093, .iconst 0, 1), (1094, .ireturn, 1), (1095, .aload_n 1, 1), (1096, .aload_n 0, 1), (1097, .iload 4, 2), (1099, .iconst 1, 1), (1100, .iadd, 1), (1101, .iaload, 1), (1102, .aload_n 0, 1), (1103, .iload 4, 2), (1105, .iconst 2, 1), (1106, .iadd, 1), (1107, .iaload, 1), (1108, .aload_n 3, 1), (1109, .invokestatic 149, 3), (1112, .istore 5, 2), (1114, .aload_n 2, 1), (1115, .aload_n 0, 1), (1116, .iload 4, 2), (1118, .iconst 1, 1), (1119, .iadd, 1)], [(1120, .iaload, 1), (1121, .aload_n 0, 1), (1122, .iload 4, 2), (1124, .iconst 2, 1), (1125, .iadd, 1), (1126, .iaload, 1), (1127, .invokevirtual 151, 3), (1130, .istore 6, 2), (1132, .aload_n 2, 1), (1133, .invokevirtual 91, 3), (1136, .iload 5, 2), (1138, .if_icmp .eq 5, 3), (1141, .iconst 0, 1), (1142, .ireturn, 1), (1143, .iload 5, 2), (1145, .ifCond .ne 15, 3), (1148, .aload_n 3, 1), (1149, .iconst 0, 1), (1150, .laload, 1), (1151, .iload 6, 2)], [(1153, .i2l, 1), (1154, .lcmp, 1), (1155, .ifCond .eq 5, 3), (1158, .iconst 0, 1), (1159, .ireturn, 1), (1160, .goto 652, 3), (1163, .aload_n 1, 1), (1164, .aload_n 0, 1), (1165, .iload 4, 2), (1167, .iconst 1, 1), (1168, .iadd, 1), (1169, .iaload, 1), (1170, .aload_n 3, 1), (1171, .invokestatic 152, 3), (1174, .istore 5, 2), (1176, .aload_n 2, 1), (1177, .aload_n 0, 1), (1178, .iload 4, 2), (1180, .iconst 1, 1), (1181, .iadd, 1), (1182, .iaload, 1), (1183, .invokevirtual 154, 3)], [(1186, .istore 6, 2), (1188, .aload_n 2, 1), (1189, .invokevirtual 91, 3), (1192, .iload 5, 2), (1194, .if_icmp .eq 5, 3), (1197, .iconst 0, 1), (1198, .ireturn, 1), (1199, .iload 5, 2), (1201, .ifCond .ne 15, 3), (1204, .aload_n 3, 1), (1205, .iconst 0, 1), (1206, .laload, 1), (1207, .iload 6, 2), (1209, .i2l, 1), (1210, .lcmp, 1), (1211, .ifCond .eq 5, 3), (1214, .iconst 0, 1), (1215, .ireturn, 1)], [(1216, .goto 596, 3), (1219, .aload_n 1, 1), (1220, .aload_n 0, 1), (1221, .iload 4, 2), (1223, .iconst 1, 1), (1224, .iadd, 1), (1225, .iaload, 1), (1226, .invokevirtual 155, 3), (1229, .aload_n 2, 1), (1230, .aload_n 0, 1), (1231, .iload 4, 2), (1233, .iconst 1, 1), (1234, .iadd, 1), (1235, .iaload, 1), (1236, .invokevirtual 158, 3), (1239, .if_icmp .eq 573, 3), (1242, .iconst 0, 1), (1243, .ireturn, 1), (1244, .aload_n 1, 1), (1245, .aload_n 0, 1), (1246, .iload 4, 2)], [(1248, .iconst 1, 1), (1249, .iadd, 1), (1250, .iaload, 1), (1251, .aload_n 0, 1), (1252, .iload 4, 2), (1254, .iconst 2, 1), (1255, .iadd, 1), (1256, .iaload, 1), (1257, .aload_n 3, 1), (1258, .invokestatic 159, 3), (1261, .istore 5, 2), (1263, .aload_n 2, 1), (1264, .aload_n 0, 1), (1265, .iload 4, 2), (1267, .iconst 1, 1), (1268, .iadd, 1), (1269, .iaload, 1), (1270, .aload_n 0, 1), (1271, .iload 4, 2), (1273, .iconst 2, 1), (1274, .iadd, 1), (1275, .iaload, 1), (1276, .invokevirtual 161, 3), (1279, .istore 6, 2)], [(1281, .aload_n 2, 1), (1282, .invokevirtual 91, 3), (1285, .iload 5, 2), (1287, .if_icmp .eq 5, 3), (1290, .iconst 0, 1), (1291, .ireturn, 1), (1292, .iload 5, 2), (1294, .ifCond .ne 15, 3), (1297, .aload_n 3, 1), (1298, .iconst 0, 1), (1299, .laload, 1), (1300, .iload 6, 2), (1302, .i2l, 1), (1303, .lcmp, 1), (1304, .ifCond .eq 5, 3), (1307, .iconst 0, 1), (1308, .ireturn, 1), (1309, .goto 503, 3)], [(1312, .aload_n 1, 1), (1313, .aload_n 0, 1), (1314, .iload 4, 2), (1316, .iconst 1, 1), (1317, .iadd, 1), (1318, .iaload, 1), (1319, .aload_n 0, 1), (1320, .iload 4, 2), (1322, .iconst 2, 1), (1323, .iadd, 1), (1324, .iaload, 1), (1325, .aload_n 0, 1), (1326, .iload 4, 2), (1328, .iconst 3, 1), (1329, .iadd, 1), (1330, .iaload, 1), (1331, .aload_n 3, 1), (1332, .invokestatic 162, 3), (1335, .istore 5, 2), (1337, .aload_n 2, 1), (1338, .aload_n 0, 1), (1339, .iload 4, 2), (1341, .iconst 1, 1), (1342, .iadd, 1), (1343, .iaload, 1)], [(1344, .aload_n 0, 1), (1345, .iload 4, 2), (1347, .iconst 2, 1), (1348, .iadd, 1), (1349, .iaload, 1), (1350, .aload_n 0, 1), (1351, .iload 4, 2), (1353, .iconst 3, 1), (1354, .iadd, 1), (1355, .iaload, 1), (1356, .invokevirtual 164, 3), (1359, .istore 6, 2), (1361, .aload_n 2, 1), (1362, .invokevirtual 91, 3), (1365, .iload 5, 2), (1367, .if_icmp .eq 5, 3), (1370, .iconst 0, 1), (1371, .ireturn, 1), (1372, .iload 5, 2), (1374, .ifCond .ne 15, 3)], [(1377, .aload_n 3, 1), (1378, .iconst 0, 1), (1379, .laload, 1), (1380, .iload 6, 2), (1382, .i2l, 1), (1383, .lcmp, 1), (1384, .ifCond .eq 5, 3), (1387, .iconst 0, 1), (1388, .ireturn, 1), (1389, .goto 423, 3), (1392, .aload_n 1, 1), (1393, .aload_n 0, 1), (1394, .iload 4, 2), (1396, .iconst 1, 1), (1397, .iadd, 1), (1398, .iaload, 1), (1399, .aload_n 0, 1), (1400, .iload 4, 2), (1402, .iconst 2, 1), (1403, .iadd, 1), (1404, .iaload, 1), (1405, .aload_n 3, 1), (1406, .invokestatic 165, 3)], [(1409, .istore 5, 2), (1411, .aload_n 2, 1), (1412, .aload_n 0, 1), (1413, .iload 4, 2), (1415, .iconst 1, 1), (1416, .iadd, 1), (1417, .iaload, 1), (1418, .aload_n 0, 1), (1419, .iload 4, 2), (1421, .iconst 2, 1), (1422, .iadd, 1), (1423, .iaload, 1), (1424, .invokevirtual 167, 3), (1427, .istore 6, 2), (1429, .aload_n 2, 1), (1430, .invokevirtual 91, 3), (1433, .iload 5, 2), (1435, .if_icmp .eq 5, 3), (1438, .iconst 0, 1), (1439, .ireturn, 1)], [(1440, .iload 5, 2), (1442, .ifCond .ne 15, 3), (1445, .aload_n 3, 1), (1446, .iconst 0, 1), (1447, .laload, 1), (1448, .iload 6, 2), (1450, .i2l, 1), (1451, .lcmp, 1), (1452, .ifCond .eq 5, 3), (1455, .iconst 0, 1), (1456, .ireturn, 1), (1457, .goto 355, 3), (1460, .aload_n 1, 1), (1461, .aload_n 0, 1), (1462, .iload 4, 2), (1464, .iconst 1, 1), (1465, .iadd, 1), (1466, .iaload, 1), (1467, .aload_n 0, 1), (1468, .iload 4, 2), (1470, .iconst 2, 1), (1471, .iadd, 1)], [(1472, .iaload, 1), (1473, .aload_n 0, 1), (1474, .iload 4, 2), (1476, .iconst 3, 1), (1477, .iadd, 1), (1478, .iaload, 1), (1479, .aload_n 3, 1), (1480, .invokestatic 168, 3), (1483, .istore 5, 2), (1485, .aload_n 2, 1), (1486, .aload_n 0, 1), (1487, .iload 4, 2), (1489, .iconst 1, 1), (1490, .iadd, 1), (1491, .iaload, 1), (1492, .aload_n 0, 1), (1493, .iload 4, 2), (1495, .iconst 2, 1), (1496, .iadd, 1), (1497, .iaload, 1), (1498, .aload_n 0, 1), (1499, .iload 4, 2), (1501, .iconst 3, 1), (1502, .iadd, 1), (1503, .iaload, 1)], [(1504, .invokevirtual 170, 3), (1507, .istore 6, 2), (1509, .aload_n 2, 1), (1510, .invokevirtual 91, 3), (1513, .iload 5, 2), (1515, .if_icmp .eq 5, 3), (1518, .iconst 0, 1), (1519, .ireturn, 1), (1520, .iload 5, 2), (1522, .ifCond .ne 15, 3), (1525, .aload_n 3, 1), (1526, .iconst 0, 1), (1527, .laload, 1), (1528, .iload 6, 2), (1530, .i2l, 1), (1531, .lcmp, 1), (1532, .ifCond .eq 5, 3), (1535, .iconst 0, 1)], [(1536, .ireturn, 1), (1537, .goto 275, 3), (1540, .aload_n 1, 1), (1541, .aload_n 0, 1), (1542, .iload 4, 2), (1544, .iconst 1, 1), (1545, .iadd, 1), (1546, .iaload, 1), (1547, .aload_n 0, 1), (1548, .iload 4, 2), (1550, .iconst 2, 1), (1551, .iadd, 1), (1552, .iaload, 1), (1553, .aload_n 3, 1), (1554, .invokestatic 171, 3), (1557, .istore 5, 2), (1559, .aload_n 2, 1), (1560, .aload_n 0, 1), (1561, .iload 4, 2), (1563, .iconst 1, 1), (1564, .iadd, 1), (1565, .iaload, 1), (1566, .aload_n 0, 1), (1567, .iload 4, 2)], [(1569, .iconst 2, 1), (1570, .iadd, 1), (1571, .iaload, 1), (1572, .invokevirtual 173, 3), (1575, .istore 6, 2), (1577, .aload_n 2, 1), (1578, .invokevirtual 91, 3), (1581, .iload 5, 2), (1583, .if_icmp .eq 5, 3), (1586, .iconst 0, 1), (1587, .ireturn, 1), (1588, .iload 5, 2), (1590, .ifCond .ne 15, 3), (1593, .aload_n 3, 1), (1594, .iconst 0, 1), (1595, .laload, 1), (1596, .iload 6, 2), (1598, .i2l, 1), (1599, .lcmp, 1)], [(1600, .ifCond .eq 5, 3), (1603, .iconst 0, 1), (1604, .ireturn, 1), (1605, .goto 207, 3), (1608, .aload_n 1, 1), (1609, .aload_n 0, 1), (1610, .iload 4, 2), (1612, .iconst 1, 1), (1613, .iadd, 1), (1614, .iaload, 1), (1615, .aload_n 3, 1), (1616, .invokestatic 174, 3), (1619, .istore 5, 2), (1621, .aload_n 2, 1), (1622, .aload_n 0, 1), (1623, .iload 4, 2), (1625, .iconst 1, 1), (1626, .iadd, 1), (1627, .iaload, 1), (1628, .invokevirtual 176, 3), (1631, .istore 6, 2)], [(1633, .aload_n 2, 1), (1634, .invokevirtual 91, 3), (1637, .iload 5, 2), (1639, .if_icmp .eq 5, 3), (1642, .iconst 0, 1), (1643, .ireturn, 1), (1644, .iload 5, 2), (1646, .ifCond .ne 15, 3), (1649, .aload_n 3, 1), (1650, .iconst 0, 1), (1651, .laload, 1), (1652, .iload 6, 2), (1654, .i2l, 1), (1655, .lcmp, 1), (1656, .ifCond .eq 5, 3), (1659, .iconst 0, 1), (1660, .ireturn, 1), (1661, .goto 151, 3)], [(1664, .aload_n 1, 1), (1665, .aload_n 0, 1), (1666, .iload 4, 2), (1668, .iconst 1, 1), (1669, .iadd, 1), (1670, .iaload, 1), (1671, .aload_n 0, 1), (1672, .iload 4, 2), (1674, .iconst 2, 1), (1675, .iadd, 1), (1676, .iaload, 1), (1677, .aload_n 3, 1), (1678, .invokestatic 177, 3), (1681, .istore 5, 2), (1683, .aload_n 2, 1), (1684, .aload_n 0, 1), (1685, .iload 4, 2), (1687, .iconst 1, 1), (1688, .iadd, 1), (1689, .iaload, 1), (1690, .aload_n 0, 1), (1691, .iload 4, 2), (1693, .iconst 2, 1), (1694, .iadd, 1), (1695, .iaload, 1)], [(1696, .invokevirtual 179, 3), (1699, .istore 6, 2), (1701, .aload_n 2, 1), (1702, .invokevirtual 91, 3), (1705, .iload 5, 2), (1707, .if_icmp .eq 5, 3), (1710, .iconst 0, 1), (1711, .ireturn, 1), (1712, .iload 5, 2), (1714, .ifCond .ne 15, 3), (1717, .aload_n 3, 1), (1718, .iconst 0, 1), (1719, .laload, 1), (1720, .iload 6, 2), (1722, .i2l, 1), (1723, .lcmp, 1), (1724, .ifCond .eq 5, 3), (1727, .iconst 0, 1)], [(1728, .ireturn, 1), (1729, .goto 83, 3), (1732, .aload_n 1, 1), (1733, .aload_n 0, 1), (1734, .iload 4, 2), (1736, .iconst 1, 1), (1737, .iadd, 1), (1738, .iaload, 1), (1739, .aload_n 3, 1), (1740, .invokestatic 180, 3), (1743, .istore 5, 2), (1745, .aload_n 2, 1), (1746, .aload_n 0, 1), (1747, .iload 4, 2), (1749, .iconst 1, 1), (1750, .iadd, 1), (1751, .iaload, 1), (1752, .invokevirtual 182, 3), (1755, .istore 6, 2), (1757, .aload_n 2, 1), (1758, .invokevirtual 91, 3)], [(1761, .iload 5, 2), (1763, .if_icmp .eq 5, 3), (1766, .iconst 0, 1), (1767, .ireturn, 1), (1768, .iload 5, 2), (1770, .ifCond .ne 15, 3), (1773, .aload_n 3, 1), (1774, .iconst 0, 1), (1775, .laload, 1), (1776, .iload 6, 2), (1778, .i2l, 1), (1779, .lcmp, 1), (1780, .ifCond .eq 5, 3), (1783, .iconst 0, 1), (1784, .ireturn, 1), (1785, .goto 27, 3), (1788, .aload_n 1, 1), (1789, .invokevirtual 183, 3)], [(1792, .aload_n 2, 1), (1793, .invokevirtual 186, 3), (1796, .goto 16, 3), (1799, .aload_n 1, 1), (1800, .invokevirtual 187, 3), (1803, .aload_n 2, 1), (1804, .invokevirtual 191, 3), (1807, .if_icmp .eq 5, 3), (1810, .iconst 0, 1), (1811, .ireturn, 1), (1812, .iinc 4 6, 3), (1815, .goto (-1792), 3), (1818, .iconst 1, 1), (1819, .ireturn, 1)]])
/-- Int.bitCount -/
def mm_m283 : mm_I := ((⟨"java/lang/Integer", "bitCount", "(I)I"⟩, prog_17_method_49_code, 1, some .int), (11, 1, 1), ([], [], []), [[(0, .iload_n 0, 1), (1, .iload_n 0, 1), (2, .iconst 1, 1), (3, .iushr, 1), (4, .ldc_w 265, 3), (7, .iand, 1), (8, .isub, 1), (9, .istore_n 0, 1), (10, .iload_n 0, 1), (11, .ldc_w 266, 3), (14, .iand, 1), (15, .iload_n 0, 1), (16, .iconst 2, 1), (17, .iushr, 1), (18, .ldc_w 266, 3), (21, .iand, 1), (22, .iadd, 1), (23, .istore_n 0, 1), (24, .iload_n 0, 1), (25, .iload_n 0, 1), (26, .iconst 4, 1), (27, .iushr, 1), (28, .iadd, 1), (29, .ldc_w 267, 3)], [(32, .iand, 1), (33, .istore_n 0, 1), (34, .iload_n 0, 1), (35, .iload_n 0, 1), (36, .bipush 8, 2), (38, .iushr, 1), (39, .iadd, 1), (40, .istore_n 0, 1), (41, .iload_n 0, 1), (42, .iload_n 0, 1), (43, .bipush 16, 2), (45, .iushr, 1), (46, .iadd, 1), (47, .istore_n 0, 1), (48, .iload_n 0, 1), (49, .bipush 63, 2), (51, .iand, 1), (52, .ireturn, 1)]])
/-- Math.max -/
def mm_m284 : mm_I := ((⟨"java/lang/Math", "max", "(II)I"⟩, prog_18_method_65_code, 2, some .int), (12, 2, 1), ([], [], []), [[(0, .iload_n 0, 1), (1, .iload_n 1, 1), (2, .if_icmp .lt 7, 3), (5, .iload_n 0, 1), (6, .goto 4, 3), (9, .iload_n 1, 1), (10, .ireturn, 1)]])
/-- Math.min -/
def mm_m285 : mm_I := ((⟨"java/lang/Math", "min", "(II)I"⟩, prog_18_method_69_code, 2, some .int), (12, 2, 1), ([], [], []), [[(0, .iload_n 0, 1), (1, .iload_n 1, 1), (2, .if_icmp .gt 7, 3), (5, .iload_n 0, 1), (6, .goto 4, 3), (9, .iload_n 1, 1), (10, .ireturn, 1)]])
/-- Arr.fill -/
def mm_m286 : mm_I := ((⟨"java/util/Arrays", "fill", "([II)V"⟩, prog_27_method_103_code, 4, none), (13, 2, 0), ([5], [], []), [[(0, .iconst 0, 1), (1, .istore_n 2, 1), (2, .aload_n 0, 1), (3, .arraylength, 1), (4, .istore_n 3, 1), (5, .iload_n 2, 1), (6, .iload_n 3, 1), (7, .if_icmp .ge 13, 3), (10, .aload_n 0, 1), (11, .iload_n 2, 1), (12, .iload_n 1, 1), (13, .iastore, 1), (14, .iinc 2 1, 3), (17, .goto (-12), 3), (20, .return_, 1)]])
def mm_stL : List Nat := [7, 9, 28, 61, 73, 100, 134, 135, 136, 137, 147, 149, 153, 154, 159, 160, 161, 164, 172, 191, 225, 230, 231, 262, 263, 264, 265, 266, 267, 268, 269, 270, 271, 272, 273, 274, 275, 276, 277, 278, 279, 280, 281, 283, 284, 285, 286]
def mm_sta (j : Nat) : Bool := mm_stL.any (fun q => Nat.beq q j)
def mm_g0 : List mm_I := [mm_m0, mm_m1, mm_m2, mm_m3, mm_m4, mm_m5, mm_m6, mm_m7, mm_m8, mm_m9, mm_m10, mm_m11, mm_m12, mm_m13, mm_m14, mm_m15]
def mm_g1 : List mm_I := [mm_m16, mm_m17, mm_m18, mm_m19, mm_m20, mm_m21, mm_m22, mm_m23, mm_m24, mm_m25, mm_m26, mm_m27, mm_m28, mm_m29, mm_m30, mm_m31]
def mm_g2 : List mm_I := [mm_m32, mm_m33, mm_m34, mm_m35, mm_m36, mm_m37, mm_m38, mm_m39, mm_m40, mm_m41, mm_m42, mm_m43, mm_m44, mm_m45, mm_m46, mm_m47]
def mm_g3 : List mm_I := [mm_m48, mm_m49, mm_m50, mm_m51, mm_m52, mm_m53, mm_m54, mm_m55, mm_m56, mm_m57, mm_m58, mm_m59, mm_m60, mm_m61, mm_m62, mm_m63]
def mm_g4 : List mm_I := [mm_m64, mm_m65, mm_m66, mm_m67, mm_m68, mm_m69, mm_m70, mm_m71, mm_m72, mm_m73, mm_m74, mm_m75, mm_m76, mm_m77, mm_m78, mm_m79]
def mm_g5 : List mm_I := [mm_m80, mm_m81, mm_m82, mm_m83, mm_m84, mm_m85, mm_m86, mm_m87, mm_m88, mm_m89, mm_m90, mm_m91, mm_m92, mm_m93, mm_m94, mm_m95]
def mm_g6 : List mm_I := [mm_m96, mm_m97, mm_m98, mm_m99, mm_m100, mm_m101, mm_m102, mm_m103, mm_m104, mm_m105, mm_m106, mm_m107, mm_m108, mm_m109, mm_m110, mm_m111]
def mm_g7 : List mm_I := [mm_m112, mm_m113, mm_m114, mm_m115, mm_m116, mm_m117, mm_m118, mm_m119, mm_m120, mm_m121, mm_m122, mm_m123, mm_m124, mm_m125, mm_m126, mm_m127]
def mm_g8 : List mm_I := [mm_m128, mm_m129, mm_m130, mm_m131, mm_m132, mm_m133, mm_m134, mm_m135, mm_m136, mm_m137, mm_m138, mm_m139, mm_m140, mm_m141, mm_m142, mm_m143]
def mm_g9 : List mm_I := [mm_m144, mm_m145, mm_m146, mm_m147, mm_m148, mm_m149, mm_m150, mm_m151, mm_m152, mm_m153, mm_m154, mm_m155, mm_m156, mm_m157, mm_m158, mm_m159]
def mm_g10 : List mm_I := [mm_m160, mm_m161, mm_m162, mm_m163, mm_m164, mm_m165, mm_m166, mm_m167, mm_m168, mm_m169, mm_m170, mm_m171, mm_m172, mm_m173, mm_m174, mm_m175]
def mm_g11 : List mm_I := [mm_m176, mm_m177, mm_m178, mm_m179, mm_m180, mm_m181, mm_m182, mm_m183, mm_m184, mm_m185, mm_m186, mm_m187, mm_m188, mm_m189, mm_m190, mm_m191]
def mm_g12 : List mm_I := [mm_m192, mm_m193, mm_m194, mm_m195, mm_m196, mm_m197, mm_m198, mm_m199, mm_m200, mm_m201, mm_m202, mm_m203, mm_m204, mm_m205, mm_m206, mm_m207]
def mm_g13 : List mm_I := [mm_m208, mm_m209, mm_m210, mm_m211, mm_m212, mm_m213, mm_m214, mm_m215, mm_m216, mm_m217, mm_m218, mm_m219, mm_m220, mm_m221, mm_m222, mm_m223]
def mm_g14 : List mm_I := [mm_m224, mm_m225, mm_m226, mm_m227, mm_m228, mm_m229, mm_m230, mm_m231, mm_m232, mm_m233, mm_m234, mm_m235, mm_m236, mm_m237, mm_m238, mm_m239]
def mm_g15 : List mm_I := [mm_m240, mm_m241, mm_m242, mm_m243, mm_m244, mm_m245, mm_m246, mm_m247, mm_m248, mm_m249, mm_m250, mm_m251, mm_m252, mm_m253, mm_m254, mm_m255]
def mm_g16 : List mm_I := [mm_m256, mm_m257, mm_m258, mm_m259, mm_m260, mm_m261, mm_m262, mm_m263, mm_m264, mm_m265, mm_m266, mm_m267, mm_m268, mm_m269, mm_m270, mm_m271]
def mm_g17 : List mm_I := [mm_m272, mm_m273, mm_m274, mm_m275, mm_m276, mm_m277, mm_m278, mm_m279, mm_m280, mm_m281, mm_m282, mm_m283, mm_m284, mm_m285, mm_m286]
def mm_all : List (List mm_I) := [mm_g0, mm_g1, mm_g2, mm_g3, mm_g4, mm_g5, mm_g6, mm_g7, mm_g8, mm_g9, mm_g10, mm_g11, mm_g12, mm_g13, mm_g14, mm_g15, mm_g16, mm_g17]
def mm_x (j : Nat) : mm_I := (mm_all.getD (j / 16) []).getD (j % 16) mm_m0
end
section
/-! THE MINI MACHINE: cells by their addresses, values as the machine's own; a run of a method is a function.
  mm_C: a cell: an object (class, fields), a row of ints, of longs, of references.
  mm_H: the cells; the next address (none: not known any more); cells and slots made so far. -/
abbrev mm_C : Type := (Nat × List Value) ⊕ ((Nat × (Nat → Int32)) ⊕ ((Nat × (Nat → Int64)) ⊕ (Nat × (Nat → Option Nat))))
abbrev mm_H : Type := (Nat → Option mm_C) × (Option Nat × (Nat × Nat))
/-- how a method ends: it returns, or throws the exception of that number -/
abbrev mm_O : Type := (Option Value) ⊕ Nat
abbrev mm_R : Type := Option (mm_O × mm_H)
abbrev mm_L : Type := List (Option Value)
/-- what stands fast: the script (address, length, ints), the address of MOST, of the String constants, the texts by address -/
abbrev mm_E : Type := (Nat × Nat × (Nat → Int32)) × Nat × (Nat → Nat) × (Nat → Option (List Int32))
abbrev mm_K : Type := Nat → mm_L → List Value → mm_H → mm_R
abbrev mm_F : Type := Nat → List Value → mm_H → mm_R
def mm_up (h : mm_H) (a : Nat) (c : mm_C) : mm_H := (va_up h.1 a (some c), h.2)
def mm_most : List Int32 := [9, 999, 9, 99, 9999, 20, 119]
-- fields
def mm_gI (h : mm_H) (a ci k : Nat) (κ : Int32 → mm_R) : mm_R := match h.1 a with
  | some (.inl (c, fs)) => (match fs[k]? with
    | some (.int v) => bif Nat.beq c ci then κ v else none
    | _ => none)
  | _ => none
def mm_gJ (h : mm_H) (a ci k : Nat) (κ : Int64 → mm_R) : mm_R := match h.1 a with
  | some (.inl (c, fs)) => (match fs[k]? with
    | some (.long v) => bif Nat.beq c ci then κ v else none
    | _ => none)
  | _ => none
def mm_gR (h : mm_H) (a ci k : Nat) (κ : Nat → mm_R) : mm_R := match h.1 a with
  | some (.inl (c, fs)) => (match fs[k]? with
    | some (.ref v) => bif Nat.beq c ci then κ v else none
    | _ => none)
  | _ => none
def mm_pF (h : mm_H) (a ci k : Nat) (v : Value) (κ : mm_H → mm_R) : mm_R := match h.1 a with
  | some (.inl (c, fs)) => bif Nat.beq c ci && Nat.ble (k + 1) fs.length then κ (mm_up h a (.inl (c, fs.set k v))) else none
  | _ => none
-- rows
def mm_rI (E : mm_E) (h : mm_H) (a : Nat) (i : Int32) (κ : Int32 → mm_R) : mm_R := match h.1 a with
  | some (.inr (.inl (n, f))) => if i < 0 ∨ n ≤ i.toNatClampNeg then none else κ (f i.toNatClampNeg)
  | none => if a = E.1.1 then (if i < 0 ∨ E.1.2.1 ≤ i.toNatClampNeg then none else κ (E.1.2.2 i.toNatClampNeg))
      else if a = E.2.1 then (if i < 0 ∨ 7 ≤ i.toNatClampNeg then none else κ (mm_most.getD i.toNatClampNeg 0)) else none
  | _ => none
def mm_wI (h : mm_H) (a : Nat) (i x : Int32) (κ : mm_H → mm_R) : mm_R := match h.1 a with
  | some (.inr (.inl (n, f))) => if i < 0 ∨ n ≤ i.toNatClampNeg then none else κ (mm_up h a (.inr (.inl (n, upd f i.toNatClampNeg x))))
  | _ => none
def mm_rJ (h : mm_H) (a : Nat) (i : Int32) (κ : Int64 → mm_R) : mm_R := match h.1 a with
  | some (.inr (.inr (.inl (n, f)))) => if i < 0 ∨ n ≤ i.toNatClampNeg then none else κ (f i.toNatClampNeg)
  | _ => none
def mm_wJ (h : mm_H) (a : Nat) (i : Int32) (x : Int64) (κ : mm_H → mm_R) : mm_R := match h.1 a with
  | some (.inr (.inr (.inl (n, f)))) => if i < 0 ∨ n ≤ i.toNatClampNeg then none else κ (mm_up h a (.inr (.inr (.inl (n, vp_updL f i.toNatClampNeg x)))))
  | _ => none
def mm_rR (h : mm_H) (a : Nat) (i : Int32) (κ : Nat → mm_R) : mm_R := match h.1 a with
  | some (.inr (.inr (.inr (n, f)))) => if i < 0 ∨ n ≤ i.toNatClampNeg then none else (match f i.toNatClampNeg with
    | some q => κ q
    | none => none)
  | _ => none
/-- a Row into a row of Rows -/
def mm_wR (h : mm_H) (a : Nat) (i : Int32) (x : Nat) (κ : mm_H → mm_R) : mm_R := match h.1 a with
  | some (.inr (.inr (.inr (n, f)))) => (match h.1 x with
    | some (.inl (c, _)) => if (i < 0 ∨ n ≤ i.toNatClampNeg) ∨ ¬ c = 5 then none else κ (mm_up h a (.inr (.inr (.inr (n, va_up f i.toNatClampNeg (some x))))))
    | _ => none)
  | _ => none
def mm_ln (E : mm_E) (h : mm_H) (a : Nat) (κ : Int32 → mm_R) : mm_R := match h.1 a with
  | some (.inr (.inl (n, _))) => κ (Int32.ofNat n)
  | some (.inr (.inr (.inl (n, _)))) => κ (Int32.ofNat n)
  | some (.inr (.inr (.inr (n, _)))) => κ (Int32.ofNat n)
  | none => if a = E.1.1 then κ (Int32.ofNat E.1.2.1) else if a = E.2.1 then κ 7 else none
  | _ => none
-- what is made
def mm_al (h : mm_H) (c : mm_C) (sl : Nat) (κ : Nat → mm_H → mm_R) : mm_R := match h.2.1 with
  | some n => κ n (va_up h.1 n (some c), (some (n + 1), (h.2.2.1 + 1, h.2.2.2 + sl)))
  | none => none
-- calls
def mm_th (hs : List (Nat × Int32)) (x : Nat) (h : mm_H) : mm_R := match hs.find? (fun q => Nat.beq q.1 x) with
  | some q => some (.inl (some (.int q.2)), h)
  | none => bif hs.isEmpty then some (.inr x, h) else none
def mm_cI (hs : List (Nat × Int32)) (r : mm_R) (κ : Int32 → mm_H → mm_R) : mm_R := match r with
  | some (.inl (some (.int v)), h) => κ v h
  | some (.inr x, h) => mm_th hs x h
  | _ => none
def mm_cV (hs : List (Nat × Int32)) (r : mm_R) (κ : mm_H → mm_R) : mm_R := match r with
  | some (.inl none, h) => κ h
  | some (.inr x, h) => mm_th hs x h
  | _ => none
/-- arraycopy of ints, between two rows or in one -/
def mm_cp (h : mm_H) (a : Nat) (sp : Int32) (d : Nat) (dp n : Int32) (κ : mm_H → mm_R) : mm_R := match h.1 a with
  | some (.inr (.inl (n0, f))) => (match h.1 d with
    | some (.inr (.inl (n1, g))) => if sp < 0 ∨ dp < 0 ∨ n < 0 ∨ n0 < sp.toNatClampNeg + n.toNatClampNeg ∨ n1 < dp.toNatClampNeg + n.toNatClampNeg then none
        else κ (mm_up h d (.inr (.inl (n1, va_cpy f g sp.toNatClampNeg dp.toNatClampNeg n.toNatClampNeg))))
    | _ => none)
  | _ => none
-- a text
def mm_sl (E : mm_E) (a : Nat) (κ : Int32 → mm_R) : mm_R := match E.2.2.2 a with
  | some t => κ (Int32.ofNat t.length)
  | none => none
def mm_sa (E : mm_E) (a : Nat) (i : Int32) (κ : Int32 → mm_R) : mm_R := match E.2.2.2 a with
  | some t => if i < 0 ∨ t.length ≤ i.toNatClampNeg then none else κ (t.getD i.toNatClampNeg 0)
  | none => none
-- locals and stack
def mm_st1 (L : mm_L) (i : Nat) (v : Value) : mm_L := (match i with
  | 0 => L
  | k + 1 => (match L[k]? with
    | some (some (.long _)) => L.set k none
    | some (some (.double _)) => L.set k none
    | _ => L)).set i (some v)
def mm_st2 (L : mm_L) (i : Nat) (v : Value) : mm_L := (mm_st1 L i v).set (i + 1) none
/-- the same, the locals laid out one by one (so that what is stored is no nest of stores) -/
def mm_kl (a : Option Value) : Option Value := match a with
  | some (.long _) => none
  | some (.double _) => none
  | x => x
def mm_stk : Nat → mm_L → Value → (mm_L → mm_R) → mm_R
  | 0, L, v, κ => (match L with
    | _ :: r => κ (some v :: r)
    | [] => κ [])
  | 1, L, v, κ => (match L with
    | a :: _ :: r => κ (mm_kl a :: some v :: r)
    | L => κ L)
  | i + 2, L, v, κ => (match L with
    | a :: r => mm_stk (i + 1) r v (fun r' => κ (a :: r'))
    | [] => κ [])
def mm_stk2 : Nat → mm_L → Value → (mm_L → mm_R) → mm_R
  | 0, L, v, κ => (match L with
    | _ :: _ :: r => κ (some v :: none :: r)
    | L => κ L)
  | 1, L, v, κ => (match L with
    | a :: _ :: _ :: r => κ (mm_kl a :: some v :: none :: r)
    | L => κ L)
  | i + 2, L, v, κ => (match L with
    | a :: r => mm_stk2 (i + 1) r v (fun r' => κ (a :: r'))
    | [] => κ [])
theorem mm_kl_st (a : Option Value) (b : Option Value) (r : mm_L) (v : Value) : mm_st1 (a :: b :: r) 1 v = mm_kl a :: some v :: r := by
  cases a with
  | none => rfl
  | some w => cases w <;> rfl
theorem mm_st1_cons (a : Option Value) (r : mm_L) (i : Nat) (v : Value) : mm_st1 (a :: r) (i + 2) v = a :: mm_st1 r (i + 1) v := by
  unfold mm_st1
  simp only [List.getElem?_cons_succ]
  cases r[i]? with
  | none => rfl
  | some w => cases w with
    | none => rfl
    | some w => cases w <;> rfl
theorem mm_stk_eq : ∀ (i : Nat) (L : mm_L) (v : Value) (κ : mm_L → mm_R), i < L.length → mm_stk i L v κ = κ (mm_st1 L i v)
  | 0, [], _, _, h => absurd h (Nat.not_lt_zero _)
  | 0, _ :: _, _, _, _ => rfl
  | 1, [], _, _, h => absurd h (Nat.not_lt_zero _)
  | 1, [_], _, _, h => absurd h (by simp)
  | 1, a :: b :: r, v, κ, _ => congrArg κ (mm_kl_st a b r v).symm
  | i + 2, [], _, _, h => absurd h (Nat.not_lt_zero _)
  | i + 2, a :: r, v, κ, h => by
    show mm_stk (i + 1) r v (fun r' => κ (a :: r')) = _
    rw [mm_stk_eq (i + 1) r v _ (by rw [List.length_cons] at h; omega), mm_st1_cons]
theorem mm_stk2_eq : ∀ (i : Nat) (L : mm_L) (v : Value) (κ : mm_L → mm_R), i + 1 < L.length → mm_stk2 i L v κ = κ (mm_st2 L i v)
  | 0, [], _, _, h => absurd h (by simp)
  | 0, [_], _, _, h => absurd h (by simp)
  | 0, _ :: _ :: _, _, _, _ => rfl
  | 1, [], _, _, h => absurd h (by simp)
  | 1, [_], _, _, h => absurd h (by simp)
  | 1, [_, _], _, _, h => absurd h (by simp)
  | 1, a :: b :: c :: r, v, κ, _ => by
    show κ (mm_kl a :: some v :: none :: r) = κ ((mm_st1 (a :: b :: c :: r) 1 v).set 2 none)
    rw [mm_kl_st]
    rfl
  | i + 2, [], _, _, h => absurd h (by simp)
  | i + 2, a :: r, v, κ, h => by
    show mm_stk2 (i + 1) r v (fun r' => κ (a :: r')) = _
    rw [mm_stk2_eq (i + 1) r v _ (by rw [List.length_cons] at h; omega)]
    show _ = κ ((mm_st1 (a :: r) (i + 2) v).set (i + 3) none)
    rw [mm_st1_cons]
    rfl
theorem mm_stk_go : ∀ (i : Nat) (L : mm_L) (v : Value) (κ : mm_L → mm_R), ∃ L', mm_stk i L v κ = κ L'
  | 0, [], _, _ => ⟨_, rfl⟩
  | 0, _ :: _, _, _ => ⟨_, rfl⟩
  | 1, [], _, _ => ⟨_, rfl⟩
  | 1, [_], _, _ => ⟨_, rfl⟩
  | 1, _ :: _ :: _, _, _ => ⟨_, rfl⟩
  | i + 2, [], _, _ => ⟨_, rfl⟩
  | i + 2, a :: r, v, κ => by
    obtain ⟨L', h⟩ := mm_stk_go (i + 1) r v (fun r' => κ (a :: r'))
    exact ⟨a :: L', h⟩
theorem mm_stk2_go : ∀ (i : Nat) (L : mm_L) (v : Value) (κ : mm_L → mm_R), ∃ L', mm_stk2 i L v κ = κ L'
  | 0, [], _, _ => ⟨_, rfl⟩
  | 0, [_], _, _ => ⟨_, rfl⟩
  | 0, _ :: _ :: _, _, _ => ⟨_, rfl⟩
  | 1, [], _, _ => ⟨_, rfl⟩
  | 1, [_], _, _ => ⟨_, rfl⟩
  | 1, [_, _], _, _ => ⟨_, rfl⟩
  | 1, _ :: _ :: _ :: _, _, _ => ⟨_, rfl⟩
  | i + 2, [], _, _ => ⟨_, rfl⟩
  | i + 2, a :: r, v, κ => by
    obtain ⟨L', h⟩ := mm_stk2_go (i + 1) r v (fun r' => κ (a :: r'))
    exact ⟨a :: L', h⟩
def mm_pop : Nat → List Value → List Value → Option (List Value × List Value)
  | 0, acc, st => some (acc, st)
  | n + 1, acc, v :: st => mm_pop n (v :: acc) st
  | _ + 1, _, [] => none
def mm_wt : List Value → Nat
  | [] => 0
  | v :: r => (match v with
    | .long _ => 2
    | .double _ => 2
    | _ => 1) + mm_wt r
def mm_i1 (st : List Value) (κ : Int32 → List Value → mm_R) : mm_R := match st with
  | .int x :: r => κ x r
  | _ => none
def mm_i2 (st : List Value) (κ : Int32 → Int32 → List Value → mm_R) : mm_R := match st with
  | .int y :: .int x :: r => κ x y r
  | _ => none
def mm_j2 (st : List Value) (κ : Int64 → Int64 → List Value → mm_R) : mm_R := match st with
  | .long y :: .long x :: r => κ x y r
  | _ => none
def mm_r1 (st : List Value) (κ : Nat → List Value → mm_R) : mm_R := match st with
  | .ref a :: r => κ a r
  | _ => none
def mm_l1 (st : List Value) (κ : Int64 → List Value → mm_R) : mm_R := match st with
  | .long a :: r => κ a r
  | _ => none
def mm_il (st : List Value) (κ : Int32 → Int64 → List Value → mm_R) : mm_R := match st with
  | .int b :: .long a :: r => κ b a r
  | _ => none
def mm_ir (st : List Value) (κ : Int32 → Nat → List Value → mm_R) : mm_R := match st with
  | .int i :: .ref a :: r => κ i a r
  | _ => none
def mm_iir (st : List Value) (κ : Int32 → Int32 → Nat → List Value → mm_R) : mm_R := match st with
  | .int v :: .int i :: .ref a :: r => κ v i a r
  | _ => none
def mm_lir (st : List Value) (κ : Int64 → Int32 → Nat → List Value → mm_R) : mm_R := match st with
  | .long v :: .int i :: .ref a :: r => κ v i a r
  | _ => none
def mm_rir (st : List Value) (κ : Nat → Int32 → Nat → List Value → mm_R) : mm_R := match st with
  | .ref v :: .int i :: .ref a :: r => κ v i a r
  | _ => none
def mm_vr (st : List Value) (κ : Value → Nat → List Value → mm_R) : mm_R := match st with
  | v :: .ref a :: r => κ v a r
  | _ => none
def mm_cq (st : List Value) (κ : Int32 → Int32 → Nat → Int32 → Nat → List Value → mm_R) : mm_R := match st with
  | .int n :: .int dp :: .ref d :: .int sp :: .ref a :: r => κ n dp d sp a r
  | _ => none
def mm_dp (st : List Value) (κ : List Value → mm_R) : mm_R := match st with
  | .int a :: r => κ (.int a :: .int a :: r)
  | .ref a :: r => κ (.ref a :: .ref a :: r)
  | _ => none
def mm_d2 (st : List Value) (κ : List Value → mm_R) : mm_R := match st with
  | .int a :: .int b :: r => κ (.int a :: .int b :: .int a :: .int b :: r)
  | .int a :: .ref b :: r => κ (.int a :: .ref b :: .int a :: .ref b :: r)
  | _ => none
def mm_lv (L : mm_L) (i : Nat) (κ : Int32 → mm_R) : mm_R := match L[i]? with
  | some (some (.int v)) => κ v
  | _ => none
def mm_op {α : Type} (x : Option α) (κ : α → mm_R) (n : mm_R) : mm_R := match x with
  | some q => κ q
  | none => n
def mm_e1 (st : List Value) (κ : Int32 → mm_R) : mm_R := match st with
  | [.int v] => κ v
  | _ => none
def mm_e0 (st : List Value) (r : mm_R) : mm_R := match st with
  | [] => r
  | _ => none
def mm_tg (pc : Nat) (off : Int) (κ : Nat → mm_R) : mm_R := match (pc : Int) + off with
  | .ofNat t => κ t
  | _ => none
def mm_fd {α : Type} (t : List (List (Nat × α))) (own idx : Nat) : Option (Nat × α) := (t.getD own []).find? (fun q => Nat.beq q.1 idx)
def mm_lay (vs : List Value) : mm_L := vs.flatMap fun v => match v with
  | .long _ => [some v, none]
  | .double _ => [some v, none]
  | _ => [some v]
def mm_ent (vs : List Value) (n : Nat) : mm_L := mm_lay vs ++ List.replicate (n - (mm_lay vs).length) none
def mm_mx (x y : Int32) : Int32 := if x < y then y else x
def mm_mn (x y : Int32) : Int32 := if y < x then y else x
/-- a call of method j; special numbers from 1000 on -/
def mm_inv (E : mm_E) (cl : mm_F) (x : mm_I) (j len pc : Nat) (go : mm_K) (L : mm_L) (st : List Value) (h : mm_H) : mm_R :=
  bif Nat.ble 1000 j then
    (bif Nat.beq j 1000 then mm_r1 st (fun _ r => bif Nat.ble (mm_wt r) 8 then go (pc + len) L r h else none)
    else bif Nat.beq j 1001 then mm_r1 st (fun a r => bif Nat.ble (mm_wt r) 8 then mm_sl E a (fun v => go (pc + len) L (.int v :: r) h) else none)
    else bif Nat.beq j 1002 then mm_ir st (fun i a r => bif Nat.ble (mm_wt r) 8 then mm_sa E a i (fun v => go (pc + len) L (.int v :: r) h) else none)
    else bif Nat.beq j 1003 then mm_cq st (fun n dp d sp a r => bif Nat.ble (mm_wt r) 8 then mm_cp h a sp d dp n (fun h' => go (pc + len) L r h') else none)
    else bif Nat.beq j 1004 then mm_i2 st (fun a b r => bif Nat.ble (mm_wt r) 8 then go (pc + len) L (.int (mm_mx a b) :: r) h else none)
    else bif Nat.beq j 1005 then mm_i2 st (fun a b r => bif Nat.ble (mm_wt r) 8 then go (pc + len) L (.int (mm_mn a b) :: r) h else none)
    else none)
  else mm_op (mm_pop (mm_x j).2.1.2.1 [] st) (fun q => bif Nat.ble (mm_wt q.2) 8 then
        (bif Nat.beq (mm_x j).2.1.2.2 0 then mm_cV x.2.2.1.2.2 (cl j q.1 h) (fun h' => go (pc + len) L q.2 h')
         else mm_cI x.2.2.1.2.2 (cl j q.1 h) (fun v h' => go (pc + len) L (.int v :: q.2) h'))
      else none) none
/-- a branch -/
noncomputable def mm_br (c : Prop) (a b : mm_R) : mm_R := @ite _ c (Classical.propDecidable c) a b
theorem mm_br_t {c : Prop} {a b : mm_R} (h : c) : mm_br c a b = a := by unfold mm_br; exact if_pos h
theorem mm_br_f {c : Prop} {a b : mm_R} (h : ¬ c) : mm_br c a b = b := by unfold mm_br; exact if_neg h
noncomputable def mm_cmp (cd : ClassFile.Cond) (x y : Int32) (a b : mm_R) : mm_R := match cd with
  | .eq => mm_br (x = y) a b
  | .ne => mm_br (x = y) b a
  | .lt => mm_br (x < y) a b
  | .ge => mm_br (y ≤ x) a b
  | .gt => mm_br (y < x) a b
  | .le => mm_br (x ≤ y) a b
noncomputable def mm_nz (b : Int32) (r : mm_R) : mm_R := mm_br (b = 0) none r
noncomputable def mm_nzj (b : Int64) (r : mm_R) : mm_R := mm_br (b = 0) none r
/-- 0 or 1 -/
noncomputable def mm_bz (b : Int32) (r : mm_R) : mm_R := mm_br (b = 0 ∨ b = 1) r none
/-- a length -/
noncomputable def mm_nn (n : Int32) (r : Nat → mm_R) : mm_R := mm_br (n < 0 ∨ 100000 < n.toNatClampNeg) none (r n.toNatClampNeg)
/-- a value for a field of that type -/
noncomputable def mm_pv (v : Value) (ty : Nat) (r : mm_R) : mm_R := match v with
  | .int n => bif Nat.beq ty 0 then r else bif Nat.beq ty 3 then mm_bz n r else none
  | .long _ => bif Nat.beq ty 1 then r else none
  | .ref _ => bif Nat.beq ty 2 then r else none
  | _ => none
/-- a switch by a row of numbers, by pairs -/
noncomputable def mm_sw (a : Int32) (df : Int) : Int → List Int → (Int → mm_R) → mm_R
  | _, [], κ => κ df
  | lo, off :: r, κ => mm_br (a = Int32.ofInt lo) (κ off) (mm_sw a df (lo + 1) r κ)
noncomputable def mm_lw (a : Int32) (df : Int) : List (Int × Int) → (Int → mm_R) → mm_R
  | [], κ => κ df
  | q :: r, κ => mm_br (a = Int32.ofInt q.1) (κ q.2) (mm_lw a df r κ)
def mm_bin (st : List Value) (f : Int32 → Int32 → Int32) (κ : List Value → mm_R) : mm_R := mm_i2 st (fun x y r => κ (.int (f x y) :: r))
def mm_bij (st : List Value) (f : Int64 → Int64 → Int64) (κ : List Value → mm_R) : mm_R := mm_j2 st (fun x y r => κ (.long (f x y) :: r))
def mm_ldI (L : mm_L) (i : Nat) (st : List Value) (κ : List Value → mm_R) : mm_R := match L[i]? with
  | some (some (.int v)) => κ (.int v :: st)
  | _ => none
def mm_ldJ (L : mm_L) (i : Nat) (st : List Value) (κ : List Value → mm_R) : mm_R := match L[i]? with
  | some (some (.long v)) => κ (.long v :: st)
  | _ => none
def mm_ldR (L : mm_L) (i : Nat) (st : List Value) (κ : List Value → mm_R) : mm_R := match L[i]? with
  | some (some (.ref v)) => κ (.ref v :: st)
  | _ => none
/-- how long an instruction is (0: a switch) -/
def mm_lk : Instr → Nat
  | .bipush _ => 2 | .sipush _ => 3 | .ldc _ => 2 | .ldc_w _ => 3 | .ldc2_w _ => 3
  | .iload _ => 2 | .lload _ => 2 | .aload _ => 2 | .istore _ => 2 | .lstore _ => 2 | .astore _ => 2 | .iinc _ _ => 3
  | .goto _ => 3 | .if_icmp _ _ => 3 | .ifCond _ _ => 3 | .tableswitch _ _ _ _ => 0 | .lookupswitch _ _ => 0
  | .getfield _ => 3 | .putfield _ => 3 | .getstatic _ => 3 | .newarray _ => 2 | .anewarray _ => 3 | .new _ => 3
  | .invokevirtual _ => 3 | .invokestatic _ => 3 | .invokespecial _ => 3
  | _ => 1
/-- one instruction -/
noncomputable def mm_stp (E : mm_E) (cl : mm_F) (x : mm_I) (go : mm_K) (i : Instr) (len pc : Nat) (L : mm_L) (st : List Value) (h : mm_H) : mm_R := match i with
  | .iconst v => go (pc + len) L (.int (Int32.ofInt v) :: st) h
  | .bipush v => go (pc + len) L (.int (Int8.ofInt v).toInt32 :: st) h
  | .sipush v => go (pc + len) L (.int (Int16.ofInt v).toInt32 :: st) h
  | .lconst v => go (pc + len) L (.long (Int64.ofNat v.val) :: st) h
  | .ldc k => mm_op (mm_fd mm_ct x.2.1.1 k) (fun q => go (pc + len) L (.int q.2.1 :: st) h) (mm_op (mm_fd mm_sr x.2.1.1 k) (fun q => go (pc + len) L (.ref (E.2.2.1 q.2.1) :: st) h) none)
  | .ldc_w k => mm_op (mm_fd mm_ct x.2.1.1 k) (fun q => go (pc + len) L (.int q.2.1 :: st) h) (mm_op (mm_fd mm_sr x.2.1.1 k) (fun q => go (pc + len) L (.ref (E.2.2.1 q.2.1) :: st) h) none)
  | .ldc2_w k => mm_op (mm_fd mm_cj x.2.1.1 k) (fun q => go (pc + len) L (.long q.2.1 :: st) h) none
  | .iload_n k => mm_ldI L k.val st (fun s' => go (pc + len) L s' h)
  | .iload k => mm_ldI L k st (fun s' => go (pc + len) L s' h)
  | .lload_n k => mm_ldJ L k.val st (fun s' => go (pc + len) L s' h)
  | .lload k => mm_ldJ L k st (fun s' => go (pc + len) L s' h)
  | .aload_n k => mm_ldR L k.val st (fun s' => go (pc + len) L s' h)
  | .aload k => mm_ldR L k st (fun s' => go (pc + len) L s' h)
  | .istore_n k => mm_i1 st (fun v r => bif Nat.ble (k.val + 1) L.length then mm_stk k.val L (.int v) (fun L' => go (pc + len) L' r h) else none)
  | .istore k => mm_i1 st (fun v r => bif Nat.ble (k + 1) L.length then mm_stk k L (.int v) (fun L' => go (pc + len) L' r h) else none)
  | .astore_n k => mm_r1 st (fun v r => bif Nat.ble (k.val + 1) L.length then mm_stk k.val L (.ref v) (fun L' => go (pc + len) L' r h) else none)
  | .astore k => mm_r1 st (fun v r => bif Nat.ble (k + 1) L.length then mm_stk k L (.ref v) (fun L' => go (pc + len) L' r h) else none)
  | .lstore_n k => mm_l1 st (fun v r => bif Nat.ble (k.val + 2) L.length then mm_stk2 k.val L (.long v) (fun L' => go (pc + len) L' r h) else none)
  | .lstore k => mm_l1 st (fun v r => bif Nat.ble (k + 2) L.length then mm_stk2 k L (.long v) (fun L' => go (pc + len) L' r h) else none)
  | .iinc k n => mm_lv L k (fun v => mm_stk k L (.int (v + Int32.ofInt n)) (fun L' => go (pc + len) L' st h))
  | .iadd => mm_bin st (fun a b => a + b) (fun s' => go (pc + len) L s' h)
  | .isub => mm_bin st (fun a b => a - b) (fun s' => go (pc + len) L s' h)
  | .imul => mm_bin st (fun a b => a * b) (fun s' => go (pc + len) L s' h)
  | .iand => mm_bin st (fun a b => a &&& b) (fun s' => go (pc + len) L s' h)
  | .ior => mm_bin st (fun a b => a ||| b) (fun s' => go (pc + len) L s' h)
  | .ixor => mm_bin st (fun a b => a ^^^ b) (fun s' => go (pc + len) L s' h)
  | .ishl => mm_bin st (fun a b => a <<< (b &&& 31)) (fun s' => go (pc + len) L s' h)
  | .ishr => mm_bin st (fun a b => a >>> (b &&& 31)) (fun s' => go (pc + len) L s' h)
  | .iushr => mm_bin st (fun a b => (a.toUInt32 >>> (b.toUInt32 &&& Int32.toUInt32 31)).toInt32) (fun s' => go (pc + len) L s' h)
  | .idiv => mm_i2 st (fun a b r => mm_nz b (go (pc + len) L (.int (a / b) :: r) h))
  | .irem => mm_i2 st (fun a b r => mm_nz b (go (pc + len) L (.int (a - a / b * b) :: r) h))
  | .ineg => mm_i1 st (fun a r => go (pc + len) L (.int (-a) :: r) h)
  | .ladd => mm_bij st (fun a b => a + b) (fun s' => go (pc + len) L s' h)
  | .lmul => mm_bij st (fun a b => a * b) (fun s' => go (pc + len) L s' h)
  | .land => mm_bij st (fun a b => a &&& b) (fun s' => go (pc + len) L s' h)
  | .ldiv => mm_j2 st (fun a b r => mm_nzj b (go (pc + len) L (.long (a / b) :: r) h))
  | .lshl => mm_il st (fun b a r => go (pc + len) L (.long (a <<< (b.toInt64 &&& 63)) :: r) h)
  | .lshr => mm_il st (fun b a r => go (pc + len) L (.long (a >>> (b.toInt64 &&& 63)) :: r) h)
  | .lcmp => mm_j2 st (fun a b r => go (pc + len) L (.int (lg_cmp a b) :: r) h)
  | .i2l => mm_i1 st (fun a r => go (pc + len) L (.long a.toInt64 :: r) h)
  | .l2i => mm_l1 st (fun a r => go (pc + len) L (.int a.toInt32 :: r) h)
  | .dup => mm_dp st (fun s' => go (pc + len) L s' h)
  | .dup2 => mm_d2 st (fun s' => go (pc + len) L s' h)
  | .pop => mm_i1 st (fun _ r => go (pc + len) L r h)
  | .goto off => mm_tg pc off (fun t => go t L st h)
  | .if_icmp cd off => mm_i2 st (fun a b r => mm_tg pc off (fun t => mm_cmp cd a b (go t L r h) (go (pc + len) L r h)))
  | .ifCond cd off => mm_i1 st (fun a r => mm_tg pc off (fun t => mm_cmp cd a 0 (go t L r h) (go (pc + len) L r h)))
  | .tableswitch df lo hi offs => mm_i1 st (fun a r => bif decide (-2147483648 ≤ lo ∧ lo + offs.toList.length = hi + 1 ∧ hi < 2147483648) then mm_sw a df lo offs.toList (fun off => mm_tg pc off (fun t => go t L r h)) else none)
  | .lookupswitch df ps => mm_i1 st (fun a r => bif (ps.toList.zip (ps.toList.drop 1)).all (fun (u, w) => decide (u.1 < w.1)) && ps.toList.all (fun q => decide (-2147483648 ≤ q.1 ∧ q.1 < 2147483648)) then mm_lw a df ps.toList (fun off => mm_tg pc off (fun t => go t L r h)) else none)
  | .getfield k => mm_r1 st (fun a r => mm_op (mm_fd mm_fl x.2.1.1 k) (fun q =>
      bif Nat.beq q.2.2.2.1 1 then mm_gJ h a q.2.1 q.2.2.1 (fun v => go (pc + len) L (.long v :: r) h)
      else bif Nat.beq q.2.2.2.1 2 then mm_gR h a q.2.1 q.2.2.1 (fun v => go (pc + len) L (.ref v :: r) h)
      else mm_gI h a q.2.1 q.2.2.1 (fun v => go (pc + len) L (.int v :: r) h)) none)
  | .putfield k => mm_vr st (fun v a r => mm_op (mm_fd mm_fl x.2.1.1 k) (fun q =>
      bif !((mm_fin.getD q.2.1 []).getD q.2.2.1 true) || (Nat.beq q.2.1 x.2.1.1 && decide (x.1.1.name = "<init>")) then
        mm_pv v q.2.2.2.1 (mm_pF h a q.2.1 q.2.2.1 v (fun h' => go (pc + len) L r h')) else none) none)
  | .getstatic k => bif Nat.beq x.2.1.1 8 && Nat.beq k 323 then go (pc + len) L (.ref E.2.1 :: st) h else none
  | .iaload => mm_ir st (fun i a r => mm_rI E h a i (fun v => go (pc + len) L (.int v :: r) h))
  | .iastore => mm_iir st (fun v i a r => mm_wI h a i v (fun h' => go (pc + len) L r h'))
  | .laload => mm_ir st (fun i a r => mm_rJ h a i (fun v => go (pc + len) L (.long v :: r) h))
  | .lastore => mm_lir st (fun v i a r => mm_wJ h a i v (fun h' => go (pc + len) L r h'))
  | .aaload => mm_ir st (fun i a r => mm_rR h a i (fun v => go (pc + len) L (.ref v :: r) h))
  | .aastore => mm_rir st (fun v i a r => mm_wR h a i v (fun h' => go (pc + len) L r h'))
  | .arraylength => mm_r1 st (fun a r => mm_ln E h a (fun v => go (pc + len) L (.int v :: r) h))
  | .newarray .int => mm_i1 st (fun n r => mm_nn n (fun k => mm_al h (.inr (.inl (k, fun _ => 0))) k (fun q h' => go (pc + len) L (.ref q :: r) h')))
  | .newarray .long => mm_i1 st (fun n r => mm_nn n (fun k => mm_al h (.inr (.inr (.inl (k, fun _ => 0)))) k (fun q h' => go (pc + len) L (.ref q :: r) h')))
  | .anewarray k => bif Nat.beq x.2.1.1 1 && Nat.beq k 9 then mm_i1 st (fun n r => mm_nn n (fun k => mm_al h (.inr (.inr (.inr (k, fun _ => none)))) k (fun q h' => go (pc + len) L (.ref q :: r) h'))) else none
  | .new k => mm_op (x.2.2.1.2.1.find? (fun q => Nat.beq q.1 pc)) (fun q => bif Nat.ble (mm_wt st) 8 then some (.inr q.2, (h.1, (none, (h.2.2.1 + 1, h.2.2.2 + 6)))) else none)
      (mm_op (mm_fd mm_nw x.2.1.1 k) (fun q => mm_al h (.inl (q.2.1, mm_new.getD q.2.1 [])) (mm_new.getD q.2.1 []).length (fun a h' => go (pc + len) L (.ref a :: st) h')) none)
  | .invokevirtual k => mm_op (mm_fd mm_ml x.2.1.1 k) (fun q => mm_inv E cl x q.2.1 len pc go L st h) none
  | .invokestatic k => mm_op (mm_fd mm_ml x.2.1.1 k) (fun q => mm_inv E cl x q.2.1 len pc go L st h) none
  | .invokespecial k => mm_op (mm_fd mm_ml x.2.1.1 k) (fun q => mm_inv E cl x q.2.1 len pc go L st h) none
  | .ireturn => mm_e1 st (fun v => bif Nat.beq x.2.1.2.2 1 then some (.inl (some (.int v)), h) else bif Nat.beq x.2.1.2.2 2 then mm_bz v (some (.inl (some (.int v)), h)) else none)
  | .return_ => mm_e0 st (bif Nat.beq x.2.1.2.2 0 then some (.inl none, h) else none)
  | _ => none
def mm_ins (x : mm_I) (pc : Nat) : Option (Nat × Instr × Nat) := (x.2.2.2.getD (pc / 32) []).find? (fun q => Nat.beq q.1 pc)
def mm_cut (x : mm_I) (pc : Nat) : Bool := x.2.2.1.1.any (fun q => Nat.beq q pc)
/-- from pc to the next cuts -/
noncomputable def mm_blk (E : mm_E) (cl : mm_F) (kn : mm_K) (x : mm_I) : Nat → mm_K
  | 0 => fun _ _ _ _ => none
  | n + 1 => fun pc L st h => match mm_ins x pc with
    | some (_, i, len) => mm_stp E cl x (fun t L' st' h' => bif mm_cut x t then kn t L' st' h' else mm_blk E cl kn x n t L' st' h') i len pc L st h
    | none => none
/-- from cut to cut -/
noncomputable def mm_run (E : mm_E) (cl : mm_F) (x : mm_I) : Nat → mm_K
  | 0 => fun _ _ _ _ => none
  | n + 1 => fun pc L st h => mm_blk E cl (mm_run E cl x n) x 3000 pc L st h
def mm_fuel : Nat := 100000
/-- the object that a method is called of is one of its class -/
def mm_rok (j : Nat) (as : List Value) (h : mm_H) : Bool := bif mm_sta j then true else (match as with
  | .ref b :: _ => (match h.1 b with
    | some (.inl (ci, _)) => Nat.beq ci (mm_x j).2.1.1
    | _ => false)
  | _ => false)
/-- a method's call, at most so deep -/
noncomputable def mm_ev (E : mm_E) : Nat → mm_F
  | 0 => fun _ _ _ => none
  | d + 1 => fun j as h => bif mm_rok j as h && Nat.ble (mm_lay as).length (mm_x j).1.2.2.1 then mm_run E (mm_ev E d) (mm_x j) mm_fuel 0 (mm_ent as (mm_x j).1.2.2.1) [] h else none
end
section
/-! THE PURE STATE: what the cells hold, as whole numbers; the shape of the cells stands fast -/
def mm_i (v : Int) : Int32 := Int32.ofInt v
def mm_j (v : Int) : Int64 := Int64.ofInt v
def mm_ad (B k : Nat) : Nat := B + k
/-- ints by object and field, longs so; rows of ints, of longs by place -/
def mm_S : Type := ((Nat → Nat → Int) × (Nat → Nat → Int)) × ((Nat → Int → Int) × (Nat → Int → Int))
def mm_S.I (S : mm_S) (a k : Nat) : Int := S.1.1 a k
def mm_S.J (S : mm_S) (a k : Nat) : Int := S.1.2 a k
def mm_S.A (S : mm_S) (a : Nat) : Int → Int := S.2.1 a
def mm_S.L (S : mm_S) (a : Nat) : Int → Int := S.2.2 a
def mm_S.sI (S : mm_S) (a k : Nat) (v : Int) : mm_S := ((fun b l => if b = a ∧ l = k then v else S.1.1 b l, S.1.2), S.2)
def mm_S.sJ (S : mm_S) (a k : Nat) (v : Int) : mm_S := ((S.1.1, fun b l => if b = a ∧ l = k then v else S.1.2 b l), S.2)
def mm_S.sA (S : mm_S) (a : Nat) (f : Int → Int) : mm_S := (S.1, (fun b => if b = a then f else S.2.1 b, S.2.2))
def mm_S.sL (S : mm_S) (a : Nat) (f : Int → Int) : mm_S := (S.1, (S.2.1, fun b => if b = a then f else S.2.2 b))
def mm_u (f : Int → Int) (i v : Int) : Int → Int := fun j => if j = i then v else f j
theorem mm_u_eq (f : Int → Int) (i v : Int) : mm_u f i v i = v := if_pos rfl
theorem mm_u_ne {f : Int → Int} {i v j : Int} (h : j ≠ i) : mm_u f i v j = f j := if_neg h
theorem mm_u_u (f : Int → Int) (i v w : Int) : mm_u (mm_u f i v) i w = mm_u f i w := by
  funext j
  unfold mm_u
  by_cases h : j = i
  · rw [if_pos h, if_pos h]
  · rw [if_neg h, if_neg h, if_neg h]
-- read behind write
theorem mm_gs : (∀ (S : mm_S) (a k : Nat) (v : Int), (S.sI a k v).I a k = v) ∧ (∀ (S : mm_S) (a k : Nat) (v : Int), (S.sI a k v).J = S.J) ∧ (∀ (S : mm_S) (a k : Nat) (v : Int), (S.sI a k v).A = S.A) ∧ (∀ (S : mm_S) (a k : Nat) (v : Int), (S.sI a k v).L = S.L)
    ∧ (∀ (S : mm_S) (a k : Nat) (v : Int), (S.sJ a k v).J a k = v) ∧ (∀ (S : mm_S) (a k : Nat) (v : Int), (S.sJ a k v).I = S.I) ∧ (∀ (S : mm_S) (a k : Nat) (v : Int), (S.sJ a k v).A = S.A) ∧ (∀ (S : mm_S) (a k : Nat) (v : Int), (S.sJ a k v).L = S.L)
    ∧ (∀ (S : mm_S) (a : Nat) (f : Int → Int), (S.sA a f).A a = f) ∧ (∀ (S : mm_S) (a : Nat) (f : Int → Int), (S.sA a f).I = S.I) ∧ (∀ (S : mm_S) (a : Nat) (f : Int → Int), (S.sA a f).J = S.J) ∧ (∀ (S : mm_S) (a : Nat) (f : Int → Int), (S.sA a f).L = S.L)
    ∧ (∀ (S : mm_S) (a : Nat) (f : Int → Int), (S.sL a f).L a = f) ∧ (∀ (S : mm_S) (a : Nat) (f : Int → Int), (S.sL a f).I = S.I) ∧ (∀ (S : mm_S) (a : Nat) (f : Int → Int), (S.sL a f).J = S.J) ∧ (∀ (S : mm_S) (a : Nat) (f : Int → Int), (S.sL a f).A = S.A)
    ∧ (∀ (S : mm_S) (a : Nat) (f g : Int → Int), (S.sA a f).sA a g = S.sA a g) ∧ (∀ (S : mm_S) (a : Nat) (f g : Int → Int), (S.sL a f).sL a g = S.sL a g) ∧ (∀ (S : mm_S) (a k : Nat) (v w : Int), (S.sI a k v).sI a k w = S.sI a k w) ∧ (∀ (S : mm_S) (a k : Nat) (v w : Int), (S.sJ a k v).sJ a k w = S.sJ a k w) := by
  refine ⟨?_, ?_, ?_, ?_, ?_, ?_, ?_, ?_, ?_, ?_, ?_, ?_, ?_, ?_, ?_, ?_, ?_, ?_, ?_, ?_⟩
  · intro S a k v; show (if a = a ∧ k = k then v else _) = v; rw [if_pos ⟨rfl, rfl⟩]
  · intros; rfl
  · intros; rfl
  · intros; rfl
  · intro S a k v; show (if a = a ∧ k = k then v else _) = v; rw [if_pos ⟨rfl, rfl⟩]
  · intros; rfl
  · intros; rfl
  · intros; rfl
  · intro S a f; show (if a = a then f else _) = f; rw [if_pos rfl]
  · intros; rfl
  · intros; rfl
  · intros; rfl
  · intro S a f; show (if a = a then f else _) = f; rw [if_pos rfl]
  · intros; rfl
  · intros; rfl
  · intros; rfl
  · intro S a f g
    show (S.1, (fun b => if b = a then g else if b = a then f else S.2.1 b), S.2.2) = (S.1, (fun b => if b = a then g else S.2.1 b), S.2.2)
    congr 2; funext b; by_cases h : b = a
    · rw [if_pos h, if_pos h]
    · rw [if_neg h, if_neg h, if_neg h]
  · intro S a f g
    show (S.1, S.2.1, (fun b => if b = a then g else if b = a then f else S.2.2 b)) = (S.1, S.2.1, (fun b => if b = a then g else S.2.2 b))
    congr 2; funext b; by_cases h : b = a
    · rw [if_pos h, if_pos h]
    · rw [if_neg h, if_neg h, if_neg h]
  · intro S a k v w
    show (((fun b l => if b = a ∧ l = k then w else if b = a ∧ l = k then v else S.1.1 b l), S.1.2), S.2) = (((fun b l => if b = a ∧ l = k then w else S.1.1 b l), S.1.2), S.2)
    congr 2; funext b l; by_cases h : b = a ∧ l = k
    · rw [if_pos h, if_pos h]
    · rw [if_neg h, if_neg h, if_neg h]
  · intro S a k v w
    show ((S.1.1, (fun b l => if b = a ∧ l = k then w else if b = a ∧ l = k then v else S.1.2 b l)), S.2) = ((S.1.1, (fun b l => if b = a ∧ l = k then w else S.1.2 b l)), S.2)
    congr 2; funext b l; by_cases h : b = a ∧ l = k
    · rw [if_pos h, if_pos h]
    · rw [if_neg h, if_neg h, if_neg h]
theorem mm_gI_ne {S : mm_S} {a k b l : Nat} {v : Int} (h : ¬ (b = a ∧ l = k)) : (S.sI a k v).I b l = S.I b l := if_neg h
theorem mm_gJ_ne {S : mm_S} {a k b l : Nat} {v : Int} (h : ¬ (b = a ∧ l = k)) : (S.sJ a k v).J b l = S.J b l := if_neg h
theorem mm_gA_ne {S : mm_S} {a b : Nat} {f : Int → Int} (h : b ≠ a) : (S.sA a f).A b = S.A b := if_neg h
theorem mm_gL_ne {S : mm_S} {a b : Nat} {f : Int → Int} (h : b ≠ a) : (S.sL a f).L b = S.L b := if_neg h
/-! the shape: an object: its class, its fields (0 an int, 1 a long, k + 2 a reference to cell k); a row of ints, of longs, of references -/
abbrev mm_Sh : Type := (Nat × List Nat) ⊕ (Nat ⊕ (Nat ⊕ List Nat))
def mm_shl : List mm_Sh := [.inl (8, [3, 5, 16, 27, 38, 42, 95, 98, 99, 102, 0, 0, 0, 0]), .inl (7, [4, 0, 0, 0, 0, 0]), .inr (.inl 400), .inl (3, [6, 7, 8, 9, 10, 11, 12, 13, 14, 15, 0, 0, 0]), .inr (.inl 84), .inr (.inl 72), .inr (.inl 12), .inr (.inl 12), .inr (.inl 12), .inr (.inl 480), .inr (.inl 12), .inr (.inl 12), .inr (.inl 12), .inr (.inl 12), .inl (3, [17, 18, 19, 20, 21, 22, 23, 24, 25, 26, 0, 0, 0]), .inr (.inl 84), .inr (.inl 72), .inr (.inl 12), .inr (.inl 12), .inr (.inl 12), .inr (.inl 480), .inr (.inl 12), .inr (.inl 12), .inr (.inl 12), .inr (.inl 12), .inl (3, [28, 29, 30, 31, 32, 33, 34, 35, 36, 37, 0, 0, 0]), .inr (.inl 84), .inr (.inl 72), .inr (.inl 12), .inr (.inl 12), .inr (.inl 12), .inr (.inl 480), .inr (.inl 12), .inr (.inl 12), .inr (.inl 12), .inr (.inl 12), .inl (0, [39, 40, 41, 0, 0]), .inr (.inl 20), .inr (.inl 20), .inr (.inl 20), .inl (1, [43, 44, 47, 50, 53, 56, 57, 58, 1, 1]), .inr (.inr (.inr [57, 60, 63, 66, 69, 72, 75, 78, 81, 84, 87, 90])), .inl (5, [45, 46]), .inr (.inr (.inl 120)), .inr (.inr (.inl 120)), .inl (5, [48, 49]), .inr (.inr (.inl 120)), .inr (.inr (.inl 120)), .inl (5, [51, 52]), .inr (.inr (.inl 120)), .inr (.inr (.inl 120)), .inl (5, [54, 55]), .inr (.inr (.inl 1)), .inr (.inr (.inl 1)), .inr (.inr (.inl 120)), .inr (.inl 12), .inr (.inl 12), .inl (5, [60, 61]), .inr (.inr (.inl 120)), .inr (.inr (.inl 120)), .inl (5, [63, 64]), .inr (.inr (.inl 120)), .inr (.inr (.inl 120)), .inl (5, [66, 67]), .inr (.inr (.inl 120)), .inr (.inr (.inl 120)), .inl (5, [69, 70]), .inr (.inr (.inl 120)), .inr (.inr (.inl 120)), .inl (5, [72, 73]), .inr (.inr (.inl 120)), .inr (.inr (.inl 120)), .inl (5, [75, 76]), .inr (.inr (.inl 120)), .inr (.inr (.inl 120)), .inl (5, [78, 79]), .inr (.inr (.inl 120)), .inr (.inr (.inl 120)), .inl (5, [81, 82]), .inr (.inr (.inl 120)), .inr (.inr (.inl 120)), .inl (5, [84, 85]), .inr (.inr (.inl 120)), .inr (.inr (.inl 120)), .inl (5, [87, 88]), .inr (.inr (.inl 120)), .inr (.inr (.inl 120)), .inl (5, [90, 91]), .inr (.inr (.inl 120)), .inr (.inr (.inl 120)), .inl (5, [93, 94]), .inr (.inr (.inl 120)), .inr (.inr (.inl 120)), .inl (2, [96, 97, 0, 0, 0]), .inr (.inl 41), .inr (.inl 41), .inl (6, [3, 16, 0]), .inl (4, [3, 5, 100, 101, 0, 0, 0]), .inr (.inl 200), .inr (.inl 64), .inr (.inl 21), .inl (9, [0, 104, 105, 106, 0, 107, 108, 109, 110, 111, 112, 113, 114, 115, 116, 0, 117, 118, 0, 119, 120, 121, 122, 123, 0, 124, 0, 0, 0, 0, 0, 0, 0, 0, 0, 0, 0, 0, 0]), .inr (.inl 190), .inr (.inl 190), .inr (.inl 3800), .inr (.inl 12), .inr (.inl 480), .inr (.inl 12), .inr (.inl 1440), .inr (.inl 1440), .inr (.inl 120), .inr (.inl 120), .inr (.inl 120), .inr (.inl 120), .inr (.inl 2880), .inr (.inl 12), .inr (.inl 12), .inr (.inl 40), .inr (.inl 41), .inr (.inl 190), .inr (.inl 12), .inr (.inl 480), .inr (.inl 400), .inr (.inr (.inl 1))]
def mm_sh (a : Nat) : Option mm_Sh := mm_shl[a]?
def mm_fv (B : Nat) (S : mm_S) (a k : Nat) : Nat → Value
  | 0 => .int (mm_i (S.I a k))
  | 1 => .long (mm_j (S.J a k))
  | o + 2 => .ref (mm_ad B o)
def mm_fs (B : Nat) (S : mm_S) (a : Nat) : Nat → List Nat → List Value
  | _, [] => []
  | k, t :: r => mm_fv B S a k t :: mm_fs B S a (k + 1) r
theorem mm_fs_get (B : Nat) (S : mm_S) (a : Nat) : ∀ (ks : List Nat) (k0 k : Nat), (mm_fs B S a k0 ks)[k]? = (ks[k]?).map (mm_fv B S a (k0 + k))
  | [], _, _ => by simp [mm_fs]
  | t :: r, k0, 0 => by simp [mm_fs]
  | t :: r, k0, k + 1 => by
    have e : k0 + 1 + k = k0 + (k + 1) := by omega
    rw [mm_fs, List.getElem?_cons_succ, List.getElem?_cons_succ, mm_fs_get B S a r (k0 + 1) k, e]
theorem mm_fs_len (B : Nat) (S : mm_S) (a : Nat) : ∀ (ks : List Nat) (k0 : Nat), (mm_fs B S a k0 ks).length = ks.length
  | [], _ => rfl
  | _ :: r, k0 => by rw [mm_fs, List.length_cons, List.length_cons, mm_fs_len B S a r (k0 + 1)]
def mm_cell (B : Nat) (S : mm_S) (a : Nat) : Option mm_C := match mm_sh a with
  | some (.inl (ci, ks)) => some (.inl (ci, mm_fs B S a 0 ks))
  | some (.inr (.inl n)) => some (.inr (.inl (n, fun i => mm_i (S.A a i))))
  | some (.inr (.inr (.inl n))) => some (.inr (.inr (.inl (n, fun i => mm_j (S.L a i)))))
  | some (.inr (.inr (.inr l))) => some (.inr (.inr (.inr (l.length, fun i => (l[i]?).map (mm_ad B)))))
  | none => none
abbrev mm_N : Type := Option Nat × (Nat × Nat)
def mm_hp (B : Nat) (S : mm_S) (c : mm_N) : mm_H := (fun x => if x < B then none else mm_cell B S (x - B), c)
theorem mm_hp_at (B : Nat) (S : mm_S) (c : mm_N) (a : Nat) : (mm_hp B S c).1 (mm_ad B a) = mm_cell B S a := by
  show (if B + a < B then none else mm_cell B S (B + a - B)) = _
  rw [if_neg (by omega), Nat.add_sub_cancel_left]
theorem mm_hp_lo {B : Nat} (S : mm_S) (c : mm_N) {x : Nat} (h : x < B) : (mm_hp B S c).1 x = none := if_pos h
theorem mm_hp_c (B : Nat) (S : mm_S) (c : mm_N) : (mm_hp B S c).2 = c := rfl
/-- another state, that differs in one cell -/
theorem mm_hp_up {B : Nat} {S T : mm_S} {c : mm_N} {a : Nat} {ce : mm_C} (h1 : mm_cell B T a = some ce) (h2 : ∀ b, b ≠ a → mm_cell B T b = mm_cell B S b) : mm_up (mm_hp B S c) (mm_ad B a) ce = mm_hp B T c := by
  unfold mm_up mm_hp
  refine Prod.ext ?_ rfl
  funext x
  show va_up _ (B + a) (some ce) x = _
  unfold va_up
  by_cases hx : x = B + a
  · subst hx
    rw [if_pos rfl]
    show _ = if B + a < B then none else mm_cell B T (B + a - B)
    rw [if_neg (by omega), Nat.add_sub_cancel_left, h1]
  · rw [if_neg hx]
    show (if x < B then none else mm_cell B S (x - B)) = if x < B then none else mm_cell B T (x - B)
    by_cases hb : x < B
    · rw [if_pos hb, if_pos hb]
    · rw [if_neg hb, if_neg hb, h2 (x - B) (by omega)]
-- ints
theorem mm_i_in {v : Int} (h1 : -2147483648 ≤ v) (h2 : v < 2147483648) : (mm_i v).toInt = v := Int32.toInt_ofInt_of_le h1 h2
theorem mm_j_in {v : Int} (h1 : -9223372036854775808 ≤ v) (h2 : v < 9223372036854775808) : (mm_j v).toInt = v := Int64.toInt_ofInt_of_le h1 h2
theorem mm_i_of (x : Int32) : mm_i x.toInt = x := Int32.ofInt_toInt x
theorem mm_j_of (x : Int64) : mm_j x.toInt = x := Int64.ofInt_toInt x
theorem mm_i_nat {v : Int} (h1 : 0 ≤ v) (h2 : v < 2147483648) : (mm_i v).toNatClampNeg = v.toNat := by
  rw [Int32.toNatClampNeg, mm_i_in (by omega) h2]
theorem mm_i_lt0 {v : Int} (h1 : 0 ≤ v) (h2 : v < 2147483648) : ¬ (mm_i v < 0) := by
  rw [Int32.lt_iff_toInt_lt, mm_i_in (by omega) h2]
  show ¬ (v < 0)
  omega
theorem mm_ix {v : Int} {n : Nat} (h1 : 0 ≤ v) (h2 : v < n) (h3 : n ≤ 2147483647) : ¬ (mm_i v < 0 ∨ n ≤ (mm_i v).toNatClampNeg) := by
  rw [mm_i_nat h1 (by omega)]
  rintro (h | h)
  · exact mm_i_lt0 h1 (by omega) h
  · omega
-- points
theorem mm_pgI {B : Nat} {S : mm_S} {c : mm_N} {a ci k : Nat} {ks : List Nat} (h1 : mm_sh a = some (.inl (ci, ks))) (h2 : ks[k]? = some 0) (κ : Int32 → mm_R) : mm_gI (mm_hp B S c) (mm_ad B a) ci k κ = κ (mm_i (S.I a k)) := by
  have e : mm_cell B S a = some (.inl (ci, mm_fs B S a 0 ks)) := by unfold mm_cell; rw [h1]
  unfold mm_gI
  rw [mm_hp_at, e]
  show (match (mm_fs B S a 0 ks)[k]? with
    | some (.int v) => bif Nat.beq ci ci then κ v else none
    | _ => none) = _
  rw [mm_fs_get, h2]
  show (bif Nat.beq ci ci then κ (mm_i (S.I a (0 + k))) else none) = _
  rw [Nat.beq_refl, Nat.zero_add]; rfl
theorem mm_pgJ {B : Nat} {S : mm_S} {c : mm_N} {a ci k : Nat} {ks : List Nat} (h1 : mm_sh a = some (.inl (ci, ks))) (h2 : ks[k]? = some 1) (κ : Int64 → mm_R) : mm_gJ (mm_hp B S c) (mm_ad B a) ci k κ = κ (mm_j (S.J a k)) := by
  have e : mm_cell B S a = some (.inl (ci, mm_fs B S a 0 ks)) := by unfold mm_cell; rw [h1]
  unfold mm_gJ
  rw [mm_hp_at, e]
  show (match (mm_fs B S a 0 ks)[k]? with
    | some (.long v) => bif Nat.beq ci ci then κ v else none
    | _ => none) = _
  rw [mm_fs_get, h2]
  show (bif Nat.beq ci ci then κ (mm_j (S.J a (0 + k))) else none) = _
  rw [Nat.beq_refl, Nat.zero_add]; rfl
theorem mm_pgR {B : Nat} {S : mm_S} {c : mm_N} {a ci k o : Nat} {ks : List Nat} (h1 : mm_sh a = some (.inl (ci, ks))) (h2 : ks[k]? = some (o + 2)) (κ : Nat → mm_R) : mm_gR (mm_hp B S c) (mm_ad B a) ci k κ = κ (mm_ad B o) := by
  have e : mm_cell B S a = some (.inl (ci, mm_fs B S a 0 ks)) := by unfold mm_cell; rw [h1]
  unfold mm_gR
  rw [mm_hp_at, e]
  show (match (mm_fs B S a 0 ks)[k]? with
    | some (.ref v) => bif Nat.beq ci ci then κ v else none
    | _ => none) = _
  rw [mm_fs_get, h2]
  show (bif Nat.beq ci ci then κ (mm_ad B o) else none) = _
  rw [Nat.beq_refl]; rfl
theorem mm_cell_ne {B : Nat} {S T : mm_S} {b : Nat} (hI : ∀ k, T.I b k = S.I b k) (hJ : ∀ k, T.J b k = S.J b k) (hA : T.A b = S.A b) (hL : T.L b = S.L b) : mm_cell B T b = mm_cell B S b := by
  have hv : ∀ k t, mm_fv B T b k t = mm_fv B S b k t := by
    intro k t
    match t with
    | 0 => show Value.int (mm_i (T.I b k)) = _; rw [hI]; rfl
    | 1 => show Value.long (mm_j (T.J b k)) = _; rw [hJ]; rfl
    | t + 2 => rfl
  have hf : ∀ (ks : List Nat) (k0 : Nat), mm_fs B T b k0 ks = mm_fs B S b k0 ks := by
    intro ks
    induction ks with
    | nil => intro _; rfl
    | cons t r ih => intro k0; rw [mm_fs, mm_fs, hv, ih]
  unfold mm_cell
  rw [hA, hL]
  cases mm_sh b with
  | none => rfl
  | some q =>
    cases q with
    | inl p => show some (Sum.inl (p.1, mm_fs B T b 0 p.2)) = some (Sum.inl (p.1, mm_fs B S b 0 p.2)); rw [hf]
    | inr q => cases q with
      | inl n => rfl
      | inr q => cases q with
        | inl n => rfl
        | inr l => rfl
theorem mm_fs_set {B : Nat} {S T : mm_S} {a : Nat} {v : Value} : ∀ (ks : List Nat) (k0 k t : Nat), ks[k]? = some t → mm_fv B T a (k0 + k) t = v → (∀ l t, l ≠ k0 + k → mm_fv B T a l t = mm_fv B S a l t) → mm_fs B T a k0 ks = (mm_fs B S a k0 ks).set k v
  | [], _, _, _, h, _, _ => by simp at h
  | u :: r, k0, 0, t, h, hv, hne => by
    have h : u = t := by simpa using h
    subst h
    have hr : ∀ (r : List Nat) (k1 : Nat), k0 < k1 → mm_fs B T a k1 r = mm_fs B S a k1 r := by
      intro r
      induction r with
      | nil => intros; rfl
      | cons w r ih => intro k1 hk; rw [mm_fs, mm_fs, hne k1 w (by omega), ih (k1 + 1) (by omega)]
    rw [mm_fs, mm_fs, List.set_cons_zero, hr r (k0 + 1) (by omega)]
    rw [Nat.add_zero] at hv
    rw [hv]
  | u :: r, k0, k + 1, t, h, hv, hne => by
    have h : r[k]? = some t := by simpa using h
    have e : k0 + (k + 1) = k0 + 1 + k := by omega
    rw [e] at hv
    rw [mm_fs, mm_fs, List.set_cons_succ, mm_fs_set r (k0 + 1) k t h hv (fun l t hl => hne l t (by omega)), hne k0 u (by omega)]
theorem mm_ppI {B : Nat} {S : mm_S} {c : mm_N} {a ci k : Nat} {ks : List Nat} {v : Int} (h1 : mm_sh a = some (.inl (ci, ks))) (h2 : ks[k]? = some 0) (κ : mm_H → mm_R) : mm_pF (mm_hp B S c) (mm_ad B a) ci k (.int (mm_i v)) κ = κ (mm_hp B (S.sI a k v) c) := by
  have e : ∀ S, mm_cell B S a = some (.inl (ci, mm_fs B S a 0 ks)) := by intro S; unfold mm_cell; rw [h1]
  have hk : k < ks.length := (List.getElem?_eq_some_iff.mp h2).1
  unfold mm_pF
  rw [mm_hp_at, e]
  show (bif Nat.beq ci ci && Nat.ble (k + 1) (mm_fs B S a 0 ks).length then κ (mm_up (mm_hp B S c) (mm_ad B a) (.inl (ci, (mm_fs B S a 0 ks).set k (.int (mm_i v))))) else none) = _
  rw [Nat.beq_refl, mm_fs_len, show Nat.ble (k + 1) ks.length = true from Nat.ble_eq_true_of_le hk]
  show κ _ = _
  congr 1
  apply mm_hp_up
  · rw [e]
    congr 3
    apply mm_fs_set (t := 0)
    · exact h2
    · show Value.int (mm_i ((S.sI a k v).I a (0 + k))) = _
      rw [Nat.zero_add, mm_gs.1]
    · intro l t hl
      match t with
      | 0 => show Value.int (mm_i ((S.sI a k v).I a l)) = Value.int (mm_i (S.I a l)); rw [mm_gI_ne (by omega)]
      | 1 => rfl
      | t + 2 => rfl
  · intro b hb
    exact mm_cell_ne (fun l => mm_gI_ne (by omega)) (fun l => rfl) rfl rfl
theorem mm_ppJ {B : Nat} {S : mm_S} {c : mm_N} {a ci k : Nat} {ks : List Nat} {v : Int} (h1 : mm_sh a = some (.inl (ci, ks))) (h2 : ks[k]? = some 1) (κ : mm_H → mm_R) : mm_pF (mm_hp B S c) (mm_ad B a) ci k (.long (mm_j v)) κ = κ (mm_hp B (S.sJ a k v) c) := by
  have e : ∀ S, mm_cell B S a = some (.inl (ci, mm_fs B S a 0 ks)) := by intro S; unfold mm_cell; rw [h1]
  have hk : k < ks.length := (List.getElem?_eq_some_iff.mp h2).1
  unfold mm_pF
  rw [mm_hp_at, e]
  show (bif Nat.beq ci ci && Nat.ble (k + 1) (mm_fs B S a 0 ks).length then κ (mm_up (mm_hp B S c) (mm_ad B a) (.inl (ci, (mm_fs B S a 0 ks).set k (.long (mm_j v))))) else none) = _
  rw [Nat.beq_refl, mm_fs_len, show Nat.ble (k + 1) ks.length = true from Nat.ble_eq_true_of_le hk]
  show κ _ = _
  congr 1
  apply mm_hp_up
  · rw [e]
    congr 3
    apply mm_fs_set (t := 1)
    · exact h2
    · show Value.long (mm_j ((S.sJ a k v).J a (0 + k))) = _
      rw [Nat.zero_add, mm_gs.2.2.2.2.1]
    · intro l t hl
      match t with
      | 0 => rfl
      | 1 => show Value.long (mm_j ((S.sJ a k v).J a l)) = Value.long (mm_j (S.J a l)); rw [mm_gJ_ne (by omega)]
      | t + 2 => rfl
  · intro b hb
    exact mm_cell_ne (fun l => rfl) (fun l => mm_gJ_ne (by omega)) rfl rfl
theorem mm_prI {E : mm_E} {B : Nat} {S : mm_S} {c : mm_N} {a n : Nat} {i : Int} (h1 : mm_sh a = some (.inr (.inl n))) (hn : n ≤ 2147483647) (h2 : 0 ≤ i) (h3 : i < n) (κ : Int32 → mm_R) : mm_rI E (mm_hp B S c) (mm_ad B a) (mm_i i) κ = κ (mm_i (S.A a i)) := by
  have e : mm_cell B S a = some (.inr (.inl (n, fun i => mm_i (S.A a i)))) := by unfold mm_cell; rw [h1]
  unfold mm_rI
  rw [mm_hp_at, e]
  show (if mm_i i < 0 ∨ n ≤ (mm_i i).toNatClampNeg then none else κ (mm_i (S.A a ((mm_i i).toNatClampNeg : Nat)))) = _
  rw [if_neg (mm_ix h2 h3 hn), mm_i_nat h2 (by omega), Int.toNat_of_nonneg h2]
theorem mm_pwI {B : Nat} {S : mm_S} {c : mm_N} {a n : Nat} {i v : Int} (h1 : mm_sh a = some (.inr (.inl n))) (hn : n ≤ 2147483647) (h2 : 0 ≤ i) (h3 : i < n) (κ : mm_H → mm_R) : mm_wI (mm_hp B S c) (mm_ad B a) (mm_i i) (mm_i v) κ = κ (mm_hp B (S.sA a (mm_u (S.A a) i v)) c) := by
  have e : ∀ S, mm_cell B S a = some (.inr (.inl (n, fun i => mm_i (S.A a i)))) := by intro S; unfold mm_cell; rw [h1]
  unfold mm_wI
  rw [mm_hp_at, e]
  show (if mm_i i < 0 ∨ n ≤ (mm_i i).toNatClampNeg then none else κ (mm_up (mm_hp B S c) (mm_ad B a) (.inr (.inl (n, upd (fun i : Nat => mm_i (S.A a i)) (mm_i i).toNatClampNeg (mm_i v)))))) = _
  rw [if_neg (mm_ix h2 h3 hn), mm_i_nat h2 (by omega)]
  congr 1
  apply mm_hp_up
  · rw [e, mm_gs.2.2.2.2.2.2.2.2.1]
    congr 4
    funext j
    unfold mm_u upd
    by_cases hj : j = i.toNat
    · rw [if_pos hj, if_pos (by omega)]
    · rw [if_neg hj, if_neg (by omega)]
  · intro b hb
    exact mm_cell_ne (fun l => rfl) (fun l => rfl) (mm_gA_ne hb) rfl
theorem mm_plI {E : mm_E} {B : Nat} {S : mm_S} {c : mm_N} {a n : Nat} (h1 : mm_sh a = some (.inr (.inl n))) (κ : Int32 → mm_R) : mm_ln E (mm_hp B S c) (mm_ad B a) κ = κ (mm_i n) := by
  have e : mm_cell B S a = some (.inr (.inl (n, fun i => mm_i (S.A a i)))) := by unfold mm_cell; rw [h1]
  unfold mm_ln
  rw [mm_hp_at, e]
  rfl
theorem mm_prJ {B : Nat} {S : mm_S} {c : mm_N} {a n : Nat} {i : Int} (h1 : mm_sh a = some (.inr (.inr (.inl n)))) (hn : n ≤ 2147483647) (h2 : 0 ≤ i) (h3 : i < n) (κ : Int64 → mm_R) : mm_rJ (mm_hp B S c) (mm_ad B a) (mm_i i) κ = κ (mm_j (S.L a i)) := by
  have e : mm_cell B S a = some (.inr (.inr (.inl (n, fun i => mm_j (S.L a i))))) := by unfold mm_cell; rw [h1]
  unfold mm_rJ
  rw [mm_hp_at, e]
  show (if mm_i i < 0 ∨ n ≤ (mm_i i).toNatClampNeg then none else κ (mm_j (S.L a ((mm_i i).toNatClampNeg : Nat)))) = _
  rw [if_neg (mm_ix h2 h3 hn), mm_i_nat h2 (by omega), Int.toNat_of_nonneg h2]
theorem mm_pwJ {B : Nat} {S : mm_S} {c : mm_N} {a n : Nat} {i v : Int} (h1 : mm_sh a = some (.inr (.inr (.inl n)))) (hn : n ≤ 2147483647) (h2 : 0 ≤ i) (h3 : i < n) (κ : mm_H → mm_R) : mm_wJ (mm_hp B S c) (mm_ad B a) (mm_i i) (mm_j v) κ = κ (mm_hp B (S.sL a (mm_u (S.L a) i v)) c) := by
  have e : ∀ S, mm_cell B S a = some (.inr (.inr (.inl (n, fun i => mm_j (S.L a i))))) := by intro S; unfold mm_cell; rw [h1]
  unfold mm_wJ
  rw [mm_hp_at, e]
  show (if mm_i i < 0 ∨ n ≤ (mm_i i).toNatClampNeg then none else κ (mm_up (mm_hp B S c) (mm_ad B a) (.inr (.inr (.inl (n, vp_updL (fun i : Nat => mm_j (S.L a i)) (mm_i i).toNatClampNeg (mm_j v))))))) = _
  rw [if_neg (mm_ix h2 h3 hn), mm_i_nat h2 (by omega)]
  congr 1
  apply mm_hp_up
  · rw [e, mm_gs.2.2.2.2.2.2.2.2.2.2.2.2.1]
    congr 5
    funext j
    unfold mm_u vp_updL
    by_cases hj : j = i.toNat
    · rw [if_pos hj, if_pos (by omega)]
    · rw [if_neg hj, if_neg (by omega)]
  · intro b hb
    exact mm_cell_ne (fun l => rfl) (fun l => rfl) rfl (mm_gL_ne hb)
theorem mm_prR {B : Nat} {S : mm_S} {c : mm_N} {a o : Nat} {l : List Nat} {i : Int} (h1 : mm_sh a = some (.inr (.inr (.inr l)))) (hn : l.length ≤ 2147483647) (h2 : 0 ≤ i) (h3 : l[i.toNat]? = some o) (κ : Nat → mm_R) : mm_rR (mm_hp B S c) (mm_ad B a) (mm_i i) κ = κ (mm_ad B o) := by
  have e : mm_cell B S a = some (.inr (.inr (.inr (l.length, fun i => (l[i]?).map (mm_ad B))))) := by unfold mm_cell; rw [h1]
  have hl : i.toNat < l.length := (List.getElem?_eq_some_iff.mp h3).1
  unfold mm_rR
  rw [mm_hp_at, e]
  show (if mm_i i < 0 ∨ l.length ≤ (mm_i i).toNatClampNeg then none else (match (l[(mm_i i).toNatClampNeg]?).map (mm_ad B) with
    | some q => κ q
    | none => none)) = _
  rw [if_neg (mm_ix h2 (by omega) hn), mm_i_nat h2 (by omega), h3]
  rfl
theorem mm_pcp {B : Nat} {S : mm_S} {c : mm_N} {a d n : Nat} (h1 : mm_sh a = some (.inr (.inl n))) (h2 : mm_sh d = some (.inr (.inl n))) (hn : n ≤ 2147483647) (κ : mm_H → mm_R) : mm_cp (mm_hp B S c) (mm_ad B a) (mm_i 0) (mm_ad B d) (mm_i 0) (mm_i n) κ = κ (mm_hp B (S.sA d (fun j => if 0 ≤ j ∧ j < n then S.A a j else S.A d j)) c) := by
  have e : ∀ S, mm_cell B S a = some (.inr (.inl (n, fun i => mm_i (S.A a i)))) := by intro S; unfold mm_cell; rw [h1]
  have e2 : ∀ S, mm_cell B S d = some (.inr (.inl (n, fun i => mm_i (S.A d i)))) := by intro S; unfold mm_cell; rw [h2]
  unfold mm_cp
  rw [mm_hp_at, mm_hp_at, e, e2]
  have z : (mm_i 0).toNatClampNeg = 0 := rfl
  have zn : (mm_i n).toNatClampNeg = n := by rw [mm_i_nat (by omega) (by omega)]; rfl
  have z1 : ¬ (mm_i 0 < 0) := mm_i_lt0 (by omega) (by omega)
  have z2 : ¬ (mm_i n < 0) := mm_i_lt0 (by omega) (by omega)
  show (if mm_i 0 < 0 ∨ mm_i 0 < 0 ∨ mm_i n < 0 ∨ n < (mm_i 0).toNatClampNeg + (mm_i n).toNatClampNeg ∨ n < (mm_i 0).toNatClampNeg + (mm_i n).toNatClampNeg then none
        else κ (mm_up (mm_hp B S c) (mm_ad B d) (.inr (.inl (n, va_cpy (fun i : Nat => mm_i (S.A a i)) (fun i : Nat => mm_i (S.A d i)) (mm_i 0).toNatClampNeg (mm_i 0).toNatClampNeg (mm_i n).toNatClampNeg))))) = _
  rw [z, zn, if_neg (by rintro (h | h | h | h | h) <;> first | exact z1 h | exact z2 h | omega)]
  congr 1
  apply mm_hp_up
  · rw [e2, mm_gs.2.2.2.2.2.2.2.2.1]
    congr 4
    funext j
    unfold va_cpy
    by_cases hj : j < n
    · rw [if_pos (by omega), if_pos (by omega), show 0 + (j - 0) = j by omega]
    · rw [if_neg (by omega), if_neg (by omega)]
  · intro b hb
    exact mm_cell_ne (fun l => rfl) (fun l => rfl) (mm_gA_ne hb) rfl
end
section
/-! POINTS: what the cells answer (by program: wip/whole/genpure.py) -/
theorem mm_ptP : (∀ (B : Nat) (S : mm_S) (c : mm_N) (κ : Nat → mm_R), mm_gR (mm_hp B S c) (mm_ad B 0) 8 0 κ = κ (mm_ad B 1))
    ∧ (∀ (B : Nat) (S : mm_S) (c : mm_N) (κ : Nat → mm_R), mm_gR (mm_hp B S c) (mm_ad B 0) 8 1 κ = κ (mm_ad B 3))
    ∧ (∀ (B : Nat) (S : mm_S) (c : mm_N) (κ : Nat → mm_R), mm_gR (mm_hp B S c) (mm_ad B 0) 8 2 κ = κ (mm_ad B 14))
    ∧ (∀ (B : Nat) (S : mm_S) (c : mm_N) (κ : Nat → mm_R), mm_gR (mm_hp B S c) (mm_ad B 0) 8 3 κ = κ (mm_ad B 25))
    ∧ (∀ (B : Nat) (S : mm_S) (c : mm_N) (κ : Nat → mm_R), mm_gR (mm_hp B S c) (mm_ad B 0) 8 4 κ = κ (mm_ad B 36))
    ∧ (∀ (B : Nat) (S : mm_S) (c : mm_N) (κ : Nat → mm_R), mm_gR (mm_hp B S c) (mm_ad B 0) 8 5 κ = κ (mm_ad B 40))
    ∧ (∀ (B : Nat) (S : mm_S) (c : mm_N) (κ : Nat → mm_R), mm_gR (mm_hp B S c) (mm_ad B 0) 8 6 κ = κ (mm_ad B 93))
    ∧ (∀ (B : Nat) (S : mm_S) (c : mm_N) (κ : Nat → mm_R), mm_gR (mm_hp B S c) (mm_ad B 0) 8 7 κ = κ (mm_ad B 96))
    ∧ (∀ (B : Nat) (S : mm_S) (c : mm_N) (κ : Nat → mm_R), mm_gR (mm_hp B S c) (mm_ad B 0) 8 8 κ = κ (mm_ad B 97))
    ∧ (∀ (B : Nat) (S : mm_S) (c : mm_N) (κ : Nat → mm_R), mm_gR (mm_hp B S c) (mm_ad B 0) 8 9 κ = κ (mm_ad B 100))
    ∧ (∀ (B : Nat) (S : mm_S) (c : mm_N) (κ : Int32 → mm_R), mm_gI (mm_hp B S c) (mm_ad B 0) 8 10 κ = κ (mm_i (S.I 0 10)))
    ∧ (∀ (B : Nat) (S : mm_S) (c : mm_N) (v : Int) (κ : mm_H → mm_R), mm_pF (mm_hp B S c) (mm_ad B 0) 8 10 (.int (mm_i v)) κ = κ (mm_hp B (S.sI 0 10 v) c))
    ∧ (∀ (B : Nat) (S : mm_S) (c : mm_N) (κ : Int32 → mm_R), mm_gI (mm_hp B S c) (mm_ad B 0) 8 11 κ = κ (mm_i (S.I 0 11)))
    ∧ (∀ (B : Nat) (S : mm_S) (c : mm_N) (v : Int) (κ : mm_H → mm_R), mm_pF (mm_hp B S c) (mm_ad B 0) 8 11 (.int (mm_i v)) κ = κ (mm_hp B (S.sI 0 11 v) c))
    ∧ (∀ (B : Nat) (S : mm_S) (c : mm_N) (κ : Int32 → mm_R), mm_gI (mm_hp B S c) (mm_ad B 0) 8 12 κ = κ (mm_i (S.I 0 12)))
    ∧ (∀ (B : Nat) (S : mm_S) (c : mm_N) (v : Int) (κ : mm_H → mm_R), mm_pF (mm_hp B S c) (mm_ad B 0) 8 12 (.int (mm_i v)) κ = κ (mm_hp B (S.sI 0 12 v) c))
    ∧ (∀ (B : Nat) (S : mm_S) (c : mm_N) (κ : Int32 → mm_R), mm_gI (mm_hp B S c) (mm_ad B 0) 8 13 κ = κ (mm_i (S.I 0 13)))
    ∧ (∀ (B : Nat) (S : mm_S) (c : mm_N) (v : Int) (κ : mm_H → mm_R), mm_pF (mm_hp B S c) (mm_ad B 0) 8 13 (.int (mm_i v)) κ = κ (mm_hp B (S.sI 0 13 v) c))
    ∧ (∀ (E : mm_E) (B : Nat) (S : mm_S) (c : mm_N) (i : Int) (κ : Int32 → mm_R), 0 ≤ i → i < 21 → mm_rI E (mm_hp B S c) (mm_ad B 100) (mm_i i) κ = κ (mm_i (S.A 100 i)))
    ∧ (∀ (B : Nat) (S : mm_S) (c : mm_N) (i v : Int) (κ : mm_H → mm_R), 0 ≤ i → i < 21 → mm_wI (mm_hp B S c) (mm_ad B 100) (mm_i i) (mm_i v) κ = κ (mm_hp B (S.sA 100 (mm_u (S.A 100) i v)) c))
    ∧ (∀ (E : mm_E) (B : Nat) (S : mm_S) (c : mm_N) (κ : Int32 → mm_R), mm_ln E (mm_hp B S c) (mm_ad B 100) κ = κ (mm_i 21)) := by
  refine ⟨?_, ?_, ?_, ?_, ?_, ?_, ?_, ?_, ?_, ?_, ?_, ?_, ?_, ?_, ?_, ?_, ?_, ?_, ?_, ?_, ?_⟩
  · exact fun B S c κ => mm_pgR rfl rfl κ
  · exact fun B S c κ => mm_pgR rfl rfl κ
  · exact fun B S c κ => mm_pgR rfl rfl κ
  · exact fun B S c κ => mm_pgR rfl rfl κ
  · exact fun B S c κ => mm_pgR rfl rfl κ
  · exact fun B S c κ => mm_pgR rfl rfl κ
  · exact fun B S c κ => mm_pgR rfl rfl κ
  · exact fun B S c κ => mm_pgR rfl rfl κ
  · exact fun B S c κ => mm_pgR rfl rfl κ
  · exact fun B S c κ => mm_pgR rfl rfl κ
  · exact fun B S c κ => mm_pgI rfl rfl κ
  · exact fun B S c v κ => mm_ppI rfl rfl κ
  · exact fun B S c κ => mm_pgI rfl rfl κ
  · exact fun B S c v κ => mm_ppI rfl rfl κ
  · exact fun B S c κ => mm_pgI rfl rfl κ
  · exact fun B S c v κ => mm_ppI rfl rfl κ
  · exact fun B S c κ => mm_pgI rfl rfl κ
  · exact fun B S c v κ => mm_ppI rfl rfl κ
  · exact fun E B S c i κ h1 h2 => mm_prI rfl (by decide) h1 h2 κ
  · exact fun B S c i v κ h1 h2 => mm_pwI rfl (by decide) h1 h2 κ
  · exact fun E B S c κ => mm_plI rfl κ
theorem mm_ptT : (∀ (B : Nat) (S : mm_S) (c : mm_N) (κ : Nat → mm_R), mm_gR (mm_hp B S c) (mm_ad B 1) 7 0 κ = κ (mm_ad B 2))
    ∧ (∀ (B : Nat) (S : mm_S) (c : mm_N) (κ : Int32 → mm_R), mm_gI (mm_hp B S c) (mm_ad B 1) 7 1 κ = κ (mm_i (S.I 1 1)))
    ∧ (∀ (B : Nat) (S : mm_S) (c : mm_N) (v : Int) (κ : mm_H → mm_R), mm_pF (mm_hp B S c) (mm_ad B 1) 7 1 (.int (mm_i v)) κ = κ (mm_hp B (S.sI 1 1 v) c))
    ∧ (∀ (B : Nat) (S : mm_S) (c : mm_N) (κ : Int32 → mm_R), mm_gI (mm_hp B S c) (mm_ad B 1) 7 2 κ = κ (mm_i (S.I 1 2)))
    ∧ (∀ (B : Nat) (S : mm_S) (c : mm_N) (v : Int) (κ : mm_H → mm_R), mm_pF (mm_hp B S c) (mm_ad B 1) 7 2 (.int (mm_i v)) κ = κ (mm_hp B (S.sI 1 2 v) c))
    ∧ (∀ (B : Nat) (S : mm_S) (c : mm_N) (κ : Int32 → mm_R), mm_gI (mm_hp B S c) (mm_ad B 1) 7 3 κ = κ (mm_i (S.I 1 3)))
    ∧ (∀ (B : Nat) (S : mm_S) (c : mm_N) (v : Int) (κ : mm_H → mm_R), mm_pF (mm_hp B S c) (mm_ad B 1) 7 3 (.int (mm_i v)) κ = κ (mm_hp B (S.sI 1 3 v) c))
    ∧ (∀ (B : Nat) (S : mm_S) (c : mm_N) (κ : Int32 → mm_R), mm_gI (mm_hp B S c) (mm_ad B 1) 7 4 κ = κ (mm_i (S.I 1 4)))
    ∧ (∀ (B : Nat) (S : mm_S) (c : mm_N) (v : Int) (κ : mm_H → mm_R), mm_pF (mm_hp B S c) (mm_ad B 1) 7 4 (.int (mm_i v)) κ = κ (mm_hp B (S.sI 1 4 v) c))
    ∧ (∀ (B : Nat) (S : mm_S) (c : mm_N) (κ : Int32 → mm_R), mm_gI (mm_hp B S c) (mm_ad B 1) 7 5 κ = κ (mm_i (S.I 1 5)))
    ∧ (∀ (B : Nat) (S : mm_S) (c : mm_N) (v : Int) (κ : mm_H → mm_R), mm_pF (mm_hp B S c) (mm_ad B 1) 7 5 (.int (mm_i v)) κ = κ (mm_hp B (S.sI 1 5 v) c))
    ∧ (∀ (E : mm_E) (B : Nat) (S : mm_S) (c : mm_N) (i : Int) (κ : Int32 → mm_R), 0 ≤ i → i < 400 → mm_rI E (mm_hp B S c) (mm_ad B 2) (mm_i i) κ = κ (mm_i (S.A 2 i)))
    ∧ (∀ (B : Nat) (S : mm_S) (c : mm_N) (i v : Int) (κ : mm_H → mm_R), 0 ≤ i → i < 400 → mm_wI (mm_hp B S c) (mm_ad B 2) (mm_i i) (mm_i v) κ = κ (mm_hp B (S.sA 2 (mm_u (S.A 2) i v)) c))
    ∧ (∀ (E : mm_E) (B : Nat) (S : mm_S) (c : mm_N) (κ : Int32 → mm_R), mm_ln E (mm_hp B S c) (mm_ad B 2) κ = κ (mm_i 400)) := by
  refine ⟨?_, ?_, ?_, ?_, ?_, ?_, ?_, ?_, ?_, ?_, ?_, ?_, ?_, ?_⟩
  · exact fun B S c κ => mm_pgR rfl rfl κ
  · exact fun B S c κ => mm_pgI rfl rfl κ
  · exact fun B S c v κ => mm_ppI rfl rfl κ
  · exact fun B S c κ => mm_pgI rfl rfl κ
  · exact fun B S c v κ => mm_ppI rfl rfl κ
  · exact fun B S c κ => mm_pgI rfl rfl κ
  · exact fun B S c v κ => mm_ppI rfl rfl κ
  · exact fun B S c κ => mm_pgI rfl rfl κ
  · exact fun B S c v κ => mm_ppI rfl rfl κ
  · exact fun B S c κ => mm_pgI rfl rfl κ
  · exact fun B S c v κ => mm_ppI rfl rfl κ
  · exact fun E B S c i κ h1 h2 => mm_prI rfl (by decide) h1 h2 κ
  · exact fun B S c i v κ h1 h2 => mm_pwI rfl (by decide) h1 h2 κ
  · exact fun E B S c κ => mm_plI rfl κ
theorem mm_ptA : (∀ (B : Nat) (S : mm_S) (c : mm_N) (κ : Nat → mm_R), mm_gR (mm_hp B S c) (mm_ad B 36) 0 0 κ = κ (mm_ad B 37))
    ∧ (∀ (B : Nat) (S : mm_S) (c : mm_N) (κ : Nat → mm_R), mm_gR (mm_hp B S c) (mm_ad B 36) 0 1 κ = κ (mm_ad B 38))
    ∧ (∀ (B : Nat) (S : mm_S) (c : mm_N) (κ : Nat → mm_R), mm_gR (mm_hp B S c) (mm_ad B 36) 0 2 κ = κ (mm_ad B 39))
    ∧ (∀ (B : Nat) (S : mm_S) (c : mm_N) (κ : Int32 → mm_R), mm_gI (mm_hp B S c) (mm_ad B 36) 0 3 κ = κ (mm_i (S.I 36 3)))
    ∧ (∀ (B : Nat) (S : mm_S) (c : mm_N) (v : Int) (κ : mm_H → mm_R), mm_pF (mm_hp B S c) (mm_ad B 36) 0 3 (.int (mm_i v)) κ = κ (mm_hp B (S.sI 36 3 v) c))
    ∧ (∀ (B : Nat) (S : mm_S) (c : mm_N) (κ : Int32 → mm_R), mm_gI (mm_hp B S c) (mm_ad B 36) 0 4 κ = κ (mm_i (S.I 36 4)))
    ∧ (∀ (B : Nat) (S : mm_S) (c : mm_N) (v : Int) (κ : mm_H → mm_R), mm_pF (mm_hp B S c) (mm_ad B 36) 0 4 (.int (mm_i v)) κ = κ (mm_hp B (S.sI 36 4 v) c))
    ∧ (∀ (E : mm_E) (B : Nat) (S : mm_S) (c : mm_N) (i : Int) (κ : Int32 → mm_R), 0 ≤ i → i < 20 → mm_rI E (mm_hp B S c) (mm_ad B 37) (mm_i i) κ = κ (mm_i (S.A 37 i)))
    ∧ (∀ (B : Nat) (S : mm_S) (c : mm_N) (i v : Int) (κ : mm_H → mm_R), 0 ≤ i → i < 20 → mm_wI (mm_hp B S c) (mm_ad B 37) (mm_i i) (mm_i v) κ = κ (mm_hp B (S.sA 37 (mm_u (S.A 37) i v)) c))
    ∧ (∀ (E : mm_E) (B : Nat) (S : mm_S) (c : mm_N) (κ : Int32 → mm_R), mm_ln E (mm_hp B S c) (mm_ad B 37) κ = κ (mm_i 20))
    ∧ (∀ (E : mm_E) (B : Nat) (S : mm_S) (c : mm_N) (i : Int) (κ : Int32 → mm_R), 0 ≤ i → i < 20 → mm_rI E (mm_hp B S c) (mm_ad B 38) (mm_i i) κ = κ (mm_i (S.A 38 i)))
    ∧ (∀ (B : Nat) (S : mm_S) (c : mm_N) (i v : Int) (κ : mm_H → mm_R), 0 ≤ i → i < 20 → mm_wI (mm_hp B S c) (mm_ad B 38) (mm_i i) (mm_i v) κ = κ (mm_hp B (S.sA 38 (mm_u (S.A 38) i v)) c))
    ∧ (∀ (E : mm_E) (B : Nat) (S : mm_S) (c : mm_N) (κ : Int32 → mm_R), mm_ln E (mm_hp B S c) (mm_ad B 38) κ = κ (mm_i 20))
    ∧ (∀ (E : mm_E) (B : Nat) (S : mm_S) (c : mm_N) (i : Int) (κ : Int32 → mm_R), 0 ≤ i → i < 20 → mm_rI E (mm_hp B S c) (mm_ad B 39) (mm_i i) κ = κ (mm_i (S.A 39 i)))
    ∧ (∀ (B : Nat) (S : mm_S) (c : mm_N) (i v : Int) (κ : mm_H → mm_R), 0 ≤ i → i < 20 → mm_wI (mm_hp B S c) (mm_ad B 39) (mm_i i) (mm_i v) κ = κ (mm_hp B (S.sA 39 (mm_u (S.A 39) i v)) c))
    ∧ (∀ (E : mm_E) (B : Nat) (S : mm_S) (c : mm_N) (κ : Int32 → mm_R), mm_ln E (mm_hp B S c) (mm_ad B 39) κ = κ (mm_i 20)) := by
  refine ⟨?_, ?_, ?_, ?_, ?_, ?_, ?_, ?_, ?_, ?_, ?_, ?_, ?_, ?_, ?_, ?_⟩
  · exact fun B S c κ => mm_pgR rfl rfl κ
  · exact fun B S c κ => mm_pgR rfl rfl κ
  · exact fun B S c κ => mm_pgR rfl rfl κ
  · exact fun B S c κ => mm_pgI rfl rfl κ
  · exact fun B S c v κ => mm_ppI rfl rfl κ
  · exact fun B S c κ => mm_pgI rfl rfl κ
  · exact fun B S c v κ => mm_ppI rfl rfl κ
  · exact fun E B S c i κ h1 h2 => mm_prI rfl (by decide) h1 h2 κ
  · exact fun B S c i v κ h1 h2 => mm_pwI rfl (by decide) h1 h2 κ
  · exact fun E B S c κ => mm_plI rfl κ
  · exact fun E B S c i κ h1 h2 => mm_prI rfl (by decide) h1 h2 κ
  · exact fun B S c i v κ h1 h2 => mm_pwI rfl (by decide) h1 h2 κ
  · exact fun E B S c κ => mm_plI rfl κ
  · exact fun E B S c i κ h1 h2 => mm_prI rfl (by decide) h1 h2 κ
  · exact fun B S c i v κ h1 h2 => mm_pwI rfl (by decide) h1 h2 κ
  · exact fun E B S c κ => mm_plI rfl κ
theorem mm_ptB : (∀ (B : Nat) (S : mm_S) (c : mm_N) (κ : Nat → mm_R), mm_gR (mm_hp B S c) (mm_ad B 40) 1 0 κ = κ (mm_ad B 41))
    ∧ (∀ (B : Nat) (S : mm_S) (c : mm_N) (κ : Nat → mm_R), mm_gR (mm_hp B S c) (mm_ad B 40) 1 1 κ = κ (mm_ad B 42))
    ∧ (∀ (B : Nat) (S : mm_S) (c : mm_N) (κ : Nat → mm_R), mm_gR (mm_hp B S c) (mm_ad B 40) 1 2 κ = κ (mm_ad B 45))
    ∧ (∀ (B : Nat) (S : mm_S) (c : mm_N) (κ : Nat → mm_R), mm_gR (mm_hp B S c) (mm_ad B 40) 1 3 κ = κ (mm_ad B 48))
    ∧ (∀ (B : Nat) (S : mm_S) (c : mm_N) (κ : Nat → mm_R), mm_gR (mm_hp B S c) (mm_ad B 40) 1 4 κ = κ (mm_ad B 51))
    ∧ (∀ (B : Nat) (S : mm_S) (c : mm_N) (κ : Nat → mm_R), mm_gR (mm_hp B S c) (mm_ad B 40) 1 5 κ = κ (mm_ad B 54))
    ∧ (∀ (B : Nat) (S : mm_S) (c : mm_N) (κ : Nat → mm_R), mm_gR (mm_hp B S c) (mm_ad B 40) 1 6 κ = κ (mm_ad B 55))
    ∧ (∀ (B : Nat) (S : mm_S) (c : mm_N) (κ : Nat → mm_R), mm_gR (mm_hp B S c) (mm_ad B 40) 1 7 κ = κ (mm_ad B 56))
    ∧ (∀ (B : Nat) (S : mm_S) (c : mm_N) (κ : Int64 → mm_R), mm_gJ (mm_hp B S c) (mm_ad B 40) 1 8 κ = κ (mm_j (S.J 40 8)))
    ∧ (∀ (B : Nat) (S : mm_S) (c : mm_N) (v : Int) (κ : mm_H → mm_R), mm_pF (mm_hp B S c) (mm_ad B 40) 1 8 (.long (mm_j v)) κ = κ (mm_hp B (S.sJ 40 8 v) c))
    ∧ (∀ (B : Nat) (S : mm_S) (c : mm_N) (κ : Int64 → mm_R), mm_gJ (mm_hp B S c) (mm_ad B 40) 1 9 κ = κ (mm_j (S.J 40 9)))
    ∧ (∀ (B : Nat) (S : mm_S) (c : mm_N) (v : Int) (κ : mm_H → mm_R), mm_pF (mm_hp B S c) (mm_ad B 40) 1 9 (.long (mm_j v)) κ = κ (mm_hp B (S.sJ 40 9 v) c))
    ∧ (∀ (B : Nat) (S : mm_S) (c : mm_N) (i : Int) (κ : Int64 → mm_R), 0 ≤ i → i < 120 → mm_rJ (mm_hp B S c) (mm_ad B 54) (mm_i i) κ = κ (mm_j (S.L 54 i)))
    ∧ (∀ (B : Nat) (S : mm_S) (c : mm_N) (i v : Int) (κ : mm_H → mm_R), 0 ≤ i → i < 120 → mm_wJ (mm_hp B S c) (mm_ad B 54) (mm_i i) (mm_j v) κ = κ (mm_hp B (S.sL 54 (mm_u (S.L 54) i v)) c))
    ∧ (∀ (E : mm_E) (B : Nat) (S : mm_S) (c : mm_N) (i : Int) (κ : Int32 → mm_R), 0 ≤ i → i < 12 → mm_rI E (mm_hp B S c) (mm_ad B 55) (mm_i i) κ = κ (mm_i (S.A 55 i)))
    ∧ (∀ (B : Nat) (S : mm_S) (c : mm_N) (i v : Int) (κ : mm_H → mm_R), 0 ≤ i → i < 12 → mm_wI (mm_hp B S c) (mm_ad B 55) (mm_i i) (mm_i v) κ = κ (mm_hp B (S.sA 55 (mm_u (S.A 55) i v)) c))
    ∧ (∀ (E : mm_E) (B : Nat) (S : mm_S) (c : mm_N) (κ : Int32 → mm_R), mm_ln E (mm_hp B S c) (mm_ad B 55) κ = κ (mm_i 12))
    ∧ (∀ (E : mm_E) (B : Nat) (S : mm_S) (c : mm_N) (i : Int) (κ : Int32 → mm_R), 0 ≤ i → i < 12 → mm_rI E (mm_hp B S c) (mm_ad B 56) (mm_i i) κ = κ (mm_i (S.A 56 i)))
    ∧ (∀ (B : Nat) (S : mm_S) (c : mm_N) (i v : Int) (κ : mm_H → mm_R), 0 ≤ i → i < 12 → mm_wI (mm_hp B S c) (mm_ad B 56) (mm_i i) (mm_i v) κ = κ (mm_hp B (S.sA 56 (mm_u (S.A 56) i v)) c))
    ∧ (∀ (E : mm_E) (B : Nat) (S : mm_S) (c : mm_N) (κ : Int32 → mm_R), mm_ln E (mm_hp B S c) (mm_ad B 56) κ = κ (mm_i 12)) := by
  refine ⟨?_, ?_, ?_, ?_, ?_, ?_, ?_, ?_, ?_, ?_, ?_, ?_, ?_, ?_, ?_, ?_, ?_, ?_, ?_, ?_⟩
  · exact fun B S c κ => mm_pgR rfl rfl κ
  · exact fun B S c κ => mm_pgR rfl rfl κ
  · exact fun B S c κ => mm_pgR rfl rfl κ
  · exact fun B S c κ => mm_pgR rfl rfl κ
  · exact fun B S c κ => mm_pgR rfl rfl κ
  · exact fun B S c κ => mm_pgR rfl rfl κ
  · exact fun B S c κ => mm_pgR rfl rfl κ
  · exact fun B S c κ => mm_pgR rfl rfl κ
  · exact fun B S c κ => mm_pgJ rfl rfl κ
  · exact fun B S c v κ => mm_ppJ rfl rfl κ
  · exact fun B S c κ => mm_pgJ rfl rfl κ
  · exact fun B S c v κ => mm_ppJ rfl rfl κ
  · exact fun B S c i κ h1 h2 => mm_prJ rfl (by decide) h1 h2 κ
  · exact fun B S c i v κ h1 h2 => mm_pwJ rfl (by decide) h1 h2 κ
  · exact fun E B S c i κ h1 h2 => mm_prI rfl (by decide) h1 h2 κ
  · exact fun B S c i v κ h1 h2 => mm_pwI rfl (by decide) h1 h2 κ
  · exact fun E B S c κ => mm_plI rfl κ
  · exact fun E B S c i κ h1 h2 => mm_prI rfl (by decide) h1 h2 κ
  · exact fun B S c i v κ h1 h2 => mm_pwI rfl (by decide) h1 h2 κ
  · exact fun E B S c κ => mm_plI rfl κ
theorem mm_ptL : (∀ (B : Nat) (S : mm_S) (c : mm_N) (κ : Nat → mm_R), mm_gR (mm_hp B S c) (mm_ad B 93) 2 0 κ = κ (mm_ad B 94))
    ∧ (∀ (B : Nat) (S : mm_S) (c : mm_N) (κ : Nat → mm_R), mm_gR (mm_hp B S c) (mm_ad B 93) 2 1 κ = κ (mm_ad B 95))
    ∧ (∀ (B : Nat) (S : mm_S) (c : mm_N) (κ : Int32 → mm_R), mm_gI (mm_hp B S c) (mm_ad B 93) 2 2 κ = κ (mm_i (S.I 93 2)))
    ∧ (∀ (B : Nat) (S : mm_S) (c : mm_N) (v : Int) (κ : mm_H → mm_R), mm_pF (mm_hp B S c) (mm_ad B 93) 2 2 (.int (mm_i v)) κ = κ (mm_hp B (S.sI 93 2 v) c))
    ∧ (∀ (B : Nat) (S : mm_S) (c : mm_N) (κ : Int32 → mm_R), mm_gI (mm_hp B S c) (mm_ad B 93) 2 3 κ = κ (mm_i (S.I 93 3)))
    ∧ (∀ (B : Nat) (S : mm_S) (c : mm_N) (v : Int) (κ : mm_H → mm_R), mm_pF (mm_hp B S c) (mm_ad B 93) 2 3 (.int (mm_i v)) κ = κ (mm_hp B (S.sI 93 3 v) c))
    ∧ (∀ (B : Nat) (S : mm_S) (c : mm_N) (κ : Int32 → mm_R), mm_gI (mm_hp B S c) (mm_ad B 93) 2 4 κ = κ (mm_i (S.I 93 4)))
    ∧ (∀ (B : Nat) (S : mm_S) (c : mm_N) (v : Int) (κ : mm_H → mm_R), mm_pF (mm_hp B S c) (mm_ad B 93) 2 4 (.int (mm_i v)) κ = κ (mm_hp B (S.sI 93 4 v) c))
    ∧ (∀ (E : mm_E) (B : Nat) (S : mm_S) (c : mm_N) (i : Int) (κ : Int32 → mm_R), 0 ≤ i → i < 41 → mm_rI E (mm_hp B S c) (mm_ad B 94) (mm_i i) κ = κ (mm_i (S.A 94 i)))
    ∧ (∀ (B : Nat) (S : mm_S) (c : mm_N) (i v : Int) (κ : mm_H → mm_R), 0 ≤ i → i < 41 → mm_wI (mm_hp B S c) (mm_ad B 94) (mm_i i) (mm_i v) κ = κ (mm_hp B (S.sA 94 (mm_u (S.A 94) i v)) c))
    ∧ (∀ (E : mm_E) (B : Nat) (S : mm_S) (c : mm_N) (κ : Int32 → mm_R), mm_ln E (mm_hp B S c) (mm_ad B 94) κ = κ (mm_i 41))
    ∧ (∀ (E : mm_E) (B : Nat) (S : mm_S) (c : mm_N) (i : Int) (κ : Int32 → mm_R), 0 ≤ i → i < 41 → mm_rI E (mm_hp B S c) (mm_ad B 95) (mm_i i) κ = κ (mm_i (S.A 95 i)))
    ∧ (∀ (B : Nat) (S : mm_S) (c : mm_N) (i v : Int) (κ : mm_H → mm_R), 0 ≤ i → i < 41 → mm_wI (mm_hp B S c) (mm_ad B 95) (mm_i i) (mm_i v) κ = κ (mm_hp B (S.sA 95 (mm_u (S.A 95) i v)) c))
    ∧ (∀ (E : mm_E) (B : Nat) (S : mm_S) (c : mm_N) (κ : Int32 → mm_R), mm_ln E (mm_hp B S c) (mm_ad B 95) κ = κ (mm_i 41)) := by
  refine ⟨?_, ?_, ?_, ?_, ?_, ?_, ?_, ?_, ?_, ?_, ?_, ?_, ?_, ?_⟩
  · exact fun B S c κ => mm_pgR rfl rfl κ
  · exact fun B S c κ => mm_pgR rfl rfl κ
  · exact fun B S c κ => mm_pgI rfl rfl κ
  · exact fun B S c v κ => mm_ppI rfl rfl κ
  · exact fun B S c κ => mm_pgI rfl rfl κ
  · exact fun B S c v κ => mm_ppI rfl rfl κ
  · exact fun B S c κ => mm_pgI rfl rfl κ
  · exact fun B S c v κ => mm_ppI rfl rfl κ
  · exact fun E B S c i κ h1 h2 => mm_prI rfl (by decide) h1 h2 κ
  · exact fun B S c i v κ h1 h2 => mm_pwI rfl (by decide) h1 h2 κ
  · exact fun E B S c κ => mm_plI rfl κ
  · exact fun E B S c i κ h1 h2 => mm_prI rfl (by decide) h1 h2 κ
  · exact fun B S c i v κ h1 h2 => mm_pwI rfl (by decide) h1 h2 κ
  · exact fun E B S c κ => mm_plI rfl κ
theorem mm_ptG : (∀ (B : Nat) (S : mm_S) (c : mm_N) (κ : Nat → mm_R), mm_gR (mm_hp B S c) (mm_ad B 96) 6 0 κ = κ (mm_ad B 1))
    ∧ (∀ (B : Nat) (S : mm_S) (c : mm_N) (κ : Nat → mm_R), mm_gR (mm_hp B S c) (mm_ad B 96) 6 1 κ = κ (mm_ad B 14))
    ∧ (∀ (B : Nat) (S : mm_S) (c : mm_N) (κ : Int32 → mm_R), mm_gI (mm_hp B S c) (mm_ad B 96) 6 2 κ = κ (mm_i (S.I 96 2)))
    ∧ (∀ (B : Nat) (S : mm_S) (c : mm_N) (v : Int) (κ : mm_H → mm_R), mm_pF (mm_hp B S c) (mm_ad B 96) 6 2 (.int (mm_i v)) κ = κ (mm_hp B (S.sI 96 2 v) c)) := by
  refine ⟨?_, ?_, ?_, ?_⟩
  · exact fun B S c κ => mm_pgR rfl rfl κ
  · exact fun B S c κ => mm_pgR rfl rfl κ
  · exact fun B S c κ => mm_pgI rfl rfl κ
  · exact fun B S c v κ => mm_ppI rfl rfl κ
theorem mm_ptQ : (∀ (B : Nat) (S : mm_S) (c : mm_N) (κ : Nat → mm_R), mm_gR (mm_hp B S c) (mm_ad B 97) 4 0 κ = κ (mm_ad B 1))
    ∧ (∀ (B : Nat) (S : mm_S) (c : mm_N) (κ : Nat → mm_R), mm_gR (mm_hp B S c) (mm_ad B 97) 4 1 κ = κ (mm_ad B 3))
    ∧ (∀ (B : Nat) (S : mm_S) (c : mm_N) (κ : Nat → mm_R), mm_gR (mm_hp B S c) (mm_ad B 97) 4 2 κ = κ (mm_ad B 98))
    ∧ (∀ (B : Nat) (S : mm_S) (c : mm_N) (κ : Nat → mm_R), mm_gR (mm_hp B S c) (mm_ad B 97) 4 3 κ = κ (mm_ad B 99))
    ∧ (∀ (B : Nat) (S : mm_S) (c : mm_N) (κ : Int32 → mm_R), mm_gI (mm_hp B S c) (mm_ad B 97) 4 4 κ = κ (mm_i (S.I 97 4)))
    ∧ (∀ (B : Nat) (S : mm_S) (c : mm_N) (v : Int) (κ : mm_H → mm_R), mm_pF (mm_hp B S c) (mm_ad B 97) 4 4 (.int (mm_i v)) κ = κ (mm_hp B (S.sI 97 4 v) c))
    ∧ (∀ (B : Nat) (S : mm_S) (c : mm_N) (κ : Int32 → mm_R), mm_gI (mm_hp B S c) (mm_ad B 97) 4 5 κ = κ (mm_i (S.I 97 5)))
    ∧ (∀ (B : Nat) (S : mm_S) (c : mm_N) (v : Int) (κ : mm_H → mm_R), mm_pF (mm_hp B S c) (mm_ad B 97) 4 5 (.int (mm_i v)) κ = κ (mm_hp B (S.sI 97 5 v) c))
    ∧ (∀ (B : Nat) (S : mm_S) (c : mm_N) (κ : Int32 → mm_R), mm_gI (mm_hp B S c) (mm_ad B 97) 4 6 κ = κ (mm_i (S.I 97 6)))
    ∧ (∀ (B : Nat) (S : mm_S) (c : mm_N) (v : Int) (κ : mm_H → mm_R), mm_pF (mm_hp B S c) (mm_ad B 97) 4 6 (.int (mm_i v)) κ = κ (mm_hp B (S.sI 97 6 v) c))
    ∧ (∀ (E : mm_E) (B : Nat) (S : mm_S) (c : mm_N) (i : Int) (κ : Int32 → mm_R), 0 ≤ i → i < 200 → mm_rI E (mm_hp B S c) (mm_ad B 98) (mm_i i) κ = κ (mm_i (S.A 98 i)))
    ∧ (∀ (B : Nat) (S : mm_S) (c : mm_N) (i v : Int) (κ : mm_H → mm_R), 0 ≤ i → i < 200 → mm_wI (mm_hp B S c) (mm_ad B 98) (mm_i i) (mm_i v) κ = κ (mm_hp B (S.sA 98 (mm_u (S.A 98) i v)) c))
    ∧ (∀ (E : mm_E) (B : Nat) (S : mm_S) (c : mm_N) (κ : Int32 → mm_R), mm_ln E (mm_hp B S c) (mm_ad B 98) κ = κ (mm_i 200))
    ∧ (∀ (E : mm_E) (B : Nat) (S : mm_S) (c : mm_N) (i : Int) (κ : Int32 → mm_R), 0 ≤ i → i < 64 → mm_rI E (mm_hp B S c) (mm_ad B 99) (mm_i i) κ = κ (mm_i (S.A 99 i)))
    ∧ (∀ (B : Nat) (S : mm_S) (c : mm_N) (i v : Int) (κ : mm_H → mm_R), 0 ≤ i → i < 64 → mm_wI (mm_hp B S c) (mm_ad B 99) (mm_i i) (mm_i v) κ = κ (mm_hp B (S.sA 99 (mm_u (S.A 99) i v)) c))
    ∧ (∀ (E : mm_E) (B : Nat) (S : mm_S) (c : mm_N) (κ : Int32 → mm_R), mm_ln E (mm_hp B S c) (mm_ad B 99) κ = κ (mm_i 64)) := by
  refine ⟨?_, ?_, ?_, ?_, ?_, ?_, ?_, ?_, ?_, ?_, ?_, ?_, ?_, ?_, ?_, ?_⟩
  · exact fun B S c κ => mm_pgR rfl rfl κ
  · exact fun B S c κ => mm_pgR rfl rfl κ
  · exact fun B S c κ => mm_pgR rfl rfl κ
  · exact fun B S c κ => mm_pgR rfl rfl κ
  · exact fun B S c κ => mm_pgI rfl rfl κ
  · exact fun B S c v κ => mm_ppI rfl rfl κ
  · exact fun B S c κ => mm_pgI rfl rfl κ
  · exact fun B S c v κ => mm_ppI rfl rfl κ
  · exact fun B S c κ => mm_pgI rfl rfl κ
  · exact fun B S c v κ => mm_ppI rfl rfl κ
  · exact fun E B S c i κ h1 h2 => mm_prI rfl (by decide) h1 h2 κ
  · exact fun B S c i v κ h1 h2 => mm_pwI rfl (by decide) h1 h2 κ
  · exact fun E B S c κ => mm_plI rfl κ
  · exact fun E B S c i κ h1 h2 => mm_prI rfl (by decide) h1 h2 κ
  · exact fun B S c i v κ h1 h2 => mm_pwI rfl (by decide) h1 h2 κ
  · exact fun E B S c κ => mm_plI rfl κ
theorem mm_ptM : (∀ (B : Nat) (S : mm_S) (c : mm_N) (κ : Int32 → mm_R), mm_gI (mm_hp B S c) (mm_ad B 101) 9 0 κ = κ (mm_i (S.I 101 0)))
    ∧ (∀ (B : Nat) (S : mm_S) (c : mm_N) (v : Int) (κ : mm_H → mm_R), mm_pF (mm_hp B S c) (mm_ad B 101) 9 0 (.int (mm_i v)) κ = κ (mm_hp B (S.sI 101 0 v) c))
    ∧ (∀ (B : Nat) (S : mm_S) (c : mm_N) (κ : Nat → mm_R), mm_gR (mm_hp B S c) (mm_ad B 101) 9 1 κ = κ (mm_ad B 102))
    ∧ (∀ (B : Nat) (S : mm_S) (c : mm_N) (κ : Nat → mm_R), mm_gR (mm_hp B S c) (mm_ad B 101) 9 2 κ = κ (mm_ad B 103))
    ∧ (∀ (B : Nat) (S : mm_S) (c : mm_N) (κ : Nat → mm_R), mm_gR (mm_hp B S c) (mm_ad B 101) 9 3 κ = κ (mm_ad B 104))
    ∧ (∀ (B : Nat) (S : mm_S) (c : mm_N) (κ : Int32 → mm_R), mm_gI (mm_hp B S c) (mm_ad B 101) 9 4 κ = κ (mm_i (S.I 101 4)))
    ∧ (∀ (B : Nat) (S : mm_S) (c : mm_N) (v : Int) (κ : mm_H → mm_R), mm_pF (mm_hp B S c) (mm_ad B 101) 9 4 (.int (mm_i v)) κ = κ (mm_hp B (S.sI 101 4 v) c))
    ∧ (∀ (B : Nat) (S : mm_S) (c : mm_N) (κ : Nat → mm_R), mm_gR (mm_hp B S c) (mm_ad B 101) 9 5 κ = κ (mm_ad B 105))
    ∧ (∀ (B : Nat) (S : mm_S) (c : mm_N) (κ : Nat → mm_R), mm_gR (mm_hp B S c) (mm_ad B 101) 9 6 κ = κ (mm_ad B 106))
    ∧ (∀ (B : Nat) (S : mm_S) (c : mm_N) (κ : Nat → mm_R), mm_gR (mm_hp B S c) (mm_ad B 101) 9 7 κ = κ (mm_ad B 107))
    ∧ (∀ (B : Nat) (S : mm_S) (c : mm_N) (κ : Nat → mm_R), mm_gR (mm_hp B S c) (mm_ad B 101) 9 8 κ = κ (mm_ad B 108))
    ∧ (∀ (B : Nat) (S : mm_S) (c : mm_N) (κ : Nat → mm_R), mm_gR (mm_hp B S c) (mm_ad B 101) 9 9 κ = κ (mm_ad B 109))
    ∧ (∀ (B : Nat) (S : mm_S) (c : mm_N) (κ : Nat → mm_R), mm_gR (mm_hp B S c) (mm_ad B 101) 9 10 κ = κ (mm_ad B 110))
    ∧ (∀ (B : Nat) (S : mm_S) (c : mm_N) (κ : Nat → mm_R), mm_gR (mm_hp B S c) (mm_ad B 101) 9 11 κ = κ (mm_ad B 111))
    ∧ (∀ (B : Nat) (S : mm_S) (c : mm_N) (κ : Nat → mm_R), mm_gR (mm_hp B S c) (mm_ad B 101) 9 12 κ = κ (mm_ad B 112))
    ∧ (∀ (B : Nat) (S : mm_S) (c : mm_N) (κ : Nat → mm_R), mm_gR (mm_hp B S c) (mm_ad B 101) 9 13 κ = κ (mm_ad B 113))
    ∧ (∀ (B : Nat) (S : mm_S) (c : mm_N) (κ : Nat → mm_R), mm_gR (mm_hp B S c) (mm_ad B 101) 9 14 κ = κ (mm_ad B 114))
    ∧ (∀ (B : Nat) (S : mm_S) (c : mm_N) (κ : Int32 → mm_R), mm_gI (mm_hp B S c) (mm_ad B 101) 9 15 κ = κ (mm_i (S.I 101 15)))
    ∧ (∀ (B : Nat) (S : mm_S) (c : mm_N) (v : Int) (κ : mm_H → mm_R), mm_pF (mm_hp B S c) (mm_ad B 101) 9 15 (.int (mm_i v)) κ = κ (mm_hp B (S.sI 101 15 v) c))
    ∧ (∀ (B : Nat) (S : mm_S) (c : mm_N) (κ : Nat → mm_R), mm_gR (mm_hp B S c) (mm_ad B 101) 9 16 κ = κ (mm_ad B 115))
    ∧ (∀ (B : Nat) (S : mm_S) (c : mm_N) (κ : Nat → mm_R), mm_gR (mm_hp B S c) (mm_ad B 101) 9 17 κ = κ (mm_ad B 116))
    ∧ (∀ (B : Nat) (S : mm_S) (c : mm_N) (κ : Int32 → mm_R), mm_gI (mm_hp B S c) (mm_ad B 101) 9 18 κ = κ (mm_i (S.I 101 18)))
    ∧ (∀ (B : Nat) (S : mm_S) (c : mm_N) (v : Int) (κ : mm_H → mm_R), mm_pF (mm_hp B S c) (mm_ad B 101) 9 18 (.int (mm_i v)) κ = κ (mm_hp B (S.sI 101 18 v) c))
    ∧ (∀ (B : Nat) (S : mm_S) (c : mm_N) (κ : Nat → mm_R), mm_gR (mm_hp B S c) (mm_ad B 101) 9 19 κ = κ (mm_ad B 117))
    ∧ (∀ (B : Nat) (S : mm_S) (c : mm_N) (κ : Nat → mm_R), mm_gR (mm_hp B S c) (mm_ad B 101) 9 20 κ = κ (mm_ad B 118))
    ∧ (∀ (B : Nat) (S : mm_S) (c : mm_N) (κ : Nat → mm_R), mm_gR (mm_hp B S c) (mm_ad B 101) 9 21 κ = κ (mm_ad B 119))
    ∧ (∀ (B : Nat) (S : mm_S) (c : mm_N) (κ : Nat → mm_R), mm_gR (mm_hp B S c) (mm_ad B 101) 9 22 κ = κ (mm_ad B 120))
    ∧ (∀ (B : Nat) (S : mm_S) (c : mm_N) (κ : Nat → mm_R), mm_gR (mm_hp B S c) (mm_ad B 101) 9 23 κ = κ (mm_ad B 121))
    ∧ (∀ (B : Nat) (S : mm_S) (c : mm_N) (κ : Int32 → mm_R), mm_gI (mm_hp B S c) (mm_ad B 101) 9 24 κ = κ (mm_i (S.I 101 24)))
    ∧ (∀ (B : Nat) (S : mm_S) (c : mm_N) (v : Int) (κ : mm_H → mm_R), mm_pF (mm_hp B S c) (mm_ad B 101) 9 24 (.int (mm_i v)) κ = κ (mm_hp B (S.sI 101 24 v) c))
    ∧ (∀ (B : Nat) (S : mm_S) (c : mm_N) (κ : Nat → mm_R), mm_gR (mm_hp B S c) (mm_ad B 101) 9 25 κ = κ (mm_ad B 122))
    ∧ (∀ (B : Nat) (S : mm_S) (c : mm_N) (κ : Int32 → mm_R), mm_gI (mm_hp B S c) (mm_ad B 101) 9 26 κ = κ (mm_i (S.I 101 26)))
    ∧ (∀ (B : Nat) (S : mm_S) (c : mm_N) (v : Int) (κ : mm_H → mm_R), mm_pF (mm_hp B S c) (mm_ad B 101) 9 26 (.int (mm_i v)) κ = κ (mm_hp B (S.sI 101 26 v) c))
    ∧ (∀ (B : Nat) (S : mm_S) (c : mm_N) (κ : Int32 → mm_R), mm_gI (mm_hp B S c) (mm_ad B 101) 9 27 κ = κ (mm_i (S.I 101 27)))
    ∧ (∀ (B : Nat) (S : mm_S) (c : mm_N) (v : Int) (κ : mm_H → mm_R), mm_pF (mm_hp B S c) (mm_ad B 101) 9 27 (.int (mm_i v)) κ = κ (mm_hp B (S.sI 101 27 v) c))
    ∧ (∀ (B : Nat) (S : mm_S) (c : mm_N) (κ : Int32 → mm_R), mm_gI (mm_hp B S c) (mm_ad B 101) 9 28 κ = κ (mm_i (S.I 101 28)))
    ∧ (∀ (B : Nat) (S : mm_S) (c : mm_N) (v : Int) (κ : mm_H → mm_R), mm_pF (mm_hp B S c) (mm_ad B 101) 9 28 (.int (mm_i v)) κ = κ (mm_hp B (S.sI 101 28 v) c))
    ∧ (∀ (B : Nat) (S : mm_S) (c : mm_N) (κ : Int32 → mm_R), mm_gI (mm_hp B S c) (mm_ad B 101) 9 29 κ = κ (mm_i (S.I 101 29)))
    ∧ (∀ (B : Nat) (S : mm_S) (c : mm_N) (v : Int) (κ : mm_H → mm_R), mm_pF (mm_hp B S c) (mm_ad B 101) 9 29 (.int (mm_i v)) κ = κ (mm_hp B (S.sI 101 29 v) c))
    ∧ (∀ (B : Nat) (S : mm_S) (c : mm_N) (κ : Int32 → mm_R), mm_gI (mm_hp B S c) (mm_ad B 101) 9 30 κ = κ (mm_i (S.I 101 30)))
    ∧ (∀ (B : Nat) (S : mm_S) (c : mm_N) (v : Int) (κ : mm_H → mm_R), mm_pF (mm_hp B S c) (mm_ad B 101) 9 30 (.int (mm_i v)) κ = κ (mm_hp B (S.sI 101 30 v) c))
    ∧ (∀ (B : Nat) (S : mm_S) (c : mm_N) (κ : Int32 → mm_R), mm_gI (mm_hp B S c) (mm_ad B 101) 9 31 κ = κ (mm_i (S.I 101 31)))
    ∧ (∀ (B : Nat) (S : mm_S) (c : mm_N) (v : Int) (κ : mm_H → mm_R), mm_pF (mm_hp B S c) (mm_ad B 101) 9 31 (.int (mm_i v)) κ = κ (mm_hp B (S.sI 101 31 v) c))
    ∧ (∀ (B : Nat) (S : mm_S) (c : mm_N) (κ : Int32 → mm_R), mm_gI (mm_hp B S c) (mm_ad B 101) 9 32 κ = κ (mm_i (S.I 101 32)))
    ∧ (∀ (B : Nat) (S : mm_S) (c : mm_N) (v : Int) (κ : mm_H → mm_R), mm_pF (mm_hp B S c) (mm_ad B 101) 9 32 (.int (mm_i v)) κ = κ (mm_hp B (S.sI 101 32 v) c))
    ∧ (∀ (B : Nat) (S : mm_S) (c : mm_N) (κ : Int32 → mm_R), mm_gI (mm_hp B S c) (mm_ad B 101) 9 33 κ = κ (mm_i (S.I 101 33)))
    ∧ (∀ (B : Nat) (S : mm_S) (c : mm_N) (v : Int) (κ : mm_H → mm_R), mm_pF (mm_hp B S c) (mm_ad B 101) 9 33 (.int (mm_i v)) κ = κ (mm_hp B (S.sI 101 33 v) c))
    ∧ (∀ (B : Nat) (S : mm_S) (c : mm_N) (κ : Int32 → mm_R), mm_gI (mm_hp B S c) (mm_ad B 101) 9 34 κ = κ (mm_i (S.I 101 34)))
    ∧ (∀ (B : Nat) (S : mm_S) (c : mm_N) (v : Int) (κ : mm_H → mm_R), mm_pF (mm_hp B S c) (mm_ad B 101) 9 34 (.int (mm_i v)) κ = κ (mm_hp B (S.sI 101 34 v) c))
    ∧ (∀ (B : Nat) (S : mm_S) (c : mm_N) (κ : Int32 → mm_R), mm_gI (mm_hp B S c) (mm_ad B 101) 9 35 κ = κ (mm_i (S.I 101 35)))
    ∧ (∀ (B : Nat) (S : mm_S) (c : mm_N) (v : Int) (κ : mm_H → mm_R), mm_pF (mm_hp B S c) (mm_ad B 101) 9 35 (.int (mm_i v)) κ = κ (mm_hp B (S.sI 101 35 v) c))
    ∧ (∀ (B : Nat) (S : mm_S) (c : mm_N) (κ : Int32 → mm_R), mm_gI (mm_hp B S c) (mm_ad B 101) 9 36 κ = κ (mm_i (S.I 101 36)))
    ∧ (∀ (B : Nat) (S : mm_S) (c : mm_N) (v : Int) (κ : mm_H → mm_R), mm_pF (mm_hp B S c) (mm_ad B 101) 9 36 (.int (mm_i v)) κ = κ (mm_hp B (S.sI 101 36 v) c))
    ∧ (∀ (B : Nat) (S : mm_S) (c : mm_N) (κ : Int32 → mm_R), mm_gI (mm_hp B S c) (mm_ad B 101) 9 37 κ = κ (mm_i (S.I 101 37)))
    ∧ (∀ (B : Nat) (S : mm_S) (c : mm_N) (v : Int) (κ : mm_H → mm_R), mm_pF (mm_hp B S c) (mm_ad B 101) 9 37 (.int (mm_i v)) κ = κ (mm_hp B (S.sI 101 37 v) c))
    ∧ (∀ (B : Nat) (S : mm_S) (c : mm_N) (κ : Int32 → mm_R), mm_gI (mm_hp B S c) (mm_ad B 101) 9 38 κ = κ (mm_i (S.I 101 38)))
    ∧ (∀ (B : Nat) (S : mm_S) (c : mm_N) (v : Int) (κ : mm_H → mm_R), mm_pF (mm_hp B S c) (mm_ad B 101) 9 38 (.int (mm_i v)) κ = κ (mm_hp B (S.sI 101 38 v) c))
    ∧ (∀ (E : mm_E) (B : Nat) (S : mm_S) (c : mm_N) (i : Int) (κ : Int32 → mm_R), 0 ≤ i → i < 190 → mm_rI E (mm_hp B S c) (mm_ad B 102) (mm_i i) κ = κ (mm_i (S.A 102 i)))
    ∧ (∀ (B : Nat) (S : mm_S) (c : mm_N) (i v : Int) (κ : mm_H → mm_R), 0 ≤ i → i < 190 → mm_wI (mm_hp B S c) (mm_ad B 102) (mm_i i) (mm_i v) κ = κ (mm_hp B (S.sA 102 (mm_u (S.A 102) i v)) c))
    ∧ (∀ (E : mm_E) (B : Nat) (S : mm_S) (c : mm_N) (κ : Int32 → mm_R), mm_ln E (mm_hp B S c) (mm_ad B 102) κ = κ (mm_i 190))
    ∧ (∀ (E : mm_E) (B : Nat) (S : mm_S) (c : mm_N) (i : Int) (κ : Int32 → mm_R), 0 ≤ i → i < 190 → mm_rI E (mm_hp B S c) (mm_ad B 103) (mm_i i) κ = κ (mm_i (S.A 103 i)))
    ∧ (∀ (B : Nat) (S : mm_S) (c : mm_N) (i v : Int) (κ : mm_H → mm_R), 0 ≤ i → i < 190 → mm_wI (mm_hp B S c) (mm_ad B 103) (mm_i i) (mm_i v) κ = κ (mm_hp B (S.sA 103 (mm_u (S.A 103) i v)) c))
    ∧ (∀ (E : mm_E) (B : Nat) (S : mm_S) (c : mm_N) (κ : Int32 → mm_R), mm_ln E (mm_hp B S c) (mm_ad B 103) κ = κ (mm_i 190))
    ∧ (∀ (E : mm_E) (B : Nat) (S : mm_S) (c : mm_N) (i : Int) (κ : Int32 → mm_R), 0 ≤ i → i < 3800 → mm_rI E (mm_hp B S c) (mm_ad B 104) (mm_i i) κ = κ (mm_i (S.A 104 i)))
    ∧ (∀ (B : Nat) (S : mm_S) (c : mm_N) (i v : Int) (κ : mm_H → mm_R), 0 ≤ i → i < 3800 → mm_wI (mm_hp B S c) (mm_ad B 104) (mm_i i) (mm_i v) κ = κ (mm_hp B (S.sA 104 (mm_u (S.A 104) i v)) c))
    ∧ (∀ (E : mm_E) (B : Nat) (S : mm_S) (c : mm_N) (κ : Int32 → mm_R), mm_ln E (mm_hp B S c) (mm_ad B 104) κ = κ (mm_i 3800))
    ∧ (∀ (E : mm_E) (B : Nat) (S : mm_S) (c : mm_N) (i : Int) (κ : Int32 → mm_R), 0 ≤ i → i < 12 → mm_rI E (mm_hp B S c) (mm_ad B 105) (mm_i i) κ = κ (mm_i (S.A 105 i)))
    ∧ (∀ (B : Nat) (S : mm_S) (c : mm_N) (i v : Int) (κ : mm_H → mm_R), 0 ≤ i → i < 12 → mm_wI (mm_hp B S c) (mm_ad B 105) (mm_i i) (mm_i v) κ = κ (mm_hp B (S.sA 105 (mm_u (S.A 105) i v)) c))
    ∧ (∀ (E : mm_E) (B : Nat) (S : mm_S) (c : mm_N) (κ : Int32 → mm_R), mm_ln E (mm_hp B S c) (mm_ad B 105) κ = κ (mm_i 12))
    ∧ (∀ (E : mm_E) (B : Nat) (S : mm_S) (c : mm_N) (i : Int) (κ : Int32 → mm_R), 0 ≤ i → i < 480 → mm_rI E (mm_hp B S c) (mm_ad B 106) (mm_i i) κ = κ (mm_i (S.A 106 i)))
    ∧ (∀ (B : Nat) (S : mm_S) (c : mm_N) (i v : Int) (κ : mm_H → mm_R), 0 ≤ i → i < 480 → mm_wI (mm_hp B S c) (mm_ad B 106) (mm_i i) (mm_i v) κ = κ (mm_hp B (S.sA 106 (mm_u (S.A 106) i v)) c))
    ∧ (∀ (E : mm_E) (B : Nat) (S : mm_S) (c : mm_N) (κ : Int32 → mm_R), mm_ln E (mm_hp B S c) (mm_ad B 106) κ = κ (mm_i 480))
    ∧ (∀ (E : mm_E) (B : Nat) (S : mm_S) (c : mm_N) (i : Int) (κ : Int32 → mm_R), 0 ≤ i → i < 12 → mm_rI E (mm_hp B S c) (mm_ad B 107) (mm_i i) κ = κ (mm_i (S.A 107 i)))
    ∧ (∀ (B : Nat) (S : mm_S) (c : mm_N) (i v : Int) (κ : mm_H → mm_R), 0 ≤ i → i < 12 → mm_wI (mm_hp B S c) (mm_ad B 107) (mm_i i) (mm_i v) κ = κ (mm_hp B (S.sA 107 (mm_u (S.A 107) i v)) c))
    ∧ (∀ (E : mm_E) (B : Nat) (S : mm_S) (c : mm_N) (κ : Int32 → mm_R), mm_ln E (mm_hp B S c) (mm_ad B 107) κ = κ (mm_i 12))
    ∧ (∀ (E : mm_E) (B : Nat) (S : mm_S) (c : mm_N) (i : Int) (κ : Int32 → mm_R), 0 ≤ i → i < 1440 → mm_rI E (mm_hp B S c) (mm_ad B 108) (mm_i i) κ = κ (mm_i (S.A 108 i)))
    ∧ (∀ (B : Nat) (S : mm_S) (c : mm_N) (i v : Int) (κ : mm_H → mm_R), 0 ≤ i → i < 1440 → mm_wI (mm_hp B S c) (mm_ad B 108) (mm_i i) (mm_i v) κ = κ (mm_hp B (S.sA 108 (mm_u (S.A 108) i v)) c))
    ∧ (∀ (E : mm_E) (B : Nat) (S : mm_S) (c : mm_N) (κ : Int32 → mm_R), mm_ln E (mm_hp B S c) (mm_ad B 108) κ = κ (mm_i 1440))
    ∧ (∀ (E : mm_E) (B : Nat) (S : mm_S) (c : mm_N) (i : Int) (κ : Int32 → mm_R), 0 ≤ i → i < 1440 → mm_rI E (mm_hp B S c) (mm_ad B 109) (mm_i i) κ = κ (mm_i (S.A 109 i)))
    ∧ (∀ (B : Nat) (S : mm_S) (c : mm_N) (i v : Int) (κ : mm_H → mm_R), 0 ≤ i → i < 1440 → mm_wI (mm_hp B S c) (mm_ad B 109) (mm_i i) (mm_i v) κ = κ (mm_hp B (S.sA 109 (mm_u (S.A 109) i v)) c))
    ∧ (∀ (E : mm_E) (B : Nat) (S : mm_S) (c : mm_N) (κ : Int32 → mm_R), mm_ln E (mm_hp B S c) (mm_ad B 109) κ = κ (mm_i 1440))
    ∧ (∀ (E : mm_E) (B : Nat) (S : mm_S) (c : mm_N) (i : Int) (κ : Int32 → mm_R), 0 ≤ i → i < 120 → mm_rI E (mm_hp B S c) (mm_ad B 110) (mm_i i) κ = κ (mm_i (S.A 110 i)))
    ∧ (∀ (B : Nat) (S : mm_S) (c : mm_N) (i v : Int) (κ : mm_H → mm_R), 0 ≤ i → i < 120 → mm_wI (mm_hp B S c) (mm_ad B 110) (mm_i i) (mm_i v) κ = κ (mm_hp B (S.sA 110 (mm_u (S.A 110) i v)) c))
    ∧ (∀ (E : mm_E) (B : Nat) (S : mm_S) (c : mm_N) (κ : Int32 → mm_R), mm_ln E (mm_hp B S c) (mm_ad B 110) κ = κ (mm_i 120))
    ∧ (∀ (E : mm_E) (B : Nat) (S : mm_S) (c : mm_N) (i : Int) (κ : Int32 → mm_R), 0 ≤ i → i < 120 → mm_rI E (mm_hp B S c) (mm_ad B 111) (mm_i i) κ = κ (mm_i (S.A 111 i)))
    ∧ (∀ (B : Nat) (S : mm_S) (c : mm_N) (i v : Int) (κ : mm_H → mm_R), 0 ≤ i → i < 120 → mm_wI (mm_hp B S c) (mm_ad B 111) (mm_i i) (mm_i v) κ = κ (mm_hp B (S.sA 111 (mm_u (S.A 111) i v)) c))
    ∧ (∀ (E : mm_E) (B : Nat) (S : mm_S) (c : mm_N) (κ : Int32 → mm_R), mm_ln E (mm_hp B S c) (mm_ad B 111) κ = κ (mm_i 120))
    ∧ (∀ (E : mm_E) (B : Nat) (S : mm_S) (c : mm_N) (i : Int) (κ : Int32 → mm_R), 0 ≤ i → i < 120 → mm_rI E (mm_hp B S c) (mm_ad B 112) (mm_i i) κ = κ (mm_i (S.A 112 i)))
    ∧ (∀ (B : Nat) (S : mm_S) (c : mm_N) (i v : Int) (κ : mm_H → mm_R), 0 ≤ i → i < 120 → mm_wI (mm_hp B S c) (mm_ad B 112) (mm_i i) (mm_i v) κ = κ (mm_hp B (S.sA 112 (mm_u (S.A 112) i v)) c))
    ∧ (∀ (E : mm_E) (B : Nat) (S : mm_S) (c : mm_N) (κ : Int32 → mm_R), mm_ln E (mm_hp B S c) (mm_ad B 112) κ = κ (mm_i 120))
    ∧ (∀ (E : mm_E) (B : Nat) (S : mm_S) (c : mm_N) (i : Int) (κ : Int32 → mm_R), 0 ≤ i → i < 120 → mm_rI E (mm_hp B S c) (mm_ad B 113) (mm_i i) κ = κ (mm_i (S.A 113 i)))
    ∧ (∀ (B : Nat) (S : mm_S) (c : mm_N) (i v : Int) (κ : mm_H → mm_R), 0 ≤ i → i < 120 → mm_wI (mm_hp B S c) (mm_ad B 113) (mm_i i) (mm_i v) κ = κ (mm_hp B (S.sA 113 (mm_u (S.A 113) i v)) c))
    ∧ (∀ (E : mm_E) (B : Nat) (S : mm_S) (c : mm_N) (κ : Int32 → mm_R), mm_ln E (mm_hp B S c) (mm_ad B 113) κ = κ (mm_i 120))
    ∧ (∀ (E : mm_E) (B : Nat) (S : mm_S) (c : mm_N) (i : Int) (κ : Int32 → mm_R), 0 ≤ i → i < 2880 → mm_rI E (mm_hp B S c) (mm_ad B 114) (mm_i i) κ = κ (mm_i (S.A 114 i)))
    ∧ (∀ (B : Nat) (S : mm_S) (c : mm_N) (i v : Int) (κ : mm_H → mm_R), 0 ≤ i → i < 2880 → mm_wI (mm_hp B S c) (mm_ad B 114) (mm_i i) (mm_i v) κ = κ (mm_hp B (S.sA 114 (mm_u (S.A 114) i v)) c))
    ∧ (∀ (E : mm_E) (B : Nat) (S : mm_S) (c : mm_N) (κ : Int32 → mm_R), mm_ln E (mm_hp B S c) (mm_ad B 114) κ = κ (mm_i 2880))
    ∧ (∀ (E : mm_E) (B : Nat) (S : mm_S) (c : mm_N) (i : Int) (κ : Int32 → mm_R), 0 ≤ i → i < 12 → mm_rI E (mm_hp B S c) (mm_ad B 115) (mm_i i) κ = κ (mm_i (S.A 115 i)))
    ∧ (∀ (B : Nat) (S : mm_S) (c : mm_N) (i v : Int) (κ : mm_H → mm_R), 0 ≤ i → i < 12 → mm_wI (mm_hp B S c) (mm_ad B 115) (mm_i i) (mm_i v) κ = κ (mm_hp B (S.sA 115 (mm_u (S.A 115) i v)) c))
    ∧ (∀ (E : mm_E) (B : Nat) (S : mm_S) (c : mm_N) (κ : Int32 → mm_R), mm_ln E (mm_hp B S c) (mm_ad B 115) κ = κ (mm_i 12))
    ∧ (∀ (E : mm_E) (B : Nat) (S : mm_S) (c : mm_N) (i : Int) (κ : Int32 → mm_R), 0 ≤ i → i < 12 → mm_rI E (mm_hp B S c) (mm_ad B 116) (mm_i i) κ = κ (mm_i (S.A 116 i)))
    ∧ (∀ (B : Nat) (S : mm_S) (c : mm_N) (i v : Int) (κ : mm_H → mm_R), 0 ≤ i → i < 12 → mm_wI (mm_hp B S c) (mm_ad B 116) (mm_i i) (mm_i v) κ = κ (mm_hp B (S.sA 116 (mm_u (S.A 116) i v)) c))
    ∧ (∀ (E : mm_E) (B : Nat) (S : mm_S) (c : mm_N) (κ : Int32 → mm_R), mm_ln E (mm_hp B S c) (mm_ad B 116) κ = κ (mm_i 12))
    ∧ (∀ (E : mm_E) (B : Nat) (S : mm_S) (c : mm_N) (i : Int) (κ : Int32 → mm_R), 0 ≤ i → i < 40 → mm_rI E (mm_hp B S c) (mm_ad B 117) (mm_i i) κ = κ (mm_i (S.A 117 i)))
    ∧ (∀ (B : Nat) (S : mm_S) (c : mm_N) (i v : Int) (κ : mm_H → mm_R), 0 ≤ i → i < 40 → mm_wI (mm_hp B S c) (mm_ad B 117) (mm_i i) (mm_i v) κ = κ (mm_hp B (S.sA 117 (mm_u (S.A 117) i v)) c))
    ∧ (∀ (E : mm_E) (B : Nat) (S : mm_S) (c : mm_N) (κ : Int32 → mm_R), mm_ln E (mm_hp B S c) (mm_ad B 117) κ = κ (mm_i 40))
    ∧ (∀ (E : mm_E) (B : Nat) (S : mm_S) (c : mm_N) (i : Int) (κ : Int32 → mm_R), 0 ≤ i → i < 41 → mm_rI E (mm_hp B S c) (mm_ad B 118) (mm_i i) κ = κ (mm_i (S.A 118 i)))
    ∧ (∀ (B : Nat) (S : mm_S) (c : mm_N) (i v : Int) (κ : mm_H → mm_R), 0 ≤ i → i < 41 → mm_wI (mm_hp B S c) (mm_ad B 118) (mm_i i) (mm_i v) κ = κ (mm_hp B (S.sA 118 (mm_u (S.A 118) i v)) c))
    ∧ (∀ (E : mm_E) (B : Nat) (S : mm_S) (c : mm_N) (κ : Int32 → mm_R), mm_ln E (mm_hp B S c) (mm_ad B 118) κ = κ (mm_i 41))
    ∧ (∀ (E : mm_E) (B : Nat) (S : mm_S) (c : mm_N) (i : Int) (κ : Int32 → mm_R), 0 ≤ i → i < 190 → mm_rI E (mm_hp B S c) (mm_ad B 119) (mm_i i) κ = κ (mm_i (S.A 119 i)))
    ∧ (∀ (B : Nat) (S : mm_S) (c : mm_N) (i v : Int) (κ : mm_H → mm_R), 0 ≤ i → i < 190 → mm_wI (mm_hp B S c) (mm_ad B 119) (mm_i i) (mm_i v) κ = κ (mm_hp B (S.sA 119 (mm_u (S.A 119) i v)) c))
    ∧ (∀ (E : mm_E) (B : Nat) (S : mm_S) (c : mm_N) (κ : Int32 → mm_R), mm_ln E (mm_hp B S c) (mm_ad B 119) κ = κ (mm_i 190))
    ∧ (∀ (E : mm_E) (B : Nat) (S : mm_S) (c : mm_N) (i : Int) (κ : Int32 → mm_R), 0 ≤ i → i < 12 → mm_rI E (mm_hp B S c) (mm_ad B 120) (mm_i i) κ = κ (mm_i (S.A 120 i)))
    ∧ (∀ (B : Nat) (S : mm_S) (c : mm_N) (i v : Int) (κ : mm_H → mm_R), 0 ≤ i → i < 12 → mm_wI (mm_hp B S c) (mm_ad B 120) (mm_i i) (mm_i v) κ = κ (mm_hp B (S.sA 120 (mm_u (S.A 120) i v)) c))
    ∧ (∀ (E : mm_E) (B : Nat) (S : mm_S) (c : mm_N) (κ : Int32 → mm_R), mm_ln E (mm_hp B S c) (mm_ad B 120) κ = κ (mm_i 12))
    ∧ (∀ (E : mm_E) (B : Nat) (S : mm_S) (c : mm_N) (i : Int) (κ : Int32 → mm_R), 0 ≤ i → i < 480 → mm_rI E (mm_hp B S c) (mm_ad B 121) (mm_i i) κ = κ (mm_i (S.A 121 i)))
    ∧ (∀ (B : Nat) (S : mm_S) (c : mm_N) (i v : Int) (κ : mm_H → mm_R), 0 ≤ i → i < 480 → mm_wI (mm_hp B S c) (mm_ad B 121) (mm_i i) (mm_i v) κ = κ (mm_hp B (S.sA 121 (mm_u (S.A 121) i v)) c))
    ∧ (∀ (E : mm_E) (B : Nat) (S : mm_S) (c : mm_N) (κ : Int32 → mm_R), mm_ln E (mm_hp B S c) (mm_ad B 121) κ = κ (mm_i 480))
    ∧ (∀ (E : mm_E) (B : Nat) (S : mm_S) (c : mm_N) (i : Int) (κ : Int32 → mm_R), 0 ≤ i → i < 400 → mm_rI E (mm_hp B S c) (mm_ad B 122) (mm_i i) κ = κ (mm_i (S.A 122 i)))
    ∧ (∀ (B : Nat) (S : mm_S) (c : mm_N) (i v : Int) (κ : mm_H → mm_R), 0 ≤ i → i < 400 → mm_wI (mm_hp B S c) (mm_ad B 122) (mm_i i) (mm_i v) κ = κ (mm_hp B (S.sA 122 (mm_u (S.A 122) i v)) c))
    ∧ (∀ (E : mm_E) (B : Nat) (S : mm_S) (c : mm_N) (κ : Int32 → mm_R), mm_ln E (mm_hp B S c) (mm_ad B 122) κ = κ (mm_i 400)) := by
  refine ⟨?_, ?_, ?_, ?_, ?_, ?_, ?_, ?_, ?_, ?_, ?_, ?_, ?_, ?_, ?_, ?_, ?_, ?_, ?_, ?_, ?_, ?_, ?_, ?_, ?_, ?_, ?_, ?_, ?_, ?_, ?_, ?_, ?_, ?_, ?_, ?_, ?_, ?_, ?_, ?_, ?_, ?_, ?_, ?_, ?_, ?_, ?_, ?_, ?_, ?_, ?_, ?_, ?_, ?_, ?_, ?_, ?_, ?_, ?_, ?_, ?_, ?_, ?_, ?_, ?_, ?_, ?_, ?_, ?_, ?_, ?_, ?_, ?_, ?_, ?_, ?_, ?_, ?_, ?_, ?_, ?_, ?_, ?_, ?_, ?_, ?_, ?_, ?_, ?_, ?_, ?_, ?_, ?_, ?_, ?_, ?_, ?_, ?_, ?_, ?_, ?_, ?_, ?_, ?_, ?_, ?_, ?_, ?_, ?_, ?_, ?_, ?_, ?_, ?_, ?_, ?_, ?_, ?_, ?_, ?_⟩
  · exact fun B S c κ => mm_pgI rfl rfl κ
  · exact fun B S c v κ => mm_ppI rfl rfl κ
  · exact fun B S c κ => mm_pgR rfl rfl κ
  · exact fun B S c κ => mm_pgR rfl rfl κ
  · exact fun B S c κ => mm_pgR rfl rfl κ
  · exact fun B S c κ => mm_pgI rfl rfl κ
  · exact fun B S c v κ => mm_ppI rfl rfl κ
  · exact fun B S c κ => mm_pgR rfl rfl κ
  · exact fun B S c κ => mm_pgR rfl rfl κ
  · exact fun B S c κ => mm_pgR rfl rfl κ
  · exact fun B S c κ => mm_pgR rfl rfl κ
  · exact fun B S c κ => mm_pgR rfl rfl κ
  · exact fun B S c κ => mm_pgR rfl rfl κ
  · exact fun B S c κ => mm_pgR rfl rfl κ
  · exact fun B S c κ => mm_pgR rfl rfl κ
  · exact fun B S c κ => mm_pgR rfl rfl κ
  · exact fun B S c κ => mm_pgR rfl rfl κ
  · exact fun B S c κ => mm_pgI rfl rfl κ
  · exact fun B S c v κ => mm_ppI rfl rfl κ
  · exact fun B S c κ => mm_pgR rfl rfl κ
  · exact fun B S c κ => mm_pgR rfl rfl κ
  · exact fun B S c κ => mm_pgI rfl rfl κ
  · exact fun B S c v κ => mm_ppI rfl rfl κ
  · exact fun B S c κ => mm_pgR rfl rfl κ
  · exact fun B S c κ => mm_pgR rfl rfl κ
  · exact fun B S c κ => mm_pgR rfl rfl κ
  · exact fun B S c κ => mm_pgR rfl rfl κ
  · exact fun B S c κ => mm_pgR rfl rfl κ
  · exact fun B S c κ => mm_pgI rfl rfl κ
  · exact fun B S c v κ => mm_ppI rfl rfl κ
  · exact fun B S c κ => mm_pgR rfl rfl κ
  · exact fun B S c κ => mm_pgI rfl rfl κ
  · exact fun B S c v κ => mm_ppI rfl rfl κ
  · exact fun B S c κ => mm_pgI rfl rfl κ
  · exact fun B S c v κ => mm_ppI rfl rfl κ
  · exact fun B S c κ => mm_pgI rfl rfl κ
  · exact fun B S c v κ => mm_ppI rfl rfl κ
  · exact fun B S c κ => mm_pgI rfl rfl κ
  · exact fun B S c v κ => mm_ppI rfl rfl κ
  · exact fun B S c κ => mm_pgI rfl rfl κ
  · exact fun B S c v κ => mm_ppI rfl rfl κ
  · exact fun B S c κ => mm_pgI rfl rfl κ
  · exact fun B S c v κ => mm_ppI rfl rfl κ
  · exact fun B S c κ => mm_pgI rfl rfl κ
  · exact fun B S c v κ => mm_ppI rfl rfl κ
  · exact fun B S c κ => mm_pgI rfl rfl κ
  · exact fun B S c v κ => mm_ppI rfl rfl κ
  · exact fun B S c κ => mm_pgI rfl rfl κ
  · exact fun B S c v κ => mm_ppI rfl rfl κ
  · exact fun B S c κ => mm_pgI rfl rfl κ
  · exact fun B S c v κ => mm_ppI rfl rfl κ
  · exact fun B S c κ => mm_pgI rfl rfl κ
  · exact fun B S c v κ => mm_ppI rfl rfl κ
  · exact fun B S c κ => mm_pgI rfl rfl κ
  · exact fun B S c v κ => mm_ppI rfl rfl κ
  · exact fun B S c κ => mm_pgI rfl rfl κ
  · exact fun B S c v κ => mm_ppI rfl rfl κ
  · exact fun E B S c i κ h1 h2 => mm_prI rfl (by decide) h1 h2 κ
  · exact fun B S c i v κ h1 h2 => mm_pwI rfl (by decide) h1 h2 κ
  · exact fun E B S c κ => mm_plI rfl κ
  · exact fun E B S c i κ h1 h2 => mm_prI rfl (by decide) h1 h2 κ
  · exact fun B S c i v κ h1 h2 => mm_pwI rfl (by decide) h1 h2 κ
  · exact fun E B S c κ => mm_plI rfl κ
  · exact fun E B S c i κ h1 h2 => mm_prI rfl (by decide) h1 h2 κ
  · exact fun B S c i v κ h1 h2 => mm_pwI rfl (by decide) h1 h2 κ
  · exact fun E B S c κ => mm_plI rfl κ
  · exact fun E B S c i κ h1 h2 => mm_prI rfl (by decide) h1 h2 κ
  · exact fun B S c i v κ h1 h2 => mm_pwI rfl (by decide) h1 h2 κ
  · exact fun E B S c κ => mm_plI rfl κ
  · exact fun E B S c i κ h1 h2 => mm_prI rfl (by decide) h1 h2 κ
  · exact fun B S c i v κ h1 h2 => mm_pwI rfl (by decide) h1 h2 κ
  · exact fun E B S c κ => mm_plI rfl κ
  · exact fun E B S c i κ h1 h2 => mm_prI rfl (by decide) h1 h2 κ
  · exact fun B S c i v κ h1 h2 => mm_pwI rfl (by decide) h1 h2 κ
  · exact fun E B S c κ => mm_plI rfl κ
  · exact fun E B S c i κ h1 h2 => mm_prI rfl (by decide) h1 h2 κ
  · exact fun B S c i v κ h1 h2 => mm_pwI rfl (by decide) h1 h2 κ
  · exact fun E B S c κ => mm_plI rfl κ
  · exact fun E B S c i κ h1 h2 => mm_prI rfl (by decide) h1 h2 κ
  · exact fun B S c i v κ h1 h2 => mm_pwI rfl (by decide) h1 h2 κ
  · exact fun E B S c κ => mm_plI rfl κ
  · exact fun E B S c i κ h1 h2 => mm_prI rfl (by decide) h1 h2 κ
  · exact fun B S c i v κ h1 h2 => mm_pwI rfl (by decide) h1 h2 κ
  · exact fun E B S c κ => mm_plI rfl κ
  · exact fun E B S c i κ h1 h2 => mm_prI rfl (by decide) h1 h2 κ
  · exact fun B S c i v κ h1 h2 => mm_pwI rfl (by decide) h1 h2 κ
  · exact fun E B S c κ => mm_plI rfl κ
  · exact fun E B S c i κ h1 h2 => mm_prI rfl (by decide) h1 h2 κ
  · exact fun B S c i v κ h1 h2 => mm_pwI rfl (by decide) h1 h2 κ
  · exact fun E B S c κ => mm_plI rfl κ
  · exact fun E B S c i κ h1 h2 => mm_prI rfl (by decide) h1 h2 κ
  · exact fun B S c i v κ h1 h2 => mm_pwI rfl (by decide) h1 h2 κ
  · exact fun E B S c κ => mm_plI rfl κ
  · exact fun E B S c i κ h1 h2 => mm_prI rfl (by decide) h1 h2 κ
  · exact fun B S c i v κ h1 h2 => mm_pwI rfl (by decide) h1 h2 κ
  · exact fun E B S c κ => mm_plI rfl κ
  · exact fun E B S c i κ h1 h2 => mm_prI rfl (by decide) h1 h2 κ
  · exact fun B S c i v κ h1 h2 => mm_pwI rfl (by decide) h1 h2 κ
  · exact fun E B S c κ => mm_plI rfl κ
  · exact fun E B S c i κ h1 h2 => mm_prI rfl (by decide) h1 h2 κ
  · exact fun B S c i v κ h1 h2 => mm_pwI rfl (by decide) h1 h2 κ
  · exact fun E B S c κ => mm_plI rfl κ
  · exact fun E B S c i κ h1 h2 => mm_prI rfl (by decide) h1 h2 κ
  · exact fun B S c i v κ h1 h2 => mm_pwI rfl (by decide) h1 h2 κ
  · exact fun E B S c κ => mm_plI rfl κ
  · exact fun E B S c i κ h1 h2 => mm_prI rfl (by decide) h1 h2 κ
  · exact fun B S c i v κ h1 h2 => mm_pwI rfl (by decide) h1 h2 κ
  · exact fun E B S c κ => mm_plI rfl κ
  · exact fun E B S c i κ h1 h2 => mm_prI rfl (by decide) h1 h2 κ
  · exact fun B S c i v κ h1 h2 => mm_pwI rfl (by decide) h1 h2 κ
  · exact fun E B S c κ => mm_plI rfl κ
  · exact fun E B S c i κ h1 h2 => mm_prI rfl (by decide) h1 h2 κ
  · exact fun B S c i v κ h1 h2 => mm_pwI rfl (by decide) h1 h2 κ
  · exact fun E B S c κ => mm_plI rfl κ
  · exact fun E B S c i κ h1 h2 => mm_prI rfl (by decide) h1 h2 κ
  · exact fun B S c i v κ h1 h2 => mm_pwI rfl (by decide) h1 h2 κ
  · exact fun E B S c κ => mm_plI rfl κ
  · exact fun E B S c i κ h1 h2 => mm_prI rfl (by decide) h1 h2 κ
  · exact fun B S c i v κ h1 h2 => mm_pwI rfl (by decide) h1 h2 κ
  · exact fun E B S c κ => mm_plI rfl κ
theorem mm_ptO : (∀ (B : Nat) (S : mm_S) (c : mm_N) (i : Int) (κ : Int64 → mm_R), 0 ≤ i → i < 1 → mm_rJ (mm_hp B S c) (mm_ad B 123) (mm_i i) κ = κ (mm_j (S.L 123 i)))
    ∧ (∀ (B : Nat) (S : mm_S) (c : mm_N) (i v : Int) (κ : mm_H → mm_R), 0 ≤ i → i < 1 → mm_wJ (mm_hp B S c) (mm_ad B 123) (mm_i i) (mm_j v) κ = κ (mm_hp B (S.sL 123 (mm_u (S.L 123) i v)) c)) := by
  refine ⟨?_, ?_⟩
  · exact fun B S c i κ h1 h2 => mm_prJ rfl (by decide) h1 h2 κ
  · exact fun B S c i v κ h1 h2 => mm_pwJ rfl (by decide) h1 h2 κ
theorem mm_shN {a : Nat} (h : a = 3 ∨ a = 14 ∨ a = 25) : mm_sh a = some (.inl (3, [a + 1 + 2, a + 2 + 2, a + 3 + 2, a + 4 + 2, a + 5 + 2, a + 6 + 2, a + 7 + 2, a + 8 + 2, a + 9 + 2, a + 10 + 2, 0, 0, 0])) := by
  rcases h with rfl | rfl | rfl <;> rfl
theorem mm_shN1 {a : Nat} (h : a = 3 ∨ a = 14 ∨ a = 25) : mm_sh (a + 1) = some (.inr (.inl 84)) := by
  rcases h with rfl | rfl | rfl <;> rfl
theorem mm_shN2 {a : Nat} (h : a = 3 ∨ a = 14 ∨ a = 25) : mm_sh (a + 2) = some (.inr (.inl 72)) := by
  rcases h with rfl | rfl | rfl <;> rfl
theorem mm_shN3 {a : Nat} (h : a = 3 ∨ a = 14 ∨ a = 25) : mm_sh (a + 3) = some (.inr (.inl 12)) := by
  rcases h with rfl | rfl | rfl <;> rfl
theorem mm_shN4 {a : Nat} (h : a = 3 ∨ a = 14 ∨ a = 25) : mm_sh (a + 4) = some (.inr (.inl 12)) := by
  rcases h with rfl | rfl | rfl <;> rfl
theorem mm_shN5 {a : Nat} (h : a = 3 ∨ a = 14 ∨ a = 25) : mm_sh (a + 5) = some (.inr (.inl 12)) := by
  rcases h with rfl | rfl | rfl <;> rfl
theorem mm_shN6 {a : Nat} (h : a = 3 ∨ a = 14 ∨ a = 25) : mm_sh (a + 6) = some (.inr (.inl 480)) := by
  rcases h with rfl | rfl | rfl <;> rfl
theorem mm_shN7 {a : Nat} (h : a = 3 ∨ a = 14 ∨ a = 25) : mm_sh (a + 7) = some (.inr (.inl 12)) := by
  rcases h with rfl | rfl | rfl <;> rfl
theorem mm_shN8 {a : Nat} (h : a = 3 ∨ a = 14 ∨ a = 25) : mm_sh (a + 8) = some (.inr (.inl 12)) := by
  rcases h with rfl | rfl | rfl <;> rfl
theorem mm_shN9 {a : Nat} (h : a = 3 ∨ a = 14 ∨ a = 25) : mm_sh (a + 9) = some (.inr (.inl 12)) := by
  rcases h with rfl | rfl | rfl <;> rfl
theorem mm_shN10 {a : Nat} (h : a = 3 ∨ a = 14 ∨ a = 25) : mm_sh (a + 10) = some (.inr (.inl 12)) := by
  rcases h with rfl | rfl | rfl <;> rfl
theorem mm_ptN : (∀ (B : Nat) (S : mm_S) (c : mm_N) (a : Nat) (κ : Nat → mm_R), (a = 3 ∨ a = 14 ∨ a = 25) → mm_gR (mm_hp B S c) (mm_ad B a) 3 0 κ = κ (mm_ad B (a + 1)))
    ∧ (∀ (B : Nat) (S : mm_S) (c : mm_N) (a : Nat) (κ : Nat → mm_R), (a = 3 ∨ a = 14 ∨ a = 25) → mm_gR (mm_hp B S c) (mm_ad B a) 3 1 κ = κ (mm_ad B (a + 2)))
    ∧ (∀ (B : Nat) (S : mm_S) (c : mm_N) (a : Nat) (κ : Nat → mm_R), (a = 3 ∨ a = 14 ∨ a = 25) → mm_gR (mm_hp B S c) (mm_ad B a) 3 2 κ = κ (mm_ad B (a + 3)))
    ∧ (∀ (B : Nat) (S : mm_S) (c : mm_N) (a : Nat) (κ : Nat → mm_R), (a = 3 ∨ a = 14 ∨ a = 25) → mm_gR (mm_hp B S c) (mm_ad B a) 3 3 κ = κ (mm_ad B (a + 4)))
    ∧ (∀ (B : Nat) (S : mm_S) (c : mm_N) (a : Nat) (κ : Nat → mm_R), (a = 3 ∨ a = 14 ∨ a = 25) → mm_gR (mm_hp B S c) (mm_ad B a) 3 4 κ = κ (mm_ad B (a + 5)))
    ∧ (∀ (B : Nat) (S : mm_S) (c : mm_N) (a : Nat) (κ : Nat → mm_R), (a = 3 ∨ a = 14 ∨ a = 25) → mm_gR (mm_hp B S c) (mm_ad B a) 3 5 κ = κ (mm_ad B (a + 6)))
    ∧ (∀ (B : Nat) (S : mm_S) (c : mm_N) (a : Nat) (κ : Nat → mm_R), (a = 3 ∨ a = 14 ∨ a = 25) → mm_gR (mm_hp B S c) (mm_ad B a) 3 6 κ = κ (mm_ad B (a + 7)))
    ∧ (∀ (B : Nat) (S : mm_S) (c : mm_N) (a : Nat) (κ : Nat → mm_R), (a = 3 ∨ a = 14 ∨ a = 25) → mm_gR (mm_hp B S c) (mm_ad B a) 3 7 κ = κ (mm_ad B (a + 8)))
    ∧ (∀ (B : Nat) (S : mm_S) (c : mm_N) (a : Nat) (κ : Nat → mm_R), (a = 3 ∨ a = 14 ∨ a = 25) → mm_gR (mm_hp B S c) (mm_ad B a) 3 8 κ = κ (mm_ad B (a + 9)))
    ∧ (∀ (B : Nat) (S : mm_S) (c : mm_N) (a : Nat) (κ : Nat → mm_R), (a = 3 ∨ a = 14 ∨ a = 25) → mm_gR (mm_hp B S c) (mm_ad B a) 3 9 κ = κ (mm_ad B (a + 10)))
    ∧ (∀ (B : Nat) (S : mm_S) (c : mm_N) (a : Nat) (κ : Int32 → mm_R), (a = 3 ∨ a = 14 ∨ a = 25) → mm_gI (mm_hp B S c) (mm_ad B a) 3 10 κ = κ (mm_i (S.I a 10)))
    ∧ (∀ (B : Nat) (S : mm_S) (c : mm_N) (a : Nat) (v : Int) (κ : mm_H → mm_R), (a = 3 ∨ a = 14 ∨ a = 25) → mm_pF (mm_hp B S c) (mm_ad B a) 3 10 (.int (mm_i v)) κ = κ (mm_hp B (S.sI a 10 v) c))
    ∧ (∀ (B : Nat) (S : mm_S) (c : mm_N) (a : Nat) (κ : Int32 → mm_R), (a = 3 ∨ a = 14 ∨ a = 25) → mm_gI (mm_hp B S c) (mm_ad B a) 3 11 κ = κ (mm_i (S.I a 11)))
    ∧ (∀ (B : Nat) (S : mm_S) (c : mm_N) (a : Nat) (v : Int) (κ : mm_H → mm_R), (a = 3 ∨ a = 14 ∨ a = 25) → mm_pF (mm_hp B S c) (mm_ad B a) 3 11 (.int (mm_i v)) κ = κ (mm_hp B (S.sI a 11 v) c))
    ∧ (∀ (B : Nat) (S : mm_S) (c : mm_N) (a : Nat) (κ : Int32 → mm_R), (a = 3 ∨ a = 14 ∨ a = 25) → mm_gI (mm_hp B S c) (mm_ad B a) 3 12 κ = κ (mm_i (S.I a 12)))
    ∧ (∀ (B : Nat) (S : mm_S) (c : mm_N) (a : Nat) (v : Int) (κ : mm_H → mm_R), (a = 3 ∨ a = 14 ∨ a = 25) → mm_pF (mm_hp B S c) (mm_ad B a) 3 12 (.int (mm_i v)) κ = κ (mm_hp B (S.sI a 12 v) c))
    ∧ (∀ (E : mm_E) (B : Nat) (S : mm_S) (c : mm_N) (a : Nat) (i : Int) (κ : Int32 → mm_R), (a = 3 ∨ a = 14 ∨ a = 25) → 0 ≤ i → i < 84 → mm_rI E (mm_hp B S c) (mm_ad B (a + 1)) (mm_i i) κ = κ (mm_i (S.A (a + 1) i)))
    ∧ (∀ (B : Nat) (S : mm_S) (c : mm_N) (a : Nat) (i v : Int) (κ : mm_H → mm_R), (a = 3 ∨ a = 14 ∨ a = 25) → 0 ≤ i → i < 84 → mm_wI (mm_hp B S c) (mm_ad B (a + 1)) (mm_i i) (mm_i v) κ = κ (mm_hp B (S.sA (a + 1) (mm_u (S.A (a + 1)) i v)) c))
    ∧ (∀ (E : mm_E) (B : Nat) (S : mm_S) (c : mm_N) (a : Nat) (κ : Int32 → mm_R), (a = 3 ∨ a = 14 ∨ a = 25) → mm_ln E (mm_hp B S c) (mm_ad B (a + 1)) κ = κ (mm_i 84))
    ∧ (∀ (E : mm_E) (B : Nat) (S : mm_S) (c : mm_N) (a : Nat) (i : Int) (κ : Int32 → mm_R), (a = 3 ∨ a = 14 ∨ a = 25) → 0 ≤ i → i < 72 → mm_rI E (mm_hp B S c) (mm_ad B (a + 2)) (mm_i i) κ = κ (mm_i (S.A (a + 2) i)))
    ∧ (∀ (B : Nat) (S : mm_S) (c : mm_N) (a : Nat) (i v : Int) (κ : mm_H → mm_R), (a = 3 ∨ a = 14 ∨ a = 25) → 0 ≤ i → i < 72 → mm_wI (mm_hp B S c) (mm_ad B (a + 2)) (mm_i i) (mm_i v) κ = κ (mm_hp B (S.sA (a + 2) (mm_u (S.A (a + 2)) i v)) c))
    ∧ (∀ (E : mm_E) (B : Nat) (S : mm_S) (c : mm_N) (a : Nat) (κ : Int32 → mm_R), (a = 3 ∨ a = 14 ∨ a = 25) → mm_ln E (mm_hp B S c) (mm_ad B (a + 2)) κ = κ (mm_i 72))
    ∧ (∀ (E : mm_E) (B : Nat) (S : mm_S) (c : mm_N) (a : Nat) (i : Int) (κ : Int32 → mm_R), (a = 3 ∨ a = 14 ∨ a = 25) → 0 ≤ i → i < 12 → mm_rI E (mm_hp B S c) (mm_ad B (a + 3)) (mm_i i) κ = κ (mm_i (S.A (a + 3) i)))
    ∧ (∀ (B : Nat) (S : mm_S) (c : mm_N) (a : Nat) (i v : Int) (κ : mm_H → mm_R), (a = 3 ∨ a = 14 ∨ a = 25) → 0 ≤ i → i < 12 → mm_wI (mm_hp B S c) (mm_ad B (a + 3)) (mm_i i) (mm_i v) κ = κ (mm_hp B (S.sA (a + 3) (mm_u (S.A (a + 3)) i v)) c))
    ∧ (∀ (E : mm_E) (B : Nat) (S : mm_S) (c : mm_N) (a : Nat) (κ : Int32 → mm_R), (a = 3 ∨ a = 14 ∨ a = 25) → mm_ln E (mm_hp B S c) (mm_ad B (a + 3)) κ = κ (mm_i 12))
    ∧ (∀ (E : mm_E) (B : Nat) (S : mm_S) (c : mm_N) (a : Nat) (i : Int) (κ : Int32 → mm_R), (a = 3 ∨ a = 14 ∨ a = 25) → 0 ≤ i → i < 12 → mm_rI E (mm_hp B S c) (mm_ad B (a + 4)) (mm_i i) κ = κ (mm_i (S.A (a + 4) i)))
    ∧ (∀ (B : Nat) (S : mm_S) (c : mm_N) (a : Nat) (i v : Int) (κ : mm_H → mm_R), (a = 3 ∨ a = 14 ∨ a = 25) → 0 ≤ i → i < 12 → mm_wI (mm_hp B S c) (mm_ad B (a + 4)) (mm_i i) (mm_i v) κ = κ (mm_hp B (S.sA (a + 4) (mm_u (S.A (a + 4)) i v)) c))
    ∧ (∀ (E : mm_E) (B : Nat) (S : mm_S) (c : mm_N) (a : Nat) (κ : Int32 → mm_R), (a = 3 ∨ a = 14 ∨ a = 25) → mm_ln E (mm_hp B S c) (mm_ad B (a + 4)) κ = κ (mm_i 12))
    ∧ (∀ (E : mm_E) (B : Nat) (S : mm_S) (c : mm_N) (a : Nat) (i : Int) (κ : Int32 → mm_R), (a = 3 ∨ a = 14 ∨ a = 25) → 0 ≤ i → i < 12 → mm_rI E (mm_hp B S c) (mm_ad B (a + 5)) (mm_i i) κ = κ (mm_i (S.A (a + 5) i)))
    ∧ (∀ (B : Nat) (S : mm_S) (c : mm_N) (a : Nat) (i v : Int) (κ : mm_H → mm_R), (a = 3 ∨ a = 14 ∨ a = 25) → 0 ≤ i → i < 12 → mm_wI (mm_hp B S c) (mm_ad B (a + 5)) (mm_i i) (mm_i v) κ = κ (mm_hp B (S.sA (a + 5) (mm_u (S.A (a + 5)) i v)) c))
    ∧ (∀ (E : mm_E) (B : Nat) (S : mm_S) (c : mm_N) (a : Nat) (κ : Int32 → mm_R), (a = 3 ∨ a = 14 ∨ a = 25) → mm_ln E (mm_hp B S c) (mm_ad B (a + 5)) κ = κ (mm_i 12))
    ∧ (∀ (E : mm_E) (B : Nat) (S : mm_S) (c : mm_N) (a : Nat) (i : Int) (κ : Int32 → mm_R), (a = 3 ∨ a = 14 ∨ a = 25) → 0 ≤ i → i < 480 → mm_rI E (mm_hp B S c) (mm_ad B (a + 6)) (mm_i i) κ = κ (mm_i (S.A (a + 6) i)))
    ∧ (∀ (B : Nat) (S : mm_S) (c : mm_N) (a : Nat) (i v : Int) (κ : mm_H → mm_R), (a = 3 ∨ a = 14 ∨ a = 25) → 0 ≤ i → i < 480 → mm_wI (mm_hp B S c) (mm_ad B (a + 6)) (mm_i i) (mm_i v) κ = κ (mm_hp B (S.sA (a + 6) (mm_u (S.A (a + 6)) i v)) c))
    ∧ (∀ (E : mm_E) (B : Nat) (S : mm_S) (c : mm_N) (a : Nat) (κ : Int32 → mm_R), (a = 3 ∨ a = 14 ∨ a = 25) → mm_ln E (mm_hp B S c) (mm_ad B (a + 6)) κ = κ (mm_i 480))
    ∧ (∀ (E : mm_E) (B : Nat) (S : mm_S) (c : mm_N) (a : Nat) (i : Int) (κ : Int32 → mm_R), (a = 3 ∨ a = 14 ∨ a = 25) → 0 ≤ i → i < 12 → mm_rI E (mm_hp B S c) (mm_ad B (a + 7)) (mm_i i) κ = κ (mm_i (S.A (a + 7) i)))
    ∧ (∀ (B : Nat) (S : mm_S) (c : mm_N) (a : Nat) (i v : Int) (κ : mm_H → mm_R), (a = 3 ∨ a = 14 ∨ a = 25) → 0 ≤ i → i < 12 → mm_wI (mm_hp B S c) (mm_ad B (a + 7)) (mm_i i) (mm_i v) κ = κ (mm_hp B (S.sA (a + 7) (mm_u (S.A (a + 7)) i v)) c))
    ∧ (∀ (E : mm_E) (B : Nat) (S : mm_S) (c : mm_N) (a : Nat) (κ : Int32 → mm_R), (a = 3 ∨ a = 14 ∨ a = 25) → mm_ln E (mm_hp B S c) (mm_ad B (a + 7)) κ = κ (mm_i 12))
    ∧ (∀ (E : mm_E) (B : Nat) (S : mm_S) (c : mm_N) (a : Nat) (i : Int) (κ : Int32 → mm_R), (a = 3 ∨ a = 14 ∨ a = 25) → 0 ≤ i → i < 12 → mm_rI E (mm_hp B S c) (mm_ad B (a + 8)) (mm_i i) κ = κ (mm_i (S.A (a + 8) i)))
    ∧ (∀ (B : Nat) (S : mm_S) (c : mm_N) (a : Nat) (i v : Int) (κ : mm_H → mm_R), (a = 3 ∨ a = 14 ∨ a = 25) → 0 ≤ i → i < 12 → mm_wI (mm_hp B S c) (mm_ad B (a + 8)) (mm_i i) (mm_i v) κ = κ (mm_hp B (S.sA (a + 8) (mm_u (S.A (a + 8)) i v)) c))
    ∧ (∀ (E : mm_E) (B : Nat) (S : mm_S) (c : mm_N) (a : Nat) (κ : Int32 → mm_R), (a = 3 ∨ a = 14 ∨ a = 25) → mm_ln E (mm_hp B S c) (mm_ad B (a + 8)) κ = κ (mm_i 12))
    ∧ (∀ (E : mm_E) (B : Nat) (S : mm_S) (c : mm_N) (a : Nat) (i : Int) (κ : Int32 → mm_R), (a = 3 ∨ a = 14 ∨ a = 25) → 0 ≤ i → i < 12 → mm_rI E (mm_hp B S c) (mm_ad B (a + 9)) (mm_i i) κ = κ (mm_i (S.A (a + 9) i)))
    ∧ (∀ (B : Nat) (S : mm_S) (c : mm_N) (a : Nat) (i v : Int) (κ : mm_H → mm_R), (a = 3 ∨ a = 14 ∨ a = 25) → 0 ≤ i → i < 12 → mm_wI (mm_hp B S c) (mm_ad B (a + 9)) (mm_i i) (mm_i v) κ = κ (mm_hp B (S.sA (a + 9) (mm_u (S.A (a + 9)) i v)) c))
    ∧ (∀ (E : mm_E) (B : Nat) (S : mm_S) (c : mm_N) (a : Nat) (κ : Int32 → mm_R), (a = 3 ∨ a = 14 ∨ a = 25) → mm_ln E (mm_hp B S c) (mm_ad B (a + 9)) κ = κ (mm_i 12))
    ∧ (∀ (E : mm_E) (B : Nat) (S : mm_S) (c : mm_N) (a : Nat) (i : Int) (κ : Int32 → mm_R), (a = 3 ∨ a = 14 ∨ a = 25) → 0 ≤ i → i < 12 → mm_rI E (mm_hp B S c) (mm_ad B (a + 10)) (mm_i i) κ = κ (mm_i (S.A (a + 10) i)))
    ∧ (∀ (B : Nat) (S : mm_S) (c : mm_N) (a : Nat) (i v : Int) (κ : mm_H → mm_R), (a = 3 ∨ a = 14 ∨ a = 25) → 0 ≤ i → i < 12 → mm_wI (mm_hp B S c) (mm_ad B (a + 10)) (mm_i i) (mm_i v) κ = κ (mm_hp B (S.sA (a + 10) (mm_u (S.A (a + 10)) i v)) c))
    ∧ (∀ (E : mm_E) (B : Nat) (S : mm_S) (c : mm_N) (a : Nat) (κ : Int32 → mm_R), (a = 3 ∨ a = 14 ∨ a = 25) → mm_ln E (mm_hp B S c) (mm_ad B (a + 10)) κ = κ (mm_i 12)) := by
  refine ⟨?_, ?_, ?_, ?_, ?_, ?_, ?_, ?_, ?_, ?_, ?_, ?_, ?_, ?_, ?_, ?_, ?_, ?_, ?_, ?_, ?_, ?_, ?_, ?_, ?_, ?_, ?_, ?_, ?_, ?_, ?_, ?_, ?_, ?_, ?_, ?_, ?_, ?_, ?_, ?_, ?_, ?_, ?_, ?_, ?_, ?_⟩
  · exact fun B S c a κ h => mm_pgR (mm_shN h) rfl κ
  · exact fun B S c a κ h => mm_pgR (mm_shN h) rfl κ
  · exact fun B S c a κ h => mm_pgR (mm_shN h) rfl κ
  · exact fun B S c a κ h => mm_pgR (mm_shN h) rfl κ
  · exact fun B S c a κ h => mm_pgR (mm_shN h) rfl κ
  · exact fun B S c a κ h => mm_pgR (mm_shN h) rfl κ
  · exact fun B S c a κ h => mm_pgR (mm_shN h) rfl κ
  · exact fun B S c a κ h => mm_pgR (mm_shN h) rfl κ
  · exact fun B S c a κ h => mm_pgR (mm_shN h) rfl κ
  · exact fun B S c a κ h => mm_pgR (mm_shN h) rfl κ
  · exact fun B S c a κ h => mm_pgI (mm_shN h) rfl κ
  · exact fun B S c a v κ h => mm_ppI (mm_shN h) rfl κ
  · exact fun B S c a κ h => mm_pgI (mm_shN h) rfl κ
  · exact fun B S c a v κ h => mm_ppI (mm_shN h) rfl κ
  · exact fun B S c a κ h => mm_pgI (mm_shN h) rfl κ
  · exact fun B S c a v κ h => mm_ppI (mm_shN h) rfl κ
  · exact fun E B S c a i κ h h1 h2 => mm_prI (mm_shN1 h) (by decide) h1 h2 κ
  · exact fun B S c a i v κ h h1 h2 => mm_pwI (mm_shN1 h) (by decide) h1 h2 κ
  · exact fun E B S c a κ h => mm_plI (mm_shN1 h) κ
  · exact fun E B S c a i κ h h1 h2 => mm_prI (mm_shN2 h) (by decide) h1 h2 κ
  · exact fun B S c a i v κ h h1 h2 => mm_pwI (mm_shN2 h) (by decide) h1 h2 κ
  · exact fun E B S c a κ h => mm_plI (mm_shN2 h) κ
  · exact fun E B S c a i κ h h1 h2 => mm_prI (mm_shN3 h) (by decide) h1 h2 κ
  · exact fun B S c a i v κ h h1 h2 => mm_pwI (mm_shN3 h) (by decide) h1 h2 κ
  · exact fun E B S c a κ h => mm_plI (mm_shN3 h) κ
  · exact fun E B S c a i κ h h1 h2 => mm_prI (mm_shN4 h) (by decide) h1 h2 κ
  · exact fun B S c a i v κ h h1 h2 => mm_pwI (mm_shN4 h) (by decide) h1 h2 κ
  · exact fun E B S c a κ h => mm_plI (mm_shN4 h) κ
  · exact fun E B S c a i κ h h1 h2 => mm_prI (mm_shN5 h) (by decide) h1 h2 κ
  · exact fun B S c a i v κ h h1 h2 => mm_pwI (mm_shN5 h) (by decide) h1 h2 κ
  · exact fun E B S c a κ h => mm_plI (mm_shN5 h) κ
  · exact fun E B S c a i κ h h1 h2 => mm_prI (mm_shN6 h) (by decide) h1 h2 κ
  · exact fun B S c a i v κ h h1 h2 => mm_pwI (mm_shN6 h) (by decide) h1 h2 κ
  · exact fun E B S c a κ h => mm_plI (mm_shN6 h) κ
  · exact fun E B S c a i κ h h1 h2 => mm_prI (mm_shN7 h) (by decide) h1 h2 κ
  · exact fun B S c a i v κ h h1 h2 => mm_pwI (mm_shN7 h) (by decide) h1 h2 κ
  · exact fun E B S c a κ h => mm_plI (mm_shN7 h) κ
  · exact fun E B S c a i κ h h1 h2 => mm_prI (mm_shN8 h) (by decide) h1 h2 κ
  · exact fun B S c a i v κ h h1 h2 => mm_pwI (mm_shN8 h) (by decide) h1 h2 κ
  · exact fun E B S c a κ h => mm_plI (mm_shN8 h) κ
  · exact fun E B S c a i κ h h1 h2 => mm_prI (mm_shN9 h) (by decide) h1 h2 κ
  · exact fun B S c a i v κ h h1 h2 => mm_pwI (mm_shN9 h) (by decide) h1 h2 κ
  · exact fun E B S c a κ h => mm_plI (mm_shN9 h) κ
  · exact fun E B S c a i κ h h1 h2 => mm_prI (mm_shN10 h) (by decide) h1 h2 κ
  · exact fun B S c a i v κ h h1 h2 => mm_pwI (mm_shN10 h) (by decide) h1 h2 κ
  · exact fun E B S c a κ h => mm_plI (mm_shN10 h) κ
theorem mm_shR_all : (List.range 91).all (fun a => bif decide (42 ≤ a ∧ a ≤ 90 ∧ a % 3 = 0 ∧ a ≠ 54) then decide (mm_sh a = some (.inl (5, [a + 1 + 2, a + 2 + 2]))) && (bif Nat.beq a 51 then true else decide (mm_sh (a + 1) = some (.inr (.inr (.inl 120)))) && decide (mm_sh (a + 2) = some (.inr (.inr (.inl 120))))) else true) = true := by decide +kernel
theorem mm_shR {a : Nat} (h : (42 ≤ a ∧ a ≤ 90 ∧ a % 3 = 0 ∧ a ≠ 54)) : mm_sh a = some (.inl (5, [a + 1 + 2, a + 2 + 2])) := by
  have g := List.all_eq_true.mp mm_shR_all a (List.mem_range.mpr (by omega))
  rw [decide_eq_true h] at g
  exact of_decide_eq_true (Bool.and_eq_true_iff.mp g).1
theorem mm_shRR {a : Nat} (h : (42 ≤ a ∧ a ≤ 90 ∧ a % 3 = 0 ∧ a ≠ 51 ∧ a ≠ 54)) : mm_sh (a + 1) = some (.inr (.inr (.inl 120))) ∧ mm_sh (a + 2) = some (.inr (.inr (.inl 120))) := by
  have g := List.all_eq_true.mp mm_shR_all a (List.mem_range.mpr (by omega))
  rw [decide_eq_true (by omega : (42 ≤ a ∧ a ≤ 90 ∧ a % 3 = 0 ∧ a ≠ 54))] at g
  have g := (Bool.and_eq_true_iff.mp g).2
  rw [show Nat.beq a 51 = false from Bool.eq_false_iff.mpr (fun z => absurd (Nat.eq_of_beq_eq_true z) (by omega))] at g
  exact ⟨of_decide_eq_true (Bool.and_eq_true_iff.mp g).1, of_decide_eq_true (Bool.and_eq_true_iff.mp g).2⟩
theorem mm_ptR : (∀ (B : Nat) (S : mm_S) (c : mm_N) (a : Nat) (κ : Nat → mm_R), (42 ≤ a ∧ a ≤ 90 ∧ a % 3 = 0 ∧ a ≠ 54) → mm_gR (mm_hp B S c) (mm_ad B a) 5 0 κ = κ (mm_ad B (a + 1)))
    ∧ (∀ (B : Nat) (S : mm_S) (c : mm_N) (a : Nat) (κ : Nat → mm_R), (42 ≤ a ∧ a ≤ 90 ∧ a % 3 = 0 ∧ a ≠ 54) → mm_gR (mm_hp B S c) (mm_ad B a) 5 1 κ = κ (mm_ad B (a + 2)))
    ∧ (∀ (B : Nat) (S : mm_S) (c : mm_N) (a : Nat) (i : Int) (κ : Int64 → mm_R), (42 ≤ a ∧ a ≤ 90 ∧ a % 3 = 0 ∧ a ≠ 51 ∧ a ≠ 54) → 0 ≤ i → i < 120 → mm_rJ (mm_hp B S c) (mm_ad B (a + 1)) (mm_i i) κ = κ (mm_j (S.L (a + 1) i)))
    ∧ (∀ (B : Nat) (S : mm_S) (c : mm_N) (a : Nat) (i v : Int) (κ : mm_H → mm_R), (42 ≤ a ∧ a ≤ 90 ∧ a % 3 = 0 ∧ a ≠ 51 ∧ a ≠ 54) → 0 ≤ i → i < 120 → mm_wJ (mm_hp B S c) (mm_ad B (a + 1)) (mm_i i) (mm_j v) κ = κ (mm_hp B (S.sL (a + 1) (mm_u (S.L (a + 1)) i v)) c))
    ∧ (∀ (B : Nat) (S : mm_S) (c : mm_N) (a : Nat) (i : Int) (κ : Int64 → mm_R), (42 ≤ a ∧ a ≤ 90 ∧ a % 3 = 0 ∧ a ≠ 51 ∧ a ≠ 54) → 0 ≤ i → i < 120 → mm_rJ (mm_hp B S c) (mm_ad B (a + 2)) (mm_i i) κ = κ (mm_j (S.L (a + 2) i)))
    ∧ (∀ (B : Nat) (S : mm_S) (c : mm_N) (a : Nat) (i v : Int) (κ : mm_H → mm_R), (42 ≤ a ∧ a ≤ 90 ∧ a % 3 = 0 ∧ a ≠ 51 ∧ a ≠ 54) → 0 ≤ i → i < 120 → mm_wJ (mm_hp B S c) (mm_ad B (a + 2)) (mm_i i) (mm_j v) κ = κ (mm_hp B (S.sL (a + 2) (mm_u (S.L (a + 2)) i v)) c))
    ∧ (∀ (B : Nat) (S : mm_S) (c : mm_N) (i : Int) (κ : Int64 → mm_R), 0 ≤ i → i < 1 → mm_rJ (mm_hp B S c) (mm_ad B 52) (mm_i i) κ = κ (mm_j (S.L 52 i)))
    ∧ (∀ (B : Nat) (S : mm_S) (c : mm_N) (i v : Int) (κ : mm_H → mm_R), 0 ≤ i → i < 1 → mm_wJ (mm_hp B S c) (mm_ad B 52) (mm_i i) (mm_j v) κ = κ (mm_hp B (S.sL 52 (mm_u (S.L 52) i v)) c))
    ∧ (∀ (B : Nat) (S : mm_S) (c : mm_N) (i : Int) (κ : Int64 → mm_R), 0 ≤ i → i < 1 → mm_rJ (mm_hp B S c) (mm_ad B 53) (mm_i i) κ = κ (mm_j (S.L 53 i)))
    ∧ (∀ (B : Nat) (S : mm_S) (c : mm_N) (i v : Int) (κ : mm_H → mm_R), 0 ≤ i → i < 1 → mm_wJ (mm_hp B S c) (mm_ad B 53) (mm_i i) (mm_j v) κ = κ (mm_hp B (S.sL 53 (mm_u (S.L 53) i v)) c)) := by
  refine ⟨?_, ?_, ?_, ?_, ?_, ?_, ?_, ?_, ?_, ?_⟩
  · exact fun B S c a κ h => mm_pgR (mm_shR h) rfl κ
  · exact fun B S c a κ h => mm_pgR (mm_shR h) rfl κ
  · exact fun B S c a i κ h h1 h2 => mm_prJ (mm_shRR h).1 (by decide) h1 h2 κ
  · exact fun B S c a i v κ h h1 h2 => mm_pwJ (mm_shRR h).1 (by decide) h1 h2 κ
  · exact fun B S c a i κ h h1 h2 => mm_prJ (mm_shRR h).2 (by decide) h1 h2 κ
  · exact fun B S c a i v κ h h1 h2 => mm_pwJ (mm_shRR h).2 (by decide) h1 h2 κ
  · exact fun B S c i κ h1 h2 => mm_prJ rfl (by decide) h1 h2 κ
  · exact fun B S c i v κ h1 h2 => mm_pwJ rfl (by decide) h1 h2 κ
  · exact fun B S c i κ h1 h2 => mm_prJ rfl (by decide) h1 h2 κ
  · exact fun B S c i v κ h1 h2 => mm_pwJ rfl (by decide) h1 h2 κ
theorem mm_ptRR (B : Nat) (S : mm_S) (c : mm_N) (s : Int) (κ : Nat → mm_R) (h0 : 0 ≤ s) (h1 : s < 12) : mm_rR (mm_hp B S c) (mm_ad B 41) (mm_i s) κ = κ (mm_ad B (57 + 3 * s.toNat)) := by
  refine mm_prR (l := [57, 60, 63, 66, 69, 72, 75, 78, 81, 84, 87, 90]) rfl (by decide) h0 ?_ κ
  have g : ∀ k, k < 12 → ([57, 60, 63, 66, 69, 72, 75, 78, 81, 84, 87, 90] : List Nat)[k]? = some (57 + 3 * k) := by decide
  exact g s.toNat (by omega)
end
section
/-! EQUATIONS of the runs, part 0 (by program: wip/whole/genpure.py) -/
-- Acts.init
noncomputable def mm_r0_0 (E : mm_E) (cl : mm_F) (n : Nat) (a0 : Nat) (h : mm_H) : mm_R := mm_run E cl mm_m0 n 0 [some (.ref a0)] [] h
set_option maxRecDepth 20000 in
set_option maxHeartbeats 4000000 in
theorem mm_e0_0 (E : mm_E) (cl : mm_F) (n : Nat) (a0 : Nat) (h : mm_H) :
  mm_r0_0 E cl (n + 1) a0 h =
  mm_nn (mm_i 20) fun k_3 => mm_al h (.inr (.inl (k_3, fun _ => 0))) k_3 fun p_1 h_2 =>
  mm_pF h_2 a0 0 0 (.ref p_1) fun h_4 =>
  mm_nn (mm_i 20) fun k_7 => mm_al h_4 (.inr (.inl (k_7, fun _ => 0))) k_7 fun p_5 h_6 =>
  mm_pF h_6 a0 0 1 (.ref p_5) fun h_8 =>
  mm_nn (mm_i 20) fun k_11 => mm_al h_8 (.inr (.inl (k_11, fun _ => 0))) k_11 fun p_9 h_10 =>
  mm_pF h_10 a0 0 2 (.ref p_9) fun h_12 =>
  mm_pF h_12 a0 0 3 (.int (mm_i 0)) fun h_13 =>
  mm_pF h_13 a0 0 4 (.int (mm_i 0)) fun h_14 =>
  some (.inl none, h_14) := rfl
-- Acts.note
noncomputable def mm_r1_0 (E : mm_E) (cl : mm_F) (n : Nat) (a0 : Nat) (x1 : Int32) (x2 : Int32) (x3 : Int32) (h : mm_H) : mm_R := mm_run E cl mm_m1 n 0 [some (.ref a0), some (.int x1), some (.int x2), some (.int x3)] [] h
noncomputable def mm_r1_30 (E : mm_E) (cl : mm_F) (n : Nat) (a0 : Nat) (x1 : Int32) (x2 : Int32) (x3 : Int32) (h : mm_H) : mm_R := mm_run E cl mm_m1 n 30 [some (.ref a0), some (.int x1), some (.int x2), some (.int x3)] [] h
set_option maxRecDepth 20000 in
set_option maxHeartbeats 4000000 in
theorem mm_e1_0 (E : mm_E) (cl : mm_F) (n : Nat) (a0 : Nat) (x1 : Int32) (x2 : Int32) (x3 : Int32) (h : mm_H) :
  mm_r1_0 E cl (n + 1) a0 x1 x2 x3 h =
  mm_gR h a0 0 0 fun p_1 =>
  mm_gI h a0 0 4 fun v_2 =>
  mm_wI h p_1 v_2 x1 fun h_3 =>
  mm_gR h_3 a0 0 1 fun p_4 =>
  mm_gI h_3 a0 0 4 fun v_5 =>
  mm_wI h_3 p_4 v_5 x2 fun h_6 =>
  mm_gR h_6 a0 0 2 fun p_7 =>
  mm_gI h_6 a0 0 4 fun v_8 =>
  mm_wI h_6 p_7 v_8 x3 fun h_9 =>
  mm_r1_30 E cl n a0 x1 x2 x3 h_9 := rfl
set_option maxRecDepth 20000 in
set_option maxHeartbeats 4000000 in
theorem mm_e1_30 (E : mm_E) (cl : mm_F) (n : Nat) (a0 : Nat) (x1 : Int32) (x2 : Int32) (x3 : Int32) (h : mm_H) :
  mm_r1_30 E cl (n + 1) a0 x1 x2 x3 h =
  mm_gI h a0 0 4 fun v_1 =>
  (mm_br (v_1 = (mm_i 19)) (
  mm_pF h a0 0 4 (.int (mm_i 0)) fun h_6 =>
    mm_gI h_6 a0 0 3 fun v_7 =>
    mm_pF h_6 a0 0 3 (.int (mm_mn (v_7 + (mm_i 1)) (mm_i 20))) fun h_8 =>
    some (.inl none, h_8)) (
  mm_gI h a0 0 4 fun v_2 =>
    mm_pF h a0 0 4 (.int (v_2 + (mm_i 1))) fun h_3 =>
    mm_gI h_3 a0 0 3 fun v_4 =>
    mm_pF h_3 a0 0 3 (.int (mm_mn (v_4 + (mm_i 1)) (mm_i 20))) fun h_5 =>
    some (.inl none, h_5))) := rfl
-- Acts.takeLatest
noncomputable def mm_r2_0 (E : mm_E) (cl : mm_F) (n : Nat) (a0 : Nat) (h : mm_H) : mm_R := mm_run E cl mm_m2 n 0 [some (.ref a0)] [] h
set_option maxRecDepth 20000 in
set_option maxHeartbeats 4000000 in
theorem mm_e2_0 (E : mm_E) (cl : mm_F) (n : Nat) (a0 : Nat) (h : mm_H) :
  mm_r2_0 E cl (n + 1) a0 h =
  mm_gI h a0 0 4 fun v_1 =>
  (mm_br (v_1 = (mm_i 0)) (
  mm_pF h a0 0 4 (.int (mm_i 19)) fun h_7 =>
    mm_gI h_7 a0 0 3 fun v_8 =>
    mm_pF h_7 a0 0 3 (.int (mm_mx (v_8 - (mm_i 1)) (mm_i 0))) fun h_9 =>
    mm_gI h_9 a0 0 4 fun v_10 =>
    some (.inl (some (.int v_10)), h_9)) (
  mm_gI h a0 0 4 fun v_2 =>
    mm_pF h a0 0 4 (.int (v_2 - (mm_i 1))) fun h_3 =>
    mm_gI h_3 a0 0 3 fun v_4 =>
    mm_pF h_3 a0 0 3 (.int (mm_mx (v_4 - (mm_i 1)) (mm_i 0))) fun h_5 =>
    mm_gI h_5 a0 0 4 fun v_6 =>
    some (.inl (some (.int v_6)), h_5))) := rfl
-- Acts.forget
noncomputable def mm_r3_0 (E : mm_E) (cl : mm_F) (n : Nat) (a0 : Nat) (h : mm_H) : mm_R := mm_run E cl mm_m3 n 0 [some (.ref a0)] [] h
set_option maxRecDepth 20000 in
set_option maxHeartbeats 4000000 in
theorem mm_e3_0 (E : mm_E) (cl : mm_F) (n : Nat) (a0 : Nat) (h : mm_H) :
  mm_r3_0 E cl (n + 1) a0 h =
  mm_pF h a0 0 3 (.int (mm_i 0)) fun h_1 =>
  some (.inl none, h_1) := rfl
-- Best.init
noncomputable def mm_r4_0 (E : mm_E) (cl : mm_F) (n : Nat) (a0 : Nat) (h : mm_H) : mm_R := mm_run E cl mm_m4 n 0 [some (.ref a0), none] [] h
noncomputable def mm_r4_39 (E : mm_E) (cl : mm_F) (n : Nat) (a0 : Nat) (o1 : Option Value) (h : mm_H) : mm_R := mm_run E cl mm_m4 n 39 [some (.ref a0), o1] [] h
noncomputable def mm_r4_80 (E : mm_E) (cl : mm_F) (n : Nat) (a0 : Nat) (o1 : Option Value) (h : mm_H) : mm_R := mm_run E cl mm_m4 n 80 [some (.ref a0), o1] [] h
noncomputable def mm_r4_100 (E : mm_E) (cl : mm_F) (n : Nat) (a0 : Nat) (x1 : Int32) (h : mm_H) : mm_R := mm_run E cl mm_m4 n 100 [some (.ref a0), some (.int x1)] [] h
set_option maxRecDepth 20000 in
set_option maxHeartbeats 4000000 in
theorem mm_e4_0 (E : mm_E) (cl : mm_F) (n : Nat) (a0 : Nat) (h : mm_H) :
  mm_r4_0 E cl (n + 1) a0 h =
  mm_nn (mm_i 12) fun k_3 => mm_al h (.inr (.inr (.inr (k_3, fun _ => none)))) k_3 fun p_1 h_2 =>
  mm_pF h_2 a0 1 0 (.ref p_1) fun h_4 =>
  mm_al h_4 (.inl (5, mm_new.getD 5 [])) (mm_new.getD 5 []).length fun p_5 h_6 =>
  mm_cV [] (cl 75 [.ref p_5, .int (mm_i 120)] h_6) fun h_7 =>
  mm_pF h_7 a0 1 1 (.ref p_5) fun h_8 =>
  mm_al h_8 (.inl (5, mm_new.getD 5 [])) (mm_new.getD 5 []).length fun p_9 h_10 =>
  mm_cV [] (cl 75 [.ref p_9, .int (mm_i 120)] h_10) fun h_11 =>
  mm_pF h_11 a0 1 2 (.ref p_9) fun h_12 =>
  mm_r4_39 E cl n a0 none h_12 := rfl
set_option maxRecDepth 20000 in
set_option maxHeartbeats 4000000 in
theorem mm_e4_39 (E : mm_E) (cl : mm_F) (n : Nat) (a0 : Nat) (o1 : Option Value) (h : mm_H) :
  mm_r4_39 E cl (n + 1) a0 o1 h =
  mm_al h (.inl (5, mm_new.getD 5 [])) (mm_new.getD 5 []).length fun p_1 h_2 =>
  mm_cV [] (cl 75 [.ref p_1, .int (mm_i 120)] h_2) fun h_3 =>
  mm_pF h_3 a0 1 3 (.ref p_1) fun h_4 =>
  mm_al h_4 (.inl (5, mm_new.getD 5 [])) (mm_new.getD 5 []).length fun p_5 h_6 =>
  mm_cV [] (cl 75 [.ref p_5, .int (mm_i 1)] h_6) fun h_7 =>
  mm_pF h_7 a0 1 4 (.ref p_5) fun h_8 =>
  mm_nn (mm_i 120) fun k_11 => mm_al h_8 (.inr (.inr (.inl (k_11, fun _ => 0)))) k_11 fun p_9 h_10 =>
  mm_pF h_10 a0 1 5 (.ref p_9) fun h_12 =>
  mm_nn (mm_i 12) fun k_15 => mm_al h_12 (.inr (.inl (k_15, fun _ => 0))) k_15 fun p_13 h_14 =>
  mm_pF h_14 a0 1 6 (.ref p_13) fun h_16 =>
  mm_r4_80 E cl n a0 o1 h_16 := rfl
set_option maxRecDepth 20000 in
set_option maxHeartbeats 4000000 in
theorem mm_e4_80 (E : mm_E) (cl : mm_F) (n : Nat) (a0 : Nat) (o1 : Option Value) (h : mm_H) :
  mm_r4_80 E cl (n + 1) a0 o1 h =
  mm_nn (mm_i 12) fun k_3 => mm_al h (.inr (.inl (k_3, fun _ => 0))) k_3 fun p_1 h_2 =>
  mm_pF h_2 a0 1 7 (.ref p_1) fun h_4 =>
  mm_pF h_4 a0 1 8 (.long (mm_j 0)) fun h_5 =>
  mm_pF h_5 a0 1 9 (.long (mm_j 0)) fun h_6 =>
  mm_r4_100 E cl n a0 (mm_i 0) h_6 := rfl
set_option maxRecDepth 20000 in
set_option maxHeartbeats 4000000 in
theorem mm_e4_100 (E : mm_E) (cl : mm_F) (n : Nat) (a0 : Nat) (x1 : Int32) (h : mm_H) :
  mm_r4_100 E cl (n + 1) a0 x1 h =
  (mm_br ((mm_i 12) ≤ x1) (
  some (.inl none, h)) (
  mm_gR h a0 1 0 fun p_1 =>
    mm_al h (.inl (5, mm_new.getD 5 [])) (mm_new.getD 5 []).length fun p_2 h_3 =>
    mm_cV [] (cl 75 [.ref p_2, .int (mm_i 120)] h_3) fun h_4 =>
    mm_wR h_4 p_1 x1 p_2 fun h_5 =>
    mm_r4_100 E cl n a0 (x1 + (mm_i 1)) h_5)) := rfl
-- Best.leastPrice
noncomputable def mm_r5_0 (E : mm_E) (cl : mm_F) (n : Nat) (a0 : Nat) (a1 : Nat) (h : mm_H) : mm_R := mm_run E cl mm_m5 n 0 [some (.ref a0), some (.ref a1), none, none] [] h
noncomputable def mm_r5_22 (E : mm_E) (cl : mm_F) (n : Nat) (a0 : Nat) (a1 : Nat) (x2 : Int32) (o3 : Option Value) (h : mm_H) : mm_R := mm_run E cl mm_m5 n 22 [some (.ref a0), some (.ref a1), some (.int x2), o3] [] h
noncomputable def mm_r5_49 (E : mm_E) (cl : mm_F) (n : Nat) (a0 : Nat) (a1 : Nat) (x2 : Int32) (x3 : Int32) (h : mm_H) : mm_R := mm_run E cl mm_m5 n 49 [some (.ref a0), some (.ref a1), some (.int x2), some (.int x3)] [] h
set_option maxRecDepth 20000 in
set_option maxHeartbeats 4000000 in
theorem mm_e5_0 (E : mm_E) (cl : mm_F) (n : Nat) (a0 : Nat) (a1 : Nat) (h : mm_H) :
  mm_r5_0 E cl (n + 1) a0 a1 h =
  mm_pF h a0 1 8 (.long (mm_j 0)) fun h_1 =>
  mm_pF h_1 a0 1 9 (.long (mm_j 0)) fun h_2 =>
  mm_cV [] (cl 8 [.ref a0, .ref a1] h_2) fun h_3 =>
  mm_gI h_3 a1 3 10 fun v_4 =>
  mm_r5_22 E cl n a0 a1 (v_4 - (mm_i 1)) none h_3 := rfl
set_option maxRecDepth 20000 in
set_option maxHeartbeats 4000000 in
theorem mm_e5_22 (E : mm_E) (cl : mm_F) (n : Nat) (a0 : Nat) (a1 : Nat) (x2 : Int32) (o3 : Option Value) (h : mm_H) :
  mm_r5_22 E cl (n + 1) a0 a1 x2 o3 h =
  (mm_br (x2 < (mm_i 0)) (
  mm_gJ h a0 1 8 fun w_1 =>
    (mm_br ((mm_i 0) ≤ (lg_cmp w_1 (mm_j 288230376151711744))) (
    some (.inl (some (.int (mm_i (-1)))), h)) (
    mm_gJ h a0 1 8 fun w_2 =>
      some (.inl (some (.int (Int64.toInt32 (w_2 >>> (Int32.toInt64 (mm_i 28) &&& 63))))), h)))) (
  mm_gR h a0 1 6 fun p_3 =>
    mm_rI E h p_3 x2 fun v_4 =>
    mm_cV [] (cl 10 [.ref a0, .ref a1, .int v_4] h) fun h_5 =>
    mm_gR h_5 a0 1 7 fun p_6 =>
    mm_rI E h_5 p_6 v_4 fun v_7 =>
    (mm_br (v_7 = (mm_i (-1))) (
    mm_r5_49 E cl n a0 a1 x2 v_4 h_5) (
    mm_r5_22 E cl n a0 a1 (x2 + (mm_i (-1))) (some (.int v_4)) h_5)))) := rfl
set_option maxRecDepth 20000 in
set_option maxHeartbeats 4000000 in
theorem mm_e5_49 (E : mm_E) (cl : mm_F) (n : Nat) (a0 : Nat) (a1 : Nat) (x2 : Int32) (x3 : Int32) (h : mm_H) :
  mm_r5_49 E cl (n + 1) a0 a1 x2 x3 h =
  mm_gR h a0 1 0 fun p_1 =>
  mm_rR h p_1 x3 fun p_2 =>
  mm_gR h a1 3 9 fun p_3 =>
  mm_rI E h p_3 x3 fun v_4 =>
  mm_cV [] (cl 18 [.ref a0, .ref p_2, .int v_4] h) fun h_5 =>
  mm_r5_22 E cl n a0 a1 (x2 + (mm_i (-1))) (some (.int x3)) h_5 := rfl
-- Best.timeOf
noncomputable def mm_r6_0 (E : mm_E) (cl : mm_F) (n : Nat) (a0 : Nat) (x1 : Int32) (h : mm_H) : mm_R := mm_run E cl mm_m6 n 0 [some (.ref a0), some (.int x1)] [] h
set_option maxRecDepth 20000 in
set_option maxHeartbeats 4000000 in
theorem mm_e6_0 (E : mm_E) (cl : mm_F) (n : Nat) (a0 : Nat) (x1 : Int32) (h : mm_H) :
  mm_r6_0 E cl (n + 1) a0 x1 h =
  (mm_br ((mm_i 4) ≤ x1) (
  mm_gJ h a0 1 9 fun w_1 =>
    mm_cI [] (cl 7 [.int x1] h) fun v_3 h_2 =>
    some (.inl (some (.int (Int64.toInt32 ((w_1 >>> (Int32.toInt64 v_3 &&& 63)) &&& (mm_j 127))))), h_2)) (
  mm_gJ h a0 1 8 fun w_4 =>
    mm_cI [] (cl 7 [.int x1] h) fun v_6 h_5 =>
    some (.inl (some (.int (Int64.toInt32 ((w_4 >>> (Int32.toInt64 v_6 &&& 63)) &&& (mm_j 127))))), h_5))) := rfl
-- Best.shiftOf
noncomputable def mm_r7_0 (E : mm_E) (cl : mm_F) (n : Nat) (x0 : Int32) (h : mm_H) : mm_R := mm_run E cl mm_m7 n 0 [some (.int x0)] [] h
set_option maxRecDepth 20000 in
set_option maxHeartbeats 4000000 in
theorem mm_e7_0 (E : mm_E) (cl : mm_F) (n : Nat) (x0 : Int32) (h : mm_H) :
  mm_r7_0 E cl (n + 1) x0 h =
  (mm_br ((mm_i 4) ≤ x0) (
  some (.inl (some (.int ((mm_i 49) - ((mm_i 7) * (x0 - (mm_i 4)))))), h)) (
  some (.inl (some (.int ((mm_i 21) - ((mm_i 7) * x0)))), h))) := rfl
-- Best.walkInward
noncomputable def mm_r8_0 (E : mm_E) (cl : mm_F) (n : Nat) (a0 : Nat) (a1 : Nat) (h : mm_H) : mm_R := mm_run E cl mm_m8 n 0 [some (.ref a0), some (.ref a1), none, none, none, none, none, none] [] h
noncomputable def mm_r8_7 (E : mm_E) (cl : mm_F) (n : Nat) (a0 : Nat) (a1 : Nat) (x2 : Int32) (x3 : Int32) (x4 : Int32) (o5 : Option Value) (o6 : Option Value) (o7 : Option Value) (h : mm_H) : mm_R := mm_run E cl mm_m8 n 7 [some (.ref a0), some (.ref a1), some (.int x2), some (.int x3), some (.int x4), o5, o6, o7] [] h
noncomputable def mm_r8_33 (E : mm_E) (cl : mm_F) (n : Nat) (a0 : Nat) (a1 : Nat) (x2 : Int32) (x3 : Int32) (x4 : Int32) (o5 : Option Value) (o6 : Option Value) (o7 : Option Value) (h : mm_H) : mm_R := mm_run E cl mm_m8 n 33 [some (.ref a0), some (.ref a1), some (.int x2), some (.int x3), some (.int x4), o5, o6, o7] [] h
noncomputable def mm_r8_46 (E : mm_E) (cl : mm_F) (n : Nat) (a0 : Nat) (a1 : Nat) (x2 : Int32) (x3 : Int32) (x4 : Int32) (o5 : Option Value) (o6 : Option Value) (o7 : Option Value) (h : mm_H) : mm_R := mm_run E cl mm_m8 n 46 [some (.ref a0), some (.ref a1), some (.int x2), some (.int x3), some (.int x4), o5, o6, o7] [] h
noncomputable def mm_r8_70 (E : mm_E) (cl : mm_F) (n : Nat) (a0 : Nat) (a1 : Nat) (x2 : Int32) (x3 : Int32) (x4 : Int32) (x5 : Int32) (o6 : Option Value) (o7 : Option Value) (h : mm_H) : mm_R := mm_run E cl mm_m8 n 70 [some (.ref a0), some (.ref a1), some (.int x2), some (.int x3), some (.int x4), some (.int x5), o6, o7] [] h
noncomputable def mm_r8_94 (E : mm_E) (cl : mm_F) (n : Nat) (a0 : Nat) (a1 : Nat) (x2 : Int32) (x3 : Int32) (x4 : Int32) (x5 : Int32) (x6 : Int32) (x7 : Int32) (h : mm_H) : mm_R := mm_run E cl mm_m8 n 94 [some (.ref a0), some (.ref a1), some (.int x2), some (.int x3), some (.int x4), some (.int x5), some (.int x6), some (.int x7)] [] h
set_option maxRecDepth 20000 in
set_option maxHeartbeats 4000000 in
theorem mm_e8_0 (E : mm_E) (cl : mm_F) (n : Nat) (a0 : Nat) (a1 : Nat) (h : mm_H) :
  mm_r8_0 E cl (n + 1) a0 a1 h =
  mm_r8_7 E cl n a0 a1 (mm_i 0) (mm_i 0) (mm_i 0) none none none h := rfl
set_option maxRecDepth 20000 in
set_option maxHeartbeats 4000000 in
theorem mm_e8_7 (E : mm_E) (cl : mm_F) (n : Nat) (a0 : Nat) (a1 : Nat) (x2 : Int32) (x3 : Int32) (x4 : Int32) (o5 : Option Value) (o6 : Option Value) (o7 : Option Value) (h : mm_H) :
  mm_r8_7 E cl (n + 1) a0 a1 x2 x3 x4 o5 o6 o7 h =
  mm_gI h a1 3 10 fun v_1 =>
  (mm_br (v_1 ≤ x4) (
  some (.inl none, h)) (
  (mm_br (x4 = x3) (
    mm_gR h a0 1 6 fun p_4 =>
      mm_cI [] (cl 9 [.int x2] h) fun v_6 h_5 =>
      mm_wI h_5 p_4 x4 v_6 fun h_7 =>
      mm_r8_33 E cl n a0 a1 x2 x3 x4 o5 o6 o7 h_7) (
    mm_gR h a0 1 6 fun p_2 =>
      mm_rI E h p_2 x4 fun v_3 =>
      mm_r8_70 E cl n a0 a1 x2 x3 x4 v_3 o6 o7 h)))) := rfl
set_option maxRecDepth 20000 in
set_option maxHeartbeats 4000000 in
theorem mm_e8_33 (E : mm_E) (cl : mm_F) (n : Nat) (a0 : Nat) (a1 : Nat) (x2 : Int32) (x3 : Int32) (x4 : Int32) (o5 : Option Value) (o6 : Option Value) (o7 : Option Value) (h : mm_H) :
  mm_r8_33 E cl (n + 1) a0 a1 x2 x3 x4 o5 o6 o7 h =
  mm_gR h a0 1 7 fun p_1 =>
  mm_gR h a0 1 6 fun p_2 =>
  mm_rI E h p_2 x4 fun v_3 =>
  mm_wI h p_1 v_3 (mm_i (-1)) fun h_4 =>
  mm_r8_46 E cl n a0 a1 x2 x3 x4 o5 o6 o7 h_4 := rfl
set_option maxRecDepth 20000 in
set_option maxHeartbeats 4000000 in
theorem mm_e8_46 (E : mm_E) (cl : mm_F) (n : Nat) (a0 : Nat) (a1 : Nat) (x2 : Int32) (x3 : Int32) (x4 : Int32) (o5 : Option Value) (o6 : Option Value) (o7 : Option Value) (h : mm_H) :
  mm_r8_46 E cl (n + 1) a0 a1 x2 x3 x4 o5 o6 o7 h =
  mm_gR h a0 1 6 fun p_1 =>
  mm_rI E h p_1 x4 fun v_2 =>
  mm_gR h a0 1 6 fun p_3 =>
  mm_rI E h p_3 x4 fun v_4 =>
  mm_r8_70 E cl n a0 a1 (x2 ||| ((mm_i 1) <<< (v_2 &&& 31))) (x3 + (mm_i 1)) x4 v_4 o6 o7 h := rfl
set_option maxRecDepth 20000 in
set_option maxHeartbeats 4000000 in
theorem mm_e8_70 (E : mm_E) (cl : mm_F) (n : Nat) (a0 : Nat) (a1 : Nat) (x2 : Int32) (x3 : Int32) (x4 : Int32) (x5 : Int32) (o6 : Option Value) (o7 : Option Value) (h : mm_H) :
  mm_r8_70 E cl (n + 1) a0 a1 x2 x3 x4 x5 o6 o7 h =
  mm_gR h a1 3 2 fun p_1 =>
  mm_rI E h p_1 x5 fun v_2 =>
  mm_gR h a1 3 3 fun p_3 =>
  mm_rI E h p_3 x5 fun v_4 =>
  mm_r8_94 E cl n a0 a1 x2 x3 x4 x5 ((v_2 ||| v_4) &&& (x2 ^^^ (mm_i (-1)))) (mm_i 0) h := rfl
set_option maxRecDepth 20000 in
set_option maxHeartbeats 4000000 in
theorem mm_e8_94 (E : mm_E) (cl : mm_F) (n : Nat) (a0 : Nat) (a1 : Nat) (x2 : Int32) (x3 : Int32) (x4 : Int32) (x5 : Int32) (x6 : Int32) (x7 : Int32) (h : mm_H) :
  mm_r8_94 E cl (n + 1) a0 a1 x2 x3 x4 x5 x6 x7 h =
  mm_gI h a1 3 10 fun v_1 =>
  (mm_br (v_1 ≤ x7) (
  mm_r8_7 E cl n a0 a1 (x2 ||| x6) x3 (x4 + (mm_i 1)) (some (.int x5)) (some (.int x6)) (some (.int x7)) h) (
  mm_cI [] (cl 61 [.int x6, .int x7] h) fun v_3 h_2 =>
    (mm_br (v_3 = (mm_i 0)) (
    mm_r8_94 E cl n a0 a1 x2 x3 x4 x5 x6 (x7 + (mm_i 1)) h_2) (
    mm_gR h_2 a0 1 6 fun p_4 =>
      mm_wI h_2 p_4 x3 x7 fun h_5 =>
      mm_gR h_5 a0 1 7 fun p_6 =>
      mm_wI h_5 p_6 x7 x5 fun h_7 =>
      mm_r8_94 E cl n a0 a1 x2 (x3 + (mm_i 1)) x4 x5 x6 (x7 + (mm_i 1)) h_7)))) := rfl
-- Best.firstNotIn
noncomputable def mm_r9_0 (E : mm_E) (cl : mm_F) (n : Nat) (x0 : Int32) (h : mm_H) : mm_R := mm_run E cl mm_m9 n 0 [some (.int x0), none] [] h
noncomputable def mm_r9_2 (E : mm_E) (cl : mm_F) (n : Nat) (x0 : Int32) (x1 : Int32) (h : mm_H) : mm_R := mm_run E cl mm_m9 n 2 [some (.int x0), some (.int x1)] [] h
set_option maxRecDepth 20000 in
set_option maxHeartbeats 4000000 in
theorem mm_e9_0 (E : mm_E) (cl : mm_F) (n : Nat) (x0 : Int32) (h : mm_H) :
  mm_r9_0 E cl (n + 1) x0 h =
  mm_r9_2 E cl n x0 (mm_i 0) h := rfl
set_option maxRecDepth 20000 in
set_option maxHeartbeats 4000000 in
theorem mm_e9_2 (E : mm_E) (cl : mm_F) (n : Nat) (x0 : Int32) (x1 : Int32) (h : mm_H) :
  mm_r9_2 E cl (n + 1) x0 x1 h =
  (mm_br ((mm_i 11) ≤ x1) (
  some (.inl (some (.int x1)), h)) (
  mm_cI [] (cl 61 [.int x0, .int x1] h) fun v_2 h_1 =>
    (mm_br (v_2 = (mm_i 0)) (
    some (.inl (some (.int x1)), h_1)) (
    mm_r9_2 E cl n x0 (x1 + (mm_i 1)) h_1)))) := rfl
-- Best.weigh
noncomputable def mm_r10_0 (E : mm_E) (cl : mm_F) (n : Nat) (a0 : Nat) (a1 : Nat) (x2 : Int32) (h : mm_H) : mm_R := mm_run E cl mm_m10 n 0 [some (.ref a0), some (.ref a1), some (.int x2), none, none] [] h
noncomputable def mm_r10_5 (E : mm_E) (cl : mm_F) (n : Nat) (a0 : Nat) (a1 : Nat) (x2 : Int32) (x3 : Int32) (x4 : Int32) (h : mm_H) : mm_R := mm_run E cl mm_m10 n 5 [some (.ref a0), some (.ref a1), some (.int x2), some (.int x3), some (.int x4)] [] h
noncomputable def mm_r10_25 (E : mm_E) (cl : mm_F) (n : Nat) (a0 : Nat) (a1 : Nat) (x2 : Int32) (x3 : Int32) (x4 : Int32) (h : mm_H) : mm_R := mm_run E cl mm_m10 n 25 [some (.ref a0), some (.ref a1), some (.int x2), some (.int x3), some (.int x4)] [] h
noncomputable def mm_r10_63 (E : mm_E) (cl : mm_F) (n : Nat) (a0 : Nat) (a1 : Nat) (x2 : Int32) (x3 : Int32) (x4 : Int32) (h : mm_H) : mm_R := mm_run E cl mm_m10 n 63 [some (.ref a0), some (.ref a1), some (.int x2), some (.int x3), some (.int x4)] [] h
noncomputable def mm_r10_73 (E : mm_E) (cl : mm_F) (n : Nat) (a0 : Nat) (a1 : Nat) (x2 : Int32) (x3 : Int32) (x4 : Int32) (h : mm_H) : mm_R := mm_run E cl mm_m10 n 73 [some (.ref a0), some (.ref a1), some (.int x2), some (.int x3), some (.int x4)] [] h
noncomputable def mm_r10_96 (E : mm_E) (cl : mm_F) (n : Nat) (a0 : Nat) (a1 : Nat) (x2 : Int32) (x3 : Int32) (x4 : Int32) (h : mm_H) : mm_R := mm_run E cl mm_m10 n 96 [some (.ref a0), some (.ref a1), some (.int x2), some (.int x3), some (.int x4)] [] h
set_option maxRecDepth 20000 in
set_option maxHeartbeats 4000000 in
theorem mm_e10_0 (E : mm_E) (cl : mm_F) (n : Nat) (a0 : Nat) (a1 : Nat) (x2 : Int32) (h : mm_H) :
  mm_r10_0 E cl (n + 1) a0 a1 x2 h =
  mm_r10_5 E cl n a0 a1 x2 (mm_i 0) (mm_i 0) h := rfl
set_option maxRecDepth 20000 in
set_option maxHeartbeats 4000000 in
theorem mm_e10_5 (E : mm_E) (cl : mm_F) (n : Nat) (a0 : Nat) (a1 : Nat) (x2 : Int32) (x3 : Int32) (x4 : Int32) (h : mm_H) :
  mm_r10_5 E cl (n + 1) a0 a1 x2 x3 x4 h =
  mm_gR h a1 3 9 fun p_1 =>
  mm_rI E h p_1 x2 fun v_2 =>
  (mm_br (v_2 < x4) (
  mm_cV [] (cl 11 [.ref a0, .ref a1, .int x2] h) fun h_3 =>
    mm_cV [] (cl 13 [.ref a0, .ref a1, .int x2] h_3) fun h_4 =>
    mm_r10_63 E cl n a0 a1 x2 x3 x4 h_4) (
  mm_cI [] (cl 48 [.ref a1, .int x3, .int x2, .int x4] h) fun v_6 h_5 =>
    mm_r10_25 E cl n a0 a1 x2 v_6 x4 h_5)) := rfl
set_option maxRecDepth 20000 in
set_option maxHeartbeats 4000000 in
theorem mm_e10_25 (E : mm_E) (cl : mm_F) (n : Nat) (a0 : Nat) (a1 : Nat) (x2 : Int32) (x3 : Int32) (x4 : Int32) (h : mm_H) :
  mm_r10_25 E cl (n + 1) a0 a1 x2 x3 x4 h =
  mm_gR h a0 1 5 fun p_1 =>
  mm_cI [] (cl 30 [.ref a1, .int x2, .int (mm_i 1)] h) fun v_3 h_2 =>
  mm_wJ h_2 p_1 x4 (((Int32.toInt64 v_3) * (Int32.toInt64 x3)) <<< (Int32.toInt64 (mm_i 28) &&& 63)) fun h_4 =>
  mm_r10_5 E cl n a0 a1 x2 x3 (x4 + (mm_i 1)) h_4 := rfl
set_option maxRecDepth 20000 in
set_option maxHeartbeats 4000000 in
theorem mm_e10_63 (E : mm_E) (cl : mm_F) (n : Nat) (a0 : Nat) (a1 : Nat) (x2 : Int32) (x3 : Int32) (x4 : Int32) (h : mm_H) :
  mm_r10_63 E cl (n + 1) a0 a1 x2 x3 x4 h =
  mm_gR h a0 1 7 fun p_1 =>
  mm_rI E h p_1 x2 fun v_2 =>
  (mm_br (v_2 = (mm_i (-1))) (
  mm_r10_96 E cl n a0 a1 x2 x3 x4 h) (
  mm_r10_73 E cl n a0 a1 x2 x3 x4 h)) := rfl
set_option maxRecDepth 20000 in
set_option maxHeartbeats 4000000 in
theorem mm_e10_73 (E : mm_E) (cl : mm_F) (n : Nat) (a0 : Nat) (a1 : Nat) (x2 : Int32) (x3 : Int32) (x4 : Int32) (h : mm_H) :
  mm_r10_73 E cl (n + 1) a0 a1 x2 x3 x4 h =
  mm_gR h a0 1 7 fun p_1 =>
  mm_rI E h p_1 x2 fun v_2 =>
  mm_cI [] (cl 32 [.ref a1, .int v_2, .int x2] h) fun v_4 h_3 =>
  (mm_br (v_4 = (mm_i 0)) (
  mm_r10_96 E cl n a0 a1 x2 x3 x4 h_3) (
  mm_cV [] (cl 16 [.ref a0, .ref a1, .int x2] h_3) fun h_5 =>
    some (.inl none, h_5))) := rfl
set_option maxRecDepth 20000 in
set_option maxHeartbeats 4000000 in
theorem mm_e10_96 (E : mm_E) (cl : mm_F) (n : Nat) (a0 : Nat) (a1 : Nat) (x2 : Int32) (x3 : Int32) (x4 : Int32) (h : mm_H) :
  mm_r10_96 E cl (n + 1) a0 a1 x2 x3 x4 h =
  mm_cV [] (cl 14 [.ref a0, .ref a1, .int x2] h) fun h_1 =>
  some (.inl none, h_1) := rfl
-- Best.weighSuppliers
noncomputable def mm_r11_0 (E : mm_E) (cl : mm_F) (n : Nat) (a0 : Nat) (a1 : Nat) (x2 : Int32) (h : mm_H) : mm_R := mm_run E cl mm_m11 n 0 [some (.ref a0), some (.ref a1), some (.int x2), none, none, none] [] h
noncomputable def mm_r11_25 (E : mm_E) (cl : mm_F) (n : Nat) (a0 : Nat) (a1 : Nat) (x2 : Int32) (x3 : Int32) (x4 : Int32) (x5 : Int32) (h : mm_H) : mm_R := mm_run E cl mm_m11 n 25 [some (.ref a0), some (.ref a1), some (.int x2), some (.int x3), some (.int x4), some (.int x5)] [] h
noncomputable def mm_r11_55 (E : mm_E) (cl : mm_F) (n : Nat) (a0 : Nat) (a1 : Nat) (x2 : Int32) (x3 : Int32) (x4 : Int32) (x5 : Int32) (h : mm_H) : mm_R := mm_run E cl mm_m11 n 55 [some (.ref a0), some (.ref a1), some (.int x2), some (.int x3), some (.int x4), some (.int x5)] [] h
noncomputable def mm_r11_87 (E : mm_E) (cl : mm_F) (n : Nat) (a0 : Nat) (a1 : Nat) (x2 : Int32) (x3 : Int32) (x4 : Int32) (x5 : Int32) (h : mm_H) : mm_R := mm_run E cl mm_m11 n 87 [some (.ref a0), some (.ref a1), some (.int x2), some (.int x3), some (.int x4), some (.int x5)] [] h
noncomputable def mm_r11_117 (E : mm_E) (cl : mm_F) (n : Nat) (a0 : Nat) (a1 : Nat) (x2 : Int32) (x3 : Int32) (x4 : Int32) (x5 : Int32) (h : mm_H) : mm_R := mm_run E cl mm_m11 n 117 [some (.ref a0), some (.ref a1), some (.int x2), some (.int x3), some (.int x4), some (.int x5)] [] h
set_option maxRecDepth 20000 in
set_option maxHeartbeats 4000000 in
theorem mm_e11_0 (E : mm_E) (cl : mm_F) (n : Nat) (a0 : Nat) (a1 : Nat) (x2 : Int32) (h : mm_H) :
  mm_r11_0 E cl (n + 1) a0 a1 x2 h =
  mm_cI [] (cl 30 [.ref a1, .int x2, .int (mm_i 2)] h) fun v_2 h_1 =>
  mm_gR h_1 a1 3 9 fun p_3 =>
  mm_rI E h_1 p_3 x2 fun v_4 =>
  mm_cI [] (cl 30 [.ref a1, .int x2, .int (mm_i 0)] h_1) fun v_6 h_5 =>
  mm_r11_25 E cl n a0 a1 x2 v_2 (v_4 - v_6) (mm_i 0) h_5 := rfl
set_option maxRecDepth 20000 in
set_option maxHeartbeats 4000000 in
theorem mm_e11_25 (E : mm_E) (cl : mm_F) (n : Nat) (a0 : Nat) (a1 : Nat) (x2 : Int32) (x3 : Int32) (x4 : Int32) (x5 : Int32) (h : mm_H) :
  mm_r11_25 E cl (n + 1) a0 a1 x2 x3 x4 x5 h =
  (mm_br (x4 < x5) (
  mm_r11_87 E cl n a0 a1 x2 x3 x4 (mm_i 0) h) (
  mm_gR h a0 1 1 fun p_1 =>
    (mm_br (x3 ≤ x5) (
    mm_cV [] (cl 76 [.ref p_1, .int x5, .long (mm_j 0), .long (mm_j 0)] h) fun h_2 =>
      mm_r11_55 E cl n a0 a1 x2 x3 x4 x5 h_2) (
    mm_cV [] (cl 76 [.ref p_1, .int x5, .long (mm_j 288230376151711744), .long (mm_j 0)] h) fun h_3 =>
      mm_r11_55 E cl n a0 a1 x2 x3 x4 x5 h_3)))) := rfl
set_option maxRecDepth 20000 in
set_option maxHeartbeats 4000000 in
theorem mm_e11_55 (E : mm_E) (cl : mm_F) (n : Nat) (a0 : Nat) (a1 : Nat) (x2 : Int32) (x3 : Int32) (x4 : Int32) (x5 : Int32) (h : mm_H) :
  mm_r11_55 E cl (n + 1) a0 a1 x2 x3 x4 x5 h =
  mm_gR h a0 1 2 fun p_1 =>
  (mm_br (x5 = x3) (
  mm_cV [] (cl 76 [.ref p_1, .int x5, .long (mm_j 0), .long (mm_j 0)] h) fun h_3 =>
    mm_r11_25 E cl n a0 a1 x2 x3 x4 (x5 + (mm_i 1)) h_3) (
  mm_cV [] (cl 76 [.ref p_1, .int x5, .long (mm_j 288230376151711744), .long (mm_j 0)] h) fun h_2 =>
    mm_r11_25 E cl n a0 a1 x2 x3 x4 (x5 + (mm_i 1)) h_2)) := rfl
set_option maxRecDepth 20000 in
set_option maxHeartbeats 4000000 in
theorem mm_e11_87 (E : mm_E) (cl : mm_F) (n : Nat) (a0 : Nat) (a1 : Nat) (x2 : Int32) (x3 : Int32) (x4 : Int32) (x5 : Int32) (h : mm_H) :
  mm_r11_87 E cl (n + 1) a0 a1 x2 x3 x4 x5 h =
  mm_gI h a1 3 10 fun v_1 =>
  (mm_br (v_1 ≤ x5) (
  some (.inl none, h)) (
  mm_cI [] (cl 32 [.ref a1, .int x5, .int x2] h) fun v_3 h_2 =>
    (mm_br (v_3 = (mm_i 0)) (
    mm_r11_87 E cl n a0 a1 x2 x3 x4 (x5 + (mm_i 1)) h_2) (
    mm_gR h_2 a0 1 7 fun p_4 =>
      mm_rI E h_2 p_4 x2 fun v_5 =>
      (mm_br (x5 = v_5) (
      mm_r11_87 E cl n a0 a1 x2 x3 x4 (x5 + (mm_i 1)) h_2) (
      mm_r11_117 E cl n a0 a1 x2 x3 x4 x5 h_2)))))) := rfl
set_option maxRecDepth 20000 in
set_option maxHeartbeats 4000000 in
theorem mm_e11_117 (E : mm_E) (cl : mm_F) (n : Nat) (a0 : Nat) (a1 : Nat) (x2 : Int32) (x3 : Int32) (x4 : Int32) (x5 : Int32) (h : mm_H) :
  mm_r11_117 E cl (n + 1) a0 a1 x2 x3 x4 x5 h =
  mm_gR h a0 1 0 fun p_1 =>
  mm_rR h p_1 x5 fun p_2 =>
  mm_gR h a1 3 9 fun p_3 =>
  mm_rI E h p_3 x5 fun v_4 =>
  mm_cV [] (cl 12 [.ref a0, .ref p_2, .int v_4, .int x4] h) fun h_5 =>
  mm_r11_87 E cl n a0 a1 x2 x3 x4 (x5 + (mm_i 1)) h_5 := rfl
-- Best.addSupplier
noncomputable def mm_r12_0 (E : mm_E) (cl : mm_F) (n : Nat) (a0 : Nat) (a1 : Nat) (x2 : Int32) (x3 : Int32) (h : mm_H) : mm_R := mm_run E cl mm_m12 n 0 [some (.ref a0), some (.ref a1), some (.int x2), some (.int x3), none] [] h
noncomputable def mm_r12_15 (E : mm_E) (cl : mm_F) (n : Nat) (a0 : Nat) (a1 : Nat) (x2 : Int32) (x3 : Int32) (x4 : Int32) (h : mm_H) : mm_R := mm_run E cl mm_m12 n 15 [some (.ref a0), some (.ref a1), some (.int x2), some (.int x3), some (.int x4)] [] h
noncomputable def mm_r12_49 (E : mm_E) (cl : mm_F) (n : Nat) (a0 : Nat) (a1 : Nat) (x2 : Int32) (x3 : Int32) (x4 : Int32) (h : mm_H) : mm_R := mm_run E cl mm_m12 n 49 [some (.ref a0), some (.ref a1), some (.int x2), some (.int x3), some (.int x4)] [] h
noncomputable def mm_r12_98 (E : mm_E) (cl : mm_F) (n : Nat) (a0 : Nat) (a1 : Nat) (x2 : Int32) (x3 : Int32) (x4 : Int32) (h : mm_H) : mm_R := mm_run E cl mm_m12 n 98 [some (.ref a0), some (.ref a1), some (.int x2), some (.int x3), some (.int x4)] [] h
noncomputable def mm_r12_149 (E : mm_E) (cl : mm_F) (n : Nat) (a0 : Nat) (a1 : Nat) (x2 : Int32) (x3 : Int32) (x4 : Int32) (h : mm_H) : mm_R := mm_run E cl mm_m12 n 149 [some (.ref a0), some (.ref a1), some (.int x2), some (.int x3), some (.int x4)] [] h
set_option maxRecDepth 20000 in
set_option maxHeartbeats 4000000 in
theorem mm_e12_0 (E : mm_E) (cl : mm_F) (n : Nat) (a0 : Nat) (a1 : Nat) (x2 : Int32) (x3 : Int32) (h : mm_H) :
  mm_r12_0 E cl (n + 1) a0 a1 x2 x3 h =
  mm_gR h a0 1 4 fun p_1 =>
  mm_cV [] (cl 76 [.ref p_1, .int (mm_i 0), .long (mm_j 288230376151711744), .long (mm_j 0)] h) fun h_2 =>
  mm_r12_15 E cl n a0 a1 x2 x3 (mm_i 0) h_2 := rfl
set_option maxRecDepth 20000 in
set_option maxHeartbeats 4000000 in
theorem mm_e12_15 (E : mm_E) (cl : mm_F) (n : Nat) (a0 : Nat) (a1 : Nat) (x2 : Int32) (x3 : Int32) (x4 : Int32) (h : mm_H) :
  mm_r12_15 E cl (n + 1) a0 a1 x2 x3 x4 h =
  (mm_br (x3 < x4) (
  some (.inl none, h)) (
  (mm_br (x2 < x4) (
    mm_r12_49 E cl n a0 a1 x2 x3 x4 h) (
    mm_gR h a0 1 4 fun p_1 =>
      mm_gR h a1 5 0 fun p_2 =>
      mm_rJ h p_2 x4 fun w_3 =>
      mm_gR h a1 5 1 fun p_4 =>
      mm_rJ h p_4 x4 fun w_5 =>
      mm_cV [] (cl 77 [.ref p_1, .int (mm_i 0), .long w_3, .long w_5] h) fun h_6 =>
      mm_r12_49 E cl n a0 a1 x2 x3 x4 h_6)))) := rfl
set_option maxRecDepth 20000 in
set_option maxHeartbeats 4000000 in
theorem mm_e12_49 (E : mm_E) (cl : mm_F) (n : Nat) (a0 : Nat) (a1 : Nat) (x2 : Int32) (x3 : Int32) (x4 : Int32) (h : mm_H) :
  mm_r12_49 E cl (n + 1) a0 a1 x2 x3 x4 h =
  mm_gR h a0 1 2 fun p_1 =>
  mm_gR h a0 1 2 fun p_2 =>
  mm_gR h p_2 5 0 fun p_3 =>
  mm_rJ h p_3 x4 fun w_4 =>
  mm_gR h a0 1 4 fun p_5 =>
  mm_gR h p_5 5 0 fun p_6 =>
  mm_rJ h p_6 (mm_i 0) fun w_7 =>
  mm_gR h a0 1 2 fun p_8 =>
  mm_gR h p_8 5 1 fun p_9 =>
  mm_rJ h p_9 x4 fun w_10 =>
  mm_gR h a0 1 4 fun p_11 =>
  mm_gR h p_11 5 1 fun p_12 =>
  mm_rJ h p_12 (mm_i 0) fun w_13 =>
  mm_cV [] (cl 76 [.ref p_1, .int x4, .long (w_4 + w_7), .long (w_10 + w_13)] h) fun h_14 =>
  mm_r12_98 E cl n a0 a1 x2 x3 x4 h_14 := rfl
set_option maxRecDepth 20000 in
set_option maxHeartbeats 4000000 in
theorem mm_e12_98 (E : mm_E) (cl : mm_F) (n : Nat) (a0 : Nat) (a1 : Nat) (x2 : Int32) (x3 : Int32) (x4 : Int32) (h : mm_H) :
  mm_r12_98 E cl (n + 1) a0 a1 x2 x3 x4 h =
  (mm_br (x2 < x4) (
  mm_r12_149 E cl n a0 a1 x2 x3 x4 h) (
  mm_gR h a0 1 2 fun p_1 =>
    mm_gR h a0 1 1 fun p_2 =>
    mm_gR h p_2 5 0 fun p_3 =>
    mm_rJ h p_3 x4 fun w_4 =>
    mm_gR h a1 5 0 fun p_5 =>
    mm_rJ h p_5 x4 fun w_6 =>
    mm_gR h a0 1 1 fun p_7 =>
    mm_gR h p_7 5 1 fun p_8 =>
    mm_rJ h p_8 x4 fun w_9 =>
    mm_gR h a1 5 1 fun p_10 =>
    mm_rJ h p_10 x4 fun w_11 =>
    mm_cV [] (cl 77 [.ref p_1, .int x4, .long (w_4 + w_6), .long (w_9 + w_11)] h) fun h_12 =>
    mm_r12_149 E cl n a0 a1 x2 x3 x4 h_12)) := rfl
set_option maxRecDepth 20000 in
set_option maxHeartbeats 4000000 in
theorem mm_e12_149 (E : mm_E) (cl : mm_F) (n : Nat) (a0 : Nat) (a1 : Nat) (x2 : Int32) (x3 : Int32) (x4 : Int32) (h : mm_H) :
  mm_r12_149 E cl (n + 1) a0 a1 x2 x3 x4 h =
  mm_gR h a0 1 1 fun p_1 =>
  mm_gR h a0 1 1 fun p_2 =>
  mm_gR h p_2 5 0 fun p_3 =>
  mm_rJ h p_3 x4 fun w_4 =>
  mm_gR h a0 1 4 fun p_5 =>
  mm_gR h p_5 5 0 fun p_6 =>
  mm_rJ h p_6 (mm_i 0) fun w_7 =>
  mm_gR h a0 1 1 fun p_8 =>
  mm_gR h p_8 5 1 fun p_9 =>
  mm_rJ h p_9 x4 fun w_10 =>
  mm_gR h a0 1 4 fun p_11 =>
  mm_gR h p_11 5 1 fun p_12 =>
  mm_rJ h p_12 (mm_i 0) fun w_13 =>
  mm_cV [] (cl 76 [.ref p_1, .int x4, .long (w_4 + w_7), .long (w_10 + w_13)] h) fun h_14 =>
  mm_r12_15 E cl n a0 a1 x2 x3 (x4 + (mm_i 1)) h_14 := rfl
-- Best.weighCustomers
noncomputable def mm_r13_0 (E : mm_E) (cl : mm_F) (n : Nat) (a0 : Nat) (a1 : Nat) (x2 : Int32) (h : mm_H) : mm_R := mm_run E cl mm_m13 n 0 [some (.ref a0), some (.ref a1), some (.int x2), none, none, none, none, none, none] [] h
noncomputable def mm_r13_19 (E : mm_E) (cl : mm_F) (n : Nat) (a0 : Nat) (a1 : Nat) (x2 : Int32) (x3 : Int32) (x4 : Int32) (x5 : Int32) (o6 : Option Value) (o7 : Option Value) (o8 : Option Value) (h : mm_H) : mm_R := mm_run E cl mm_m13 n 19 [some (.ref a0), some (.ref a1), some (.int x2), some (.int x3), some (.int x4), some (.int x5), o6, o7, o8] [] h
noncomputable def mm_r13_59 (E : mm_E) (cl : mm_F) (n : Nat) (a0 : Nat) (a1 : Nat) (x2 : Int32) (x3 : Int32) (x4 : Int32) (x5 : Int32) (o6 : Option Value) (o7 : Option Value) (o8 : Option Value) (s0 : Int32) (h : mm_H) : mm_R := mm_run E cl mm_m13 n 59 [some (.ref a0), some (.ref a1), some (.int x2), some (.int x3), some (.int x4), some (.int x5), o6, o7, o8] [.int s0] h
noncomputable def mm_r13_99 (E : mm_E) (cl : mm_F) (n : Nat) (a0 : Nat) (a1 : Nat) (x2 : Int32) (x3 : Int32) (x4 : Int32) (x5 : Int32) (x6 : Int32) (y7 : Int64) (b0 : Nat) (s1 : Int32) (t2 : Int64) (h : mm_H) : mm_R := mm_run E cl mm_m13 n 99 [some (.ref a0), some (.ref a1), some (.int x2), some (.int x3), some (.int x4), some (.int x5), some (.int x6), some (.long y7), none] [.long t2, .int s1, .ref b0] h
noncomputable def mm_r13_122 (E : mm_E) (cl : mm_F) (n : Nat) (a0 : Nat) (a1 : Nat) (x2 : Int32) (x3 : Int32) (x4 : Int32) (x5 : Int32) (o6 : Option Value) (o7 : Option Value) (o8 : Option Value) (h : mm_H) : mm_R := mm_run E cl mm_m13 n 122 [some (.ref a0), some (.ref a1), some (.int x2), some (.int x3), some (.int x4), some (.int x5), o6, o7, o8] [] h
noncomputable def mm_r13_155 (E : mm_E) (cl : mm_F) (n : Nat) (a0 : Nat) (a1 : Nat) (x2 : Int32) (x3 : Int32) (x4 : Int32) (x5 : Int32) (x6 : Int32) (o7 : Option Value) (o8 : Option Value) (h : mm_H) : mm_R := mm_run E cl mm_m13 n 155 [some (.ref a0), some (.ref a1), some (.int x2), some (.int x3), some (.int x4), some (.int x5), some (.int x6), o7, o8] [] h
set_option maxRecDepth 20000 in
set_option maxHeartbeats 4000000 in
theorem mm_e13_0 (E : mm_E) (cl : mm_F) (n : Nat) (a0 : Nat) (a1 : Nat) (x2 : Int32) (h : mm_H) :
  mm_r13_0 E cl (n + 1) a0 a1 x2 h =
  mm_cI [] (cl 30 [.ref a1, .int x2, .int (mm_i 6)] h) fun v_2 h_1 =>
  mm_cI [] (cl 30 [.ref a1, .int x2, .int (mm_i 5)] h_1) fun v_4 h_3 =>
  mm_r13_19 E cl n a0 a1 x2 v_2 v_4 (mm_i 0) none none none h_3 := rfl
set_option maxRecDepth 20000 in
set_option maxHeartbeats 4000000 in
theorem mm_e13_19 (E : mm_E) (cl : mm_F) (n : Nat) (a0 : Nat) (a1 : Nat) (x2 : Int32) (x3 : Int32) (x4 : Int32) (x5 : Int32) (o6 : Option Value) (o7 : Option Value) (o8 : Option Value) (h : mm_H) :
  mm_r13_19 E cl (n + 1) a0 a1 x2 x3 x4 x5 o6 o7 o8 h =
  mm_gR h a1 3 9 fun p_1 =>
  mm_rI E h p_1 x2 fun v_2 =>
  (mm_br (v_2 < x5) (
  mm_r13_122 E cl n a0 a1 x2 x3 x4 (mm_i 0) o6 o7 o8 h) (
  (mm_br (x3 = (mm_i (-1))) (
    (mm_br (x4 = (mm_i (-1))) (
      mm_r13_59 E cl n a0 a1 x2 x3 x4 x5 o6 o7 o8 (mm_i 1) h) (
      (mm_br (x4 < x5) (
        mm_r13_59 E cl n a0 a1 x2 x3 x4 x5 o6 o7 o8 (mm_i 0) h) (
        mm_r13_59 E cl n a0 a1 x2 x3 x4 x5 o6 o7 o8 (mm_i 1) h))))) (
    (mm_br (x5 = x3) (
      (mm_br (x4 = (mm_i (-1))) (
        mm_r13_59 E cl n a0 a1 x2 x3 x4 x5 o6 o7 o8 (mm_i 1) h) (
        (mm_br (x4 < x5) (
          mm_r13_59 E cl n a0 a1 x2 x3 x4 x5 o6 o7 o8 (mm_i 0) h) (
          mm_r13_59 E cl n a0 a1 x2 x3 x4 x5 o6 o7 o8 (mm_i 1) h))))) (
      mm_r13_59 E cl n a0 a1 x2 x3 x4 x5 o6 o7 o8 (mm_i 0) h)))))) := rfl
set_option maxRecDepth 20000 in
set_option maxHeartbeats 4000000 in
theorem mm_e13_59 (E : mm_E) (cl : mm_F) (n : Nat) (a0 : Nat) (a1 : Nat) (x2 : Int32) (x3 : Int32) (x4 : Int32) (x5 : Int32) (o6 : Option Value) (o7 : Option Value) (o8 : Option Value) (s0 : Int32) (h : mm_H) :
  mm_r13_59 E cl (n + 1) a0 a1 x2 x3 x4 x5 o6 o7 o8 s0 h =
  mm_cI [] (cl 7 [.int x2] h) fun v_2 h_1 =>
  mm_gR h_1 a0 1 3 fun p_3 =>
  (mm_br (s0 = (mm_i 0)) (
  mm_r13_99 E cl n a0 a1 x2 x3 x4 x5 s0 ((Int32.toInt64 x5) <<< (Int32.toInt64 v_2 &&& 63)) p_3 x5 (mm_j 288230376151711744) h_1) (
  (mm_br ((mm_i 4) ≤ x2) (
    mm_r13_99 E cl n a0 a1 x2 x3 x4 x5 s0 ((Int32.toInt64 x5) <<< (Int32.toInt64 v_2 &&& 63)) p_3 x5 (mm_j 0) h_1) (
    mm_r13_99 E cl n a0 a1 x2 x3 x4 x5 s0 ((Int32.toInt64 x5) <<< (Int32.toInt64 v_2 &&& 63)) p_3 x5 ((Int32.toInt64 x5) <<< (Int32.toInt64 v_2 &&& 63)) h_1)))) := rfl
set_option maxRecDepth 20000 in
set_option maxHeartbeats 4000000 in
theorem mm_e13_99 (E : mm_E) (cl : mm_F) (n : Nat) (a0 : Nat) (a1 : Nat) (x2 : Int32) (x3 : Int32) (x4 : Int32) (x5 : Int32) (x6 : Int32) (y7 : Int64) (b0 : Nat) (s1 : Int32) (t2 : Int64) (h : mm_H) :
  mm_r13_99 E cl (n + 1) a0 a1 x2 x3 x4 x5 x6 y7 b0 s1 t2 h =
  (mm_br ((mm_i 4) ≤ x2) (
  mm_cV [] (cl 76 [.ref b0, .int s1, .long t2, .long y7] h) fun h_1 =>
    mm_r13_19 E cl n a0 a1 x2 x3 x4 (x5 + (mm_i 1)) (some (.int x6)) (some (.long y7)) none h_1) (
  mm_cV [] (cl 76 [.ref b0, .int s1, .long t2, .long (mm_j 0)] h) fun h_2 =>
    mm_r13_19 E cl n a0 a1 x2 x3 x4 (x5 + (mm_i 1)) (some (.int x6)) (some (.long y7)) none h_2)) := rfl
set_option maxRecDepth 20000 in
set_option maxHeartbeats 4000000 in
theorem mm_e13_122 (E : mm_E) (cl : mm_F) (n : Nat) (a0 : Nat) (a1 : Nat) (x2 : Int32) (x3 : Int32) (x4 : Int32) (x5 : Int32) (o6 : Option Value) (o7 : Option Value) (o8 : Option Value) (h : mm_H) :
  mm_r13_122 E cl (n + 1) a0 a1 x2 x3 x4 x5 o6 o7 o8 h =
  mm_gI h a1 3 10 fun v_1 =>
  (mm_br (v_1 ≤ x5) (
  some (.inl none, h)) (
  mm_cI [] (cl 32 [.ref a1, .int x2, .int x5] h) fun v_3 h_2 =>
    (mm_br (v_3 = (mm_i 0)) (
    mm_r13_122 E cl n a0 a1 x2 x3 x4 (x5 + (mm_i 1)) o6 o7 o8 h_2) (
    mm_gR h_2 a0 1 7 fun p_4 =>
      mm_rI E h_2 p_4 x2 fun v_5 =>
      (mm_br (x5 = v_5) (
      mm_r13_122 E cl n a0 a1 x2 x3 x4 (x5 + (mm_i 1)) o6 o7 o8 h_2) (
      mm_r13_155 E cl n a0 a1 x2 x3 x4 x5 (mm_i 0) o7 o8 h_2)))))) := rfl
set_option maxRecDepth 20000 in
set_option maxHeartbeats 4000000 in
theorem mm_e13_155 (E : mm_E) (cl : mm_F) (n : Nat) (a0 : Nat) (a1 : Nat) (x2 : Int32) (x3 : Int32) (x4 : Int32) (x5 : Int32) (x6 : Int32) (o7 : Option Value) (o8 : Option Value) (h : mm_H) :
  mm_r13_155 E cl (n + 1) a0 a1 x2 x3 x4 x5 x6 o7 o8 h =
  mm_gR h a1 3 9 fun p_1 =>
  mm_rI E h p_1 x2 fun v_2 =>
  (mm_br (v_2 < x6) (
  mm_r13_122 E cl n a0 a1 x2 x3 x4 (x5 + (mm_i 1)) (some (.int x6)) o7 o8 h) (
  mm_gR h a0 1 3 fun p_3 =>
    mm_gR h a0 1 3 fun p_4 =>
    mm_gR h p_4 5 0 fun p_5 =>
    mm_rJ h p_5 x6 fun w_6 =>
    mm_gR h a0 1 0 fun p_7 =>
    mm_rR h p_7 x5 fun p_8 =>
    mm_gR h p_8 5 0 fun p_9 =>
    mm_rJ h p_9 x6 fun w_10 =>
    mm_gR h a0 1 3 fun p_11 =>
    mm_gR h p_11 5 1 fun p_12 =>
    mm_rJ h p_12 x6 fun w_13 =>
    mm_gR h a0 1 0 fun p_14 =>
    mm_rR h p_14 x5 fun p_15 =>
    mm_gR h p_15 5 1 fun p_16 =>
    mm_rJ h p_16 x6 fun w_17 =>
    mm_cV [] (cl 76 [.ref p_3, .int x6, .long (w_6 + w_10), .long (w_13 + w_17)] h) fun h_18 =>
    mm_r13_155 E cl n a0 a1 x2 x3 x4 x5 (x6 + (mm_i 1)) o7 o8 h_18)) := rfl
-- Best.tellByTime
noncomputable def mm_r14_0 (E : mm_E) (cl : mm_F) (n : Nat) (a0 : Nat) (a1 : Nat) (x2 : Int32) (h : mm_H) : mm_R := mm_run E cl mm_m14 n 0 [some (.ref a0), some (.ref a1), some (.int x2), none, none, none, none] [] h
noncomputable def mm_r14_29 (E : mm_E) (cl : mm_F) (n : Nat) (a0 : Nat) (a1 : Nat) (x2 : Int32) (a3 : Nat) (x4 : Int32) (x5 : Int32) (x6 : Int32) (h : mm_H) : mm_R := mm_run E cl mm_m14 n 29 [some (.ref a0), some (.ref a1), some (.int x2), some (.ref a3), some (.int x4), some (.int x5), some (.int x6)] [] h
noncomputable def mm_r14_67 (E : mm_E) (cl : mm_F) (n : Nat) (a0 : Nat) (a1 : Nat) (x2 : Int32) (a3 : Nat) (x4 : Int32) (x5 : Int32) (x6 : Int32) (h : mm_H) : mm_R := mm_run E cl mm_m14 n 67 [some (.ref a0), some (.ref a1), some (.int x2), some (.ref a3), some (.int x4), some (.int x5), some (.int x6)] [] h
set_option maxRecDepth 20000 in
set_option maxHeartbeats 4000000 in
theorem mm_e14_0 (E : mm_E) (cl : mm_F) (n : Nat) (a0 : Nat) (a1 : Nat) (x2 : Int32) (h : mm_H) :
  mm_r14_0 E cl (n + 1) a0 a1 x2 h =
  mm_gR h a0 1 0 fun p_1 =>
  mm_rR h p_1 x2 fun p_2 =>
  mm_cI [] (cl 30 [.ref a1, .int x2, .int (mm_i 0)] h) fun v_4 h_3 =>
  mm_gR h_3 a1 3 9 fun p_5 =>
  mm_rI E h_3 p_5 x2 fun v_6 =>
  mm_r14_29 E cl n a0 a1 x2 p_2 v_4 (v_6 - v_4) (mm_i 0) h_3 := rfl
set_option maxRecDepth 20000 in
set_option maxHeartbeats 4000000 in
theorem mm_e14_29 (E : mm_E) (cl : mm_F) (n : Nat) (a0 : Nat) (a1 : Nat) (x2 : Int32) (a3 : Nat) (x4 : Int32) (x5 : Int32) (x6 : Int32) (h : mm_H) :
  mm_r14_29 E cl (n + 1) a0 a1 x2 a3 x4 x5 x6 h =
  mm_gR h a1 3 9 fun p_1 =>
  mm_rI E h p_1 x2 fun v_2 =>
  (mm_br (v_2 < x6) (
  some (.inl none, h)) (
  mm_cV [] (cl 76 [.ref a3, .int x6, .long (mm_j 288230376151711744), .long (mm_j 0)] h) fun h_3 =>
    mm_gR h_3 a0 1 3 fun p_4 =>
    mm_gR h_3 p_4 5 0 fun p_5 =>
    mm_rJ h_3 p_5 x6 fun w_6 =>
    (mm_br ((mm_i 0) ≤ (lg_cmp w_6 (mm_j 288230376151711744))) (
    mm_r14_29 E cl n a0 a1 x2 a3 x4 x5 (x6 + (mm_i 1)) h_3) (
    mm_r14_67 E cl n a0 a1 x2 a3 x4 x5 x6 h_3)))) := rfl
set_option maxRecDepth 20000 in
set_option maxHeartbeats 4000000 in
theorem mm_e14_67 (E : mm_E) (cl : mm_F) (n : Nat) (a0 : Nat) (a1 : Nat) (x2 : Int32) (a3 : Nat) (x4 : Int32) (x5 : Int32) (x6 : Int32) (h : mm_H) :
  mm_r14_67 E cl (n + 1) a0 a1 x2 a3 x4 x5 x6 h =
  mm_cV [] (cl 15 [.ref a0, .int (x4 - x6), .int x5] h) fun h_1 =>
  mm_gR h_1 a0 1 4 fun p_2 =>
  mm_gR h_1 p_2 5 0 fun p_3 =>
  mm_rJ h_1 p_3 (mm_i 0) fun w_4 =>
  mm_gR h_1 a0 1 3 fun p_5 =>
  mm_gR h_1 p_5 5 0 fun p_6 =>
  mm_rJ h_1 p_6 x6 fun w_7 =>
  mm_gR h_1 a0 1 4 fun p_8 =>
  mm_gR h_1 p_8 5 1 fun p_9 =>
  mm_rJ h_1 p_9 (mm_i 0) fun w_10 =>
  mm_gR h_1 a0 1 3 fun p_11 =>
  mm_gR h_1 p_11 5 1 fun p_12 =>
  mm_rJ h_1 p_12 x6 fun w_13 =>
  mm_cV [] (cl 76 [.ref a3, .int x6, .long (w_4 + w_7), .long (w_10 + w_13)] h_1) fun h_14 =>
  mm_r14_29 E cl n a0 a1 x2 a3 x4 x5 (x6 + (mm_i 1)) h_14 := rfl
-- Best.pickWait
noncomputable def mm_r15_0 (E : mm_E) (cl : mm_F) (n : Nat) (a0 : Nat) (x1 : Int32) (x2 : Int32) (h : mm_H) : mm_R := mm_run E cl mm_m15 n 0 [some (.ref a0), some (.int x1), some (.int x2), none, none, none, none, none, none, none, none, none] [] h
noncomputable def mm_r15_33 (E : mm_E) (cl : mm_F) (n : Nat) (a0 : Nat) (x1 : Int32) (x2 : Int32) (a3 : Nat) (a4 : Nat) (y5 : Int64) (y7 : Int64) (x9 : Int32) (o10 : Option Value) (o11 : Option Value) (h : mm_H) : mm_R := mm_run E cl mm_m15 n 33 [some (.ref a0), some (.int x1), some (.int x2), some (.ref a3), some (.ref a4), some (.long y5), none, some (.long y7), none, some (.int x9), o10, o11] [] h
noncomputable def mm_r15_63 (E : mm_E) (cl : mm_F) (n : Nat) (a0 : Nat) (x1 : Int32) (x2 : Int32) (a3 : Nat) (a4 : Nat) (y5 : Int64) (y7 : Int64) (x9 : Int32) (y10 : Int64) (h : mm_H) : mm_R := mm_run E cl mm_m15 n 63 [some (.ref a0), some (.int x1), some (.int x2), some (.ref a3), some (.ref a4), some (.long y5), none, some (.long y7), none, some (.int x9), some (.long y10), none] [] h
noncomputable def mm_r15_71 (E : mm_E) (cl : mm_F) (n : Nat) (a0 : Nat) (x1 : Int32) (x2 : Int32) (a3 : Nat) (a4 : Nat) (y5 : Int64) (y7 : Int64) (x9 : Int32) (y10 : Int64) (h : mm_H) : mm_R := mm_run E cl mm_m15 n 71 [some (.ref a0), some (.int x1), some (.int x2), some (.ref a3), some (.ref a4), some (.long y5), none, some (.long y7), none, some (.int x9), some (.long y10), none] [] h
noncomputable def mm_r15_86 (E : mm_E) (cl : mm_F) (n : Nat) (a0 : Nat) (x1 : Int32) (x2 : Int32) (a3 : Nat) (a4 : Nat) (y5 : Int64) (y7 : Int64) (x9 : Int32) (y10 : Int64) (h : mm_H) : mm_R := mm_run E cl mm_m15 n 86 [some (.ref a0), some (.int x1), some (.int x2), some (.ref a3), some (.ref a4), some (.long y5), none, some (.long y7), none, some (.int x9), some (.long y10), none] [] h
set_option maxRecDepth 20000 in
set_option maxHeartbeats 4000000 in
theorem mm_e15_0 (E : mm_E) (cl : mm_F) (n : Nat) (a0 : Nat) (x1 : Int32) (x2 : Int32) (h : mm_H) :
  mm_r15_0 E cl (n + 1) a0 x1 x2 h =
  mm_gR h a0 1 2 fun p_1 =>
  mm_gR h p_1 5 0 fun p_2 =>
  mm_gR h a0 1 2 fun p_3 =>
  mm_gR h p_3 5 1 fun p_4 =>
  mm_r15_33 E cl n a0 x1 x2 p_2 p_4 (mm_j 288230376151711744) (mm_j 0) (mm_mx (mm_i 0) (-x1)) none none h := rfl
set_option maxRecDepth 20000 in
set_option maxHeartbeats 4000000 in
theorem mm_e15_33 (E : mm_E) (cl : mm_F) (n : Nat) (a0 : Nat) (x1 : Int32) (x2 : Int32) (a3 : Nat) (a4 : Nat) (y5 : Int64) (y7 : Int64) (x9 : Int32) (o10 : Option Value) (o11 : Option Value) (h : mm_H) :
  mm_r15_33 E cl (n + 1) a0 x1 x2 a3 a4 y5 y7 x9 o10 o11 h =
  (mm_br (x2 < x9) (
  mm_gR h a0 1 4 fun p_1 =>
    mm_cV [] (cl 76 [.ref p_1, .int (mm_i 0), .long y5, .long y7] h) fun h_2 =>
    some (.inl none, h_2)) (
  mm_rJ h a3 x9 fun w_3 =>
    mm_gR h a0 1 5 fun p_4 =>
    mm_rJ h p_4 (x9 + x1) fun w_5 =>
    (mm_br ((lg_cmp (w_3 + w_5) y5) < (mm_i 0)) (
    mm_r15_86 E cl n a0 x1 x2 a3 a4 (w_3 + w_5) y7 x9 (w_3 + w_5) h) (
    mm_r15_63 E cl n a0 x1 x2 a3 a4 y5 y7 x9 (w_3 + w_5) h)))) := rfl
set_option maxRecDepth 20000 in
set_option maxHeartbeats 4000000 in
theorem mm_e15_63 (E : mm_E) (cl : mm_F) (n : Nat) (a0 : Nat) (x1 : Int32) (x2 : Int32) (a3 : Nat) (a4 : Nat) (y5 : Int64) (y7 : Int64) (x9 : Int32) (y10 : Int64) (h : mm_H) :
  mm_r15_63 E cl (n + 1) a0 x1 x2 a3 a4 y5 y7 x9 y10 h =
  (mm_br ((lg_cmp y10 y5) = (mm_i 0)) (
  mm_r15_71 E cl n a0 x1 x2 a3 a4 y5 y7 x9 y10 h) (
  mm_r15_33 E cl n a0 x1 x2 a3 a4 y5 y7 (x9 + (mm_i 1)) (some (.long y10)) none h)) := rfl
set_option maxRecDepth 20000 in
set_option maxHeartbeats 4000000 in
theorem mm_e15_71 (E : mm_E) (cl : mm_F) (n : Nat) (a0 : Nat) (x1 : Int32) (x2 : Int32) (a3 : Nat) (a4 : Nat) (y5 : Int64) (y7 : Int64) (x9 : Int32) (y10 : Int64) (h : mm_H) :
  mm_r15_71 E cl (n + 1) a0 x1 x2 a3 a4 y5 y7 x9 y10 h =
  mm_rJ h a4 x9 fun w_1 =>
  (mm_br ((mm_i 0) ≤ (lg_cmp w_1 y7)) (
  mm_r15_33 E cl n a0 x1 x2 a3 a4 y5 y7 (x9 + (mm_i 1)) (some (.long y10)) none h) (
  mm_r15_86 E cl n a0 x1 x2 a3 a4 y10 y7 x9 y10 h)) := rfl
set_option maxRecDepth 20000 in
set_option maxHeartbeats 4000000 in
theorem mm_e15_86 (E : mm_E) (cl : mm_F) (n : Nat) (a0 : Nat) (x1 : Int32) (x2 : Int32) (a3 : Nat) (a4 : Nat) (y5 : Int64) (y7 : Int64) (x9 : Int32) (y10 : Int64) (h : mm_H) :
  mm_r15_86 E cl (n + 1) a0 x1 x2 a3 a4 y5 y7 x9 y10 h =
  mm_rJ h a4 x9 fun w_1 =>
  mm_r15_33 E cl n a0 x1 x2 a3 a4 y5 w_1 (x9 + (mm_i 1)) (some (.long y10)) none h := rfl
-- Best.tellBySupplier
noncomputable def mm_r16_0 (E : mm_E) (cl : mm_F) (n : Nat) (a0 : Nat) (a1 : Nat) (x2 : Int32) (h : mm_H) : mm_R := mm_run E cl mm_m16 n 0 [some (.ref a0), some (.ref a1), some (.int x2), none, none, none, none, none, none, none, none, none] [] h
noncomputable def mm_r16_23 (E : mm_E) (cl : mm_F) (n : Nat) (a0 : Nat) (a1 : Nat) (x2 : Int32) (a3 : Nat) (x4 : Int32) (x5 : Int32) (o6 : Option Value) (o7 : Option Value) (o8 : Option Value) (o9 : Option Value) (o10 : Option Value) (o11 : Option Value) (h : mm_H) : mm_R := mm_run E cl mm_m16 n 23 [some (.ref a0), some (.ref a1), some (.int x2), some (.ref a3), some (.int x4), some (.int x5), o6, o7, o8, o9, o10, o11] [] h
noncomputable def mm_r16_46 (E : mm_E) (cl : mm_F) (n : Nat) (a0 : Nat) (a1 : Nat) (x2 : Int32) (a3 : Nat) (x4 : Int32) (x5 : Int32) (x6 : Int32) (y7 : Int64) (y9 : Int64) (x11 : Int32) (h : mm_H) : mm_R := mm_run E cl mm_m16 n 46 [some (.ref a0), some (.ref a1), some (.int x2), some (.ref a3), some (.int x4), some (.int x5), some (.int x6), some (.long y7), none, some (.long y9), none, some (.int x11)] [] h
noncomputable def mm_r16_72 (E : mm_E) (cl : mm_F) (n : Nat) (a0 : Nat) (a1 : Nat) (x2 : Int32) (a3 : Nat) (x4 : Int32) (x5 : Int32) (x6 : Int32) (y7 : Int64) (y9 : Int64) (x11 : Int32) (h : mm_H) : mm_R := mm_run E cl mm_m16 n 72 [some (.ref a0), some (.ref a1), some (.int x2), some (.ref a3), some (.int x4), some (.int x5), some (.int x6), some (.long y7), none, some (.long y9), none, some (.int x11)] [] h
noncomputable def mm_r16_118 (E : mm_E) (cl : mm_F) (n : Nat) (a0 : Nat) (a1 : Nat) (x2 : Int32) (a3 : Nat) (x4 : Int32) (x5 : Int32) (x6 : Int32) (y7 : Int64) (y9 : Int64) (x11 : Int32) (h : mm_H) : mm_R := mm_run E cl mm_m16 n 118 [some (.ref a0), some (.ref a1), some (.int x2), some (.ref a3), some (.int x4), some (.int x5), some (.int x6), some (.long y7), none, some (.long y9), none, some (.int x11)] [] h
noncomputable def mm_r16_166 (E : mm_E) (cl : mm_F) (n : Nat) (a0 : Nat) (a1 : Nat) (x2 : Int32) (a3 : Nat) (x4 : Int32) (x5 : Int32) (x6 : Int32) (y7 : Int64) (y9 : Int64) (x11 : Int32) (h : mm_H) : mm_R := mm_run E cl mm_m16 n 166 [some (.ref a0), some (.ref a1), some (.int x2), some (.ref a3), some (.int x4), some (.int x5), some (.int x6), some (.long y7), none, some (.long y9), none, some (.int x11)] [] h
noncomputable def mm_r16_209 (E : mm_E) (cl : mm_F) (n : Nat) (a0 : Nat) (a1 : Nat) (x2 : Int32) (a3 : Nat) (x4 : Int32) (x5 : Int32) (x6 : Int32) (y7 : Int64) (y9 : Int64) (x11 : Int32) (h : mm_H) : mm_R := mm_run E cl mm_m16 n 209 [some (.ref a0), some (.ref a1), some (.int x2), some (.ref a3), some (.int x4), some (.int x5), some (.int x6), some (.long y7), none, some (.long y9), none, some (.int x11)] [] h
set_option maxRecDepth 20000 in
set_option maxHeartbeats 4000000 in
theorem mm_e16_0 (E : mm_E) (cl : mm_F) (n : Nat) (a0 : Nat) (a1 : Nat) (x2 : Int32) (h : mm_H) :
  mm_r16_0 E cl (n + 1) a0 a1 x2 h =
  mm_gR h a0 1 0 fun p_1 =>
  mm_rR h p_1 x2 fun p_2 =>
  mm_cI [] (cl 30 [.ref a1, .int x2, .int (mm_i 2)] h) fun v_4 h_3 =>
  mm_cI [] (cl 30 [.ref a1, .int x2, .int (mm_i 0)] h_3) fun v_6 h_5 =>
  mm_r16_23 E cl n a0 a1 x2 p_2 v_4 v_6 none none none none none none h_5 := rfl
set_option maxRecDepth 20000 in
set_option maxHeartbeats 4000000 in
theorem mm_e16_23 (E : mm_E) (cl : mm_F) (n : Nat) (a0 : Nat) (a1 : Nat) (x2 : Int32) (a3 : Nat) (x4 : Int32) (x5 : Int32) (o6 : Option Value) (o7 : Option Value) (o8 : Option Value) (o9 : Option Value) (o10 : Option Value) (o11 : Option Value) (h : mm_H) :
  mm_r16_23 E cl (n + 1) a0 a1 x2 a3 x4 x5 o6 o7 o8 o9 o10 o11 h =
  mm_gR h a1 3 9 fun p_1 =>
  mm_rI E h p_1 x2 fun v_2 =>
  mm_r16_46 E cl n a0 a1 x2 a3 x4 x5 (v_2 - x5) (mm_j 288230376151711744) (mm_j 0) (v_2 - x5) h := rfl
set_option maxRecDepth 20000 in
set_option maxHeartbeats 4000000 in
theorem mm_e16_46 (E : mm_E) (cl : mm_F) (n : Nat) (a0 : Nat) (a1 : Nat) (x2 : Int32) (a3 : Nat) (x4 : Int32) (x5 : Int32) (x6 : Int32) (y7 : Int64) (y9 : Int64) (x11 : Int32) (h : mm_H) :
  mm_r16_46 E cl (n + 1) a0 a1 x2 a3 x4 x5 x6 y7 y9 x11 h =
  (mm_br (x11 < x4) (
  mm_r16_209 E cl n a0 a1 x2 a3 x4 x5 x6 y7 y9 (mm_i 0) h) (
  mm_cV [] (cl 17 [.ref a0, .int (x11 + x5)] h) fun h_1 =>
    mm_cV [] (cl 76 [.ref a3, .int x11, .long y7, .long y9] h_1) fun h_2 =>
    mm_r16_72 E cl n a0 a1 x2 a3 x4 x5 x6 y7 y9 x11 h_2)) := rfl
set_option maxRecDepth 20000 in
set_option maxHeartbeats 4000000 in
theorem mm_e16_72 (E : mm_E) (cl : mm_F) (n : Nat) (a0 : Nat) (a1 : Nat) (x2 : Int32) (a3 : Nat) (x4 : Int32) (x5 : Int32) (x6 : Int32) (y7 : Int64) (y9 : Int64) (x11 : Int32) (h : mm_H) :
  mm_r16_72 E cl (n + 1) a0 a1 x2 a3 x4 x5 x6 y7 y9 x11 h =
  mm_gR h a0 1 1 fun p_1 =>
  mm_gR h p_1 5 0 fun p_2 =>
  mm_rJ h p_2 x11 fun w_3 =>
  mm_gR h a0 1 4 fun p_4 =>
  mm_gR h p_4 5 0 fun p_5 =>
  mm_rJ h p_5 (mm_i 0) fun w_6 =>
  mm_gR h a0 1 1 fun p_7 =>
  mm_gR h p_7 5 1 fun p_8 =>
  mm_rJ h p_8 x11 fun w_9 =>
  mm_gR h a0 1 4 fun p_10 =>
  mm_gR h p_10 5 1 fun p_11 =>
  mm_rJ h p_11 (mm_i 0) fun w_12 =>
  mm_cV [] (cl 77 [.ref a3, .int x11, .long (w_3 + w_6), .long (w_9 + w_12)] h) fun h_13 =>
  mm_r16_118 E cl n a0 a1 x2 a3 x4 x5 x6 y7 y9 x11 h_13 := rfl
set_option maxRecDepth 20000 in
set_option maxHeartbeats 4000000 in
theorem mm_e16_118 (E : mm_E) (cl : mm_F) (n : Nat) (a0 : Nat) (a1 : Nat) (x2 : Int32) (a3 : Nat) (x4 : Int32) (x5 : Int32) (x6 : Int32) (y7 : Int64) (y9 : Int64) (x11 : Int32) (h : mm_H) :
  mm_r16_118 E cl (n + 1) a0 a1 x2 a3 x4 x5 x6 y7 y9 x11 h =
  mm_gR h a0 1 4 fun p_1 =>
  mm_gR h a0 1 2 fun p_2 =>
  mm_gR h p_2 5 0 fun p_3 =>
  mm_rJ h p_3 x11 fun w_4 =>
  mm_gR h a0 1 4 fun p_5 =>
  mm_gR h p_5 5 0 fun p_6 =>
  mm_rJ h p_6 (mm_i 0) fun w_7 =>
  mm_gR h a0 1 2 fun p_8 =>
  mm_gR h p_8 5 1 fun p_9 =>
  mm_rJ h p_9 x11 fun w_10 =>
  mm_gR h a0 1 4 fun p_11 =>
  mm_gR h p_11 5 1 fun p_12 =>
  mm_rJ h p_12 (mm_i 0) fun w_13 =>
  mm_cV [] (cl 76 [.ref p_1, .int (mm_i 0), .long (w_4 + w_7), .long (w_10 + w_13)] h) fun h_14 =>
  mm_r16_166 E cl n a0 a1 x2 a3 x4 x5 x6 y7 y9 x11 h_14 := rfl
set_option maxRecDepth 20000 in
set_option maxHeartbeats 4000000 in
theorem mm_e16_166 (E : mm_E) (cl : mm_F) (n : Nat) (a0 : Nat) (a1 : Nat) (x2 : Int32) (a3 : Nat) (x4 : Int32) (x5 : Int32) (x6 : Int32) (y7 : Int64) (y9 : Int64) (x11 : Int32) (h : mm_H) :
  mm_r16_166 E cl (n + 1) a0 a1 x2 a3 x4 x5 x6 y7 y9 x11 h =
  mm_gR h a0 1 4 fun p_1 =>
  mm_cV [] (cl 77 [.ref p_1, .int (mm_i 0), .long y7, .long y9] h) fun h_2 =>
  mm_gR h_2 a0 1 4 fun p_3 =>
  mm_gR h_2 p_3 5 0 fun p_4 =>
  mm_rJ h_2 p_4 (mm_i 0) fun w_5 =>
  mm_gR h_2 a0 1 4 fun p_6 =>
  mm_gR h_2 p_6 5 1 fun p_7 =>
  mm_rJ h_2 p_7 (mm_i 0) fun w_8 =>
  mm_r16_46 E cl n a0 a1 x2 a3 x4 x5 x6 w_5 w_8 (x11 + (mm_i (-1))) h_2 := rfl
set_option maxRecDepth 20000 in
set_option maxHeartbeats 4000000 in
theorem mm_e16_209 (E : mm_E) (cl : mm_F) (n : Nat) (a0 : Nat) (a1 : Nat) (x2 : Int32) (a3 : Nat) (x4 : Int32) (x5 : Int32) (x6 : Int32) (y7 : Int64) (y9 : Int64) (x11 : Int32) (h : mm_H) :
  mm_r16_209 E cl (n + 1) a0 a1 x2 a3 x4 x5 x6 y7 y9 x11 h =
  (mm_br (x4 ≤ x11) (
  some (.inl none, h)) (
  mm_gR h a3 5 0 fun p_1 =>
    mm_rJ h p_1 x4 fun w_2 =>
    mm_gR h a3 5 1 fun p_3 =>
    mm_rJ h p_3 x4 fun w_4 =>
    mm_cV [] (cl 76 [.ref a3, .int x11, .long w_2, .long w_4] h) fun h_5 =>
    mm_r16_209 E cl n a0 a1 x2 a3 x4 x5 x6 y7 y9 (x11 + (mm_i 1)) h_5)) := rfl
-- Best.pickTime
noncomputable def mm_r17_0 (E : mm_E) (cl : mm_F) (n : Nat) (a0 : Nat) (x1 : Int32) (h : mm_H) : mm_R := mm_run E cl mm_m17 n 0 [some (.ref a0), some (.int x1), none, none, none, none, none, none, none, none, none] [] h
noncomputable def mm_r17_27 (E : mm_E) (cl : mm_F) (n : Nat) (a0 : Nat) (x1 : Int32) (a2 : Nat) (a3 : Nat) (y4 : Int64) (y6 : Int64) (x8 : Int32) (o9 : Option Value) (o10 : Option Value) (h : mm_H) : mm_R := mm_run E cl mm_m17 n 27 [some (.ref a0), some (.int x1), some (.ref a2), some (.ref a3), some (.long y4), none, some (.long y6), none, some (.int x8), o9, o10] [] h
noncomputable def mm_r17_57 (E : mm_E) (cl : mm_F) (n : Nat) (a0 : Nat) (x1 : Int32) (a2 : Nat) (a3 : Nat) (y4 : Int64) (y6 : Int64) (x8 : Int32) (y9 : Int64) (h : mm_H) : mm_R := mm_run E cl mm_m17 n 57 [some (.ref a0), some (.int x1), some (.ref a2), some (.ref a3), some (.long y4), none, some (.long y6), none, some (.int x8), some (.long y9), none] [] h
noncomputable def mm_r17_65 (E : mm_E) (cl : mm_F) (n : Nat) (a0 : Nat) (x1 : Int32) (a2 : Nat) (a3 : Nat) (y4 : Int64) (y6 : Int64) (x8 : Int32) (y9 : Int64) (h : mm_H) : mm_R := mm_run E cl mm_m17 n 65 [some (.ref a0), some (.int x1), some (.ref a2), some (.ref a3), some (.long y4), none, some (.long y6), none, some (.int x8), some (.long y9), none] [] h
noncomputable def mm_r17_79 (E : mm_E) (cl : mm_F) (n : Nat) (a0 : Nat) (x1 : Int32) (a2 : Nat) (a3 : Nat) (y4 : Int64) (y6 : Int64) (x8 : Int32) (y9 : Int64) (h : mm_H) : mm_R := mm_run E cl mm_m17 n 79 [some (.ref a0), some (.int x1), some (.ref a2), some (.ref a3), some (.long y4), none, some (.long y6), none, some (.int x8), some (.long y9), none] [] h
set_option maxRecDepth 20000 in
set_option maxHeartbeats 4000000 in
theorem mm_e17_0 (E : mm_E) (cl : mm_F) (n : Nat) (a0 : Nat) (x1 : Int32) (h : mm_H) :
  mm_r17_0 E cl (n + 1) a0 x1 h =
  mm_gR h a0 1 3 fun p_1 =>
  mm_gR h p_1 5 0 fun p_2 =>
  mm_gR h a0 1 3 fun p_3 =>
  mm_gR h p_3 5 1 fun p_4 =>
  mm_r17_27 E cl n a0 x1 p_2 p_4 (mm_j 288230376151711744) (mm_j 0) (mm_i 0) none none h := rfl
set_option maxRecDepth 20000 in
set_option maxHeartbeats 4000000 in
theorem mm_e17_27 (E : mm_E) (cl : mm_F) (n : Nat) (a0 : Nat) (x1 : Int32) (a2 : Nat) (a3 : Nat) (y4 : Int64) (y6 : Int64) (x8 : Int32) (o9 : Option Value) (o10 : Option Value) (h : mm_H) :
  mm_r17_27 E cl (n + 1) a0 x1 a2 a3 y4 y6 x8 o9 o10 h =
  (mm_br (x1 < x8) (
  mm_gR h a0 1 4 fun p_1 =>
    mm_cV [] (cl 76 [.ref p_1, .int (mm_i 0), .long y4, .long y6] h) fun h_2 =>
    some (.inl none, h_2)) (
  mm_rJ h a2 x8 fun w_3 =>
    mm_gR h a0 1 5 fun p_4 =>
    mm_rJ h p_4 (x1 - x8) fun w_5 =>
    (mm_br ((lg_cmp (w_3 + w_5) y4) < (mm_i 0)) (
    mm_r17_79 E cl n a0 x1 a2 a3 (w_3 + w_5) y6 x8 (w_3 + w_5) h) (
    mm_r17_57 E cl n a0 x1 a2 a3 y4 y6 x8 (w_3 + w_5) h)))) := rfl
set_option maxRecDepth 20000 in
set_option maxHeartbeats 4000000 in
theorem mm_e17_57 (E : mm_E) (cl : mm_F) (n : Nat) (a0 : Nat) (x1 : Int32) (a2 : Nat) (a3 : Nat) (y4 : Int64) (y6 : Int64) (x8 : Int32) (y9 : Int64) (h : mm_H) :
  mm_r17_57 E cl (n + 1) a0 x1 a2 a3 y4 y6 x8 y9 h =
  (mm_br ((lg_cmp y9 y4) = (mm_i 0)) (
  mm_r17_65 E cl n a0 x1 a2 a3 y4 y6 x8 y9 h) (
  mm_r17_27 E cl n a0 x1 a2 a3 y4 y6 (x8 + (mm_i 1)) (some (.long y9)) none h)) := rfl
set_option maxRecDepth 20000 in
set_option maxHeartbeats 4000000 in
theorem mm_e17_65 (E : mm_E) (cl : mm_F) (n : Nat) (a0 : Nat) (x1 : Int32) (a2 : Nat) (a3 : Nat) (y4 : Int64) (y6 : Int64) (x8 : Int32) (y9 : Int64) (h : mm_H) :
  mm_r17_65 E cl (n + 1) a0 x1 a2 a3 y4 y6 x8 y9 h =
  mm_rJ h a3 x8 fun w_1 =>
  (mm_br ((mm_i 0) ≤ (lg_cmp w_1 y6)) (
  mm_r17_27 E cl n a0 x1 a2 a3 y4 y6 (x8 + (mm_i 1)) (some (.long y9)) none h) (
  mm_r17_79 E cl n a0 x1 a2 a3 y9 y6 x8 y9 h)) := rfl
set_option maxRecDepth 20000 in
set_option maxHeartbeats 4000000 in
theorem mm_e17_79 (E : mm_E) (cl : mm_F) (n : Nat) (a0 : Nat) (x1 : Int32) (a2 : Nat) (a3 : Nat) (y4 : Int64) (y6 : Int64) (x8 : Int32) (y9 : Int64) (h : mm_H) :
  mm_r17_79 E cl (n + 1) a0 x1 a2 a3 y4 y6 x8 y9 h =
  mm_rJ h a3 x8 fun w_1 =>
  mm_r17_27 E cl n a0 x1 a2 a3 y4 w_1 (x8 + (mm_i 1)) (some (.long y9)) none h := rfl
-- Best.addLeast
noncomputable def mm_r18_0 (E : mm_E) (cl : mm_F) (n : Nat) (a0 : Nat) (a1 : Nat) (x2 : Int32) (h : mm_H) : mm_R := mm_run E cl mm_m18 n 0 [some (.ref a0), some (.ref a1), some (.int x2), none] [] h
noncomputable def mm_r18_14 (E : mm_E) (cl : mm_F) (n : Nat) (a0 : Nat) (a1 : Nat) (x2 : Int32) (x3 : Int32) (h : mm_H) : mm_R := mm_run E cl mm_m18 n 14 [some (.ref a0), some (.ref a1), some (.int x2), some (.int x3)] [] h
noncomputable def mm_r18_63 (E : mm_E) (cl : mm_F) (n : Nat) (a0 : Nat) (a1 : Nat) (x2 : Int32) (x3 : Int32) (h : mm_H) : mm_R := mm_run E cl mm_m18 n 63 [some (.ref a0), some (.ref a1), some (.int x2), some (.int x3)] [] h
set_option maxRecDepth 20000 in
set_option maxHeartbeats 4000000 in
theorem mm_e18_0 (E : mm_E) (cl : mm_F) (n : Nat) (a0 : Nat) (a1 : Nat) (x2 : Int32) (h : mm_H) :
  mm_r18_0 E cl (n + 1) a0 a1 x2 h =
  mm_gR h a0 1 4 fun p_1 =>
  mm_cV [] (cl 76 [.ref p_1, .int (mm_i 0), .long (mm_j 288230376151711744), .long (mm_j 0)] h) fun h_2 =>
  mm_r18_14 E cl n a0 a1 x2 (mm_i 0) h_2 := rfl
set_option maxRecDepth 20000 in
set_option maxHeartbeats 4000000 in
theorem mm_e18_14 (E : mm_E) (cl : mm_F) (n : Nat) (a0 : Nat) (a1 : Nat) (x2 : Int32) (x3 : Int32) (h : mm_H) :
  mm_r18_14 E cl (n + 1) a0 a1 x2 x3 h =
  (mm_br (x2 < x3) (
  mm_gJ h a0 1 8 fun w_1 =>
    mm_gR h a0 1 4 fun p_2 =>
    mm_gR h p_2 5 0 fun p_3 =>
    mm_rJ h p_3 (mm_i 0) fun w_4 =>
    mm_pF h a0 1 8 (.long (w_1 + w_4)) fun h_5 =>
    mm_r18_63 E cl n a0 a1 x2 x3 h_5) (
  mm_gR h a0 1 4 fun p_6 =>
    mm_gR h a1 5 0 fun p_7 =>
    mm_rJ h p_7 x3 fun w_8 =>
    mm_gR h a1 5 1 fun p_9 =>
    mm_rJ h p_9 x3 fun w_10 =>
    mm_cV [] (cl 77 [.ref p_6, .int (mm_i 0), .long w_8, .long w_10] h) fun h_11 =>
    mm_r18_14 E cl n a0 a1 x2 (x3 + (mm_i 1)) h_11)) := rfl
set_option maxRecDepth 20000 in
set_option maxHeartbeats 4000000 in
theorem mm_e18_63 (E : mm_E) (cl : mm_F) (n : Nat) (a0 : Nat) (a1 : Nat) (x2 : Int32) (x3 : Int32) (h : mm_H) :
  mm_r18_63 E cl (n + 1) a0 a1 x2 x3 h =
  mm_gJ h a0 1 9 fun w_1 =>
  mm_gR h a0 1 4 fun p_2 =>
  mm_gR h p_2 5 1 fun p_3 =>
  mm_rJ h p_3 (mm_i 0) fun w_4 =>
  mm_pF h a0 1 9 (.long (w_1 + w_4)) fun h_5 =>
  some (.inl none, h_5) := rfl
-- Led.init
noncomputable def mm_r19_0 (E : mm_E) (cl : mm_F) (n : Nat) (a0 : Nat) (h : mm_H) : mm_R := mm_run E cl mm_m19 n 0 [some (.ref a0)] [] h
set_option maxRecDepth 20000 in
set_option maxHeartbeats 4000000 in
theorem mm_e19_0 (E : mm_E) (cl : mm_F) (n : Nat) (a0 : Nat) (h : mm_H) :
  mm_r19_0 E cl (n + 1) a0 h =
  mm_nn (mm_i 41) fun k_3 => mm_al h (.inr (.inl (k_3, fun _ => 0))) k_3 fun p_1 h_2 =>
  mm_pF h_2 a0 2 0 (.ref p_1) fun h_4 =>
  mm_nn (mm_i 41) fun k_7 => mm_al h_4 (.inr (.inl (k_7, fun _ => 0))) k_7 fun p_5 h_6 =>
  mm_pF h_6 a0 2 1 (.ref p_5) fun h_8 =>
  mm_pF h_8 a0 2 2 (.int (mm_i 0)) fun h_9 =>
  mm_pF h_9 a0 2 3 (.int (mm_i 0)) fun h_10 =>
  mm_pF h_10 a0 2 4 (.int (mm_i 0)) fun h_11 =>
  some (.inl none, h_11) := rfl
-- Led.open
noncomputable def mm_r20_0 (E : mm_E) (cl : mm_F) (n : Nat) (a0 : Nat) (a1 : Nat) (x2 : Int32) (h : mm_H) : mm_R := mm_run E cl mm_m20 n 0 [some (.ref a0), some (.ref a1), some (.int x2), none, none, none, none] [] h
noncomputable def mm_r20_43 (E : mm_E) (cl : mm_F) (n : Nat) (a0 : Nat) (a1 : Nat) (x2 : Int32) (o3 : Option Value) (o4 : Option Value) (o5 : Option Value) (o6 : Option Value) (h : mm_H) : mm_R := mm_run E cl mm_m20 n 43 [some (.ref a0), some (.ref a1), some (.int x2), o3, o4, o5, o6] [] h
noncomputable def mm_r20_52 (E : mm_E) (cl : mm_F) (n : Nat) (a0 : Nat) (a1 : Nat) (x2 : Int32) (x3 : Int32) (x4 : Int32) (o5 : Option Value) (o6 : Option Value) (h : mm_H) : mm_R := mm_run E cl mm_m20 n 52 [some (.ref a0), some (.ref a1), some (.int x2), some (.int x3), some (.int x4), o5, o6] [] h
noncomputable def mm_r20_65 (E : mm_E) (cl : mm_F) (n : Nat) (a0 : Nat) (a1 : Nat) (x2 : Int32) (x3 : Int32) (x4 : Int32) (x5 : Int32) (x6 : Int32) (h : mm_H) : mm_R := mm_run E cl mm_m20 n 65 [some (.ref a0), some (.ref a1), some (.int x2), some (.int x3), some (.int x4), some (.int x5), some (.int x6)] [] h
set_option maxRecDepth 20000 in
set_option maxHeartbeats 4000000 in
theorem mm_e20_0 (E : mm_E) (cl : mm_F) (n : Nat) (a0 : Nat) (a1 : Nat) (x2 : Int32) (h : mm_H) :
  mm_r20_0 E cl (n + 1) a0 a1 x2 h =
  mm_cI [] (cl 51 [.ref a1, .int x2] h) fun v_2 h_1 =>
  mm_pF h_1 a0 2 2 (.int v_2) fun h_3 =>
  mm_gI h_3 a0 2 2 fun v_4 =>
  (mm_br ((mm_i 0) ≤ v_4) (
  mm_gI h_3 a0 2 2 fun v_5 =>
    mm_cI [] (cl 49 [.ref a1, .int x2, .int v_5] h_3) fun v_7 h_6 =>
    mm_pF h_6 a0 2 3 (.int v_7) fun h_8 =>
    mm_gR h_8 a1 3 4 fun p_9 =>
    mm_rI E h_8 p_9 x2 fun v_10 =>
    mm_pF h_8 a0 2 4 (.int v_10) fun h_11 =>
    mm_r20_43 E cl n a0 a1 x2 none none none none h_11) (
  mm_pF h_3 a0 2 3 (.int (mm_i 0)) fun h_12 =>
    mm_gR h_12 a1 3 4 fun p_13 =>
    mm_rI E h_12 p_13 x2 fun v_14 =>
    mm_pF h_12 a0 2 4 (.int v_14) fun h_15 =>
    mm_r20_43 E cl n a0 a1 x2 none none none none h_15)) := rfl
set_option maxRecDepth 20000 in
set_option maxHeartbeats 4000000 in
theorem mm_e20_43 (E : mm_E) (cl : mm_F) (n : Nat) (a0 : Nat) (a1 : Nat) (x2 : Int32) (o3 : Option Value) (o4 : Option Value) (o5 : Option Value) (o6 : Option Value) (h : mm_H) :
  mm_r20_43 E cl (n + 1) a0 a1 x2 o3 o4 o5 o6 h =
  mm_cI [] (cl 59 [.ref a1, .int x2] h) fun v_2 h_1 =>
  mm_r20_52 E cl n a0 a1 x2 v_2 (mm_i 0) o5 o6 h_1 := rfl
set_option maxRecDepth 20000 in
set_option maxHeartbeats 4000000 in
theorem mm_e20_52 (E : mm_E) (cl : mm_F) (n : Nat) (a0 : Nat) (a1 : Nat) (x2 : Int32) (x3 : Int32) (x4 : Int32) (o5 : Option Value) (o6 : Option Value) (h : mm_H) :
  mm_r20_52 E cl (n + 1) a0 a1 x2 x3 x4 o5 o6 h =
  (mm_br ((mm_i 40) ≤ x4) (
  some (.inl none, h)) (
  mm_r20_65 E cl n a0 a1 x2 x3 x4 (mm_i 0) (mm_i 0) h)) := rfl
set_option maxRecDepth 20000 in
set_option maxHeartbeats 4000000 in
theorem mm_e20_65 (E : mm_E) (cl : mm_F) (n : Nat) (a0 : Nat) (a1 : Nat) (x2 : Int32) (x3 : Int32) (x4 : Int32) (x5 : Int32) (x6 : Int32) (h : mm_H) :
  mm_r20_65 E cl (n + 1) a0 a1 x2 x3 x4 x5 x6 h =
  mm_gI h a1 3 10 fun v_1 =>
  (mm_br (v_1 ≤ x6) (
  mm_gR h a0 2 0 fun p_2 =>
    mm_gR h a0 2 0 fun p_3 =>
    mm_rI E h p_3 x4 fun v_4 =>
    mm_wI h p_2 (x4 + (mm_i 1)) (v_4 + x5) fun h_5 =>
    mm_r20_52 E cl n a0 a1 x2 x3 (x4 + (mm_i 1)) (some (.int x5)) (some (.int x6)) h_5) (
  mm_cI [] (cl 61 [.int x3, .int x6] h) fun v_7 h_6 =>
    (mm_br (v_7 = (mm_i 0)) (
    mm_r20_65 E cl n a0 a1 x2 x3 x4 (x5 + (mm_i 0)) (x6 + (mm_i 1)) h_6) (
    mm_gR h_6 a1 3 5 fun p_8 =>
      mm_rI E h_6 p_8 ((x6 * (mm_i 40)) + x4) fun v_9 =>
      mm_r20_65 E cl n a0 a1 x2 x3 x4 (x5 + v_9) (x6 + (mm_i 1)) h_6)))) := rfl
end
