/-! names of the classes, their fields, where their words stand; the methods; the texts -/
def mTb : List Cond := lw_tbl.filter goodWord
theorem mtb {w : Cond} (i : Nat) (h : lw_tbl[i]? = some w) (g : goodWord w = true) : w ∈ mTb := List.mem_filter.mpr ⟨List.mem_of_getElem? h, g⟩
theorem mtb_in : ∀ w ∈ mTb, w ∈ lw_tbl := fun _ h => (List.mem_filter.mp h).1
theorem mtb_good : GoodIn mTb mTb := fun w h => ⟨h, good_of_word (List.mem_filter.mp h).2⟩
theorem mem_by {big ws : List Cond} (ps : List Nat) (h : ps.filterMap (fun i => big[i]?) = ws) : ∀ w ∈ ws, w ∈ big := by
  intro w hw
  rw [← h] at hw
  obtain ⟨i, -, hi⟩ := List.mem_filterMap.mp hw
  exact List.mem_of_getElem? hi
def RX0 : String := "HearingBoards$Books"
def TX0 : u_T := fun k => match k with
  | 0 => ("HearingBoards$Books", "cases", "LHearingBoards$Rows;", true)
  | 1 => ("HearingBoards$Books", "papers", "LHearingBoards$Rows;", true)
  | 2 => ("HearingBoards$Books", "members", "LHearingBoards$Rows;", true)
  | 3 => ("HearingBoards$Books", "hearings", "LHearingBoards$Rows;", true)
  | 4 => ("HearingBoards$Books", "table", "LHearingBoards$Rows;", true)
  | 5 => ("HearingBoards$Books", "putOffs", "LHearingBoards$Rows;", true)
  | 6 => ("HearingBoards$Books", "time", "LHearingBoards$Time;", true)
  | 7 => ("HearingBoards$Books", "law", "LHearingBoards$Law;", true)
  | 8 => ("HearingBoards$Books", "today", "I", false)
  | 9 => ("HearingBoards$Books", "seed", "I", false)
  | 10 => ("HearingBoards$Books", "doubles", "I", false)
  | _ => ("HearingBoards$Books", "differing", "I", false)
def tyX0 : Nat → FieldType := fun k => match k with
  | 0 => .object "HearingBoards$Rows"
  | 1 => .object "HearingBoards$Rows"
  | 2 => .object "HearingBoards$Rows"
  | 3 => .object "HearingBoards$Rows"
  | 4 => .object "HearingBoards$Rows"
  | 5 => .object "HearingBoards$Rows"
  | 6 => .object "HearingBoards$Time"
  | 7 => .object "HearingBoards$Law"
  | 8 => .int
  | 9 => .int
  | 10 => .int
  | _ => .int
theorem nmX0 : ∀ a, a < 12 → ∀ b, b < 12 → a ≠ b → (TX0 a).2.1 ≠ (TX0 b).2.1 := by decide +kernel
theorem tyX0_ok : ∀ k, k < 12 → parseFieldDescriptor (TX0 k).2.2.1 = some (tyX0 k) := by decide +kernel
set_option maxRecDepth 20000 in
theorem inX0 : ∀ w ∈ u_ws RX0 TX0 12, w ∈ mTb := fun w h => List.mem_filter.mpr ⟨mem_by [221, 223, 225, 227, 229, 231, 233, 235, 237, 239, 241, 243] (by decide +kernel) w h, List.all_eq_true.mp (show (u_ws RX0 TX0 12).all goodWord = true by decide +kernel) w h⟩
def RX1 : String := "HearingBoards$Law"
def TX1 : u_T := fun k => match k with
  | 0 => ("HearingBoards$Law", "texts", "[LHearingBoards$Text;", true)
  | 1 => ("HearingBoards$Law", "size", "I", false)
  | _ => ("HearingBoards$Law", "stack", "LHearingBoards$Stack;", true)
def tyX1 : Nat → FieldType := fun k => match k with
  | 0 => .array (.object "HearingBoards$Text")
  | 1 => .int
  | _ => .object "HearingBoards$Stack"
theorem nmX1 : ∀ a, a < 3 → ∀ b, b < 3 → a ≠ b → (TX1 a).2.1 ≠ (TX1 b).2.1 := by decide +kernel
theorem tyX1_ok : ∀ k, k < 3 → parseFieldDescriptor (TX1 k).2.2.1 = some (tyX1 k) := by decide +kernel
set_option maxRecDepth 20000 in
theorem inX1 : ∀ w ∈ u_ws RX1 TX1 3, w ∈ mTb := fun w h => List.mem_filter.mpr ⟨mem_by [191, 193, 195] (by decide +kernel) w h, List.all_eq_true.mp (show (u_ws RX1 TX1 3).all goodWord = true by decide +kernel) w h⟩
def RX2 : String := "HearingBoards$Rows"
def TX2 : u_T := fun k => match k with
  | 0 => ("HearingBoards$Rows", "limit", "I", true)
  | 1 => ("HearingBoards$Rows", "width", "I", true)
  | 2 => ("HearingBoards$Rows", "cells", "[I", true)
  | _ => ("HearingBoards$Rows", "size", "I", false)
def tyX2 : Nat → FieldType := fun k => match k with
  | 0 => .int
  | 1 => .int
  | 2 => .array (.int)
  | _ => .int
theorem nmX2 : ∀ a, a < 4 → ∀ b, b < 4 → a ≠ b → (TX2 a).2.1 ≠ (TX2 b).2.1 := by decide +kernel
theorem tyX2_ok : ∀ k, k < 4 → parseFieldDescriptor (TX2 k).2.2.1 = some (tyX2 k) := by decide +kernel
set_option maxRecDepth 20000 in
theorem inX2 : ∀ w ∈ u_ws RX2 TX2 4, w ∈ mTb := fun w h => List.mem_filter.mpr ⟨mem_by [131, 133, 135, 137] (by decide +kernel) w h, List.all_eq_true.mp (show (u_ws RX2 TX2 4).all goodWord = true by decide +kernel) w h⟩
def RX3 : String := "HearingBoards$Sheet"
def TX3 : u_T := fun k => match k with
  | 0 => ("HearingBoards$Sheet", "cells", "[J", true)
  | 1 => ("HearingBoards$Sheet", "sort", "I", false)
  | _ => ("HearingBoards$Sheet", "size", "I", false)
def tyX3 : Nat → FieldType := fun k => match k with
  | 0 => .array (.long)
  | 1 => .int
  | _ => .int
theorem nmX3 : ∀ a, a < 3 → ∀ b, b < 3 → a ≠ b → (TX3 a).2.1 ≠ (TX3 b).2.1 := by decide +kernel
theorem tyX3_ok : ∀ k, k < 3 → parseFieldDescriptor (TX3 k).2.2.1 = some (tyX3 k) := by decide +kernel
set_option maxRecDepth 20000 in
theorem inX3 : ∀ w ∈ u_ws RX3 TX3 3, w ∈ mTb := fun w h => List.mem_filter.mpr ⟨mem_by [307, 309, 311] (by decide +kernel) w h, List.all_eq_true.mp (show (u_ws RX3 TX3 3).all goodWord = true by decide +kernel) w h⟩
def RX4 : String := "HearingBoards$Stack"
def TX4 : u_T := fun k => match k with
  | 0 => ("HearingBoards$Stack", "cells", "[I", true)
  | _ => ("HearingBoards$Stack", "size", "I", false)
def tyX4 : Nat → FieldType := fun k => match k with
  | 0 => .array (.int)
  | _ => .int
theorem nmX4 : ∀ a, a < 2 → ∀ b, b < 2 → a ≠ b → (TX4 a).2.1 ≠ (TX4 b).2.1 := by decide +kernel
theorem tyX4_ok : ∀ k, k < 2 → parseFieldDescriptor (TX4 k).2.2.1 = some (tyX4 k) := by decide +kernel
set_option maxRecDepth 20000 in
theorem inX4 : ∀ w ∈ u_ws RX4 TX4 2, w ∈ mTb := fun w h => List.mem_filter.mpr ⟨mem_by [182, 184] (by decide +kernel) w h, List.all_eq_true.mp (show (u_ws RX4 TX4 2).all goodWord = true by decide +kernel) w h⟩
def RX5 : String := "HearingBoards$Tape"
def TX5 : u_T := fun k => match k with
  | 0 => ("HearingBoards$Tape", "bytes", "[B", true)
  | _ => ("HearingBoards$Tape", "size", "I", false)
def tyX5 : Nat → FieldType := fun k => match k with
  | 0 => .array (.byte)
  | _ => .int
theorem nmX5 : ∀ a, a < 2 → ∀ b, b < 2 → a ≠ b → (TX5 a).2.1 ≠ (TX5 b).2.1 := by decide +kernel
theorem tyX5_ok : ∀ k, k < 2 → parseFieldDescriptor (TX5 k).2.2.1 = some (tyX5 k) := by decide +kernel
set_option maxRecDepth 20000 in
theorem inX5 : ∀ w ∈ u_ws RX5 TX5 2, w ∈ mTb := fun w h => List.mem_filter.mpr ⟨mem_by [255, 257] (by decide +kernel) w h, List.all_eq_true.mp (show (u_ws RX5 TX5 2).all goodWord = true by decide +kernel) w h⟩
def RX6 : String := "HearingBoards$Text"
def TX6 : u_T := fun k => match k with
  | 0 => ("HearingBoards$Text", "key", "I", true)
  | 1 => ("HearingBoards$Text", "offence", "I", true)
  | 2 => ("HearingBoards$Text", "day", "I", true)
  | 3 => ("HearingBoards$Text", "leaves", "I", true)
  | _ => ("HearingBoards$Text", "codes", "[I", true)
def tyX6 : Nat → FieldType := fun k => match k with
  | 0 => .int
  | 1 => .int
  | 2 => .int
  | 3 => .int
  | _ => .array (.int)
theorem nmX6 : ∀ a, a < 5 → ∀ b, b < 5 → a ≠ b → (TX6 a).2.1 ≠ (TX6 b).2.1 := by decide +kernel
theorem tyX6_ok : ∀ k, k < 5 → parseFieldDescriptor (TX6 k).2.2.1 = some (tyX6 k) := by decide +kernel
set_option maxRecDepth 20000 in
theorem inX6 : ∀ w ∈ u_ws RX6 TX6 5, w ∈ mTb := fun w h => List.mem_filter.mpr ⟨mem_by [820, 822, 824, 826, 828] (by decide +kernel) w h, List.all_eq_true.mp (show (u_ws RX6 TX6 5).all goodWord = true by decide +kernel) w h⟩
def RX7 : String := "HearingBoards$TextReader"
def TX7 : u_T := fun k => match k with
  | 0 => ("HearingBoards$TextReader", "tape", "LHearingBoards$Tape;", true)
  | 1 => ("HearingBoards$TextReader", "codes", "[I", true)
  | 2 => ("HearingBoards$TextReader", "codeCount", "I", false)
  | 3 => ("HearingBoards$TextReader", "leaves", "I", false)
  | 4 => ("HearingBoards$TextReader", "key", "I", false)
  | 5 => ("HearingBoards$TextReader", "fault", "I", false)
  | 6 => ("HearingBoards$TextReader", "sort", "I", false)
  | 7 => ("HearingBoards$TextReader", "place", "I", false)
  | _ => ("HearingBoards$TextReader", "behind", "I", false)
def tyX7 : Nat → FieldType := fun k => match k with
  | 0 => .object "HearingBoards$Tape"
  | 1 => .array (.int)
  | 2 => .int
  | 3 => .int
  | 4 => .int
  | 5 => .int
  | 6 => .int
  | 7 => .int
  | _ => .int
theorem nmX7 : ∀ a, a < 9 → ∀ b, b < 9 → a ≠ b → (TX7 a).2.1 ≠ (TX7 b).2.1 := by decide +kernel
theorem tyX7_ok : ∀ k, k < 9 → parseFieldDescriptor (TX7 k).2.2.1 = some (tyX7 k) := by decide +kernel
set_option maxRecDepth 20000 in
theorem inX7 : ∀ w ∈ u_ws RX7 TX7 9, w ∈ mTb := fun w h => List.mem_filter.mpr ⟨mem_by [276, 278, 280, 282, 284, 286, 288, 290, 292] (by decide +kernel) w h, List.all_eq_true.mp (show (u_ws RX7 TX7 9).all goodWord = true by decide +kernel) w h⟩
def RX8 : String := "HearingBoards$Time"
def TX8 : u_T := fun k => match k with
  | 0 => ("HearingBoards$Time", "sentences", "LHearingBoards$Rows;", true)
  | 1 => ("HearingBoards$Time", "spans", "LHearingBoards$Rows;", true)
  | 2 => ("HearingBoards$Time", "gaps", "LHearingBoards$Rows;", true)
  | _ => ("HearingBoards$Time", "credits", "LHearingBoards$Rows;", true)
def tyX8 : Nat → FieldType := fun k => match k with
  | 0 => .object "HearingBoards$Rows"
  | 1 => .object "HearingBoards$Rows"
  | 2 => .object "HearingBoards$Rows"
  | _ => .object "HearingBoards$Rows"
theorem nmX8 : ∀ a, a < 4 → ∀ b, b < 4 → a ≠ b → (TX8 a).2.1 ≠ (TX8 b).2.1 := by decide +kernel
theorem tyX8_ok : ∀ k, k < 4 → parseFieldDescriptor (TX8 k).2.2.1 = some (tyX8 k) := by decide +kernel
set_option maxRecDepth 20000 in
theorem inX8 : ∀ w ∈ u_ws RX8 TX8 4, w ∈ mTb := fun w h => List.mem_filter.mpr ⟨mem_by [157, 159, 161, 163] (by decide +kernel) w h, List.all_eq_true.mp (show (u_ws RX8 TX8 4).all goodWord = true by decide +kernel) w h⟩
def RX9 : String := "HearingBoards"
def TX9 : u_T := fun k => match k with
  | 0 => ("HearingBoards", "books", "LHearingBoards$Books;", true)
  | 1 => ("HearingBoards", "image", "LHearingBoards$Books;", true)
  | 2 => ("HearingBoards", "trial", "LHearingBoards$Books;", true)
  | 3 => ("HearingBoards", "imageKept", "Z", false)
  | 4 => ("HearingBoards", "tape", "LHearingBoards$Tape;", true)
  | 5 => ("HearingBoards", "reader", "LHearingBoards$TextReader;", true)
  | 6 => ("HearingBoards", "sheets", "[LHearingBoards$Sheet;", true)
  | 7 => ("HearingBoards", "waiting", "[I", true)
  | _ => ("HearingBoards", "waitingCount", "I", false)
def tyX9 : Nat → FieldType := fun k => match k with
  | 0 => .object "HearingBoards$Books"
  | 1 => .object "HearingBoards$Books"
  | 2 => .object "HearingBoards$Books"
  | 3 => .boolean
  | 4 => .object "HearingBoards$Tape"
  | 5 => .object "HearingBoards$TextReader"
  | 6 => .array (.object "HearingBoards$Sheet")
  | 7 => .array (.int)
  | _ => .int
theorem nmX9 : ∀ a, a < 9 → ∀ b, b < 9 → a ≠ b → (TX9 a).2.1 ≠ (TX9 b).2.1 := by decide +kernel
theorem tyX9_ok : ∀ k, k < 9 → parseFieldDescriptor (TX9 k).2.2.1 = some (tyX9 k) := by decide +kernel
set_option maxRecDepth 20000 in
theorem inX9 : ∀ w ∈ u_ws RX9 TX9 9, w ∈ mTb := fun w h => List.mem_filter.mpr ⟨mem_by [324, 326, 328, 330, 332, 334, 336, 338, 340] (by decide +kernel) w h, List.all_eq_true.mp (show (u_ws RX9 TX9 9).all goodWord = true by decide +kernel) w h⟩
def RX10 : String := "HearingBoardsModel"
def TX10 : u_T := fun k => match k with
  | 0 => ("HearingBoardsModel", "now", "[I", true)
  | 1 => ("HearingBoardsModel", "image", "[I", true)
  | 2 => ("HearingBoardsModel", "aside", "[I", true)
  | 3 => ("HearingBoardsModel", "hasImage", "Z", false)
  | 4 => ("HearingBoardsModel", "tape", "[I", true)
  | 5 => ("HearingBoardsModel", "taped", "I", false)
  | 6 => ("HearingBoardsModel", "waits", "[I", true)
  | 7 => ("HearingBoardsModel", "waiting", "I", false)
  | 8 => ("HearingBoardsModel", "sorts", "[I", true)
  | 9 => ("HearingBoardsModel", "sizes", "[I", true)
  | 10 => ("HearingBoardsModel", "sheets", "[J", true)
  | 11 => ("HearingBoardsModel", "points", "[I", true)
  | 12 => ("HearingBoardsModel", "pointMany", "I", false)
  | 13 => ("HearingBoardsModel", "from", "I", false)
  | 14 => ("HearingBoardsModel", "to", "I", false)
  | 15 => ("HearingBoardsModel", "sort", "I", false)
  | 16 => ("HearingBoardsModel", "isFault", "Z", false)
  | 17 => ("HearingBoardsModel", "brackets", "I", false)
  | 18 => ("HearingBoardsModel", "nots", "I", false)
  | 19 => ("HearingBoardsModel", "names", "Ljava/lang/String;", false)
  | 20 => ("HearingBoardsModel", "code", "[I", true)
  | 21 => ("HearingBoardsModel", "codes", "I", false)
  | 22 => ("HearingBoardsModel", "parts", "I", false)
  | 23 => ("HearingBoardsModel", "KEYS", "[Ljava/lang/String;", true)
  | 24 => ("HearingBoardsModel", "NAMES", "[Ljava/lang/String;", true)
  | 25 => ("HearingBoardsModel", "pile", "[I", true)
  | 26 => ("HearingBoardsModel", "told", "[I", true)
  | _ => ("HearingBoardsModel", "between", "[J", true)
def tyX10 : Nat → FieldType := fun k => match k with
  | 0 => .array (.int)
  | 1 => .array (.int)
  | 2 => .array (.int)
  | 3 => .boolean
  | 4 => .array (.int)
  | 5 => .int
  | 6 => .array (.int)
  | 7 => .int
  | 8 => .array (.int)
  | 9 => .array (.int)
  | 10 => .array (.long)
  | 11 => .array (.int)
  | 12 => .int
  | 13 => .int
  | 14 => .int
  | 15 => .int
  | 16 => .boolean
  | 17 => .int
  | 18 => .int
  | 19 => .object "java/lang/String"
  | 20 => .array (.int)
  | 21 => .int
  | 22 => .int
  | 23 => .array (.object "java/lang/String")
  | 24 => .array (.object "java/lang/String")
  | 25 => .array (.int)
  | 26 => .array (.int)
  | _ => .array (.long)
theorem nmX10 : ∀ a, a < 28 → ∀ b, b < 28 → a ≠ b → (TX10 a).2.1 ≠ (TX10 b).2.1 := by decide +kernel
theorem tyX10_ok : ∀ k, k < 28 → parseFieldDescriptor (TX10 k).2.2.1 = some (tyX10 k) := by decide +kernel
set_option maxRecDepth 20000 in
theorem inX10 : ∀ w ∈ u_ws RX10 TX10 28, w ∈ mTb := fun w h => List.mem_filter.mpr ⟨mem_by [1210, 1212, 1214, 1216, 1218, 1220, 1222, 1224, 1226, 1228, 1230, 1232, 1234, 1236, 1238, 1240, 1242, 1244, 1246, 1248, 1250, 1252, 1254, 1256, 1258, 1260, 1262, 1264] (by decide +kernel) w h, List.all_eq_true.mp (show (u_ws RX10 TX10 28).all goodWord = true by decide +kernel) w h⟩
abbrev mCl : List vw_C := [(RX0, TX0, 12), (RX1, TX1, 3), (RX2, TX2, 4), (RX3, TX3, 3), (RX4, TX4, 2), (RX5, TX5, 2), (RX6, TX6, 5), (RX7, TX7, 9), (RX8, TX8, 4), (RX9, TX9, 9), (RX10, TX10, 28)]
def mStr : List (List Int32) := [[102, 105, 114, 115, 116], [110, 111, 116, 105, 99, 101], [108, 101, 116], [97, 103, 97, 105, 110], [117, 110, 119, 105, 110, 100], [116, 99, 104], [118], [114, 104, 99, 115], [119], [100], [124], [38], [60, 61, 62], [43, 45], [42, 47], [], [102, 105, 114, 115, 116], [110, 111, 116, 105, 99, 101], [108, 101, 116], [97, 103, 97, 105, 110], [117, 110, 119, 105, 110, 100], [116, 99, 104], [118], [114, 104, 99, 115], [119], [100], [124, 38, 60, 61, 62, 43, 45, 42, 47, 33]]
def mSR : List (String × Nat × String) := [("HearingBoards$TextReader", 135, "first"), ("HearingBoards$TextReader", 137, "notice"), ("HearingBoards$TextReader", 139, "let"), ("HearingBoards$TextReader", 141, "again"), ("HearingBoards$TextReader", 143, "unwind"), ("HearingBoards$TextReader", 145, "tch"), ("HearingBoards$TextReader", 147, "v"), ("HearingBoards$TextReader", 149, "rhcs"), ("HearingBoards$TextReader", 151, "w"), ("HearingBoards$TextReader", 153, "d"), ("HearingBoards$TextReader", 155, "|"), ("HearingBoards$TextReader", 157, "&"), ("HearingBoards$TextReader", 159, "<=>"), ("HearingBoards$TextReader", 161, "+-"), ("HearingBoards$TextReader", 163, "*/"), ("HearingBoardsModel", 38, ""), ("HearingBoardsModel", 49, "first"), ("HearingBoardsModel", 51, "notice"), ("HearingBoardsModel", 53, "let"), ("HearingBoardsModel", 55, "again"), ("HearingBoardsModel", 57, "unwind"), ("HearingBoardsModel", 63, "tch"), ("HearingBoardsModel", 65, "v"), ("HearingBoardsModel", 67, "rhcs"), ("HearingBoardsModel", 69, "w"), ("HearingBoardsModel", 71, "d"), ("HearingBoardsModel", 225, "|&<=>+-*/!")]
def mNs : List (String × Nat × MethodName × String) := [("HearingBoards", 9, ⟨"HearingBoards$Books", "<init>", "()V"⟩, "HearingBoards"), ("HearingBoards$Books", 37, ⟨"HearingBoards$Time", "<init>", "()V"⟩, "HearingBoards"), ("HearingBoards$Books", 44, ⟨"HearingBoards$Law", "<init>", "()V"⟩, "HearingBoards"), ("HearingBoards$Law", 19, ⟨"HearingBoards$Stack", "<init>", "()V"⟩, "HearingBoards"), ("HearingBoards", 24, ⟨"HearingBoards$Tape", "<init>", "()V"⟩, "HearingBoards"), ("HearingBoards", 40, ⟨"HearingBoards$Sheet", "<init>", "()V"⟩, "HearingBoards"), ("HearingBoards$Books", 105, ⟨"HearingBoards", "hundredths", "(II)I"⟩, "HearingBoards"), ("HearingBoards$Books", 142, ⟨"HearingBoards", "isUnder", "(II)Z"⟩, "HearingBoards")]
def f_JM_max : MethodName × ByteArray × Nat × Option FieldType × Nat := (⟨"java/lang/Math", "max", "(II)I"⟩, prog_16_method_65_code, 2, (some .int), 0)
def f_R_init : MethodName × ByteArray × Nat × Option FieldType × Nat := (⟨"HearingBoards$Rows", "<init>", "(II)V"⟩, prog_4_method_1_code, 3, none, 1)
def f_I_init : MethodName × ByteArray × Nat × Option FieldType × Nat := (⟨"HearingBoards$Time", "<init>", "()V"⟩, prog_10_method_1_code, 1, none, 2)
def f_K_init : MethodName × ByteArray × Nat × Option FieldType × Nat := (⟨"HearingBoards$Stack", "<init>", "()V"⟩, prog_6_method_1_code, 1, none, 1)
def f_L_init : MethodName × ByteArray × Nat × Option FieldType × Nat := (⟨"HearingBoards$Law", "<init>", "()V"⟩, prog_3_method_1_code, 1, none, 2)
def f_B_init : MethodName × ByteArray × Nat × Option FieldType × Nat := (⟨"HearingBoards$Books", "<init>", "()V"⟩, prog_2_method_1_code, 1, none, 3)
def f_P_init : MethodName × ByteArray × Nat × Option FieldType × Nat := (⟨"HearingBoards$Tape", "<init>", "()V"⟩, prog_7_method_1_code, 1, none, 1)
def f_D_init : MethodName × ByteArray × Nat × Option FieldType × Nat := (⟨"HearingBoards$TextReader", "<init>", "(LHearingBoards$Tape;)V"⟩, prog_9_method_1_code, 2, none, 1)
def f_S_init : MethodName × ByteArray × Nat × Option FieldType × Nat := (⟨"HearingBoards$Sheet", "<init>", "()V"⟩, prog_5_method_1_code, 1, none, 1)
def f_X_init : MethodName × ByteArray × Nat × Option FieldType × Nat := (⟨"HearingBoards", "<init>", "()V"⟩, prog_1_method_1_code, 1, none, 4)
def f_M_init : MethodName × ByteArray × Nat × Option FieldType × Nat := (⟨"HearingBoardsModel", "<init>", "()V"⟩, prog_12_method_1_code, 2, none, 1)
def f_X_within : MethodName × ByteArray × Nat × Option FieldType × Nat := (⟨"HearingBoards", "within", "(III)Z"⟩, prog_1_method_51_code, 3, (some .boolean), 0)
def f_R_isFull : MethodName × ByteArray × Nat × Option FieldType × Nat := (⟨"HearingBoards$Rows", "isFull", "()Z"⟩, prog_4_method_3_code, 1, (some .boolean), 0)
def f_R_put : MethodName × ByteArray × Nat × Option FieldType × Nat := (⟨"HearingBoards$Rows", "put", "(III)V"⟩, prog_4_method_5_code, 5, none, 0)
def f_R_more : MethodName × ByteArray × Nat × Option FieldType × Nat := (⟨"HearingBoards$Rows", "more", "(IIII)I"⟩, prog_4_method_7_code, 7, (some .int), 1)
def f_I_beginSpan : MethodName × ByteArray × Nat × Option FieldType × Nat := (⟨"HearingBoards$Time", "beginSpan", "(II)V"⟩, prog_10_method_7_code, 3, none, 2)
def f_X_person : MethodName × ByteArray × Nat × Option FieldType × Nat := (⟨"HearingBoards", "person", "(IIII)I"⟩, prog_1_method_2_code, 6, (some .int), 3)
def f_M_within : MethodName × ByteArray × Nat × Option FieldType × Nat := (⟨"HearingBoardsModel", "within", "(JJJ)Z"⟩, prog_12_method_2_code, 6, (some .boolean), 0)
def f_M_becomes : MethodName × ByteArray × Nat × Option FieldType × Nat := (⟨"HearingBoardsModel", "becomes", "(III)V"⟩, prog_12_method_5_code, 4, none, 0)
def f_M_begins : MethodName × ByteArray × Nat × Option FieldType × Nat := (⟨"HearingBoardsModel", "begins", "(I)V"⟩, prog_12_method_9_code, 3, none, 1)
def f_M_person : MethodName × ByteArray × Nat × Option FieldType × Nat := (⟨"HearingBoardsModel", "person", "(IIII)I"⟩, prog_12_method_8_code, 6, (some .int), 2)
def f_R_has : MethodName × ByteArray × Nat × Option FieldType × Nat := (⟨"HearingBoards$Rows", "has", "(I)Z"⟩, prog_4_method_2_code, 2, (some .boolean), 0)
def f_R_at : MethodName × ByteArray × Nat × Option FieldType × Nat := (⟨"HearingBoards$Rows", "at", "(II)I"⟩, prog_4_method_4_code, 4, (some .int), 0)
def f_I_totalOf : MethodName × ByteArray × Nat × Option FieldType × Nat := (⟨"HearingBoards$Time", "totalOf", "(I)I"⟩, prog_10_method_3_code, 6, (some .int), 1)
def f_JI_bitCount : MethodName × ByteArray × Nat × Option FieldType × Nat := (⟨"java/lang/Integer", "bitCount", "(I)I"⟩, prog_15_method_49_code, 1, (some .int), 0)
def f_X_hundredths : MethodName × ByteArray × Nat × Option FieldType × Nat := (⟨"HearingBoards", "hundredths", "(II)I"⟩, prog_1_method_52_code, 2, (some .int), 0)
def f_B_hundredthsFor : MethodName × ByteArray × Nat × Option FieldType × Nat := (⟨"HearingBoards$Books", "hundredthsFor", "(II)I"⟩, prog_2_method_8_code, 4, (some .int), 1)
def f_B_setHearingOf : MethodName × ByteArray × Nat × Option FieldType × Nat := (⟨"HearingBoards$Books", "setHearingOf", "(I)I"⟩, prog_2_method_18_code, 3, (some .int), 1)
def f_X_told : MethodName × ByteArray × Nat × Option FieldType × Nat := (⟨"HearingBoards", "told", "(II)I"⟩, prog_1_method_3_code, 3, (some .int), 2)
def f_M_there : MethodName × ByteArray × Nat × Option FieldType × Nat := (⟨"HearingBoardsModel", "there", "(II)Z"⟩, prog_12_method_3_code, 3, (some .boolean), 1)
def f_M_total : MethodName × ByteArray × Nat × Option FieldType × Nat := (⟨"HearingBoardsModel", "total", "(I)I"⟩, prog_12_method_11_code, 6, (some .int), 1)
def f_M_heardOf : MethodName × ByteArray × Nat × Option FieldType × Nat := (⟨"HearingBoardsModel", "heardOf", "(I)I"⟩, prog_12_method_12_code, 4, (some .int), 0)
def f_M_ofCase : MethodName × ByteArray × Nat × Option FieldType × Nat := (⟨"HearingBoardsModel", "ofCase", "(II)I"⟩, prog_12_method_4_code, 3, (some .int), 0)
def f_M_bits : MethodName × ByteArray × Nat × Option FieldType × Nat := (⟨"HearingBoardsModel", "bits", "(I)I"⟩, prog_12_method_6_code, 3, (some .int), 0)
def f_M_riskOf : MethodName × ByteArray × Nat × Option FieldType × Nat := (⟨"HearingBoardsModel", "riskOf", "(II)I"⟩, prog_12_method_13_code, 4, (some .int), 1)
def f_M_setOf : MethodName × ByteArray × Nat × Option FieldType × Nat := (⟨"HearingBoardsModel", "setOf", "(I)I"⟩, prog_12_method_14_code, 3, (some .int), 0)
def f_M_told : MethodName × ByteArray × Nat × Option FieldType × Nat := (⟨"HearingBoardsModel", "told", "(II)I"⟩, prog_12_method_15_code, 3, (some .int), 2)
def f_X_mostOfCase : MethodName × ByteArray × Nat × Option FieldType × Nat := (⟨"HearingBoards", "mostOfCase", "(I)I"⟩, prog_1_method_53_code, 1, (some .int), 0)
def f_R_exchange : MethodName × ByteArray × Nat × Option FieldType × Nat := (⟨"HearingBoards$Rows", "exchange", "(III)I"⟩, prog_4_method_6_code, 5, (some .int), 1)
def f_X_be : MethodName × ByteArray × Nat × Option FieldType × Nat := (⟨"HearingBoards", "be", "(III)I"⟩, prog_1_method_4_code, 4, (some .int), 2)
def f_M_be : MethodName × ByteArray × Nat × Option FieldType × Nat := (⟨"HearingBoardsModel", "be", "(III)I"⟩, prog_12_method_16_code, 6, (some .int), 2)
def f_B_stateOf : MethodName × ByteArray × Nat × Option FieldType × Nat := (⟨"HearingBoards$Books", "stateOf", "(I)I"⟩, prog_2_method_3_code, 2, (some .int), 1)
def f_X_sentence : MethodName × ByteArray × Nat × Option FieldType × Nat := (⟨"HearingBoards", "sentence", "(III)I"⟩, prog_1_method_5_code, 4, (some .int), 2)
def f_M_sentence : MethodName × ByteArray × Nat × Option FieldType × Nat := (⟨"HearingBoardsModel", "sentence", "(III)I"⟩, prog_12_method_17_code, 5, (some .int), 2)
def f_X_gap : MethodName × ByteArray × Nat × Option FieldType × Nat := (⟨"HearingBoards", "gap", "(III)I"⟩, prog_1_method_6_code, 4, (some .int), 2)
def f_M_gap : MethodName × ByteArray × Nat × Option FieldType × Nat := (⟨"HearingBoardsModel", "gap", "(III)I"⟩, prog_12_method_18_code, 5, (some .int), 2)
def f_I_latestSpan : MethodName × ByteArray × Nat × Option FieldType × Nat := (⟨"HearingBoards$Time", "latestSpan", "(I)I"⟩, prog_10_method_11_code, 3, (some .int), 1)
def f_I_goesOn : MethodName × ByteArray × Nat × Option FieldType × Nat := (⟨"HearingBoards$Time", "goesOn", "(I)Z"⟩, prog_10_method_10_code, 2, (some .boolean), 1)
def f_B_hasFled : MethodName × ByteArray × Nat × Option FieldType × Nat := (⟨"HearingBoards$Books", "hasFled", "(I)Z"⟩, prog_2_method_5_code, 2, (some .boolean), 2)
def f_I_endSpan : MethodName × ByteArray × Nat × Option FieldType × Nat := (⟨"HearingBoards$Time", "endSpan", "(II)V"⟩, prog_10_method_8_code, 4, none, 2)
def f_X_flee : MethodName × ByteArray × Nat × Option FieldType × Nat := (⟨"HearingBoards", "flee", "(I)I"⟩, prog_1_method_7_code, 2, (some .int), 3)
def f_M_ends : MethodName × ByteArray × Nat × Option FieldType × Nat := (⟨"HearingBoardsModel", "ends", "(I)V"⟩, prog_12_method_10_code, 3, none, 1)
def f_M_flee : MethodName × ByteArray × Nat × Option FieldType × Nat := (⟨"HearingBoardsModel", "flee", "(I)I"⟩, prog_12_method_19_code, 2, (some .int), 2)
def f_X_caught : MethodName × ByteArray × Nat × Option FieldType × Nat := (⟨"HearingBoards", "caught", "(I)I"⟩, prog_1_method_8_code, 2, (some .int), 3)
def f_M_caught : MethodName × ByteArray × Nat × Option FieldType × Nat := (⟨"HearingBoardsModel", "caught", "(I)I"⟩, prog_12_method_20_code, 2, (some .int), 2)
def f_B_leave : MethodName × ByteArray × Nat × Option FieldType × Nat := (⟨"HearingBoards$Books", "leave", "(II)V"⟩, prog_2_method_6_code, 3, none, 3)
def f_X_gone : MethodName × ByteArray × Nat × Option FieldType × Nat := (⟨"HearingBoards", "gone", "(I)I"⟩, prog_1_method_9_code, 2, (some .int), 4)
def f_M_gone : MethodName × ByteArray × Nat × Option FieldType × Nat := (⟨"HearingBoardsModel", "gone", "(I)I"⟩, prog_12_method_21_code, 2, (some .int), 2)
def f_JM_min : MethodName × ByteArray × Nat × Option FieldType × Nat := (⟨"java/lang/Math", "min", "(II)I"⟩, prog_16_method_69_code, 2, (some .int), 0)
def f_I_freeDays : MethodName × ByteArray × Nat × Option FieldType × Nat := (⟨"HearingBoards$Time", "freeDays", "(III)I"⟩, prog_10_method_6_code, 11, (some .int), 1)
def f_I_servedOf : MethodName × ByteArray × Nat × Option FieldType × Nat := (⟨"HearingBoards$Time", "servedOf", "(II)I"⟩, prog_10_method_5_code, 5, (some .int), 2)
def f_X_served : MethodName × ByteArray × Nat × Option FieldType × Nat := (⟨"HearingBoards", "served", "(II)I"⟩, prog_1_method_10_code, 3, (some .int), 3)
def f_M_point : MethodName × ByteArray × Nat × Option FieldType × Nat := (⟨"HearingBoardsModel", "point", "(II)V"⟩, prog_12_method_22_code, 5, none, 1)
def f_M_counts : MethodName × ByteArray × Nat × Option FieldType × Nat := (⟨"HearingBoardsModel", "counts", "(II)Z"⟩, prog_12_method_23_code, 6, (some .boolean), 0)
def f_M_servedOn : MethodName × ByteArray × Nat × Option FieldType × Nat := (⟨"HearingBoardsModel", "servedOn", "(II)I"⟩, prog_12_method_24_code, 5, (some .int), 2)
def f_M_served : MethodName × ByteArray × Nat × Option FieldType × Nat := (⟨"HearingBoardsModel", "served", "(II)I"⟩, prog_12_method_25_code, 3, (some .int), 3)
def f_X_credit : MethodName × ByteArray × Nat × Option FieldType × Nat := (⟨"HearingBoards", "credit", "(II)I"⟩, prog_1_method_11_code, 3, (some .int), 2)
def f_M_credit : MethodName × ByteArray × Nat × Option FieldType × Nat := (⟨"HearingBoardsModel", "credit", "(II)I"⟩, prog_12_method_26_code, 4, (some .int), 2)
def f_X_back : MethodName × ByteArray × Nat × Option FieldType × Nat := (⟨"HearingBoards", "back", "(I)I"⟩, prog_1_method_12_code, 3, (some .int), 1)
def f_M_back : MethodName × ByteArray × Nat × Option FieldType × Nat := (⟨"HearingBoardsModel", "back", "(I)I"⟩, prog_12_method_27_code, 3, (some .int), 2)
def f_I_creditOf : MethodName × ByteArray × Nat × Option FieldType × Nat := (⟨"HearingBoards$Time", "creditOf", "(II)I"⟩, prog_10_method_4_code, 5, (some .int), 1)
def f_X_credits : MethodName × ByteArray × Nat × Option FieldType × Nat := (⟨"HearingBoards", "credits", "(II)I"⟩, prog_1_method_13_code, 3, (some .int), 2)
def f_M_creditOf : MethodName × ByteArray × Nat × Option FieldType × Nat := (⟨"HearingBoardsModel", "creditOf", "(II)I"⟩, prog_12_method_28_code, 7, (some .int), 0)
def f_M_credits : MethodName × ByteArray × Nat × Option FieldType × Nat := (⟨"HearingBoardsModel", "credits", "(II)I"⟩, prog_12_method_29_code, 3, (some .int), 2)
def f_L_textAt : MethodName × ByteArray × Nat × Option FieldType × Nat := (⟨"HearingBoards$Law", "textAt", "(I)LHearingBoards$Text;"⟩, prog_3_method_4_code, 2, (some (.object "HearingBoards$Text")), 0)
def f_T_counts : MethodName × ByteArray × Nat × Option FieldType × Nat := (⟨"HearingBoards$Text", "counts", "(III)Z"⟩, prog_8_method_2_code, 4, (some .boolean), 0)
def f_L_countingText : MethodName × ByteArray × Nat × Option FieldType × Nat := (⟨"HearingBoards$Law", "countingText", "(III)I"⟩, prog_3_method_5_code, 8, (some .int), 1)
def f_L_unwritten : MethodName × ByteArray × Nat × Option FieldType × Nat := (⟨"HearingBoards$Law", "unwritten", "(II)I"⟩, prog_3_method_7_code, 2, (some .int), 0)
def f_K_clear : MethodName × ByteArray × Nat × Option FieldType × Nat := (⟨"HearingBoards$Stack", "clear", "()V"⟩, prog_6_method_2_code, 1, none, 0)
def f_K_push : MethodName × ByteArray × Nat × Option FieldType × Nat := (⟨"HearingBoards$Stack", "push", "(I)V"⟩, prog_6_method_3_code, 2, none, 0)
def f_T_named : MethodName × ByteArray × Nat × Option FieldType × Nat := (⟨"HearingBoards$Text", "named", "(IIIII)I"⟩, prog_8_method_4_code, 5, (some .int), 0)
def f_K_pop : MethodName × ByteArray × Nat × Option FieldType × Nat := (⟨"HearingBoards$Stack", "pop", "()I"⟩, prog_6_method_4_code, 1, (some .int), 0)
def f_T_joined : MethodName × ByteArray × Nat × Option FieldType × Nat := (⟨"HearingBoards$Text", "joined", "(III)I"⟩, prog_8_method_5_code, 3, (some .int), 0)
def f_T_value : MethodName × ByteArray × Nat × Option FieldType × Nat := (⟨"HearingBoards$Text", "value", "(LHearingBoards$Stack;IIII)I"⟩, prog_8_method_3_code, 10, (some .int), 1)
def f_L_held : MethodName × ByteArray × Nat × Option FieldType × Nat := (⟨"HearingBoards$Law", "held", "(II)I"⟩, prog_3_method_8_code, 2, (some .int), 1)
def f_L_ruleOf : MethodName × ByteArray × Nat × Option FieldType × Nat := (⟨"HearingBoards$Law", "ruleOf", "(IIIIIII)I"⟩, prog_3_method_6_code, 9, (some .int), 2)
def f_B_isDue : MethodName × ByteArray × Nat × Option FieldType × Nat := (⟨"HearingBoards$Books", "isDue", "(II)Z"⟩, prog_2_method_9_code, 4, (some .boolean), 3)
def f_X_due : MethodName × ByteArray × Nat × Option FieldType × Nat := (⟨"HearingBoards", "due", "(II)I"⟩, prog_1_method_14_code, 3, (some .int), 4)
def f_M_counting : MethodName × ByteArray × Nat × Option FieldType × Nat := (⟨"HearingBoardsModel", "counting", "(II)I"⟩, prog_12_method_52_code, 7, (some .int), 0)
def f_M_done : MethodName × ByteArray × Nat × Option FieldType × Nat := (⟨"HearingBoardsModel", "done", "(III)I"⟩, prog_12_method_54_code, 3, (some .int), 0)
def f_M_worked : MethodName × ByteArray × Nat × Option FieldType × Nat := (⟨"HearingBoardsModel", "worked", "(I)I"⟩, prog_12_method_55_code, 5, (some .int), 1)
def f_M_ruled : MethodName × ByteArray × Nat × Option FieldType × Nat := (⟨"HearingBoardsModel", "ruled", "(IIIIII)I"⟩, prog_12_method_56_code, 12, (some .int), 2)
def f_M_firstOf : MethodName × ByteArray × Nat × Option FieldType × Nat := (⟨"HearingBoardsModel", "firstOf", "(I)I"⟩, prog_12_method_30_code, 2, (some .int), 3)
def f_M_isDue : MethodName × ByteArray × Nat × Option FieldType × Nat := (⟨"HearingBoardsModel", "isDue", "(II)Z"⟩, prog_12_method_31_code, 3, (some .boolean), 4)
def f_M_due : MethodName × ByteArray × Nat × Option FieldType × Nat := (⟨"HearingBoardsModel", "due", "(II)I"⟩, prog_12_method_32_code, 3, (some .int), 5)
def f_B_dateOf : MethodName × ByteArray × Nat × Option FieldType × Nat := (⟨"HearingBoards$Books", "dateOf", "(I)I"⟩, prog_2_method_10_code, 6, (some .int), 4)
def f_X_date : MethodName × ByteArray × Nat × Option FieldType × Nat := (⟨"HearingBoards", "date", "(I)I"⟩, prog_1_method_15_code, 2, (some .int), 5)
def f_M_date : MethodName × ByteArray × Nat × Option FieldType × Nat := (⟨"HearingBoardsModel", "date", "(I)I"⟩, prog_12_method_33_code, 6, (some .int), 4)
def f_P_hasRoom : MethodName × ByteArray × Nat × Option FieldType × Nat := (⟨"HearingBoards$Tape", "hasRoom", "()Z"⟩, prog_7_method_2_code, 1, (some .boolean), 0)
def f_P_append : MethodName × ByteArray × Nat × Option FieldType × Nat := (⟨"HearingBoards$Tape", "append", "(I)V"⟩, prog_7_method_3_code, 3, none, 0)
def f_X_feed : MethodName × ByteArray × Nat × Option FieldType × Nat := (⟨"HearingBoards", "feed", "(III)I"⟩, prog_1_method_16_code, 4, (some .int), 1)
def f_M_feed : MethodName × ByteArray × Nat × Option FieldType × Nat := (⟨"HearingBoardsModel", "feed", "(III)I"⟩, prog_12_method_34_code, 6, (some .int), 0)
def f_X_trim : MethodName × ByteArray × Nat × Option FieldType × Nat := (⟨"HearingBoards", "trim", "(I)I"⟩, prog_1_method_17_code, 2, (some .int), 1)
def f_M_trim : MethodName × ByteArray × Nat × Option FieldType × Nat := (⟨"HearingBoardsModel", "trim", "(I)I"⟩, prog_12_method_35_code, 2, (some .int), 1)
def f_D_isWord : MethodName × ByteArray × Nat × Option FieldType × Nat := (⟨"HearingBoards$TextReader", "isWord", "(I)Z"⟩, prog_9_method_11_code, 1, (some .boolean), 0)
def f_P_byteAt : MethodName × ByteArray × Nat × Option FieldType × Nat := (⟨"HearingBoards$Tape", "byteAt", "(I)I"⟩, prog_7_method_4_code, 2, (some .int), 0)
def f_D_sortAt : MethodName × ByteArray × Nat × Option FieldType × Nat := (⟨"HearingBoards$TextReader", "sortAt", "(I)I"⟩, prog_9_method_10_code, 3, (some .int), 1)
def f_D_advance : MethodName × ByteArray × Nat × Option FieldType × Nat := (⟨"HearingBoards$TextReader", "advance", "()V"⟩, prog_9_method_9_code, 3, none, 2)
def f_D_wordOf : MethodName × ByteArray × Nat × Option FieldType × Nat := (⟨"HearingBoards$TextReader", "wordOf", "(I)Ljava/lang/String;"⟩, prog_9_method_18_code, 1, (some (.object "java/lang/String")), 0)
def f_JS_coder : MethodName × ByteArray × Nat × Option FieldType × Nat := (⟨"java/lang/String", "coder", "()B"⟩, prog_17_method_152_code, 1, (some .byte), 0)
def f_JS_length : MethodName × ByteArray × Nat × Option FieldType × Nat := (⟨"java/lang/String", "length", "()I"⟩, prog_17_method_54_code, 1, (some .int), 1)
def f_JS_isLatin1 : MethodName × ByteArray × Nat × Option FieldType × Nat := (⟨"java/lang/String", "isLatin1", "()Z"⟩, prog_17_method_154_code, 1, (some .boolean), 0)
def f_JP_checkIndex : MethodName × ByteArray × Nat × Option FieldType × Nat := (⟨"jdk/internal/util/Preconditions", "checkIndex", "(IILjava/util/function/BiFunction;)I"⟩, prog_22_method_11_code, 3, (some .int), 0)
def f_JS_checkIndex : MethodName × ByteArray × Nat × Option FieldType × Nat := (⟨"java/lang/String", "checkIndex", "(II)V"⟩, prog_17_method_155_code, 2, none, 1)
def f_JL_charAt : MethodName × ByteArray × Nat × Option FieldType × Nat := (⟨"java/lang/StringLatin1", "charAt", "([BI)C"⟩, prog_18_method_2_code, 2, (some .char), 2)
def f_JS_charAt : MethodName × ByteArray × Nat × Option FieldType × Nat := (⟨"java/lang/String", "charAt", "(I)C"⟩, prog_17_method_56_code, 2, (some .char), 3)
def f_D_isWordHere : MethodName × ByteArray × Nat × Option FieldType × Nat := (⟨"HearingBoards$TextReader", "isWordHere", "(Ljava/lang/String;)Z"⟩, prog_9_method_17_code, 3, (some .boolean), 4)
def f_D_keyHere : MethodName × ByteArray × Nat × Option FieldType × Nat := (⟨"HearingBoards$TextReader", "keyHere", "()I"⟩, prog_9_method_16_code, 2, (some .int), 5)
def f_D_numberHere : MethodName × ByteArray × Nat × Option FieldType × Nat := (⟨"HearingBoards$TextReader", "numberHere", "()I"⟩, prog_9_method_14_code, 3, (some .int), 1)
def f_D_emit : MethodName × ByteArray × Nat × Option FieldType × Nat := (⟨"HearingBoards$TextReader", "emit", "(I)V"⟩, prog_9_method_8_code, 2, none, 0)
def f_D_emitLeaf : MethodName × ByteArray × Nat × Option FieldType × Nat := (⟨"HearingBoards$TextReader", "emitLeaf", "(I)V"⟩, prog_9_method_7_code, 2, none, 3)
def f_D_namesOf : MethodName × ByteArray × Nat × Option FieldType × Nat := (⟨"HearingBoards$TextReader", "namesOf", "(I)Ljava/lang/String;"⟩, prog_9_method_19_code, 1, (some (.object "java/lang/String")), 0)
def f_JL_canEncode : MethodName × ByteArray × Nat × Option FieldType × Nat := (⟨"java/lang/StringLatin1", "canEncode", "(I)Z"⟩, prog_18_method_4_code, 1, (some .boolean), 0)
def f_JL_indexOfChar : MethodName × ByteArray × Nat × Option FieldType × Nat := (⟨"java/lang/StringLatin1", "indexOfChar", "([BIII)I"⟩, prog_18_method_23_code, 6, (some .int), 0)
def f_JL_indexOf : MethodName × ByteArray × Nat × Option FieldType × Nat := (⟨"java/lang/StringLatin1", "indexOf", "([BIII)I"⟩, prog_18_method_22_code, 4, (some .int), 1)
def f_JS_indexOf : MethodName × ByteArray × Nat × Option FieldType × Nat := (⟨"java/lang/String", "indexOf", "(II)I"⟩, prog_17_method_80_code, 3, (some .int), 2)
def f_JS_indexOf1 : MethodName × ByteArray × Nat × Option FieldType × Nat := (⟨"java/lang/String", "indexOf", "(I)I"⟩, prog_17_method_79_code, 2, (some .int), 3)
def f_D_nameHere : MethodName × ByteArray × Nat × Option FieldType × Nat := (⟨"HearingBoards$TextReader", "nameHere", "()I"⟩, prog_9_method_15_code, 2, (some .int), 4)
def f_D_isSign : MethodName × ByteArray × Nat × Option FieldType × Nat := (⟨"HearingBoards$TextReader", "isSign", "(I)Z"⟩, prog_9_method_12_code, 2, (some .boolean), 1)
def f_D_refuse : MethodName × ByteArray × Nat × Option FieldType × Nat := (⟨"HearingBoards$TextReader", "refuse", "()V"⟩, prog_9_method_6_code, 1, none, 0)
def f_D_readPart : MethodName × ByteArray × Nat × Option FieldType × Nat := (⟨"HearingBoards$TextReader", "readPart", "(II)V"⟩, prog_9_method_5_code, 3, none, 5)
def f_D_signsOf : MethodName × ByteArray × Nat × Option FieldType × Nat := (⟨"HearingBoards$TextReader", "signsOf", "(I)Ljava/lang/String;"⟩, prog_9_method_20_code, 1, (some (.object "java/lang/String")), 0)
def f_D_signIsOf : MethodName × ByteArray × Nat × Option FieldType × Nat := (⟨"HearingBoards$TextReader", "signIsOf", "(I)Z"⟩, prog_9_method_13_code, 2, (some .boolean), 4)
def f_D_readLevel : MethodName × ByteArray × Nat × Option FieldType × Nat := (⟨"HearingBoards$TextReader", "readLevel", "(III)V"⟩, prog_9_method_4_code, 7, none, 6)
def f_D_readTape : MethodName × ByteArray × Nat × Option FieldType × Nat := (⟨"HearingBoards$TextReader", "readTape", "()I"⟩, prog_9_method_2_code, 1, (some .int), 7)
def f_JA_copyOf : MethodName × ByteArray × Nat × Option FieldType × Nat := (⟨"java/util/Arrays", "copyOf", "([II)[I"⟩, prog_21_method_123_code, 3, (some (.array .int)), 1)
def f_T_init : MethodName × ByteArray × Nat × Option FieldType × Nat := (⟨"HearingBoards$Text", "<init>", "(IIII[I)V"⟩, prog_8_method_1_code, 6, none, 1)
def f_D_made : MethodName × ByteArray × Nat × Option FieldType × Nat := (⟨"HearingBoards$TextReader", "made", "(II)LHearingBoards$Text;"⟩, prog_9_method_3_code, 3, (some (.object "HearingBoards$Text")), 2)
def f_L_enact : MethodName × ByteArray × Nat × Option FieldType × Nat := (⟨"HearingBoards$Law", "enact", "(LHearingBoards$Text;)I"⟩, prog_3_method_3_code, 2, (some .int), 0)
def f_X_text : MethodName × ByteArray × Nat × Option FieldType × Nat := (⟨"HearingBoards", "text", "(II)I"⟩, prog_1_method_18_code, 5, (some .int), 8)
def f_M_isLetter : MethodName × ByteArray × Nat × Option FieldType × Nat := (⟨"HearingBoardsModel", "isLetter", "(I)Z"⟩, prog_12_method_36_code, 2, (some .boolean), 1)
def f_M_isDigit : MethodName × ByteArray × Nat × Option FieldType × Nat := (⟨"HearingBoardsModel", "isDigit", "(I)Z"⟩, prog_12_method_37_code, 2, (some .boolean), 1)
def f_M_next : MethodName × ByteArray × Nat × Option FieldType × Nat := (⟨"HearingBoardsModel", "next", "()V"⟩, prog_12_method_38_code, 3, none, 2)
def f_M_isWord : MethodName × ByteArray × Nat × Option FieldType × Nat := (⟨"HearingBoardsModel", "isWord", "(Ljava/lang/String;)Z"⟩, prog_12_method_41_code, 4, (some .boolean), 4)
def f_M_need : MethodName × ByteArray × Nat × Option FieldType × Nat := (⟨"HearingBoardsModel", "need", "(Z)V"⟩, prog_12_method_40_code, 2, none, 3)
def f_M_put : MethodName × ByteArray × Nat × Option FieldType × Nat := (⟨"HearingBoardsModel", "put", "(I)V"⟩, prog_12_method_42_code, 2, none, 0)
def f_M_isSign : MethodName × ByteArray × Nat × Option FieldType × Nat := (⟨"HearingBoardsModel", "isSign", "(I)Z"⟩, prog_12_method_39_code, 2, (some .boolean), 0)
def f_M_part : MethodName × ByteArray × Nat × Option FieldType × Nat := (⟨"HearingBoardsModel", "part", "()V"⟩, prog_12_method_44_code, 3, none, 4)
def f_M_signHere : MethodName × ByteArray × Nat × Option FieldType × Nat := (⟨"HearingBoardsModel", "signHere", "(II)I"⟩, prog_12_method_43_code, 5, (some .int), 4)
def f_M_term : MethodName × ByteArray × Nat × Option FieldType × Nat := (⟨"HearingBoardsModel", "term", "()V"⟩, prog_12_method_45_code, 2, none, 5)
def f_M_sum : MethodName × ByteArray × Nat × Option FieldType × Nat := (⟨"HearingBoardsModel", "sum", "()V"⟩, prog_12_method_46_code, 2, none, 6)
def f_M_test : MethodName × ByteArray × Nat × Option FieldType × Nat := (⟨"HearingBoardsModel", "test", "()V"⟩, prog_12_method_47_code, 2, none, 7)
def f_M_both : MethodName × ByteArray × Nat × Option FieldType × Nat := (⟨"HearingBoardsModel", "both", "()V"⟩, prog_12_method_48_code, 1, none, 8)
def f_M_either : MethodName × ByteArray × Nat × Option FieldType × Nat := (⟨"HearingBoardsModel", "either", "()V"⟩, prog_12_method_49_code, 1, none, 9)
def f_M_text : MethodName × ByteArray × Nat × Option FieldType × Nat := (⟨"HearingBoardsModel", "text", "(II)I"⟩, prog_12_method_50_code, 8, (some .int), 10)
def f_X_of : MethodName × ByteArray × Nat × Option FieldType × Nat := (⟨"HearingBoards", "of", "(II)I"⟩, prog_1_method_19_code, 4, (some .int), 1)
def f_M_of : MethodName × ByteArray × Nat × Option FieldType × Nat := (⟨"HearingBoardsModel", "of", "(II)I"⟩, prog_12_method_51_code, 3, (some .int), 2)
def f_X_why : MethodName × ByteArray × Nat × Option FieldType × Nat := (⟨"HearingBoards", "why", "(II)I"⟩, prog_1_method_20_code, 3, (some .int), 2)
def f_M_why : MethodName × ByteArray × Nat × Option FieldType × Nat := (⟨"HearingBoardsModel", "why", "(II)I"⟩, prog_12_method_53_code, 4, (some .int), 1)
def f_X_rules : MethodName × ByteArray × Nat × Option FieldType × Nat := (⟨"HearingBoards", "rules", "(IIIIII)I"⟩, prog_1_method_21_code, 7, (some .int), 3)
def f_M_rules : MethodName × ByteArray × Nat × Option FieldType × Nat := (⟨"HearingBoardsModel", "rules", "(IIIIII)I"⟩, prog_12_method_57_code, 7, (some .int), 3)
def f_X_fitsKind : MethodName × ByteArray × Nat × Option FieldType × Nat := (⟨"HearingBoards", "fitsKind", "(II)Z"⟩, prog_1_method_54_code, 3, (some .boolean), 1)
def f_X_paper : MethodName × ByteArray × Nat × Option FieldType × Nat := (⟨"HearingBoards", "paper", "(III)I"⟩, prog_1_method_22_code, 4, (some .int), 2)
def f_M_paper : MethodName × ByteArray × Nat × Option FieldType × Nat := (⟨"HearingBoardsModel", "paper", "(III)I"⟩, prog_12_method_59_code, 7, (some .int), 2)
def f_X_isUnder : MethodName × ByteArray × Nat × Option FieldType × Nat := (⟨"HearingBoards", "isUnder", "(II)Z"⟩, prog_1_method_55_code, 4, (some .boolean), 1)
def f_B_lastDayHeld : MethodName × ByteArray × Nat × Option FieldType × Nat := (⟨"HearingBoards$Books", "lastDayHeld", "(I)I"⟩, prog_2_method_20_code, 2, (some .int), 1)
def f_X_paperTold : MethodName × ByteArray × Nat × Option FieldType × Nat := (⟨"HearingBoards", "paperTold", "(II)I"⟩, prog_1_method_23_code, 3, (some .int), 2)
def f_M_paperTold : MethodName × ByteArray × Nat × Option FieldType × Nat := (⟨"HearingBoardsModel", "paperTold", "(II)I"⟩, prog_12_method_60_code, 5, (some .int), 2)
def f_X_as : MethodName × ByteArray × Nat × Option FieldType × Nat := (⟨"HearingBoards", "as", "(II)I"⟩, prog_1_method_24_code, 3, (some .int), 2)
def f_M_above : MethodName × ByteArray × Nat × Option FieldType × Nat := (⟨"HearingBoardsModel", "above", "(I)I"⟩, prog_12_method_58_code, 1, (some .int), 0)
def f_M_as : MethodName × ByteArray × Nat × Option FieldType × Nat := (⟨"HearingBoardsModel", "as", "(II)I"⟩, prog_12_method_61_code, 4, (some .int), 2)
def f_X_member : MethodName × ByteArray × Nat × Option FieldType × Nat := (⟨"HearingBoards", "member", "(II)I"⟩, prog_1_method_25_code, 3, (some .int), 2)
def f_M_member : MethodName × ByteArray × Nat × Option FieldType × Nat := (⟨"HearingBoardsModel", "member", "(II)I"⟩, prog_12_method_62_code, 4, (some .int), 1)
def f_X_conflict : MethodName × ByteArray × Nat × Option FieldType × Nat := (⟨"HearingBoards", "conflict", "(III)I"⟩, prog_1_method_26_code, 6, (some .int), 1)
def f_M_conflict : MethodName × ByteArray × Nat × Option FieldType × Nat := (⟨"HearingBoardsModel", "conflict", "(III)I"⟩, prog_12_method_63_code, 6, (some .int), 2)
def f_X_is : MethodName × ByteArray × Nat × Option FieldType × Nat := (⟨"HearingBoards", "is", "(II)I"⟩, prog_1_method_27_code, 3, (some .int), 1)
def f_M_is : MethodName × ByteArray × Nat × Option FieldType × Nat := (⟨"HearingBoardsModel", "is", "(II)I"⟩, prog_12_method_64_code, 3, (some .int), 2)
def f_B_membersFor : MethodName × ByteArray × Nat × Option FieldType × Nat := (⟨"HearingBoards$Books", "membersFor", "(III)I"⟩, prog_2_method_12_code, 8, (some .int), 1)
def f_B_boardFor : MethodName × ByteArray × Nat × Option FieldType × Nat := (⟨"HearingBoards$Books", "boardFor", "(III)I"⟩, prog_2_method_11_code, 12, (some .int), 2)
def f_X_board : MethodName × ByteArray × Nat × Option FieldType × Nat := (⟨"HearingBoards", "board", "(III)I"⟩, prog_1_method_28_code, 5, (some .int), 3)
def f_M_turns : MethodName × ByteArray × Nat × Option FieldType × Nat := (⟨"HearingBoardsModel", "turns", "(I)I"⟩, prog_12_method_66_code, 2, (some .int), 0)
def f_M_has : MethodName × ByteArray × Nat × Option FieldType × Nat := (⟨"HearingBoardsModel", "has", "(II)Z"⟩, prog_12_method_7_code, 2, (some .boolean), 0)
def f_M_mayGo : MethodName × ByteArray × Nat × Option FieldType × Nat := (⟨"HearingBoardsModel", "mayGo", "(IIII)Z"⟩, prog_12_method_65_code, 6, (some .boolean), 1)
def f_M_boardFor : MethodName × ByteArray × Nat × Option FieldType × Nat := (⟨"HearingBoardsModel", "boardFor", "(III)I"⟩, prog_12_method_67_code, 11, (some .int), 2)
def f_M_board : MethodName × ByteArray × Nat × Option FieldType × Nat := (⟨"HearingBoardsModel", "board", "(III)I"⟩, prog_12_method_68_code, 5, (some .int), 3)
def f_X_hearing : MethodName × ByteArray × Nat × Option FieldType × Nat := (⟨"HearingBoards", "hearing", "(II)I"⟩, prog_1_method_29_code, 3, (some .int), 2)
def f_M_ofHearing : MethodName × ByteArray × Nat × Option FieldType × Nat := (⟨"HearingBoardsModel", "ofHearing", "(II)I"⟩, prog_12_method_69_code, 2, (some .int), 0)
def f_M_hearing : MethodName × ByteArray × Nat × Option FieldType × Nat := (⟨"HearingBoardsModel", "hearing", "(II)I"⟩, prog_12_method_70_code, 5, (some .int), 2)
def f_X_heard : MethodName × ByteArray × Nat × Option FieldType × Nat := (⟨"HearingBoards", "heard", "(II)I"⟩, prog_1_method_30_code, 3, (some .int), 1)
def f_M_heard : MethodName × ByteArray × Nat × Option FieldType × Nat := (⟨"HearingBoardsModel", "heard", "(II)I"⟩, prog_12_method_71_code, 3, (some .int), 2)
def f_B_hasReport : MethodName × ByteArray × Nat × Option FieldType × Nat := (⟨"HearingBoards$Books", "hasReport", "(I)Z"⟩, prog_2_method_22_code, 4, (some .boolean), 2)
def f_B_hasNotice : MethodName × ByteArray × Nat × Option FieldType × Nat := (⟨"HearingBoards$Books", "hasNotice", "(I)Z"⟩, prog_2_method_23_code, 5, (some .boolean), 3)
def f_B_causeToday : MethodName × ByteArray × Nat × Option FieldType × Nat := (⟨"HearingBoards$Books", "causeToday", "(I)I"⟩, prog_2_method_21_code, 2, (some .int), 4)
def f_X_cause : MethodName × ByteArray × Nat × Option FieldType × Nat := (⟨"HearingBoards", "cause", "(I)I"⟩, prog_1_method_31_code, 2, (some .int), 5)
def f_M_hasReport : MethodName × ByteArray × Nat × Option FieldType × Nat := (⟨"HearingBoardsModel", "hasReport", "(I)Z"⟩, prog_12_method_72_code, 6, (some .boolean), 0)
def f_M_hasNotice : MethodName × ByteArray × Nat × Option FieldType × Nat := (⟨"HearingBoardsModel", "hasNotice", "(I)Z"⟩, prog_12_method_73_code, 6, (some .boolean), 3)
def f_M_causeOf : MethodName × ByteArray × Nat × Option FieldType × Nat := (⟨"HearingBoardsModel", "causeOf", "(I)I"⟩, prog_12_method_74_code, 2, (some .int), 5)
def f_M_cause : MethodName × ByteArray × Nat × Option FieldType × Nat := (⟨"HearingBoardsModel", "cause", "(I)I"⟩, prog_12_method_75_code, 2, (some .int), 6)
def f_B_timesPutOffBy : MethodName × ByteArray × Nat × Option FieldType × Nat := (⟨"HearingBoards$Books", "timesPutOffBy", "(I)I"⟩, prog_2_method_19_code, 2, (some .int), 1)
def f_X_puts : MethodName × ByteArray × Nat × Option FieldType × Nat := (⟨"HearingBoards", "puts", "(I)I"⟩, prog_1_method_32_code, 2, (some .int), 2)
def f_M_puts : MethodName × ByteArray × Nat × Option FieldType × Nat := (⟨"HearingBoardsModel", "puts", "(I)I"⟩, prog_12_method_76_code, 2, (some .int), 1)
def f_X_recall : MethodName × ByteArray × Nat × Option FieldType × Nat := (⟨"HearingBoards", "recall", "(I)I"⟩, prog_1_method_33_code, 2, (some .int), 3)
def f_M_recall : MethodName × ByteArray × Nat × Option FieldType × Nat := (⟨"HearingBoardsModel", "recall", "(I)I"⟩, prog_12_method_82_code, 2, (some .int), 2)
def f_B_canUnwind : MethodName × ByteArray × Nat × Option FieldType × Nat := (⟨"HearingBoards$Books", "canUnwind", "(I)Z"⟩, prog_2_method_33_code, 4, (some .boolean), 2)
def f_B_unwindRule : MethodName × ByteArray × Nat × Option FieldType × Nat := (⟨"HearingBoards$Books", "unwindRule", "(I)I"⟩, prog_2_method_34_code, 3, (some .int), 3)
def f_I_reopenSpan : MethodName × ByteArray × Nat × Option FieldType × Nat := (⟨"HearingBoards$Time", "reopenSpan", "(I)V"⟩, prog_10_method_9_code, 3, none, 2)
def f_B_undo : MethodName × ByteArray × Nat × Option FieldType × Nat := (⟨"HearingBoards$Books", "undo", "(IZ)V"⟩, prog_2_method_35_code, 4, none, 3)
def f_X_unwind : MethodName × ByteArray × Nat × Option FieldType × Nat := (⟨"HearingBoards", "unwind", "(I)I"⟩, prog_1_method_34_code, 3, (some .int), 4)
def f_M_unwind : MethodName × ByteArray × Nat × Option FieldType × Nat := (⟨"HearingBoardsModel", "unwind", "(I)I"⟩, prog_12_method_83_code, 6, (some .int), 3)
def f_B_hearingsToday : MethodName × ByteArray × Nat × Option FieldType × Nat := (⟨"HearingBoards$Books", "hearingsToday", "()I"⟩, prog_2_method_25_code, 3, (some .int), 1)
def f_B_putOff : MethodName × ByteArray × Nat × Option FieldType × Nat := (⟨"HearingBoards$Books", "putOff", "(II)V"⟩, prog_2_method_29_code, 4, none, 3)
def f_B_sift : MethodName × ByteArray × Nat × Option FieldType × Nat := (⟨"HearingBoards$Books", "sift", "(II)I"⟩, prog_2_method_26_code, 8, (some .int), 5)
def f_B_casesOn : MethodName × ByteArray × Nat × Option FieldType × Nat := (⟨"HearingBoards$Books", "casesOn", "(I)I"⟩, prog_2_method_27_code, 4, (some .int), 1)
def f_B_putAllOff : MethodName × ByteArray × Nat × Option FieldType × Nat := (⟨"HearingBoards$Books", "putAllOff", "(I)V"⟩, prog_2_method_28_code, 3, none, 4)
def f_B_addTurn : MethodName × ByteArray × Nat × Option FieldType × Nat := (⟨"HearingBoards$Books", "addTurn", "(I)V"⟩, prog_2_method_14_code, 2, none, 1)
def f_B_takeTurns : MethodName × ByteArray × Nat × Option FieldType × Nat := (⟨"HearingBoards$Books", "takeTurns", "(I)V"⟩, prog_2_method_13_code, 2, none, 2)
def f_B_hearOne : MethodName × ByteArray × Nat × Option FieldType × Nat := (⟨"HearingBoards$Books", "hearOne", "(I)V"⟩, prog_2_method_31_code, 5, none, 4)
def f_B_hearAll : MethodName × ByteArray × Nat × Option FieldType × Nat := (⟨"HearingBoards$Books", "hearAll", "(I)V"⟩, prog_2_method_30_code, 3, none, 5)
def f_B_voidLeft : MethodName × ByteArray × Nat × Option FieldType × Nat := (⟨"HearingBoards$Books", "voidLeft", "(I)V"⟩, prog_2_method_32_code, 4, none, 2)
def f_B_passDay : MethodName × ByteArray × Nat × Option FieldType × Nat := (⟨"HearingBoards$Books", "passDay", "()V"⟩, prog_2_method_24_code, 5, none, 6)
def f_X_run : MethodName × ByteArray × Nat × Option FieldType × Nat := (⟨"HearingBoards", "run", "(I)I"⟩, prog_1_method_35_code, 3, (some .int), 7)
def f_M_isToday : MethodName × ByteArray × Nat × Option FieldType × Nat := (⟨"HearingBoardsModel", "isToday", "(I)Z"⟩, prog_12_method_78_code, 2, (some .boolean), 1)
def f_M_putOff : MethodName × ByteArray × Nat × Option FieldType × Nat := (⟨"HearingBoardsModel", "putOff", "(II)V"⟩, prog_12_method_77_code, 4, none, 3)
def f_M_hear : MethodName × ByteArray × Nat × Option FieldType × Nat := (⟨"HearingBoardsModel", "hear", "(I)V"⟩, prog_12_method_79_code, 4, none, 3)
def f_M_prisonGoes : MethodName × ByteArray × Nat × Option FieldType × Nat := (⟨"HearingBoardsModel", "prisonGoes", "(I)V"⟩, prog_12_method_80_code, 7, none, 6)
def f_M_dayGoes : MethodName × ByteArray × Nat × Option FieldType × Nat := (⟨"HearingBoardsModel", "dayGoes", "()V"⟩, prog_12_method_81_code, 2, none, 7)
def f_M_run : MethodName × ByteArray × Nat × Option FieldType × Nat := (⟨"HearingBoardsModel", "run", "(I)I"⟩, prog_12_method_84_code, 3, (some .int), 8)
def f_X_table : MethodName × ByteArray × Nat × Option FieldType × Nat := (⟨"HearingBoards", "table", "(III)I"⟩, prog_1_method_36_code, 4, (some .int), 2)
def f_M_table : MethodName × ByteArray × Nat × Option FieldType × Nat := (⟨"HearingBoardsModel", "table", "(III)I"⟩, prog_12_method_85_code, 5, (some .int), 1)
def f_B_areLike : MethodName × ByteArray × Nat × Option FieldType × Nat := (⟨"HearingBoards$Books", "areLike", "(II)Z"⟩, prog_2_method_37_code, 4, (some .boolean), 1)
def f_B_hearingsOfLike : MethodName × ByteArray × Nat × Option FieldType × Nat := (⟨"HearingBoards$Books", "hearingsOfLike", "(II)I"⟩, prog_2_method_36_code, 6, (some .int), 2)
def f_X_like : MethodName × ByteArray × Nat × Option FieldType × Nat := (⟨"HearingBoards", "like", "(II)I"⟩, prog_1_method_37_code, 5, (some .int), 3)
def f_M_like : MethodName × ByteArray × Nat × Option FieldType × Nat := (⟨"HearingBoardsModel", "like", "(II)I"⟩, prog_12_method_86_code, 9, (some .int), 2)
def f_X_twice : MethodName × ByteArray × Nat × Option FieldType × Nat := (⟨"HearingBoards", "twice", "(II)I"⟩, prog_1_method_38_code, 3, (some .int), 1)
def f_M_twice : MethodName × ByteArray × Nat × Option FieldType × Nat := (⟨"HearingBoardsModel", "twice", "(II)I"⟩, prog_12_method_87_code, 4, (some .int), 1)
def f_X_spread : MethodName × ByteArray × Nat × Option FieldType × Nat := (⟨"HearingBoards", "spread", "()I"⟩, prog_1_method_39_code, 1, (some .int), 1)
def f_M_spread : MethodName × ByteArray × Nat × Option FieldType × Nat := (⟨"HearingBoardsModel", "spread", "()I"⟩, prog_12_method_88_code, 3, (some .int), 0)
def f_X_seed : MethodName × ByteArray × Nat × Option FieldType × Nat := (⟨"HearingBoards", "seed", "(I)I"⟩, prog_1_method_40_code, 3, (some .int), 1)
def f_M_seed : MethodName × ByteArray × Nat × Option FieldType × Nat := (⟨"HearingBoardsModel", "seed", "(I)I"⟩, prog_12_method_89_code, 3, (some .int), 1)
def f_B_drawOne : MethodName × ByteArray × Nat × Option FieldType × Nat := (⟨"HearingBoards$Books", "drawOne", "(I)I"⟩, prog_2_method_16_code, 5, (some .int), 1)
def f_B_drawThree : MethodName × ByteArray × Nat × Option FieldType × Nat := (⟨"HearingBoards$Books", "drawThree", "(I)I"⟩, prog_2_method_15_code, 4, (some .int), 2)
def f_X_draw : MethodName × ByteArray × Nat × Option FieldType × Nat := (⟨"HearingBoards", "draw", "()I"⟩, prog_1_method_41_code, 2, (some .int), 3)
def f_M_leftAt : MethodName × ByteArray × Nat × Option FieldType × Nat := (⟨"HearingBoardsModel", "leftAt", "(II)I"⟩, prog_12_method_90_code, 5, (some .int), 1)
def f_M_draw : MethodName × ByteArray × Nat × Option FieldType × Nat := (⟨"HearingBoardsModel", "draw", "()I"⟩, prog_12_method_91_code, 5, (some .int), 2)
def f_X_sheetAt : MethodName × ByteArray × Nat × Option FieldType × Nat := (⟨"HearingBoards", "sheetAt", "(I)LHearingBoards$Sheet;"⟩, prog_1_method_56_code, 2, (some (.object "HearingBoards$Sheet")), 1)
def f_JA_fill : MethodName × ByteArray × Nat × Option FieldType × Nat := (⟨"java/util/Arrays", "fill", "([JJ)V"⟩, prog_21_method_101_code, 5, none, 0)
def f_S_become : MethodName × ByteArray × Nat × Option FieldType × Nat := (⟨"HearingBoards$Sheet", "become", "(II)V"⟩, prog_5_method_2_code, 3, none, 1)
def f_X_sheet : MethodName × ByteArray × Nat × Option FieldType × Nat := (⟨"HearingBoards", "sheet", "(III)I"⟩, prog_1_method_42_code, 6, (some .int), 2)
def f_M_isSheet : MethodName × ByteArray × Nat × Option FieldType × Nat := (⟨"HearingBoardsModel", "isSheet", "(I)Z"⟩, prog_12_method_92_code, 1, (some .boolean), 1)
def f_M_sheet : MethodName × ByteArray × Nat × Option FieldType × Nat := (⟨"HearingBoardsModel", "sheet", "(III)I"⟩, prog_12_method_93_code, 5, (some .int), 2)
def f_S_has : MethodName × ByteArray × Nat × Option FieldType × Nat := (⟨"HearingBoards$Sheet", "has", "(I)Z"⟩, prog_5_method_3_code, 2, (some .boolean), 0)
def f_S_narrowed : MethodName × ByteArray × Nat × Option FieldType × Nat := (⟨"HearingBoards$Sheet", "narrowed", "(J)J"⟩, prog_5_method_7_code, 3, (some .long), 0)
def f_S_raise : MethodName × ByteArray × Nat × Option FieldType × Nat := (⟨"HearingBoards$Sheet", "raise", "(II)J"⟩, prog_5_method_5_code, 3, (some .long), 1)
def f_X_add : MethodName × ByteArray × Nat × Option FieldType × Nat := (⟨"HearingBoards", "add", "(III)I"⟩, prog_1_method_43_code, 5, (some .int), 2)
def f_M_add : MethodName × ByteArray × Nat × Option FieldType × Nat := (⟨"HearingBoardsModel", "add", "(III)I"⟩, prog_12_method_94_code, 7, (some .int), 2)
def f_S_hasRow : MethodName × ByteArray × Nat × Option FieldType × Nat := (⟨"HearingBoards$Sheet", "hasRow", "(II)Z"⟩, prog_5_method_4_code, 3, (some .boolean), 0)
def f_X_copy : MethodName × ByteArray × Nat × Option FieldType × Nat := (⟨"HearingBoards", "copy", "(IIIII)I"⟩, prog_1_method_44_code, 8, (some .int), 2)
def f_M_copy : MethodName × ByteArray × Nat × Option FieldType × Nat := (⟨"HearingBoardsModel", "copy", "(IIIII)I"⟩, prog_12_method_95_code, 7, (some .int), 2)
def f_S_holds : MethodName × ByteArray × Nat × Option FieldType × Nat := (⟨"HearingBoards$Sheet", "holds", "(II)Z"⟩, prog_5_method_6_code, 3, (some .boolean), 1)
def f_X_same : MethodName × ByteArray × Nat × Option FieldType × Nat := (⟨"HearingBoards", "same", "(II)I"⟩, prog_1_method_45_code, 6, (some .int), 2)
def f_M_same : MethodName × ByteArray × Nat × Option FieldType × Nat := (⟨"HearingBoardsModel", "same", "(II)I"⟩, prog_12_method_96_code, 7, (some .int), 0)
def f_X_tell : MethodName × ByteArray × Nat × Option FieldType × Nat := (⟨"HearingBoards", "tell", "(I)I"⟩, prog_1_method_46_code, 2, (some .int), 1)
def f_M_tell : MethodName × ByteArray × Nat × Option FieldType × Nat := (⟨"HearingBoardsModel", "tell", "(I)I"⟩, prog_12_method_97_code, 2, (some .int), 0)
def f_R_become : MethodName × ByteArray × Nat × Option FieldType × Nat := (⟨"HearingBoards$Rows", "become", "(LHearingBoards$Rows;)V"⟩, prog_4_method_8_code, 2, none, 1)
def f_I_become : MethodName × ByteArray × Nat × Option FieldType × Nat := (⟨"HearingBoards$Time", "become", "(LHearingBoards$Time;)V"⟩, prog_10_method_2_code, 2, none, 2)
def f_L_become : MethodName × ByteArray × Nat × Option FieldType × Nat := (⟨"HearingBoards$Law", "become", "(LHearingBoards$Law;)V"⟩, prog_3_method_2_code, 3, none, 0)
def f_B_become : MethodName × ByteArray × Nat × Option FieldType × Nat := (⟨"HearingBoards$Books", "become", "(LHearingBoards$Books;)V"⟩, prog_2_method_2_code, 2, none, 3)
def f_B_servedByAll : MethodName × ByteArray × Nat × Option FieldType × Nat := (⟨"HearingBoards$Books", "servedByAll", "()I"⟩, prog_2_method_7_code, 3, (some .int), 3)
def f_X_waits : MethodName × ByteArray × Nat × Option FieldType × Nat := (⟨"HearingBoards", "waits", "(III)Z"⟩, prog_1_method_57_code, 4, (some .boolean), 1)
def f_B_casesThatAre : MethodName × ByteArray × Nat × Option FieldType × Nat := (⟨"HearingBoards$Books", "casesThatAre", "(I)I"⟩, prog_2_method_4_code, 4, (some .int), 2)
def f_X_check : MethodName × ByteArray × Nat × Option FieldType × Nat := (⟨"HearingBoards", "check", "(I)I"⟩, prog_1_method_47_code, 4, (some .int), 7)
def f_M_servedAll : MethodName × ByteArray × Nat × Option FieldType × Nat := (⟨"HearingBoardsModel", "servedAll", "()I"⟩, prog_12_method_99_code, 3, (some .int), 3)
def f_M_casesIn : MethodName × ByteArray × Nat × Option FieldType × Nat := (⟨"HearingBoardsModel", "casesIn", "(I)I"⟩, prog_12_method_98_code, 4, (some .int), 1)
def f_M_check : MethodName × ByteArray × Nat × Option FieldType × Nat := (⟨"HearingBoardsModel", "check", "(I)I"⟩, prog_12_method_100_code, 6, (some .int), 8)
def f_X_keep : MethodName × ByteArray × Nat × Option FieldType × Nat := (⟨"HearingBoards", "keep", "()I"⟩, prog_1_method_48_code, 1, (some .int), 4)
def f_M_keep : MethodName × ByteArray × Nat × Option FieldType × Nat := (⟨"HearingBoardsModel", "keep", "()I"⟩, prog_12_method_101_code, 2, (some .int), 0)
def f_X_restore : MethodName × ByteArray × Nat × Option FieldType × Nat := (⟨"HearingBoards", "restore", "()I"⟩, prog_1_method_49_code, 1, (some .int), 4)
def f_M_restore : MethodName × ByteArray × Nat × Option FieldType × Nat := (⟨"HearingBoardsModel", "restore", "()I"⟩, prog_12_method_102_code, 2, (some .int), 0)
def f_B_hearingsSet : MethodName × ByteArray × Nat × Option FieldType × Nat := (⟨"HearingBoards$Books", "hearingsSet", "()I"⟩, prog_2_method_17_code, 3, (some .int), 1)
def f_X_count : MethodName × ByteArray × Nat × Option FieldType × Nat := (⟨"HearingBoards", "count", "(I)I"⟩, prog_1_method_50_code, 2, (some .int), 3)
def f_M_count : MethodName × ByteArray × Nat × Option FieldType × Nat := (⟨"HearingBoardsModel", "count", "(I)I"⟩, prog_12_method_103_code, 4, (some .int), 2)
def f_W_law : MethodName × ByteArray × Nat × Option FieldType × Nat := (⟨"HearingBoardsLaw", "law", "([I)Z"⟩, code, 4, (some .boolean), 11)
def mInf (M : Nat) : MethodName × ByteArray × Nat × Option FieldType × Nat := (bif Nat.blt M 141 then (bif Nat.blt M 70 then (bif Nat.blt M 35 then (bif Nat.blt M 17 then (bif Nat.blt M 8 then (bif Nat.blt M 4 then (bif Nat.blt M 2 then (bif Nat.blt M 1 then f_JM_max else f_R_init) else (bif Nat.blt M 3 then f_I_init else f_K_init)) else (bif Nat.blt M 6 then (bif Nat.blt M 5 then f_L_init else f_B_init) else (bif Nat.blt M 7 then f_P_init else f_D_init))) else (bif Nat.blt M 12 then (bif Nat.blt M 10 then (bif Nat.blt M 9 then f_S_init else f_X_init) else (bif Nat.blt M 11 then f_M_init else f_X_within)) else (bif Nat.blt M 14 then (bif Nat.blt M 13 then f_R_isFull else f_R_put) else (bif Nat.blt M 15 then f_R_more else (bif Nat.blt M 16 then f_I_beginSpan else f_X_person))))) else (bif Nat.blt M 26 then (bif Nat.blt M 21 then (bif Nat.blt M 19 then (bif Nat.blt M 18 then f_M_within else f_M_becomes) else (bif Nat.blt M 20 then f_M_begins else f_M_person)) else (bif Nat.blt M 23 then (bif Nat.blt M 22 then f_R_has else f_R_at) else (bif Nat.blt M 24 then f_I_totalOf else (bif Nat.blt M 25 then f_JI_bitCount else f_X_hundredths)))) else (bif Nat.blt M 30 then (bif Nat.blt M 28 then (bif Nat.blt M 27 then f_B_hundredthsFor else f_B_setHearingOf) else (bif Nat.blt M 29 then f_X_told else f_M_there)) else (bif Nat.blt M 32 then (bif Nat.blt M 31 then f_M_total else f_M_heardOf) else (bif Nat.blt M 33 then f_M_ofCase else (bif Nat.blt M 34 then f_M_bits else f_M_riskOf)))))) else (bif Nat.blt M 52 then (bif Nat.blt M 43 then (bif Nat.blt M 39 then (bif Nat.blt M 37 then (bif Nat.blt M 36 then f_M_setOf else f_M_told) else (bif Nat.blt M 38 then f_X_mostOfCase else f_R_exchange)) else (bif Nat.blt M 41 then (bif Nat.blt M 40 then f_X_be else f_M_be) else (bif Nat.blt M 42 then f_B_stateOf else f_X_sentence))) else (bif Nat.blt M 47 then (bif Nat.blt M 45 then (bif Nat.blt M 44 then f_M_sentence else f_X_gap) else (bif Nat.blt M 46 then f_M_gap else f_I_latestSpan)) else (bif Nat.blt M 49 then (bif Nat.blt M 48 then f_I_goesOn else f_B_hasFled) else (bif Nat.blt M 50 then f_I_endSpan else (bif Nat.blt M 51 then f_X_flee else f_M_ends))))) else (bif Nat.blt M 61 then (bif Nat.blt M 56 then (bif Nat.blt M 54 then (bif Nat.blt M 53 then f_M_flee else f_X_caught) else (bif Nat.blt M 55 then f_M_caught else f_B_leave)) else (bif Nat.blt M 58 then (bif Nat.blt M 57 then f_X_gone else f_M_gone) else (bif Nat.blt M 59 then f_JM_min else (bif Nat.blt M 60 then f_I_freeDays else f_I_servedOf)))) else (bif Nat.blt M 65 then (bif Nat.blt M 63 then (bif Nat.blt M 62 then f_X_served else f_M_point) else (bif Nat.blt M 64 then f_M_counts else f_M_servedOn)) else (bif Nat.blt M 67 then (bif Nat.blt M 66 then f_M_served else f_X_credit) else (bif Nat.blt M 68 then f_M_credit else (bif Nat.blt M 69 then f_X_back else f_M_back))))))) else (bif Nat.blt M 105 then (bif Nat.blt M 87 then (bif Nat.blt M 78 then (bif Nat.blt M 74 then (bif Nat.blt M 72 then (bif Nat.blt M 71 then f_I_creditOf else f_X_credits) else (bif Nat.blt M 73 then f_M_creditOf else f_M_credits)) else (bif Nat.blt M 76 then (bif Nat.blt M 75 then f_L_textAt else f_T_counts) else (bif Nat.blt M 77 then f_L_countingText else f_L_unwritten))) else (bif Nat.blt M 82 then (bif Nat.blt M 80 then (bif Nat.blt M 79 then f_K_clear else f_K_push) else (bif Nat.blt M 81 then f_T_named else f_K_pop)) else (bif Nat.blt M 84 then (bif Nat.blt M 83 then f_T_joined else f_T_value) else (bif Nat.blt M 85 then f_L_held else (bif Nat.blt M 86 then f_L_ruleOf else f_B_isDue))))) else (bif Nat.blt M 96 then (bif Nat.blt M 91 then (bif Nat.blt M 89 then (bif Nat.blt M 88 then f_X_due else f_M_counting) else (bif Nat.blt M 90 then f_M_done else f_M_worked)) else (bif Nat.blt M 93 then (bif Nat.blt M 92 then f_M_ruled else f_M_firstOf) else (bif Nat.blt M 94 then f_M_isDue else (bif Nat.blt M 95 then f_M_due else f_B_dateOf)))) else (bif Nat.blt M 100 then (bif Nat.blt M 98 then (bif Nat.blt M 97 then f_X_date else f_M_date) else (bif Nat.blt M 99 then f_P_hasRoom else f_P_append)) else (bif Nat.blt M 102 then (bif Nat.blt M 101 then f_X_feed else f_M_feed) else (bif Nat.blt M 103 then f_X_trim else (bif Nat.blt M 104 then f_M_trim else f_D_isWord)))))) else (bif Nat.blt M 123 then (bif Nat.blt M 114 then (bif Nat.blt M 109 then (bif Nat.blt M 107 then (bif Nat.blt M 106 then f_P_byteAt else f_D_sortAt) else (bif Nat.blt M 108 then f_D_advance else f_D_wordOf)) else (bif Nat.blt M 111 then (bif Nat.blt M 110 then f_JS_coder else f_JS_length) else (bif Nat.blt M 112 then f_JS_isLatin1 else (bif Nat.blt M 113 then f_JP_checkIndex else f_JS_checkIndex)))) else (bif Nat.blt M 118 then (bif Nat.blt M 116 then (bif Nat.blt M 115 then f_JL_charAt else f_JS_charAt) else (bif Nat.blt M 117 then f_D_isWordHere else f_D_keyHere)) else (bif Nat.blt M 120 then (bif Nat.blt M 119 then f_D_numberHere else f_D_emit) else (bif Nat.blt M 121 then f_D_emitLeaf else (bif Nat.blt M 122 then f_D_namesOf else f_JL_canEncode))))) else (bif Nat.blt M 132 then (bif Nat.blt M 127 then (bif Nat.blt M 125 then (bif Nat.blt M 124 then f_JL_indexOfChar else f_JL_indexOf) else (bif Nat.blt M 126 then f_JS_indexOf else f_JS_indexOf1)) else (bif Nat.blt M 129 then (bif Nat.blt M 128 then f_D_nameHere else f_D_isSign) else (bif Nat.blt M 130 then f_D_refuse else (bif Nat.blt M 131 then f_D_readPart else f_D_signsOf)))) else (bif Nat.blt M 136 then (bif Nat.blt M 134 then (bif Nat.blt M 133 then f_D_signIsOf else f_D_readLevel) else (bif Nat.blt M 135 then f_D_readTape else f_JA_copyOf)) else (bif Nat.blt M 138 then (bif Nat.blt M 137 then f_T_init else f_D_made) else (bif Nat.blt M 139 then f_L_enact else (bif Nat.blt M 140 then f_X_text else f_M_isLetter)))))))) else (bif Nat.blt M 211 then (bif Nat.blt M 176 then (bif Nat.blt M 158 then (bif Nat.blt M 149 then (bif Nat.blt M 145 then (bif Nat.blt M 143 then (bif Nat.blt M 142 then f_M_isDigit else f_M_next) else (bif Nat.blt M 144 then f_M_isWord else f_M_need)) else (bif Nat.blt M 147 then (bif Nat.blt M 146 then f_M_put else f_M_isSign) else (bif Nat.blt M 148 then f_M_part else f_M_signHere))) else (bif Nat.blt M 153 then (bif Nat.blt M 151 then (bif Nat.blt M 150 then f_M_term else f_M_sum) else (bif Nat.blt M 152 then f_M_test else f_M_both)) else (bif Nat.blt M 155 then (bif Nat.blt M 154 then f_M_either else f_M_text) else (bif Nat.blt M 156 then f_X_of else (bif Nat.blt M 157 then f_M_of else f_X_why))))) else (bif Nat.blt M 167 then (bif Nat.blt M 162 then (bif Nat.blt M 160 then (bif Nat.blt M 159 then f_M_why else f_X_rules) else (bif Nat.blt M 161 then f_M_rules else f_X_fitsKind)) else (bif Nat.blt M 164 then (bif Nat.blt M 163 then f_X_paper else f_M_paper) else (bif Nat.blt M 165 then f_X_isUnder else (bif Nat.blt M 166 then f_B_lastDayHeld else f_X_paperTold)))) else (bif Nat.blt M 171 then (bif Nat.blt M 169 then (bif Nat.blt M 168 then f_M_paperTold else f_X_as) else (bif Nat.blt M 170 then f_M_above else f_M_as)) else (bif Nat.blt M 173 then (bif Nat.blt M 172 then f_X_member else f_M_member) else (bif Nat.blt M 174 then f_X_conflict else (bif Nat.blt M 175 then f_M_conflict else f_X_is)))))) else (bif Nat.blt M 193 then (bif Nat.blt M 184 then (bif Nat.blt M 180 then (bif Nat.blt M 178 then (bif Nat.blt M 177 then f_M_is else f_B_membersFor) else (bif Nat.blt M 179 then f_B_boardFor else f_X_board)) else (bif Nat.blt M 182 then (bif Nat.blt M 181 then f_M_turns else f_M_has) else (bif Nat.blt M 183 then f_M_mayGo else f_M_boardFor))) else (bif Nat.blt M 188 then (bif Nat.blt M 186 then (bif Nat.blt M 185 then f_M_board else f_X_hearing) else (bif Nat.blt M 187 then f_M_ofHearing else f_M_hearing)) else (bif Nat.blt M 190 then (bif Nat.blt M 189 then f_X_heard else f_M_heard) else (bif Nat.blt M 191 then f_B_hasReport else (bif Nat.blt M 192 then f_B_hasNotice else f_B_causeToday))))) else (bif Nat.blt M 202 then (bif Nat.blt M 197 then (bif Nat.blt M 195 then (bif Nat.blt M 194 then f_X_cause else f_M_hasReport) else (bif Nat.blt M 196 then f_M_hasNotice else f_M_causeOf)) else (bif Nat.blt M 199 then (bif Nat.blt M 198 then f_M_cause else f_B_timesPutOffBy) else (bif Nat.blt M 200 then f_X_puts else (bif Nat.blt M 201 then f_M_puts else f_X_recall)))) else (bif Nat.blt M 206 then (bif Nat.blt M 204 then (bif Nat.blt M 203 then f_M_recall else f_B_canUnwind) else (bif Nat.blt M 205 then f_B_unwindRule else f_I_reopenSpan)) else (bif Nat.blt M 208 then (bif Nat.blt M 207 then f_B_undo else f_X_unwind) else (bif Nat.blt M 209 then f_M_unwind else (bif Nat.blt M 210 then f_B_hearingsToday else f_B_putOff))))))) else (bif Nat.blt M 246 then (bif Nat.blt M 228 then (bif Nat.blt M 219 then (bif Nat.blt M 215 then (bif Nat.blt M 213 then (bif Nat.blt M 212 then f_B_sift else f_B_casesOn) else (bif Nat.blt M 214 then f_B_putAllOff else f_B_addTurn)) else (bif Nat.blt M 217 then (bif Nat.blt M 216 then f_B_takeTurns else f_B_hearOne) else (bif Nat.blt M 218 then f_B_hearAll else f_B_voidLeft))) else (bif Nat.blt M 223 then (bif Nat.blt M 221 then (bif Nat.blt M 220 then f_B_passDay else f_X_run) else (bif Nat.blt M 222 then f_M_isToday else f_M_putOff)) else (bif Nat.blt M 225 then (bif Nat.blt M 224 then f_M_hear else f_M_prisonGoes) else (bif Nat.blt M 226 then f_M_dayGoes else (bif Nat.blt M 227 then f_M_run else f_X_table))))) else (bif Nat.blt M 237 then (bif Nat.blt M 232 then (bif Nat.blt M 230 then (bif Nat.blt M 229 then f_M_table else f_B_areLike) else (bif Nat.blt M 231 then f_B_hearingsOfLike else f_X_like)) else (bif Nat.blt M 234 then (bif Nat.blt M 233 then f_M_like else f_X_twice) else (bif Nat.blt M 235 then f_M_twice else (bif Nat.blt M 236 then f_X_spread else f_M_spread)))) else (bif Nat.blt M 241 then (bif Nat.blt M 239 then (bif Nat.blt M 238 then f_X_seed else f_M_seed) else (bif Nat.blt M 240 then f_B_drawOne else f_B_drawThree)) else (bif Nat.blt M 243 then (bif Nat.blt M 242 then f_X_draw else f_M_leftAt) else (bif Nat.blt M 244 then f_M_draw else (bif Nat.blt M 245 then f_X_sheetAt else f_JA_fill)))))) else (bif Nat.blt M 264 then (bif Nat.blt M 255 then (bif Nat.blt M 250 then (bif Nat.blt M 248 then (bif Nat.blt M 247 then f_S_become else f_X_sheet) else (bif Nat.blt M 249 then f_M_isSheet else f_M_sheet)) else (bif Nat.blt M 252 then (bif Nat.blt M 251 then f_S_has else f_S_narrowed) else (bif Nat.blt M 253 then f_S_raise else (bif Nat.blt M 254 then f_X_add else f_M_add)))) else (bif Nat.blt M 259 then (bif Nat.blt M 257 then (bif Nat.blt M 256 then f_S_hasRow else f_X_copy) else (bif Nat.blt M 258 then f_M_copy else f_S_holds)) else (bif Nat.blt M 261 then (bif Nat.blt M 260 then f_X_same else f_M_same) else (bif Nat.blt M 262 then f_X_tell else (bif Nat.blt M 263 then f_M_tell else f_R_become))))) else (bif Nat.blt M 273 then (bif Nat.blt M 268 then (bif Nat.blt M 266 then (bif Nat.blt M 265 then f_I_become else f_L_become) else (bif Nat.blt M 267 then f_B_become else f_B_servedByAll)) else (bif Nat.blt M 270 then (bif Nat.blt M 269 then f_X_waits else f_B_casesThatAre) else (bif Nat.blt M 271 then f_X_check else (bif Nat.blt M 272 then f_M_servedAll else f_M_casesIn)))) else (bif Nat.blt M 277 then (bif Nat.blt M 275 then (bif Nat.blt M 274 then f_M_check else f_X_keep) else (bif Nat.blt M 276 then f_M_keep else f_X_restore)) else (bif Nat.blt M 279 then (bif Nat.blt M 278 then f_M_restore else f_B_hearingsSet) else (bif Nat.blt M 280 then f_X_count else (bif Nat.blt M 281 then f_M_count else f_W_law)))))))))
