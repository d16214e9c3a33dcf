/-! ===== BEGIN words of one list among another's, by their places ===== -/
theorem goodIn_r {big : List Cond} (ws : List Cond) (ps : List Nat) (hp : ws = ps.filterMap (fun i => big[i]?)) (h : ws.all goodWord = true) : GoodIn big ws := by
  intro w hw
  have h1 := List.all_eq_true.mp h w hw
  rw [hp] at hw
  obtain ⟨i, -, hi⟩ := List.mem_filterMap.mp hw
  have hm : w ∈ big := by first | exact List.mem_of_getElem? hi | exact List.getElem?_mem hi
  exact ⟨hm, good_of_word h1⟩
theorem goodIn_app {big a b : List Cond} (ha : GoodIn big a) (hb : GoodIn big b) : GoodIn big (a ++ b) := fun w h => (List.mem_append.mp h).elim (ha w) (hb w)
theorem goodIn_ca {big a b : List Cond} {c : Cond} (ha : GoodIn big (c :: a)) (hb : GoodIn big b) : GoodIn big (c :: (a ++ b)) := fun w h => (List.mem_cons.mp h).elim (fun e => ha w (List.mem_cons.mpr (Or.inl e))) (fun h => (List.mem_append.mp h).elim (fun h => ha w (List.mem_cons.mpr (Or.inr h))) (hb w))
theorem goodIn_sub {big ws : List Cond} (hm : ∀ w ∈ ws, w ∈ big) (h : ws.all goodWord = true) : GoodIn big ws := fun w hw => ⟨hm w hw, good_of_word (List.all_eq_true.mp h w hw)⟩
/-! ===== END ===== -/

/-! ===== BEGIN printed: names, fields, word lists, decode rows ===== -/
def RX0 : String := "PieceBoxes"
def TX0 : u_T := fun k => match k with
  | 0 => ("PieceBoxes", "xs", "[I", true)
  | 1 => ("PieceBoxes", "ys", "[I", true)
  | 2 => ("PieceBoxes", "rs", "[I", true)
  | _ => ("PieceBoxes", "pieces", "I", false)
def tyX0 : Nat → FieldType := fun k => match k with
  | 0 => .array .int
  | 1 => .array .int
  | 2 => .array .int
  | _ => .int
abbrev wsX00 : List Cond := u_ws RX0 TX0 4
theorem nmX0 : ∀ a, a < 4 → ∀ b, b < 4 → a ≠ b → (TX0 a).2.1 ≠ (TX0 b).2.1 := by decide +kernel
theorem tyX0_ok : ∀ k, k < 4 → parseFieldDescriptor (TX0 k).2.2.1 = some (tyX0 k) := by decide +kernel
abbrev cX0_init : ByteArray := prog_1_method_1_code
def yX0_init : MethodName := ⟨RX0, "<init>", "()V"⟩
abbrev cX0_corner : ByteArray := prog_1_method_2_code
def yX0_corner : MethodName := ⟨RX0, "corner", "(IIII)Z"⟩
abbrev cX0_add : ByteArray := prog_1_method_3_code
def yX0_add : MethodName := ⟨RX0, "add", "()I"⟩
abbrev cX0_clear : ByteArray := prog_1_method_4_code
def yX0_clear : MethodName := ⟨RX0, "clear", "()V"⟩
abbrev cX0_count : ByteArray := prog_1_method_5_code
def yX0_count : MethodName := ⟨RX0, "count", "()I"⟩
abbrev cX0_area : ByteArray := prog_1_method_6_code
def yX0_area : MethodName := ⟨RX0, "area", "(I)I"⟩
abbrev cX0_near : ByteArray := prog_1_method_7_code
def yX0_near : MethodName := ⟨RX0, "near", "(III)I"⟩
abbrev cX0_nearest : ByteArray := prog_1_method_8_code
def yX0_nearest : MethodName := ⟨RX0, "nearest", "(II)I"⟩
abbrev cX0_covering : ByteArray := prog_1_method_9_code
def yX0_covering : MethodName := ⟨RX0, "covering", "(II)I"⟩
abbrev cX0_next : ByteArray := prog_1_method_10_code
def yX0_next : MethodName := ⟨RX0, "next", "(III)I"⟩
abbrev cX0_isOnGrid : ByteArray := prog_1_method_11_code
def yX0_isOnGrid : MethodName := ⟨RX0, "isOnGrid", "(I)Z"⟩
abbrev cX0_middle : ByteArray := prog_1_method_12_code
def yX0_middle : MethodName := ⟨RX0, "middle", "(I)J"⟩
abbrev cX0_isPiece : ByteArray := prog_1_method_13_code
def yX0_isPiece : MethodName := ⟨RX0, "isPiece", "(I)Z"⟩
abbrev cX0_areaOf : ByteArray := prog_1_method_14_code
def yX0_areaOf : MethodName := ⟨RX0, "areaOf", "(I)J"⟩
abbrev cX0_edge : ByteArray := prog_1_method_15_code
def yX0_edge : MethodName := ⟨RX0, "edge", "(IIJJ)J"⟩
abbrev cX0_edgeStart : ByteArray := prog_1_method_16_code
def yX0_edgeStart : MethodName := ⟨RX0, "edgeStart", "(II)I"⟩
abbrev cX0_edgeEnd : ByteArray := prog_1_method_17_code
def yX0_edgeEnd : MethodName := ⟨RX0, "edgeEnd", "(II)I"⟩
abbrev cX0_covers : ByteArray := prog_1_method_18_code
def yX0_covers : MethodName := ⟨RX0, "covers", "(IJJ)Z"⟩
abbrev cX0_ownsEdge : ByteArray := prog_1_method_19_code
def yX0_ownsEdge : MethodName := ⟨RX0, "ownsEdge", "(II)Z"⟩
abbrev cX0_nearnessOf : ByteArray := prog_1_method_20_code
def yX0_nearnessOf : MethodName := ⟨RX0, "nearnessOf", "(IJJ)I"⟩
def RX1 : String := "PieceBoxesModel"
def TX1 : u_T := fun k => match k with
  | 0 => ("PieceBoxesModel", "thrown", "I", false)
  | 1 => ("PieceBoxesModel", "many", "I", false)
  | _ => ("PieceBoxesModel", "corners", "[I", true)
def tyX1 : Nat → FieldType := fun k => match k with
  | 0 => .int
  | 1 => .int
  | _ => .array .int
abbrev wsX10 : List Cond := u_ws RX1 TX1 3
theorem nmX1 : ∀ a, a < 3 → ∀ b, b < 3 → a ≠ b → (TX1 a).2.1 ≠ (TX1 b).2.1 := by decide +kernel
theorem tyX1_ok : ∀ k, k < 3 → parseFieldDescriptor (TX1 k).2.2.1 = some (tyX1 k) := by decide +kernel
abbrev cX1_init : ByteArray := prog_3_method_1_code
def yX1_init : MethodName := ⟨RX1, "<init>", "()V"⟩
abbrev cX1_corner : ByteArray := prog_3_method_3_code
def yX1_corner : MethodName := ⟨RX1, "corner", "(IIII)Z"⟩
abbrev cX1_edge : ByteArray := prog_3_method_4_code
def yX1_edge : MethodName := ⟨RX1, "edge", "(IIJJ)J"⟩
abbrev cX1_areaAt : ByteArray := prog_3_method_5_code
def yX1_areaAt : MethodName := ⟨RX1, "areaAt", "(I)J"⟩
abbrev cX1_add : ByteArray := prog_3_method_6_code
def yX1_add : MethodName := ⟨RX1, "add", "()I"⟩
abbrev cX1_clear : ByteArray := prog_3_method_7_code
def yX1_clear : MethodName := ⟨RX1, "clear", "()V"⟩
abbrev cX1_count : ByteArray := prog_3_method_8_code
def yX1_count : MethodName := ⟨RX1, "count", "()I"⟩
abbrev cX1_area : ByteArray := prog_3_method_9_code
def yX1_area : MethodName := ⟨RX1, "area", "(I)I"⟩
abbrev cX1_holds : ByteArray := prog_3_method_10_code
def yX1_holds : MethodName := ⟨RX1, "holds", "(IIJJ)Z"⟩
abbrev cX1_nearAt : ByteArray := prog_3_method_11_code
def yX1_nearAt : MethodName := ⟨RX1, "nearAt", "(III)I"⟩
abbrev cX1_near : ByteArray := prog_3_method_12_code
def yX1_near : MethodName := ⟨RX1, "near", "(III)I"⟩
abbrev cX1_nearest : ByteArray := prog_3_method_13_code
def yX1_nearest : MethodName := ⟨RX1, "nearest", "(II)I"⟩
abbrev cX1_covering : ByteArray := prog_3_method_14_code
def yX1_covering : MethodName := ⟨RX1, "covering", "(II)I"⟩
abbrev cX1_next : ByteArray := prog_3_method_15_code
def yX1_next : MethodName := ⟨RX1, "next", "(III)I"⟩
def RJ9 : String := "java/lang/Math"
def TJ9 : u_T := fun k => match k with
  | _ => ("", "", "", false)
def tyJ9 : Nat → FieldType := fun k => match k with
  | _ => .int
abbrev wsJ90 : List Cond := u_ws RJ9 TJ9 0
theorem nmJ9 : ∀ a, a < 0 → ∀ b, b < 0 → a ≠ b → (TJ9 a).2.1 ≠ (TJ9 b).2.1 := by decide +kernel
theorem tyJ9_ok : ∀ k, k < 0 → parseFieldDescriptor (TJ9 k).2.2.1 = some (tyJ9 k) := by decide +kernel
abbrev cJ9_floorDiv_f86c9 : ByteArray := prog_4_method_49_code
def yJ9_floorDiv_f86c9 : MethodName := ⟨RJ9, "floorDiv", "(JJ)J"⟩
abbrev cJ9_max_7cf53 : ByteArray := prog_4_method_65_code
def yJ9_max_7cf53 : MethodName := ⟨RJ9, "max", "(II)I"⟩
def RL : String := "PieceBoxesLaw"
abbrev cL_law : ByteArray := code
def yL_law : MethodName := ⟨RL, "law", "([I)Z"⟩
def wsX0_init : List Cond := .code yX0_init cX0_init 3 none :: ([.methodLink RX0 3 objectInit, .instanceMethod objectInit, .code objectInit ⟨#[0xb1]⟩ 1 none, .arrayClass .int, .fieldLink RX0 9 "PieceBoxes" "xs" "[I", .fieldLink RX0 13 "PieceBoxes" "ys" "[I", .fieldLink RX0 16 "PieceBoxes" "rs" "[I", .fieldLink RX0 19 "PieceBoxes" "pieces" "I"] ++ wsX00)
def wsX0_isOnGrid : List Cond := .code yX0_isOnGrid cX0_isOnGrid 1 (some .boolean) :: ([])
def wsX0_corner : List Cond := .code yX0_corner cX0_corner 6 (some .boolean) :: ([.constant RX0 27 (1048576), .fieldLink RX0 9 "PieceBoxes" "xs" "[I", .fieldLink RX0 13 "PieceBoxes" "ys" "[I", .fieldLink RX0 16 "PieceBoxes" "rs" "[I", .methodLink RX0 23 yX0_isOnGrid, .static yX0_isOnGrid, .initialized RX0, .code yX0_isOnGrid cX0_isOnGrid 1 (some .boolean)] ++ wsX00)
def wsX0_edgeStart : List Cond := .code yX0_edgeStart cX0_edgeStart 2 (some .int) :: ([])
def wsX0_edgeEnd : List Cond := .code yX0_edgeEnd cX0_edgeEnd 2 (some .int) :: ([])
def wsX0_edge : List Cond := .code yX0_edge cX0_edge 13 (some .long) :: ([.fieldLink RX0 9 "PieceBoxes" "xs" "[I", .fieldLink RX0 13 "PieceBoxes" "ys" "[I", .methodLink RX0 64 yX0_edgeStart, .static yX0_edgeStart, .initialized RX0, .code yX0_edgeStart cX0_edgeStart 2 (some .int), .methodLink RX0 67 yX0_edgeEnd, .static yX0_edgeEnd, .code yX0_edgeEnd cX0_edgeEnd 2 (some .int)] ++ wsX00)
def wsX0_areaOf : List Cond := .code yX0_areaOf cX0_areaOf 3 (some .long) :: ([.fieldLink RX0 9 "PieceBoxes" "xs" "[I", .fieldLink RX0 13 "PieceBoxes" "ys" "[I", .methodLink RX0 60 yX0_edge, .instanceMethod yX0_edge, .selects RX0 yX0_edge yX0_edge, .initialized RX0, .code yX0_edge cX0_edge 13 (some .long), .methodLink RX0 64 yX0_edgeStart, .static yX0_edgeStart, .code yX0_edgeStart cX0_edgeStart 2 (some .int), .methodLink RX0 67 yX0_edgeEnd, .static yX0_edgeEnd, .code yX0_edgeEnd cX0_edgeEnd 2 (some .int)] ++ wsX00)
def wsX0_add : List Cond := .code yX0_add cX0_add 5 (some .int) :: ([.fieldLink RX0 19 "PieceBoxes" "pieces" "I", .fieldLink RX0 9 "PieceBoxes" "xs" "[I", .fieldLink RX0 13 "PieceBoxes" "ys" "[I", .fieldLink RX0 16 "PieceBoxes" "rs" "[I", .methodLink RX0 28 yX0_areaOf, .instanceMethod yX0_areaOf, .selects RX0 yX0_areaOf yX0_areaOf, .initialized RX0, .code yX0_areaOf cX0_areaOf 3 (some .long), .methodLink RX0 60 yX0_edge, .instanceMethod yX0_edge, .selects RX0 yX0_edge yX0_edge, .code yX0_edge cX0_edge 13 (some .long), .methodLink RX0 64 yX0_edgeStart, .static yX0_edgeStart, .code yX0_edgeStart cX0_edgeStart 2 (some .int), .methodLink RX0 67 yX0_edgeEnd, .static yX0_edgeEnd, .code yX0_edgeEnd cX0_edgeEnd 2 (some .int)] ++ wsX00)
def wsX0_clear : List Cond := .code yX0_clear cX0_clear 1 none :: ([.fieldLink RX0 19 "PieceBoxes" "pieces" "I"] ++ wsX00)
def wsX0_count : List Cond := .code yX0_count cX0_count 1 (some .int) :: ([.fieldLink RX0 19 "PieceBoxes" "pieces" "I"] ++ wsX00)
def wsX0_isPiece : List Cond := .code yX0_isPiece cX0_isPiece 2 (some .boolean) :: ([.fieldLink RX0 19 "PieceBoxes" "pieces" "I"] ++ wsX00)
def wsX0_area : List Cond := .code yX0_area cX0_area 2 (some .int) :: ([.methodLink RX0 32 yX0_isPiece, .instanceMethod yX0_isPiece, .selects RX0 yX0_isPiece yX0_isPiece, .initialized RX0, .code yX0_isPiece cX0_isPiece 2 (some .boolean), .fieldLink RX0 19 "PieceBoxes" "pieces" "I", .methodLink RX0 28 yX0_areaOf, .instanceMethod yX0_areaOf, .selects RX0 yX0_areaOf yX0_areaOf, .code yX0_areaOf cX0_areaOf 3 (some .long), .fieldLink RX0 9 "PieceBoxes" "xs" "[I", .fieldLink RX0 13 "PieceBoxes" "ys" "[I", .methodLink RX0 60 yX0_edge, .instanceMethod yX0_edge, .selects RX0 yX0_edge yX0_edge, .code yX0_edge cX0_edge 13 (some .long), .methodLink RX0 64 yX0_edgeStart, .static yX0_edgeStart, .code yX0_edgeStart cX0_edgeStart 2 (some .int), .methodLink RX0 67 yX0_edgeEnd, .static yX0_edgeEnd, .code yX0_edgeEnd cX0_edgeEnd 2 (some .int)] ++ wsX00)
def wsX0_middle : List Cond := .code yX0_middle cX0_middle 1 (some .long) :: ([.constantLong RX0 56 (16), .constantLong RX0 58 (8)])
def wsX0_ownsEdge : List Cond := .code yX0_ownsEdge cX0_ownsEdge 5 (some .boolean) :: ([.fieldLink RX0 13 "PieceBoxes" "ys" "[I", .fieldLink RX0 9 "PieceBoxes" "xs" "[I", .methodLink RX0 64 yX0_edgeStart, .static yX0_edgeStart, .initialized RX0, .code yX0_edgeStart cX0_edgeStart 2 (some .int), .methodLink RX0 67 yX0_edgeEnd, .static yX0_edgeEnd, .code yX0_edgeEnd cX0_edgeEnd 2 (some .int)] ++ wsX00)
def wsX0_covers : List Cond := .code yX0_covers cX0_covers 9 (some .boolean) :: ([.methodLink RX0 60 yX0_edge, .instanceMethod yX0_edge, .selects RX0 yX0_edge yX0_edge, .initialized RX0, .code yX0_edge cX0_edge 13 (some .long), .fieldLink RX0 9 "PieceBoxes" "xs" "[I", .fieldLink RX0 13 "PieceBoxes" "ys" "[I", .methodLink RX0 64 yX0_edgeStart, .static yX0_edgeStart, .code yX0_edgeStart cX0_edgeStart 2 (some .int), .methodLink RX0 67 yX0_edgeEnd, .static yX0_edgeEnd, .code yX0_edgeEnd cX0_edgeEnd 2 (some .int), .methodLink RX0 70 yX0_ownsEdge, .instanceMethod yX0_ownsEdge, .selects RX0 yX0_ownsEdge yX0_ownsEdge, .code yX0_ownsEdge cX0_ownsEdge 5 (some .boolean)] ++ wsX00)
def wsJ9_floorDiv_f86c9 : List Cond := .code yJ9_floorDiv_f86c9 cJ9_floorDiv_f86c9 6 (some .long) :: ([])
def wsX0_nearnessOf : List Cond := .code yX0_nearnessOf cX0_nearnessOf 10 (some .int) :: ([.fieldLink RX0 16 "PieceBoxes" "rs" "[I", .methodLink RX0 60 yX0_edge, .instanceMethod yX0_edge, .selects RX0 yX0_edge yX0_edge, .initialized RX0, .code yX0_edge cX0_edge 13 (some .long), .fieldLink RX0 9 "PieceBoxes" "xs" "[I", .fieldLink RX0 13 "PieceBoxes" "ys" "[I", .methodLink RX0 64 yX0_edgeStart, .static yX0_edgeStart, .code yX0_edgeStart cX0_edgeStart 2 (some .int), .methodLink RX0 67 yX0_edgeEnd, .static yX0_edgeEnd, .code yX0_edgeEnd cX0_edgeEnd 2 (some .int), .methodLink RX0 28 yX0_areaOf, .instanceMethod yX0_areaOf, .selects RX0 yX0_areaOf yX0_areaOf, .code yX0_areaOf cX0_areaOf 3 (some .long), .methodLink RX0 74 yJ9_floorDiv_f86c9, .static yJ9_floorDiv_f86c9, .initialized RJ9, .code yJ9_floorDiv_f86c9 cJ9_floorDiv_f86c9 6 (some .long)] ++ wsX00)
def wsX0_near_r1 : List Cond := [Cond.methodLink RX0 32 yX0_isPiece, Cond.instanceMethod yX0_isPiece, Cond.selects RX0 yX0_isPiece yX0_isPiece, Cond.initialized RX0, Cond.code yX0_isPiece cX0_isPiece 2 (some .boolean), Cond.fieldLink RX0 19 "PieceBoxes" "pieces" "I", Cond.methodLink RX0 35 yX0_middle, Cond.static yX0_middle, Cond.code yX0_middle cX0_middle 1 (some .long), Cond.constantLong RX0 56 (16), Cond.constantLong RX0 58 (8), Cond.methodLink RX0 38 yX0_covers, Cond.instanceMethod yX0_covers, Cond.selects RX0 yX0_covers yX0_covers, Cond.code yX0_covers cX0_covers 9 (some .boolean), Cond.methodLink RX0 60 yX0_edge, Cond.instanceMethod yX0_edge, Cond.selects RX0 yX0_edge yX0_edge, Cond.code yX0_edge cX0_edge 13 (some .long), Cond.fieldLink RX0 9 "PieceBoxes" "xs" "[I", Cond.fieldLink RX0 13 "PieceBoxes" "ys" "[I", Cond.methodLink RX0 64 yX0_edgeStart, Cond.static yX0_edgeStart, Cond.code yX0_edgeStart cX0_edgeStart 2 (some .int)]
def wsX0_near_r2 : List Cond := [Cond.methodLink RX0 67 yX0_edgeEnd, Cond.static yX0_edgeEnd, Cond.code yX0_edgeEnd cX0_edgeEnd 2 (some .int), Cond.methodLink RX0 70 yX0_ownsEdge, Cond.instanceMethod yX0_ownsEdge, Cond.selects RX0 yX0_ownsEdge yX0_ownsEdge, Cond.code yX0_ownsEdge cX0_ownsEdge 5 (some .boolean), Cond.methodLink RX0 42 yX0_nearnessOf, Cond.instanceMethod yX0_nearnessOf, Cond.selects RX0 yX0_nearnessOf yX0_nearnessOf, Cond.code yX0_nearnessOf cX0_nearnessOf 10 (some .int), Cond.fieldLink RX0 16 "PieceBoxes" "rs" "[I", Cond.methodLink RX0 28 yX0_areaOf, Cond.instanceMethod yX0_areaOf, Cond.selects RX0 yX0_areaOf yX0_areaOf, Cond.code yX0_areaOf cX0_areaOf 3 (some .long), Cond.methodLink RX0 74 yJ9_floorDiv_f86c9, Cond.static yJ9_floorDiv_f86c9, Cond.initialized RJ9, Cond.code yJ9_floorDiv_f86c9 cJ9_floorDiv_f86c9 6 (some .long)]
def wsX0_near : List Cond := .code yX0_near cX0_near 4 (some .int) :: ((wsX0_near_r1 ++ wsX0_near_r2) ++ wsX00)
def wsX0_nearest_r1 : List Cond := [Cond.fieldLink RX0 19 "PieceBoxes" "pieces" "I", Cond.methodLink RX0 46 yX0_near, Cond.instanceMethod yX0_near, Cond.selects RX0 yX0_near yX0_near, Cond.initialized RX0, Cond.code yX0_near cX0_near 4 (some .int), Cond.methodLink RX0 32 yX0_isPiece, Cond.instanceMethod yX0_isPiece, Cond.selects RX0 yX0_isPiece yX0_isPiece, Cond.code yX0_isPiece cX0_isPiece 2 (some .boolean), Cond.methodLink RX0 35 yX0_middle, Cond.static yX0_middle, Cond.code yX0_middle cX0_middle 1 (some .long), Cond.constantLong RX0 56 (16), Cond.constantLong RX0 58 (8), Cond.methodLink RX0 38 yX0_covers, Cond.instanceMethod yX0_covers, Cond.selects RX0 yX0_covers yX0_covers, Cond.code yX0_covers cX0_covers 9 (some .boolean), Cond.methodLink RX0 60 yX0_edge, Cond.instanceMethod yX0_edge, Cond.selects RX0 yX0_edge yX0_edge, Cond.code yX0_edge cX0_edge 13 (some .long), Cond.fieldLink RX0 9 "PieceBoxes" "xs" "[I"]
def wsX0_nearest_r2 : List Cond := [Cond.fieldLink RX0 13 "PieceBoxes" "ys" "[I", Cond.methodLink RX0 64 yX0_edgeStart, Cond.static yX0_edgeStart, Cond.code yX0_edgeStart cX0_edgeStart 2 (some .int), Cond.methodLink RX0 67 yX0_edgeEnd, Cond.static yX0_edgeEnd, Cond.code yX0_edgeEnd cX0_edgeEnd 2 (some .int), Cond.methodLink RX0 70 yX0_ownsEdge, Cond.instanceMethod yX0_ownsEdge, Cond.selects RX0 yX0_ownsEdge yX0_ownsEdge, Cond.code yX0_ownsEdge cX0_ownsEdge 5 (some .boolean), Cond.methodLink RX0 42 yX0_nearnessOf, Cond.instanceMethod yX0_nearnessOf, Cond.selects RX0 yX0_nearnessOf yX0_nearnessOf, Cond.code yX0_nearnessOf cX0_nearnessOf 10 (some .int), Cond.fieldLink RX0 16 "PieceBoxes" "rs" "[I", Cond.methodLink RX0 28 yX0_areaOf, Cond.instanceMethod yX0_areaOf, Cond.selects RX0 yX0_areaOf yX0_areaOf, Cond.code yX0_areaOf cX0_areaOf 3 (some .long), Cond.methodLink RX0 74 yJ9_floorDiv_f86c9, Cond.static yJ9_floorDiv_f86c9, Cond.initialized RJ9, Cond.code yJ9_floorDiv_f86c9 cJ9_floorDiv_f86c9 6 (some .long)]
def wsX0_nearest : List Cond := .code yX0_nearest cX0_nearest 7 (some .int) :: ((wsX0_nearest_r1 ++ wsX0_nearest_r2) ++ wsX00)
def wsX0_covering_r1 : List Cond := [Cond.fieldLink RX0 19 "PieceBoxes" "pieces" "I", Cond.methodLink RX0 35 yX0_middle, Cond.static yX0_middle, Cond.initialized RX0, Cond.code yX0_middle cX0_middle 1 (some .long), Cond.constantLong RX0 56 (16), Cond.constantLong RX0 58 (8), Cond.methodLink RX0 38 yX0_covers, Cond.instanceMethod yX0_covers, Cond.selects RX0 yX0_covers yX0_covers, Cond.code yX0_covers cX0_covers 9 (some .boolean), Cond.methodLink RX0 60 yX0_edge, Cond.instanceMethod yX0_edge, Cond.selects RX0 yX0_edge yX0_edge, Cond.code yX0_edge cX0_edge 13 (some .long), Cond.fieldLink RX0 9 "PieceBoxes" "xs" "[I", Cond.fieldLink RX0 13 "PieceBoxes" "ys" "[I", Cond.methodLink RX0 64 yX0_edgeStart, Cond.static yX0_edgeStart, Cond.code yX0_edgeStart cX0_edgeStart 2 (some .int), Cond.methodLink RX0 67 yX0_edgeEnd, Cond.static yX0_edgeEnd, Cond.code yX0_edgeEnd cX0_edgeEnd 2 (some .int), Cond.methodLink RX0 70 yX0_ownsEdge]
def wsX0_covering_r2 : List Cond := [Cond.instanceMethod yX0_ownsEdge, Cond.selects RX0 yX0_ownsEdge yX0_ownsEdge, Cond.code yX0_ownsEdge cX0_ownsEdge 5 (some .boolean)]
def wsX0_covering : List Cond := .code yX0_covering cX0_covering 5 (some .int) :: ((wsX0_covering_r1 ++ wsX0_covering_r2) ++ wsX00)
def wsX0_next_r1 : List Cond := [Cond.methodLink RX0 50 Lib.Math.max.name, Cond.static Lib.Math.max.name, Cond.initialized "java/lang/Math", Cond.code Lib.Math.max.name Lib.Math.max.code 2 (some .int), Cond.fieldLink RX0 19 "PieceBoxes" "pieces" "I", Cond.methodLink RX0 35 yX0_middle, Cond.static yX0_middle, Cond.initialized RX0, Cond.code yX0_middle cX0_middle 1 (some .long), Cond.constantLong RX0 56 (16), Cond.constantLong RX0 58 (8), Cond.methodLink RX0 38 yX0_covers, Cond.instanceMethod yX0_covers, Cond.selects RX0 yX0_covers yX0_covers, Cond.code yX0_covers cX0_covers 9 (some .boolean), Cond.methodLink RX0 60 yX0_edge, Cond.instanceMethod yX0_edge, Cond.selects RX0 yX0_edge yX0_edge, Cond.code yX0_edge cX0_edge 13 (some .long), Cond.fieldLink RX0 9 "PieceBoxes" "xs" "[I", Cond.fieldLink RX0 13 "PieceBoxes" "ys" "[I", Cond.methodLink RX0 64 yX0_edgeStart, Cond.static yX0_edgeStart, Cond.code yX0_edgeStart cX0_edgeStart 2 (some .int)]
def wsX0_next_r2 : List Cond := [Cond.methodLink RX0 67 yX0_edgeEnd, Cond.static yX0_edgeEnd, Cond.code yX0_edgeEnd cX0_edgeEnd 2 (some .int), Cond.methodLink RX0 70 yX0_ownsEdge, Cond.instanceMethod yX0_ownsEdge, Cond.selects RX0 yX0_ownsEdge yX0_ownsEdge, Cond.code yX0_ownsEdge cX0_ownsEdge 5 (some .boolean)]
def wsX0_next : List Cond := .code yX0_next cX0_next 5 (some .int) :: ((wsX0_next_r1 ++ wsX0_next_r2) ++ wsX00)
def wsX1_init : List Cond := .code yX1_init cX1_init 2 none :: ([.methodLink RX1 1 objectInit, .instanceMethod objectInit, .code objectInit ⟨#[0xb1]⟩ 1 none, .arrayClass .int, .fieldLink RX1 7 "PieceBoxesModel" "corners" "[I"] ++ wsX10)
def wsX1_corner : List Cond := .code yX1_corner cX1_corner 6 (some .boolean) :: ([.fieldLink RX1 13 "PieceBoxesModel" "thrown" "I", .constant RX1 17 (1048576), .fieldLink RX1 7 "PieceBoxesModel" "corners" "[I"] ++ wsX10)
def wsX1_edge : List Cond := .code yX1_edge cX1_edge 7 (some .long) :: ([.fieldLink RX1 7 "PieceBoxesModel" "corners" "[I"] ++ wsX10)
def wsX1_areaAt : List Cond := .code yX1_areaAt cX1_areaAt 2 (some .long) :: ([.fieldLink RX1 7 "PieceBoxesModel" "corners" "[I", .methodLink RX1 18 yX1_edge, .instanceMethod yX1_edge, .selects RX1 yX1_edge yX1_edge, .initialized RX1, .code yX1_edge cX1_edge 7 (some .long)] ++ wsX10)
def wsX1_add : List Cond := .code yX1_add cX1_add 2 (some .int) :: ([.fieldLink RX1 13 "PieceBoxesModel" "thrown" "I", .fieldLink RX1 22 "PieceBoxesModel" "many" "I", .fieldLink RX1 7 "PieceBoxesModel" "corners" "[I", .methodLink RX1 25 yX1_areaAt, .instanceMethod yX1_areaAt, .selects RX1 yX1_areaAt yX1_areaAt, .initialized RX1, .code yX1_areaAt cX1_areaAt 2 (some .long), .methodLink RX1 18 yX1_edge, .instanceMethod yX1_edge, .selects RX1 yX1_edge yX1_edge, .code yX1_edge cX1_edge 7 (some .long)] ++ wsX10)
def wsX1_clear : List Cond := .code yX1_clear cX1_clear 1 none :: ([.fieldLink RX1 13 "PieceBoxesModel" "thrown" "I", .fieldLink RX1 22 "PieceBoxesModel" "many" "I"] ++ wsX10)
def wsX1_count : List Cond := .code yX1_count cX1_count 1 (some .int) :: ([.fieldLink RX1 13 "PieceBoxesModel" "thrown" "I", .fieldLink RX1 22 "PieceBoxesModel" "many" "I"] ++ wsX10)
def wsX1_area : List Cond := .code yX1_area cX1_area 2 (some .int) :: ([.fieldLink RX1 13 "PieceBoxesModel" "thrown" "I", .fieldLink RX1 22 "PieceBoxesModel" "many" "I", .methodLink RX1 25 yX1_areaAt, .instanceMethod yX1_areaAt, .selects RX1 yX1_areaAt yX1_areaAt, .initialized RX1, .code yX1_areaAt cX1_areaAt 2 (some .long), .fieldLink RX1 7 "PieceBoxesModel" "corners" "[I", .methodLink RX1 18 yX1_edge, .instanceMethod yX1_edge, .selects RX1 yX1_edge yX1_edge, .code yX1_edge cX1_edge 7 (some .long)] ++ wsX10)
def wsX1_holds : List Cond := .code yX1_holds cX1_holds 10 (some .boolean) :: ([.fieldLink RX1 7 "PieceBoxesModel" "corners" "[I", .methodLink RX1 18 yX1_edge, .instanceMethod yX1_edge, .selects RX1 yX1_edge yX1_edge, .initialized RX1, .code yX1_edge cX1_edge 7 (some .long)] ++ wsX10)
def wsX1_nearAt : List Cond := .code yX1_nearAt cX1_nearAt 11 (some .int) :: ([.constantLong RX1 29 (16), .constantLong RX1 31 (8), .fieldLink RX1 7 "PieceBoxesModel" "corners" "[I", .methodLink RX1 33 yX1_holds, .instanceMethod yX1_holds, .selects RX1 yX1_holds yX1_holds, .initialized RX1, .code yX1_holds cX1_holds 10 (some .boolean), .methodLink RX1 18 yX1_edge, .instanceMethod yX1_edge, .selects RX1 yX1_edge yX1_edge, .code yX1_edge cX1_edge 7 (some .long), .methodLink RX1 25 yX1_areaAt, .instanceMethod yX1_areaAt, .selects RX1 yX1_areaAt yX1_areaAt, .code yX1_areaAt cX1_areaAt 2 (some .long)] ++ wsX10)
def wsX1_near : List Cond := .code yX1_near cX1_near 4 (some .int) :: ([.fieldLink RX1 13 "PieceBoxesModel" "thrown" "I", .fieldLink RX1 22 "PieceBoxesModel" "many" "I", .methodLink RX1 37 yX1_nearAt, .instanceMethod yX1_nearAt, .selects RX1 yX1_nearAt yX1_nearAt, .initialized RX1, .code yX1_nearAt cX1_nearAt 11 (some .int), .constantLong RX1 29 (16), .constantLong RX1 31 (8), .fieldLink RX1 7 "PieceBoxesModel" "corners" "[I", .methodLink RX1 33 yX1_holds, .instanceMethod yX1_holds, .selects RX1 yX1_holds yX1_holds, .code yX1_holds cX1_holds 10 (some .boolean), .methodLink RX1 18 yX1_edge, .instanceMethod yX1_edge, .selects RX1 yX1_edge yX1_edge, .code yX1_edge cX1_edge 7 (some .long), .methodLink RX1 25 yX1_areaAt, .instanceMethod yX1_areaAt, .selects RX1 yX1_areaAt yX1_areaAt, .code yX1_areaAt cX1_areaAt 2 (some .long)] ++ wsX10)
def wsX1_nearest : List Cond := .code yX1_nearest cX1_nearest 7 (some .int) :: ([.fieldLink RX1 13 "PieceBoxesModel" "thrown" "I", .fieldLink RX1 22 "PieceBoxesModel" "many" "I", .methodLink RX1 37 yX1_nearAt, .instanceMethod yX1_nearAt, .selects RX1 yX1_nearAt yX1_nearAt, .initialized RX1, .code yX1_nearAt cX1_nearAt 11 (some .int), .constantLong RX1 29 (16), .constantLong RX1 31 (8), .fieldLink RX1 7 "PieceBoxesModel" "corners" "[I", .methodLink RX1 33 yX1_holds, .instanceMethod yX1_holds, .selects RX1 yX1_holds yX1_holds, .code yX1_holds cX1_holds 10 (some .boolean), .methodLink RX1 18 yX1_edge, .instanceMethod yX1_edge, .selects RX1 yX1_edge yX1_edge, .code yX1_edge cX1_edge 7 (some .long), .methodLink RX1 25 yX1_areaAt, .instanceMethod yX1_areaAt, .selects RX1 yX1_areaAt yX1_areaAt, .code yX1_areaAt cX1_areaAt 2 (some .long)] ++ wsX10)
def wsX1_covering : List Cond := .code yX1_covering cX1_covering 5 (some .int) :: ([.fieldLink RX1 13 "PieceBoxesModel" "thrown" "I", .fieldLink RX1 22 "PieceBoxesModel" "many" "I", .methodLink RX1 37 yX1_nearAt, .instanceMethod yX1_nearAt, .selects RX1 yX1_nearAt yX1_nearAt, .initialized RX1, .code yX1_nearAt cX1_nearAt 11 (some .int), .constantLong RX1 29 (16), .constantLong RX1 31 (8), .fieldLink RX1 7 "PieceBoxesModel" "corners" "[I", .methodLink RX1 33 yX1_holds, .instanceMethod yX1_holds, .selects RX1 yX1_holds yX1_holds, .code yX1_holds cX1_holds 10 (some .boolean), .methodLink RX1 18 yX1_edge, .instanceMethod yX1_edge, .selects RX1 yX1_edge yX1_edge, .code yX1_edge cX1_edge 7 (some .long), .methodLink RX1 25 yX1_areaAt, .instanceMethod yX1_areaAt, .selects RX1 yX1_areaAt yX1_areaAt, .code yX1_areaAt cX1_areaAt 2 (some .long)] ++ wsX10)
def wsX1_next : List Cond := .code yX1_next cX1_next 5 (some .int) :: ([.fieldLink RX1 13 "PieceBoxesModel" "thrown" "I", .fieldLink RX1 22 "PieceBoxesModel" "many" "I", .methodLink RX1 37 yX1_nearAt, .instanceMethod yX1_nearAt, .selects RX1 yX1_nearAt yX1_nearAt, .initialized RX1, .code yX1_nearAt cX1_nearAt 11 (some .int), .constantLong RX1 29 (16), .constantLong RX1 31 (8), .fieldLink RX1 7 "PieceBoxesModel" "corners" "[I", .methodLink RX1 33 yX1_holds, .instanceMethod yX1_holds, .selects RX1 yX1_holds yX1_holds, .code yX1_holds cX1_holds 10 (some .boolean), .methodLink RX1 18 yX1_edge, .instanceMethod yX1_edge, .selects RX1 yX1_edge yX1_edge, .code yX1_edge cX1_edge 7 (some .long), .methodLink RX1 25 yX1_areaAt, .instanceMethod yX1_areaAt, .selects RX1 yX1_areaAt yX1_areaAt, .code yX1_areaAt cX1_areaAt 2 (some .long)] ++ wsX10)
def wsJ9_max_7cf53 : List Cond := .code yJ9_max_7cf53 cJ9_max_7cf53 2 (some .int) :: ([])
def wsL_law_r1 : List Cond := [Cond.classLink RL 7 RX0, Cond.instantiable RX0 4, Cond.initialized RX0, Cond.classLink RL 10 RX1, Cond.instantiable RX1 3, Cond.initialized RX1, Cond.methodLink RL 9 yX0_init, Cond.instanceMethod yX0_init, Cond.code yX0_init cX0_init 3 none, Cond.methodLink RX0 3 objectInit, Cond.instanceMethod objectInit, Cond.code objectInit ⟨#[0xb1]⟩ 1 none, Cond.arrayClass .int, Cond.fieldLink RX0 9 "PieceBoxes" "xs" "[I", Cond.fieldLink RX0 13 "PieceBoxes" "ys" "[I", Cond.fieldLink RX0 16 "PieceBoxes" "rs" "[I", Cond.fieldLink RX0 19 "PieceBoxes" "pieces" "I", Cond.methodLink RL 12 yX1_init, Cond.instanceMethod yX1_init, Cond.code yX1_init cX1_init 2 none, Cond.methodLink RX1 1 objectInit, Cond.fieldLink RX1 7 "PieceBoxesModel" "corners" "[I", Cond.methodLink RL 13 yX0_corner, Cond.instanceMethod yX0_corner]
def wsL_law_r2 : List Cond := [Cond.selects RX0 yX0_corner yX0_corner, Cond.code yX0_corner cX0_corner 6 (some .boolean), Cond.constant RX0 27 (1048576), Cond.methodLink RX0 23 yX0_isOnGrid, Cond.static yX0_isOnGrid, Cond.code yX0_isOnGrid cX0_isOnGrid 1 (some .boolean), Cond.methodLink RL 17 yX1_corner, Cond.instanceMethod yX1_corner, Cond.selects RX1 yX1_corner yX1_corner, Cond.code yX1_corner cX1_corner 6 (some .boolean), Cond.fieldLink RX1 13 "PieceBoxesModel" "thrown" "I", Cond.constant RX1 17 (1048576), Cond.methodLink RL 18 yX0_add, Cond.instanceMethod yX0_add, Cond.selects RX0 yX0_add yX0_add, Cond.code yX0_add cX0_add 5 (some .int), Cond.methodLink RX0 28 yX0_areaOf, Cond.instanceMethod yX0_areaOf, Cond.selects RX0 yX0_areaOf yX0_areaOf, Cond.code yX0_areaOf cX0_areaOf 3 (some .long), Cond.methodLink RX0 60 yX0_edge, Cond.instanceMethod yX0_edge, Cond.selects RX0 yX0_edge yX0_edge, Cond.code yX0_edge cX0_edge 13 (some .long)]
def wsL_law_r3 : List Cond := [Cond.methodLink RX0 64 yX0_edgeStart, Cond.static yX0_edgeStart, Cond.code yX0_edgeStart cX0_edgeStart 2 (some .int), Cond.methodLink RX0 67 yX0_edgeEnd, Cond.static yX0_edgeEnd, Cond.code yX0_edgeEnd cX0_edgeEnd 2 (some .int), Cond.methodLink RL 22 yX1_add, Cond.instanceMethod yX1_add, Cond.selects RX1 yX1_add yX1_add, Cond.code yX1_add cX1_add 2 (some .int), Cond.fieldLink RX1 22 "PieceBoxesModel" "many" "I", Cond.methodLink RX1 25 yX1_areaAt, Cond.instanceMethod yX1_areaAt, Cond.selects RX1 yX1_areaAt yX1_areaAt, Cond.code yX1_areaAt cX1_areaAt 2 (some .long), Cond.methodLink RX1 18 yX1_edge, Cond.instanceMethod yX1_edge, Cond.selects RX1 yX1_edge yX1_edge, Cond.code yX1_edge cX1_edge 7 (some .long), Cond.methodLink RL 23 yX0_clear, Cond.instanceMethod yX0_clear, Cond.selects RX0 yX0_clear yX0_clear, Cond.code yX0_clear cX0_clear 1 none, Cond.methodLink RL 26 yX1_clear]
def wsL_law_r4 : List Cond := [Cond.instanceMethod yX1_clear, Cond.selects RX1 yX1_clear yX1_clear, Cond.code yX1_clear cX1_clear 1 none, Cond.methodLink RL 27 yX0_count, Cond.instanceMethod yX0_count, Cond.selects RX0 yX0_count yX0_count, Cond.code yX0_count cX0_count 1 (some .int), Cond.methodLink RL 30 yX1_count, Cond.instanceMethod yX1_count, Cond.selects RX1 yX1_count yX1_count, Cond.code yX1_count cX1_count 1 (some .int), Cond.methodLink RL 31 yX0_area, Cond.instanceMethod yX0_area, Cond.selects RX0 yX0_area yX0_area, Cond.code yX0_area cX0_area 2 (some .int), Cond.methodLink RX0 32 yX0_isPiece, Cond.instanceMethod yX0_isPiece, Cond.selects RX0 yX0_isPiece yX0_isPiece, Cond.code yX0_isPiece cX0_isPiece 2 (some .boolean), Cond.methodLink RL 35 yX1_area, Cond.instanceMethod yX1_area, Cond.selects RX1 yX1_area yX1_area, Cond.code yX1_area cX1_area 2 (some .int), Cond.methodLink RL 36 yX0_near]
def wsL_law_r5 : List Cond := [Cond.instanceMethod yX0_near, Cond.selects RX0 yX0_near yX0_near, Cond.code yX0_near cX0_near 4 (some .int), Cond.methodLink RX0 35 yX0_middle, Cond.static yX0_middle, Cond.code yX0_middle cX0_middle 1 (some .long), Cond.constantLong RX0 56 (16), Cond.constantLong RX0 58 (8), Cond.methodLink RX0 38 yX0_covers, Cond.instanceMethod yX0_covers, Cond.selects RX0 yX0_covers yX0_covers, Cond.code yX0_covers cX0_covers 9 (some .boolean), Cond.methodLink RX0 70 yX0_ownsEdge, Cond.instanceMethod yX0_ownsEdge, Cond.selects RX0 yX0_ownsEdge yX0_ownsEdge, Cond.code yX0_ownsEdge cX0_ownsEdge 5 (some .boolean), Cond.methodLink RX0 42 yX0_nearnessOf, Cond.instanceMethod yX0_nearnessOf, Cond.selects RX0 yX0_nearnessOf yX0_nearnessOf, Cond.code yX0_nearnessOf cX0_nearnessOf 10 (some .int), Cond.methodLink RX0 74 yJ9_floorDiv_f86c9, Cond.static yJ9_floorDiv_f86c9, Cond.initialized RJ9, Cond.code yJ9_floorDiv_f86c9 cJ9_floorDiv_f86c9 6 (some .long)]
def wsL_law_r6 : List Cond := [Cond.methodLink RL 40 yX1_near, Cond.instanceMethod yX1_near, Cond.selects RX1 yX1_near yX1_near, Cond.code yX1_near cX1_near 4 (some .int), Cond.methodLink RX1 37 yX1_nearAt, Cond.instanceMethod yX1_nearAt, Cond.selects RX1 yX1_nearAt yX1_nearAt, Cond.code yX1_nearAt cX1_nearAt 11 (some .int), Cond.constantLong RX1 29 (16), Cond.constantLong RX1 31 (8), Cond.methodLink RX1 33 yX1_holds, Cond.instanceMethod yX1_holds, Cond.selects RX1 yX1_holds yX1_holds, Cond.code yX1_holds cX1_holds 10 (some .boolean), Cond.methodLink RL 41 yX0_nearest, Cond.instanceMethod yX0_nearest, Cond.selects RX0 yX0_nearest yX0_nearest, Cond.code yX0_nearest cX0_nearest 7 (some .int), Cond.methodLink RX0 46 yX0_near, Cond.methodLink RL 45 yX1_nearest, Cond.instanceMethod yX1_nearest, Cond.selects RX1 yX1_nearest yX1_nearest, Cond.code yX1_nearest cX1_nearest 7 (some .int), Cond.methodLink RL 46 yX0_covering]
def wsL_law_r7 : List Cond := [Cond.instanceMethod yX0_covering, Cond.selects RX0 yX0_covering yX0_covering, Cond.code yX0_covering cX0_covering 5 (some .int), Cond.methodLink RL 49 yX1_covering, Cond.instanceMethod yX1_covering, Cond.selects RX1 yX1_covering yX1_covering, Cond.code yX1_covering cX1_covering 5 (some .int), Cond.methodLink RL 50 yX0_next, Cond.instanceMethod yX0_next, Cond.selects RX0 yX0_next yX0_next, Cond.code yX0_next cX0_next 5 (some .int), Cond.methodLink RX0 50 Lib.Math.max.name, Cond.static Lib.Math.max.name, Cond.initialized "java/lang/Math", Cond.code Lib.Math.max.name Lib.Math.max.code 2 (some .int), Cond.methodLink RL 53 yX1_next, Cond.instanceMethod yX1_next, Cond.selects RX1 yX1_next yX1_next, Cond.code yX1_next cX1_next 5 (some .int)]
def wsL_law : List Cond := (wsL_law_r1 ++ (wsL_law_r2 ++ (wsL_law_r3 ++ (wsL_law_r4 ++ (wsL_law_r5 ++ (wsL_law_r6 ++ wsL_law_r7)))))) ++ wsX00 ++ wsX10 ++ ([] : List Cond)
set_option maxRecDepth 20000 in
theorem wsL_law_in : ∀ w ∈ wsL_law, w ∈ lw_tbl := fun w h => (goodIn_p wsL_law [18, 21, 122, 39, 42, 137, 47, 51, 55, 58, 61, 142, 146, 150, 65, 154, 69, 158, 73, 77, 162, 81, 84, 90, 94, 98, 101, 166, 170, 176, 105, 180, 110, 184, 114, 117, 188] (by decide +kernel) (by decide +kernel) w h).1
theorem inlX0 : ∀ w ∈ wsX00, w ∈ wsL_law := fun _ h => List.mem_append_left _ (List.mem_append_left _ (List.mem_append_right _ h))
theorem inX0 : ∀ w ∈ wsX00, w ∈ lw_tbl := fun w h => wsL_law_in w (inlX0 w h)
theorem inlX1 : ∀ w ∈ wsX10, w ∈ wsL_law := fun _ h => List.mem_append_left _ (List.mem_append_right _ h)
theorem inX1 : ∀ w ∈ wsX10, w ∈ lw_tbl := fun w h => wsL_law_in w (inlX1 w h)
theorem inJ9 : ∀ w ∈ wsJ90, w ∈ lw_tbl := by decide +kernel
theorem dX0_init_0 : decode cX0_init 0 = .ok (.aload_n 0, 1) := by decide +kernel
theorem dX0_init_1 : decode cX0_init 1 = .ok (.invokespecial 3, 3) := by decide +kernel
theorem dX0_init_4 : decode cX0_init 4 = .ok (.sipush 1539, 3) := by decide +kernel
theorem dX0_init_7 : decode cX0_init 7 = .ok (.istore_n 1, 1) := by decide +kernel
theorem dX0_init_8 : decode cX0_init 8 = .ok (.aload_n 0, 1) := by decide +kernel
theorem dX0_init_9 : decode cX0_init 9 = .ok (.iload_n 1, 1) := by decide +kernel
theorem dX0_init_10 : decode cX0_init 10 = .ok (.newarray .int, 2) := by decide +kernel
theorem dX0_init_12 : decode cX0_init 12 = .ok (.putfield 9, 3) := by decide +kernel
theorem dX0_init_15 : decode cX0_init 15 = .ok (.aload_n 0, 1) := by decide +kernel
theorem dX0_init_16 : decode cX0_init 16 = .ok (.iload_n 1, 1) := by decide +kernel
theorem dX0_init_17 : decode cX0_init 17 = .ok (.newarray .int, 2) := by decide +kernel
theorem dX0_init_19 : decode cX0_init 19 = .ok (.putfield 13, 3) := by decide +kernel
theorem dX0_init_22 : decode cX0_init 22 = .ok (.aload_n 0, 1) := by decide +kernel
theorem dX0_init_23 : decode cX0_init 23 = .ok (.iload_n 1, 1) := by decide +kernel
theorem dX0_init_24 : decode cX0_init 24 = .ok (.newarray .int, 2) := by decide +kernel
theorem dX0_init_26 : decode cX0_init 26 = .ok (.putfield 16, 3) := by decide +kernel
theorem dX0_init_29 : decode cX0_init 29 = .ok (.iconst 0, 1) := by decide +kernel
theorem dX0_init_30 : decode cX0_init 30 = .ok (.istore_n 2, 1) := by decide +kernel
theorem dX0_init_31 : decode cX0_init 31 = .ok (.iload_n 2, 1) := by decide +kernel
theorem dX0_init_32 : decode cX0_init 32 = .ok (.iconst 3, 1) := by decide +kernel
theorem dX0_init_33 : decode cX0_init 33 = .ok (.if_icmp .ge 20, 3) := by decide +kernel
theorem dX0_init_36 : decode cX0_init 36 = .ok (.aload_n 0, 1) := by decide +kernel
theorem dX0_init_37 : decode cX0_init 37 = .ok (.getfield 16, 3) := by decide +kernel
theorem dX0_init_40 : decode cX0_init 40 = .ok (.sipush 1536, 3) := by decide +kernel
theorem dX0_init_43 : decode cX0_init 43 = .ok (.iload_n 2, 1) := by decide +kernel
theorem dX0_init_44 : decode cX0_init 44 = .ok (.iadd, 1) := by decide +kernel
theorem dX0_init_45 : decode cX0_init 45 = .ok (.iconst 1, 1) := by decide +kernel
theorem dX0_init_46 : decode cX0_init 46 = .ok (.iastore, 1) := by decide +kernel
theorem dX0_init_47 : decode cX0_init 47 = .ok (.iinc 2 1, 3) := by decide +kernel
theorem dX0_init_50 : decode cX0_init 50 = .ok (.goto (-19), 3) := by decide +kernel
theorem dX0_init_53 : decode cX0_init 53 = .ok (.aload_n 0, 1) := by decide +kernel
theorem dX0_init_54 : decode cX0_init 54 = .ok (.iconst 0, 1) := by decide +kernel
theorem dX0_init_55 : decode cX0_init 55 = .ok (.putfield 19, 3) := by decide +kernel
theorem dX0_init_58 : decode cX0_init 58 = .ok (.return_, 1) := by decide +kernel
set_option maxRecDepth 20000 in
theorem ggX0_corner_X0_isOnGrid : GoodIn wsX0_corner wsX0_isOnGrid := goodIn_r _ [8] (by decide +kernel) (by decide +kernel)
set_option maxRecDepth 20000 in
theorem gX0_corner_X0_isOnGrid : GoodIn wsX0_corner (va_wsS RX0 23 yX0_isOnGrid wsX0_isOnGrid) := goodIn_app (goodIn_of _ (by decide +kernel)) ggX0_corner_X0_isOnGrid
theorem dX0_corner_0 : decode cX0_corner 0 = .ok (.iload_n 1, 1) := by decide +kernel
theorem dX0_corner_1 : decode cX0_corner 1 = .ok (.ifCond .lt 8, 3) := by decide +kernel
theorem dX0_corner_4 : decode cX0_corner 4 = .ok (.iload_n 1, 1) := by decide +kernel
theorem dX0_corner_5 : decode cX0_corner 5 = .ok (.iconst 3, 1) := by decide +kernel
theorem dX0_corner_6 : decode cX0_corner 6 = .ok (.if_icmp .lt 5, 3) := by decide +kernel
theorem dX0_corner_9 : decode cX0_corner 9 = .ok (.iconst 0, 1) := by decide +kernel
theorem dX0_corner_10 : decode cX0_corner 10 = .ok (.ireturn, 1) := by decide +kernel
theorem dX0_corner_11 : decode cX0_corner 11 = .ok (.iload_n 2, 1) := by decide +kernel
theorem dX0_corner_12 : decode cX0_corner 12 = .ok (.invokestatic 23, 3) := by decide +kernel
theorem dX0_corner_15 : decode cX0_corner 15 = .ok (.ifCond .eq 23, 3) := by decide +kernel
theorem dX0_corner_18 : decode cX0_corner 18 = .ok (.iload_n 3, 1) := by decide +kernel
theorem dX0_corner_19 : decode cX0_corner 19 = .ok (.invokestatic 23, 3) := by decide +kernel
theorem dX0_corner_22 : decode cX0_corner 22 = .ok (.ifCond .eq 16, 3) := by decide +kernel
theorem dX0_corner_25 : decode cX0_corner 25 = .ok (.iload 4, 2) := by decide +kernel
theorem dX0_corner_27 : decode cX0_corner 27 = .ok (.iconst 1, 1) := by decide +kernel
theorem dX0_corner_28 : decode cX0_corner 28 = .ok (.if_icmp .lt 10, 3) := by decide +kernel
theorem dX0_corner_31 : decode cX0_corner 31 = .ok (.iload 4, 2) := by decide +kernel
theorem dX0_corner_33 : decode cX0_corner 33 = .ok (.ldc 27, 2) := by decide +kernel
theorem dX0_corner_35 : decode cX0_corner 35 = .ok (.if_icmp .le 5, 3) := by decide +kernel
theorem dX0_corner_38 : decode cX0_corner 38 = .ok (.iconst 0, 1) := by decide +kernel
theorem dX0_corner_39 : decode cX0_corner 39 = .ok (.ireturn, 1) := by decide +kernel
theorem dX0_corner_40 : decode cX0_corner 40 = .ok (.sipush 1536, 3) := by decide +kernel
theorem dX0_corner_43 : decode cX0_corner 43 = .ok (.iload_n 1, 1) := by decide +kernel
theorem dX0_corner_44 : decode cX0_corner 44 = .ok (.iadd, 1) := by decide +kernel
theorem dX0_corner_45 : decode cX0_corner 45 = .ok (.istore 5, 2) := by decide +kernel
theorem dX0_corner_47 : decode cX0_corner 47 = .ok (.aload_n 0, 1) := by decide +kernel
theorem dX0_corner_48 : decode cX0_corner 48 = .ok (.getfield 9, 3) := by decide +kernel
theorem dX0_corner_51 : decode cX0_corner 51 = .ok (.iload 5, 2) := by decide +kernel
theorem dX0_corner_53 : decode cX0_corner 53 = .ok (.iload_n 2, 1) := by decide +kernel
theorem dX0_corner_54 : decode cX0_corner 54 = .ok (.iastore, 1) := by decide +kernel
theorem dX0_corner_55 : decode cX0_corner 55 = .ok (.aload_n 0, 1) := by decide +kernel
theorem dX0_corner_56 : decode cX0_corner 56 = .ok (.getfield 13, 3) := by decide +kernel
theorem dX0_corner_59 : decode cX0_corner 59 = .ok (.iload 5, 2) := by decide +kernel
theorem dX0_corner_61 : decode cX0_corner 61 = .ok (.iload_n 3, 1) := by decide +kernel
theorem dX0_corner_62 : decode cX0_corner 62 = .ok (.iastore, 1) := by decide +kernel
theorem dX0_corner_63 : decode cX0_corner 63 = .ok (.aload_n 0, 1) := by decide +kernel
theorem dX0_corner_64 : decode cX0_corner 64 = .ok (.getfield 16, 3) := by decide +kernel
theorem dX0_corner_67 : decode cX0_corner 67 = .ok (.iload 5, 2) := by decide +kernel
theorem dX0_corner_69 : decode cX0_corner 69 = .ok (.iload 4, 2) := by decide +kernel
theorem dX0_corner_71 : decode cX0_corner 71 = .ok (.iastore, 1) := by decide +kernel
theorem dX0_corner_72 : decode cX0_corner 72 = .ok (.iconst 1, 1) := by decide +kernel
theorem dX0_corner_73 : decode cX0_corner 73 = .ok (.ireturn, 1) := by decide +kernel
set_option maxRecDepth 20000 in
theorem ggX0_add_X0_areaOf : GoodIn wsX0_add wsX0_areaOf := goodIn_r _ [9, 2, 3, 10, 11, 12, 8, 13, 14, 15, 16, 17, 18, 19, 20, 21, 22, 23] (by decide +kernel) (by decide +kernel)
set_option maxRecDepth 20000 in
theorem gX0_add_X0_areaOf : GoodIn wsX0_add (wsV RX0 28 RX0 yX0_areaOf wsX0_areaOf) := goodIn_app (goodIn_of _ (by decide +kernel)) ggX0_add_X0_areaOf
theorem dX0_add_0 : decode cX0_add 0 = .ok (.aload_n 0, 1) := by decide +kernel
theorem dX0_add_1 : decode cX0_add 1 = .ok (.getfield 19, 3) := by decide +kernel
theorem dX0_add_4 : decode cX0_add 4 = .ok (.sipush 512, 3) := by decide +kernel
theorem dX0_add_7 : decode cX0_add 7 = .ok (.if_icmp .ge 15, 3) := by decide +kernel
theorem dX0_add_10 : decode cX0_add 10 = .ok (.aload_n 0, 1) := by decide +kernel
theorem dX0_add_11 : decode cX0_add 11 = .ok (.sipush 512, 3) := by decide +kernel
theorem dX0_add_14 : decode cX0_add 14 = .ok (.invokevirtual 28, 3) := by decide +kernel
theorem dX0_add_17 : decode cX0_add 17 = .ok (.lconst 0, 1) := by decide +kernel
theorem dX0_add_18 : decode cX0_add 18 = .ok (.lcmp, 1) := by decide +kernel
theorem dX0_add_19 : decode cX0_add 19 = .ok (.ifCond .gt 5, 3) := by decide +kernel
theorem dX0_add_22 : decode cX0_add 22 = .ok (.iconst (-1), 1) := by decide +kernel
theorem dX0_add_23 : decode cX0_add 23 = .ok (.ireturn, 1) := by decide +kernel
theorem dX0_add_24 : decode cX0_add 24 = .ok (.aload_n 0, 1) := by decide +kernel
theorem dX0_add_25 : decode cX0_add 25 = .ok (.getfield 19, 3) := by decide +kernel
theorem dX0_add_28 : decode cX0_add 28 = .ok (.istore_n 1, 1) := by decide +kernel
theorem dX0_add_29 : decode cX0_add 29 = .ok (.iconst 0, 1) := by decide +kernel
theorem dX0_add_30 : decode cX0_add 30 = .ok (.istore_n 2, 1) := by decide +kernel
theorem dX0_add_31 : decode cX0_add 31 = .ok (.iload_n 2, 1) := by decide +kernel
theorem dX0_add_32 : decode cX0_add 32 = .ok (.iconst 3, 1) := by decide +kernel
theorem dX0_add_33 : decode cX0_add 33 = .ok (.if_icmp .ge 61, 3) := by decide +kernel
theorem dX0_add_36 : decode cX0_add 36 = .ok (.sipush 1536, 3) := by decide +kernel
theorem dX0_add_39 : decode cX0_add 39 = .ok (.iload_n 2, 1) := by decide +kernel
theorem dX0_add_40 : decode cX0_add 40 = .ok (.iadd, 1) := by decide +kernel
theorem dX0_add_41 : decode cX0_add 41 = .ok (.istore_n 3, 1) := by decide +kernel
theorem dX0_add_42 : decode cX0_add 42 = .ok (.iload_n 1, 1) := by decide +kernel
theorem dX0_add_43 : decode cX0_add 43 = .ok (.iconst 3, 1) := by decide +kernel
theorem dX0_add_44 : decode cX0_add 44 = .ok (.imul, 1) := by decide +kernel
theorem dX0_add_45 : decode cX0_add 45 = .ok (.iload_n 2, 1) := by decide +kernel
theorem dX0_add_46 : decode cX0_add 46 = .ok (.iadd, 1) := by decide +kernel
theorem dX0_add_47 : decode cX0_add 47 = .ok (.istore 4, 2) := by decide +kernel
theorem dX0_add_49 : decode cX0_add 49 = .ok (.aload_n 0, 1) := by decide +kernel
theorem dX0_add_50 : decode cX0_add 50 = .ok (.getfield 9, 3) := by decide +kernel
theorem dX0_add_53 : decode cX0_add 53 = .ok (.iload 4, 2) := by decide +kernel
theorem dX0_add_55 : decode cX0_add 55 = .ok (.aload_n 0, 1) := by decide +kernel
theorem dX0_add_56 : decode cX0_add 56 = .ok (.getfield 9, 3) := by decide +kernel
theorem dX0_add_59 : decode cX0_add 59 = .ok (.iload_n 3, 1) := by decide +kernel
theorem dX0_add_60 : decode cX0_add 60 = .ok (.iaload, 1) := by decide +kernel
theorem dX0_add_61 : decode cX0_add 61 = .ok (.iastore, 1) := by decide +kernel
theorem dX0_add_62 : decode cX0_add 62 = .ok (.aload_n 0, 1) := by decide +kernel
theorem dX0_add_63 : decode cX0_add 63 = .ok (.getfield 13, 3) := by decide +kernel
theorem dX0_add_66 : decode cX0_add 66 = .ok (.iload 4, 2) := by decide +kernel
theorem dX0_add_68 : decode cX0_add 68 = .ok (.aload_n 0, 1) := by decide +kernel
theorem dX0_add_69 : decode cX0_add 69 = .ok (.getfield 13, 3) := by decide +kernel
theorem dX0_add_72 : decode cX0_add 72 = .ok (.iload_n 3, 1) := by decide +kernel
theorem dX0_add_73 : decode cX0_add 73 = .ok (.iaload, 1) := by decide +kernel
theorem dX0_add_74 : decode cX0_add 74 = .ok (.iastore, 1) := by decide +kernel
theorem dX0_add_75 : decode cX0_add 75 = .ok (.aload_n 0, 1) := by decide +kernel
theorem dX0_add_76 : decode cX0_add 76 = .ok (.getfield 16, 3) := by decide +kernel
theorem dX0_add_79 : decode cX0_add 79 = .ok (.iload 4, 2) := by decide +kernel
theorem dX0_add_81 : decode cX0_add 81 = .ok (.aload_n 0, 1) := by decide +kernel
theorem dX0_add_82 : decode cX0_add 82 = .ok (.getfield 16, 3) := by decide +kernel
theorem dX0_add_85 : decode cX0_add 85 = .ok (.iload_n 3, 1) := by decide +kernel
theorem dX0_add_86 : decode cX0_add 86 = .ok (.iaload, 1) := by decide +kernel
theorem dX0_add_87 : decode cX0_add 87 = .ok (.iastore, 1) := by decide +kernel
theorem dX0_add_88 : decode cX0_add 88 = .ok (.iinc 2 1, 3) := by decide +kernel
theorem dX0_add_91 : decode cX0_add 91 = .ok (.goto (-60), 3) := by decide +kernel
theorem dX0_add_94 : decode cX0_add 94 = .ok (.aload_n 0, 1) := by decide +kernel
theorem dX0_add_95 : decode cX0_add 95 = .ok (.iload_n 1, 1) := by decide +kernel
theorem dX0_add_96 : decode cX0_add 96 = .ok (.iconst 1, 1) := by decide +kernel
theorem dX0_add_97 : decode cX0_add 97 = .ok (.iadd, 1) := by decide +kernel
theorem dX0_add_98 : decode cX0_add 98 = .ok (.putfield 19, 3) := by decide +kernel
theorem dX0_add_101 : decode cX0_add 101 = .ok (.iload_n 1, 1) := by decide +kernel
theorem dX0_add_102 : decode cX0_add 102 = .ok (.ireturn, 1) := by decide +kernel
theorem dX0_clear_0 : decode cX0_clear 0 = .ok (.aload_n 0, 1) := by decide +kernel
theorem dX0_clear_1 : decode cX0_clear 1 = .ok (.iconst 0, 1) := by decide +kernel
theorem dX0_clear_2 : decode cX0_clear 2 = .ok (.putfield 19, 3) := by decide +kernel
theorem dX0_clear_5 : decode cX0_clear 5 = .ok (.return_, 1) := by decide +kernel
theorem dX0_count_0 : decode cX0_count 0 = .ok (.aload_n 0, 1) := by decide +kernel
theorem dX0_count_1 : decode cX0_count 1 = .ok (.getfield 19, 3) := by decide +kernel
theorem dX0_count_4 : decode cX0_count 4 = .ok (.ireturn, 1) := by decide +kernel
set_option maxRecDepth 20000 in
theorem ggX0_area_X0_isPiece : GoodIn wsX0_area wsX0_isPiece := goodIn_r _ [5, 6, 23, 24, 25, 26] (by decide +kernel) (by decide +kernel)
set_option maxRecDepth 20000 in
theorem gX0_area_X0_isPiece : GoodIn wsX0_area (wsV RX0 32 RX0 yX0_isPiece wsX0_isPiece) := goodIn_app (goodIn_of _ (by decide +kernel)) ggX0_area_X0_isPiece
set_option maxRecDepth 20000 in
theorem ggX0_area_X0_areaOf : GoodIn wsX0_area wsX0_areaOf := goodIn_r _ [10, 11, 12, 13, 14, 15, 4, 16, 17, 18, 19, 20, 21, 22, 23, 24, 25, 26] (by decide +kernel) (by decide +kernel)
set_option maxRecDepth 20000 in
theorem gX0_area_X0_areaOf : GoodIn wsX0_area (wsV RX0 28 RX0 yX0_areaOf wsX0_areaOf) := goodIn_app (goodIn_of _ (by decide +kernel)) ggX0_area_X0_areaOf
theorem dX0_area_0 : decode cX0_area 0 = .ok (.aload_n 0, 1) := by decide +kernel
theorem dX0_area_1 : decode cX0_area 1 = .ok (.iload_n 1, 1) := by decide +kernel
theorem dX0_area_2 : decode cX0_area 2 = .ok (.invokevirtual 32, 3) := by decide +kernel
theorem dX0_area_5 : decode cX0_area 5 = .ok (.ifCond .ne 5, 3) := by decide +kernel
theorem dX0_area_8 : decode cX0_area 8 = .ok (.iconst (-1), 1) := by decide +kernel
theorem dX0_area_9 : decode cX0_area 9 = .ok (.ireturn, 1) := by decide +kernel
theorem dX0_area_10 : decode cX0_area 10 = .ok (.aload_n 0, 1) := by decide +kernel
theorem dX0_area_11 : decode cX0_area 11 = .ok (.iload_n 1, 1) := by decide +kernel
theorem dX0_area_12 : decode cX0_area 12 = .ok (.invokevirtual 28, 3) := by decide +kernel
theorem dX0_area_15 : decode cX0_area 15 = .ok (.l2i, 1) := by decide +kernel
theorem dX0_area_16 : decode cX0_area 16 = .ok (.ireturn, 1) := by decide +kernel
set_option maxRecDepth 20000 in
theorem ggX0_near_X0_isPiece : GoodIn wsX0_near wsX0_isPiece := goodIn_r _ [5, 6, 45, 46, 47, 48] (by decide +kernel) (by decide +kernel)
set_option maxRecDepth 20000 in
theorem gX0_near_X0_isPiece : GoodIn wsX0_near (wsV RX0 32 RX0 yX0_isPiece wsX0_isPiece) := goodIn_app (goodIn_of _ (by decide +kernel)) ggX0_near_X0_isPiece
set_option maxRecDepth 20000 in
theorem ggX0_near_X0_middle : GoodIn wsX0_near wsX0_middle := goodIn_r _ [9, 10, 11] (by decide +kernel) (by decide +kernel)
set_option maxRecDepth 20000 in
theorem gX0_near_X0_middle : GoodIn wsX0_near (va_wsS RX0 35 yX0_middle wsX0_middle) := goodIn_app (goodIn_of _ (by decide +kernel)) ggX0_near_X0_middle
set_option maxRecDepth 20000 in
theorem ggX0_near_X0_covers : GoodIn wsX0_near wsX0_covers := goodIn_r _ [15, 16, 17, 18, 4, 19, 20, 21, 22, 23, 24, 25, 26, 27, 28, 29, 30, 31, 45, 46, 47, 48] (by decide +kernel) (by decide +kernel)
set_option maxRecDepth 20000 in
theorem gX0_near_X0_covers : GoodIn wsX0_near (wsV RX0 38 RX0 yX0_covers wsX0_covers) := goodIn_app (goodIn_of _ (by decide +kernel)) ggX0_near_X0_covers
set_option maxRecDepth 20000 in
theorem ggX0_near_X0_nearnessOf : GoodIn wsX0_near wsX0_nearnessOf := goodIn_r _ [35, 36, 16, 17, 18, 4, 19, 20, 21, 22, 23, 24, 25, 26, 27, 37, 38, 39, 40, 41, 42, 43, 44, 45, 46, 47, 48] (by decide +kernel) (by decide +kernel)
set_option maxRecDepth 20000 in
theorem gX0_near_X0_nearnessOf : GoodIn wsX0_near (wsV RX0 42 RX0 yX0_nearnessOf wsX0_nearnessOf) := goodIn_app (goodIn_of _ (by decide +kernel)) ggX0_near_X0_nearnessOf
theorem dX0_near_0 : decode cX0_near 0 = .ok (.aload_n 0, 1) := by decide +kernel
theorem dX0_near_1 : decode cX0_near 1 = .ok (.iload_n 1, 1) := by decide +kernel
theorem dX0_near_2 : decode cX0_near 2 = .ok (.invokevirtual 32, 3) := by decide +kernel
theorem dX0_near_5 : decode cX0_near 5 = .ok (.ifCond .eq 19, 3) := by decide +kernel
theorem dX0_near_8 : decode cX0_near 8 = .ok (.aload_n 0, 1) := by decide +kernel
theorem dX0_near_9 : decode cX0_near 9 = .ok (.iload_n 1, 1) := by decide +kernel
theorem dX0_near_10 : decode cX0_near 10 = .ok (.iload_n 2, 1) := by decide +kernel
theorem dX0_near_11 : decode cX0_near 11 = .ok (.invokestatic 35, 3) := by decide +kernel
theorem dX0_near_14 : decode cX0_near 14 = .ok (.iload_n 3, 1) := by decide +kernel
theorem dX0_near_15 : decode cX0_near 15 = .ok (.invokestatic 35, 3) := by decide +kernel
theorem dX0_near_18 : decode cX0_near 18 = .ok (.invokevirtual 38, 3) := by decide +kernel
theorem dX0_near_21 : decode cX0_near 21 = .ok (.ifCond .ne 5, 3) := by decide +kernel
theorem dX0_near_24 : decode cX0_near 24 = .ok (.iconst (-1), 1) := by decide +kernel
theorem dX0_near_25 : decode cX0_near 25 = .ok (.ireturn, 1) := by decide +kernel
theorem dX0_near_26 : decode cX0_near 26 = .ok (.aload_n 0, 1) := by decide +kernel
theorem dX0_near_27 : decode cX0_near 27 = .ok (.iload_n 1, 1) := by decide +kernel
theorem dX0_near_28 : decode cX0_near 28 = .ok (.iload_n 2, 1) := by decide +kernel
theorem dX0_near_29 : decode cX0_near 29 = .ok (.invokestatic 35, 3) := by decide +kernel
theorem dX0_near_32 : decode cX0_near 32 = .ok (.iload_n 3, 1) := by decide +kernel
theorem dX0_near_33 : decode cX0_near 33 = .ok (.invokestatic 35, 3) := by decide +kernel
theorem dX0_near_36 : decode cX0_near 36 = .ok (.invokevirtual 42, 3) := by decide +kernel
theorem dX0_near_39 : decode cX0_near 39 = .ok (.ireturn, 1) := by decide +kernel
set_option maxRecDepth 20000 in
theorem ggX0_nearest_X0_near : GoodIn wsX0_nearest wsX0_near := goodIn_r _ [6, 7, 8, 9, 5, 10, 1, 11, 12, 13, 14, 15, 16, 17, 18, 19, 20, 21, 22, 23, 24, 25, 26, 27, 28, 29, 30, 31, 32, 33, 34, 35, 36, 37, 38, 39, 40, 41, 42, 43, 44, 45, 46, 47, 48, 49, 50, 51, 52] (by decide +kernel) (by decide +kernel)
set_option maxRecDepth 20000 in
theorem gX0_nearest_X0_near : GoodIn wsX0_nearest (wsV RX0 46 RX0 yX0_near wsX0_near) := goodIn_app (goodIn_of _ (by decide +kernel)) ggX0_nearest_X0_near
theorem dX0_nearest_0 : decode cX0_nearest 0 = .ok (.iconst (-1), 1) := by decide +kernel
theorem dX0_nearest_1 : decode cX0_nearest 1 = .ok (.istore_n 3, 1) := by decide +kernel
theorem dX0_nearest_2 : decode cX0_nearest 2 = .ok (.iconst (-1), 1) := by decide +kernel
theorem dX0_nearest_3 : decode cX0_nearest 3 = .ok (.istore 4, 2) := by decide +kernel
theorem dX0_nearest_5 : decode cX0_nearest 5 = .ok (.iconst 0, 1) := by decide +kernel
theorem dX0_nearest_6 : decode cX0_nearest 6 = .ok (.istore 5, 2) := by decide +kernel
theorem dX0_nearest_8 : decode cX0_nearest 8 = .ok (.iload 5, 2) := by decide +kernel
theorem dX0_nearest_10 : decode cX0_nearest 10 = .ok (.aload_n 0, 1) := by decide +kernel
theorem dX0_nearest_11 : decode cX0_nearest 11 = .ok (.getfield 19, 3) := by decide +kernel
theorem dX0_nearest_14 : decode cX0_nearest 14 = .ok (.if_icmp .ge 33, 3) := by decide +kernel
theorem dX0_nearest_17 : decode cX0_nearest 17 = .ok (.aload_n 0, 1) := by decide +kernel
theorem dX0_nearest_18 : decode cX0_nearest 18 = .ok (.iload 5, 2) := by decide +kernel
theorem dX0_nearest_20 : decode cX0_nearest 20 = .ok (.iload_n 1, 1) := by decide +kernel
theorem dX0_nearest_21 : decode cX0_nearest 21 = .ok (.iload_n 2, 1) := by decide +kernel
theorem dX0_nearest_22 : decode cX0_nearest 22 = .ok (.invokevirtual 46, 3) := by decide +kernel
theorem dX0_nearest_25 : decode cX0_nearest 25 = .ok (.istore 6, 2) := by decide +kernel
theorem dX0_nearest_27 : decode cX0_nearest 27 = .ok (.iload 6, 2) := by decide +kernel
theorem dX0_nearest_29 : decode cX0_nearest 29 = .ok (.iload 4, 2) := by decide +kernel
theorem dX0_nearest_31 : decode cX0_nearest 31 = .ok (.if_icmp .le 10, 3) := by decide +kernel
theorem dX0_nearest_34 : decode cX0_nearest 34 = .ok (.iload 5, 2) := by decide +kernel
theorem dX0_nearest_36 : decode cX0_nearest 36 = .ok (.istore_n 3, 1) := by decide +kernel
theorem dX0_nearest_37 : decode cX0_nearest 37 = .ok (.iload 6, 2) := by decide +kernel
theorem dX0_nearest_39 : decode cX0_nearest 39 = .ok (.istore 4, 2) := by decide +kernel
theorem dX0_nearest_41 : decode cX0_nearest 41 = .ok (.iinc 5 1, 3) := by decide +kernel
theorem dX0_nearest_44 : decode cX0_nearest 44 = .ok (.goto (-36), 3) := by decide +kernel
theorem dX0_nearest_47 : decode cX0_nearest 47 = .ok (.iload_n 3, 1) := by decide +kernel
theorem dX0_nearest_48 : decode cX0_nearest 48 = .ok (.ireturn, 1) := by decide +kernel
set_option maxRecDepth 20000 in
theorem ggX0_covering_X0_middle : GoodIn wsX0_covering wsX0_middle := goodIn_r _ [5, 6, 7] (by decide +kernel) (by decide +kernel)
set_option maxRecDepth 20000 in
theorem gX0_covering_X0_middle : GoodIn wsX0_covering (va_wsS RX0 35 yX0_middle wsX0_middle) := goodIn_app (goodIn_of _ (by decide +kernel)) ggX0_covering_X0_middle
set_option maxRecDepth 20000 in
theorem ggX0_covering_X0_covers : GoodIn wsX0_covering wsX0_covers := goodIn_r _ [11, 12, 13, 14, 4, 15, 16, 17, 18, 19, 20, 21, 22, 23, 24, 25, 26, 27, 28, 29, 30, 31] (by decide +kernel) (by decide +kernel)
set_option maxRecDepth 20000 in
theorem gX0_covering_X0_covers : GoodIn wsX0_covering (wsV RX0 38 RX0 yX0_covers wsX0_covers) := goodIn_app (goodIn_of _ (by decide +kernel)) ggX0_covering_X0_covers
theorem dX0_covering_0 : decode cX0_covering 0 = .ok (.iconst 0, 1) := by decide +kernel
theorem dX0_covering_1 : decode cX0_covering 1 = .ok (.istore_n 3, 1) := by decide +kernel
theorem dX0_covering_2 : decode cX0_covering 2 = .ok (.iconst 0, 1) := by decide +kernel
theorem dX0_covering_3 : decode cX0_covering 3 = .ok (.istore 4, 2) := by decide +kernel
theorem dX0_covering_5 : decode cX0_covering 5 = .ok (.iload 4, 2) := by decide +kernel
theorem dX0_covering_7 : decode cX0_covering 7 = .ok (.aload_n 0, 1) := by decide +kernel
theorem dX0_covering_8 : decode cX0_covering 8 = .ok (.getfield 19, 3) := by decide +kernel
theorem dX0_covering_11 : decode cX0_covering 11 = .ok (.if_icmp .ge 29, 3) := by decide +kernel
theorem dX0_covering_14 : decode cX0_covering 14 = .ok (.aload_n 0, 1) := by decide +kernel
theorem dX0_covering_15 : decode cX0_covering 15 = .ok (.iload 4, 2) := by decide +kernel
theorem dX0_covering_17 : decode cX0_covering 17 = .ok (.iload_n 1, 1) := by decide +kernel
theorem dX0_covering_18 : decode cX0_covering 18 = .ok (.invokestatic 35, 3) := by decide +kernel
theorem dX0_covering_21 : decode cX0_covering 21 = .ok (.iload_n 2, 1) := by decide +kernel
theorem dX0_covering_22 : decode cX0_covering 22 = .ok (.invokestatic 35, 3) := by decide +kernel
theorem dX0_covering_25 : decode cX0_covering 25 = .ok (.invokevirtual 38, 3) := by decide +kernel
theorem dX0_covering_28 : decode cX0_covering 28 = .ok (.ifCond .eq 6, 3) := by decide +kernel
theorem dX0_covering_31 : decode cX0_covering 31 = .ok (.iinc 3 1, 3) := by decide +kernel
theorem dX0_covering_34 : decode cX0_covering 34 = .ok (.iinc 4 1, 3) := by decide +kernel
theorem dX0_covering_37 : decode cX0_covering 37 = .ok (.goto (-32), 3) := by decide +kernel
theorem dX0_covering_40 : decode cX0_covering 40 = .ok (.iload_n 3, 1) := by decide +kernel
theorem dX0_covering_41 : decode cX0_covering 41 = .ok (.ireturn, 1) := by decide +kernel
set_option maxRecDepth 20000 in
theorem ggX0_next_X0_middle : GoodIn wsX0_next wsX0_middle := goodIn_r _ [9, 10, 11] (by decide +kernel) (by decide +kernel)
set_option maxRecDepth 20000 in
theorem gX0_next_X0_middle : GoodIn wsX0_next (va_wsS RX0 35 yX0_middle wsX0_middle) := goodIn_app (goodIn_of _ (by decide +kernel)) ggX0_next_X0_middle
set_option maxRecDepth 20000 in
theorem ggX0_next_X0_covers : GoodIn wsX0_next wsX0_covers := goodIn_r _ [15, 16, 17, 18, 8, 19, 20, 21, 22, 23, 24, 25, 26, 27, 28, 29, 30, 31, 32, 33, 34, 35] (by decide +kernel) (by decide +kernel)
set_option maxRecDepth 20000 in
theorem gX0_next_X0_covers : GoodIn wsX0_next (wsV RX0 38 RX0 yX0_covers wsX0_covers) := goodIn_app (goodIn_of _ (by decide +kernel)) ggX0_next_X0_covers
theorem dX0_next_0 : decode cX0_next 0 = .ok (.iload_n 3, 1) := by decide +kernel
theorem dX0_next_1 : decode cX0_next 1 = .ok (.iconst 0, 1) := by decide +kernel
theorem dX0_next_2 : decode cX0_next 2 = .ok (.invokestatic 50, 3) := by decide +kernel
theorem dX0_next_5 : decode cX0_next 5 = .ok (.istore 4, 2) := by decide +kernel
theorem dX0_next_7 : decode cX0_next 7 = .ok (.iload 4, 2) := by decide +kernel
theorem dX0_next_9 : decode cX0_next 9 = .ok (.aload_n 0, 1) := by decide +kernel
theorem dX0_next_10 : decode cX0_next 10 = .ok (.getfield 19, 3) := by decide +kernel
theorem dX0_next_13 : decode cX0_next 13 = .ok (.if_icmp .ge 29, 3) := by decide +kernel
theorem dX0_next_16 : decode cX0_next 16 = .ok (.aload_n 0, 1) := by decide +kernel
theorem dX0_next_17 : decode cX0_next 17 = .ok (.iload 4, 2) := by decide +kernel
theorem dX0_next_19 : decode cX0_next 19 = .ok (.iload_n 1, 1) := by decide +kernel
theorem dX0_next_20 : decode cX0_next 20 = .ok (.invokestatic 35, 3) := by decide +kernel
theorem dX0_next_23 : decode cX0_next 23 = .ok (.iload_n 2, 1) := by decide +kernel
theorem dX0_next_24 : decode cX0_next 24 = .ok (.invokestatic 35, 3) := by decide +kernel
theorem dX0_next_27 : decode cX0_next 27 = .ok (.invokevirtual 38, 3) := by decide +kernel
theorem dX0_next_30 : decode cX0_next 30 = .ok (.ifCond .eq 6, 3) := by decide +kernel
theorem dX0_next_33 : decode cX0_next 33 = .ok (.iload 4, 2) := by decide +kernel
theorem dX0_next_35 : decode cX0_next 35 = .ok (.ireturn, 1) := by decide +kernel
theorem dX0_next_36 : decode cX0_next 36 = .ok (.iinc 4 1, 3) := by decide +kernel
theorem dX0_next_39 : decode cX0_next 39 = .ok (.goto (-32), 3) := by decide +kernel
theorem dX0_next_42 : decode cX0_next 42 = .ok (.iconst (-1), 1) := by decide +kernel
theorem dX0_next_43 : decode cX0_next 43 = .ok (.ireturn, 1) := by decide +kernel
theorem dX0_isOnGrid_0 : decode cX0_isOnGrid 0 = .ok (.iload_n 0, 1) := by decide +kernel
theorem dX0_isOnGrid_1 : decode cX0_isOnGrid 1 = .ok (.sipush (-4096), 3) := by decide +kernel
theorem dX0_isOnGrid_4 : decode cX0_isOnGrid 4 = .ok (.if_icmp .lt 14, 3) := by decide +kernel
theorem dX0_isOnGrid_7 : decode cX0_isOnGrid 7 = .ok (.iload_n 0, 1) := by decide +kernel
theorem dX0_isOnGrid_8 : decode cX0_isOnGrid 8 = .ok (.sipush 4096, 3) := by decide +kernel
theorem dX0_isOnGrid_11 : decode cX0_isOnGrid 11 = .ok (.if_icmp .gt 7, 3) := by decide +kernel
theorem dX0_isOnGrid_14 : decode cX0_isOnGrid 14 = .ok (.iconst 1, 1) := by decide +kernel
theorem dX0_isOnGrid_15 : decode cX0_isOnGrid 15 = .ok (.goto 4, 3) := by decide +kernel
theorem dX0_isOnGrid_18 : decode cX0_isOnGrid 18 = .ok (.iconst 0, 1) := by decide +kernel
theorem dX0_isOnGrid_19 : decode cX0_isOnGrid 19 = .ok (.ireturn, 1) := by decide +kernel
theorem dX0_middle_0 : decode cX0_middle 0 = .ok (.ldc2_w 56, 3) := by decide +kernel
theorem dX0_middle_3 : decode cX0_middle 3 = .ok (.iload_n 0, 1) := by decide +kernel
theorem dX0_middle_4 : decode cX0_middle 4 = .ok (.i2l, 1) := by decide +kernel
theorem dX0_middle_5 : decode cX0_middle 5 = .ok (.lmul, 1) := by decide +kernel
theorem dX0_middle_6 : decode cX0_middle 6 = .ok (.ldc2_w 58, 3) := by decide +kernel
theorem dX0_middle_9 : decode cX0_middle 9 = .ok (.ladd, 1) := by decide +kernel
theorem dX0_middle_10 : decode cX0_middle 10 = .ok (.lreturn, 1) := by decide +kernel
theorem dX0_isPiece_0 : decode cX0_isPiece 0 = .ok (.iload_n 1, 1) := by decide +kernel
theorem dX0_isPiece_1 : decode cX0_isPiece 1 = .ok (.ifCond .lt 15, 3) := by decide +kernel
theorem dX0_isPiece_4 : decode cX0_isPiece 4 = .ok (.iload_n 1, 1) := by decide +kernel
theorem dX0_isPiece_5 : decode cX0_isPiece 5 = .ok (.aload_n 0, 1) := by decide +kernel
theorem dX0_isPiece_6 : decode cX0_isPiece 6 = .ok (.getfield 19, 3) := by decide +kernel
theorem dX0_isPiece_9 : decode cX0_isPiece 9 = .ok (.if_icmp .ge 7, 3) := by decide +kernel
theorem dX0_isPiece_12 : decode cX0_isPiece 12 = .ok (.iconst 1, 1) := by decide +kernel
theorem dX0_isPiece_13 : decode cX0_isPiece 13 = .ok (.goto 4, 3) := by decide +kernel
theorem dX0_isPiece_16 : decode cX0_isPiece 16 = .ok (.iconst 0, 1) := by decide +kernel
theorem dX0_isPiece_17 : decode cX0_isPiece 17 = .ok (.ireturn, 1) := by decide +kernel
set_option maxRecDepth 20000 in
theorem ggX0_areaOf_X0_edge : GoodIn wsX0_areaOf wsX0_edge := goodIn_r _ [7, 1, 2, 8, 9, 6, 10, 11, 12, 13, 14, 15, 16, 17] (by decide +kernel) (by decide +kernel)
set_option maxRecDepth 20000 in
theorem gX0_areaOf_X0_edge : GoodIn wsX0_areaOf (wsV RX0 60 RX0 yX0_edge wsX0_edge) := goodIn_app (goodIn_of _ (by decide +kernel)) ggX0_areaOf_X0_edge
theorem dX0_areaOf_0 : decode cX0_areaOf 0 = .ok (.iload_n 1, 1) := by decide +kernel
theorem dX0_areaOf_1 : decode cX0_areaOf 1 = .ok (.iconst 3, 1) := by decide +kernel
theorem dX0_areaOf_2 : decode cX0_areaOf 2 = .ok (.imul, 1) := by decide +kernel
theorem dX0_areaOf_3 : decode cX0_areaOf 3 = .ok (.iconst 2, 1) := by decide +kernel
theorem dX0_areaOf_4 : decode cX0_areaOf 4 = .ok (.iadd, 1) := by decide +kernel
theorem dX0_areaOf_5 : decode cX0_areaOf 5 = .ok (.istore_n 2, 1) := by decide +kernel
theorem dX0_areaOf_6 : decode cX0_areaOf 6 = .ok (.aload_n 0, 1) := by decide +kernel
theorem dX0_areaOf_7 : decode cX0_areaOf 7 = .ok (.iload_n 1, 1) := by decide +kernel
theorem dX0_areaOf_8 : decode cX0_areaOf 8 = .ok (.iconst 2, 1) := by decide +kernel
theorem dX0_areaOf_9 : decode cX0_areaOf 9 = .ok (.aload_n 0, 1) := by decide +kernel
theorem dX0_areaOf_10 : decode cX0_areaOf 10 = .ok (.getfield 9, 3) := by decide +kernel
theorem dX0_areaOf_13 : decode cX0_areaOf 13 = .ok (.iload_n 2, 1) := by decide +kernel
theorem dX0_areaOf_14 : decode cX0_areaOf 14 = .ok (.iaload, 1) := by decide +kernel
theorem dX0_areaOf_15 : decode cX0_areaOf 15 = .ok (.i2l, 1) := by decide +kernel
theorem dX0_areaOf_16 : decode cX0_areaOf 16 = .ok (.aload_n 0, 1) := by decide +kernel
theorem dX0_areaOf_17 : decode cX0_areaOf 17 = .ok (.getfield 13, 3) := by decide +kernel
theorem dX0_areaOf_20 : decode cX0_areaOf 20 = .ok (.iload_n 2, 1) := by decide +kernel
theorem dX0_areaOf_21 : decode cX0_areaOf 21 = .ok (.iaload, 1) := by decide +kernel
theorem dX0_areaOf_22 : decode cX0_areaOf 22 = .ok (.i2l, 1) := by decide +kernel
theorem dX0_areaOf_23 : decode cX0_areaOf 23 = .ok (.invokevirtual 60, 3) := by decide +kernel
theorem dX0_areaOf_26 : decode cX0_areaOf 26 = .ok (.lreturn, 1) := by decide +kernel
set_option maxRecDepth 20000 in
theorem ggX0_edge_X0_edgeStart : GoodIn wsX0_edge wsX0_edgeStart := goodIn_r _ [6] (by decide +kernel) (by decide +kernel)
set_option maxRecDepth 20000 in
theorem gX0_edge_X0_edgeStart : GoodIn wsX0_edge (va_wsS RX0 64 yX0_edgeStart wsX0_edgeStart) := goodIn_app (goodIn_of _ (by decide +kernel)) ggX0_edge_X0_edgeStart
set_option maxRecDepth 20000 in
theorem ggX0_edge_X0_edgeEnd : GoodIn wsX0_edge wsX0_edgeEnd := goodIn_r _ [9] (by decide +kernel) (by decide +kernel)
set_option maxRecDepth 20000 in
theorem gX0_edge_X0_edgeEnd : GoodIn wsX0_edge (va_wsS RX0 67 yX0_edgeEnd wsX0_edgeEnd) := goodIn_app (goodIn_of _ (by decide +kernel)) ggX0_edge_X0_edgeEnd
theorem dX0_edge_0 : decode cX0_edge 0 = .ok (.iload_n 1, 1) := by decide +kernel
theorem dX0_edge_1 : decode cX0_edge 1 = .ok (.iload_n 2, 1) := by decide +kernel
theorem dX0_edge_2 : decode cX0_edge 2 = .ok (.invokestatic 64, 3) := by decide +kernel
theorem dX0_edge_5 : decode cX0_edge 5 = .ok (.istore 7, 2) := by decide +kernel
theorem dX0_edge_7 : decode cX0_edge 7 = .ok (.iload_n 1, 1) := by decide +kernel
theorem dX0_edge_8 : decode cX0_edge 8 = .ok (.iload_n 2, 1) := by decide +kernel
theorem dX0_edge_9 : decode cX0_edge 9 = .ok (.invokestatic 67, 3) := by decide +kernel
theorem dX0_edge_12 : decode cX0_edge 12 = .ok (.istore 8, 2) := by decide +kernel
theorem dX0_edge_14 : decode cX0_edge 14 = .ok (.aload_n 0, 1) := by decide +kernel
theorem dX0_edge_15 : decode cX0_edge 15 = .ok (.getfield 9, 3) := by decide +kernel
theorem dX0_edge_18 : decode cX0_edge 18 = .ok (.iload 8, 2) := by decide +kernel
theorem dX0_edge_20 : decode cX0_edge 20 = .ok (.iaload, 1) := by decide +kernel
theorem dX0_edge_21 : decode cX0_edge 21 = .ok (.aload_n 0, 1) := by decide +kernel
theorem dX0_edge_22 : decode cX0_edge 22 = .ok (.getfield 9, 3) := by decide +kernel
theorem dX0_edge_25 : decode cX0_edge 25 = .ok (.iload 7, 2) := by decide +kernel
theorem dX0_edge_27 : decode cX0_edge 27 = .ok (.iaload, 1) := by decide +kernel
theorem dX0_edge_28 : decode cX0_edge 28 = .ok (.isub, 1) := by decide +kernel
theorem dX0_edge_29 : decode cX0_edge 29 = .ok (.i2l, 1) := by decide +kernel
theorem dX0_edge_30 : decode cX0_edge 30 = .ok (.lstore 9, 2) := by decide +kernel
theorem dX0_edge_32 : decode cX0_edge 32 = .ok (.aload_n 0, 1) := by decide +kernel
theorem dX0_edge_33 : decode cX0_edge 33 = .ok (.getfield 13, 3) := by decide +kernel
theorem dX0_edge_36 : decode cX0_edge 36 = .ok (.iload 8, 2) := by decide +kernel
theorem dX0_edge_38 : decode cX0_edge 38 = .ok (.iaload, 1) := by decide +kernel
theorem dX0_edge_39 : decode cX0_edge 39 = .ok (.aload_n 0, 1) := by decide +kernel
theorem dX0_edge_40 : decode cX0_edge 40 = .ok (.getfield 13, 3) := by decide +kernel
theorem dX0_edge_43 : decode cX0_edge 43 = .ok (.iload 7, 2) := by decide +kernel
theorem dX0_edge_45 : decode cX0_edge 45 = .ok (.iaload, 1) := by decide +kernel
theorem dX0_edge_46 : decode cX0_edge 46 = .ok (.isub, 1) := by decide +kernel
theorem dX0_edge_47 : decode cX0_edge 47 = .ok (.i2l, 1) := by decide +kernel
theorem dX0_edge_48 : decode cX0_edge 48 = .ok (.lstore 11, 2) := by decide +kernel
theorem dX0_edge_50 : decode cX0_edge 50 = .ok (.lload 9, 2) := by decide +kernel
theorem dX0_edge_52 : decode cX0_edge 52 = .ok (.lload 5, 2) := by decide +kernel
theorem dX0_edge_54 : decode cX0_edge 54 = .ok (.aload_n 0, 1) := by decide +kernel
theorem dX0_edge_55 : decode cX0_edge 55 = .ok (.getfield 13, 3) := by decide +kernel
theorem dX0_edge_58 : decode cX0_edge 58 = .ok (.iload 7, 2) := by decide +kernel
theorem dX0_edge_60 : decode cX0_edge 60 = .ok (.iaload, 1) := by decide +kernel
theorem dX0_edge_61 : decode cX0_edge 61 = .ok (.i2l, 1) := by decide +kernel
theorem dX0_edge_62 : decode cX0_edge 62 = .ok (.lsub, 1) := by decide +kernel
theorem dX0_edge_63 : decode cX0_edge 63 = .ok (.lmul, 1) := by decide +kernel
theorem dX0_edge_64 : decode cX0_edge 64 = .ok (.lload 11, 2) := by decide +kernel
theorem dX0_edge_66 : decode cX0_edge 66 = .ok (.lload_n 3, 1) := by decide +kernel
theorem dX0_edge_67 : decode cX0_edge 67 = .ok (.aload_n 0, 1) := by decide +kernel
theorem dX0_edge_68 : decode cX0_edge 68 = .ok (.getfield 9, 3) := by decide +kernel
theorem dX0_edge_71 : decode cX0_edge 71 = .ok (.iload 7, 2) := by decide +kernel
theorem dX0_edge_73 : decode cX0_edge 73 = .ok (.iaload, 1) := by decide +kernel
theorem dX0_edge_74 : decode cX0_edge 74 = .ok (.i2l, 1) := by decide +kernel
theorem dX0_edge_75 : decode cX0_edge 75 = .ok (.lsub, 1) := by decide +kernel
theorem dX0_edge_76 : decode cX0_edge 76 = .ok (.lmul, 1) := by decide +kernel
theorem dX0_edge_77 : decode cX0_edge 77 = .ok (.lsub, 1) := by decide +kernel
theorem dX0_edge_78 : decode cX0_edge 78 = .ok (.lreturn, 1) := by decide +kernel
theorem dX0_edgeStart_0 : decode cX0_edgeStart 0 = .ok (.iload_n 0, 1) := by decide +kernel
theorem dX0_edgeStart_1 : decode cX0_edgeStart 1 = .ok (.iconst 3, 1) := by decide +kernel
theorem dX0_edgeStart_2 : decode cX0_edgeStart 2 = .ok (.imul, 1) := by decide +kernel
theorem dX0_edgeStart_3 : decode cX0_edgeStart 3 = .ok (.iload_n 1, 1) := by decide +kernel
theorem dX0_edgeStart_4 : decode cX0_edgeStart 4 = .ok (.iconst 1, 1) := by decide +kernel
theorem dX0_edgeStart_5 : decode cX0_edgeStart 5 = .ok (.iadd, 1) := by decide +kernel
theorem dX0_edgeStart_6 : decode cX0_edgeStart 6 = .ok (.iconst 3, 1) := by decide +kernel
theorem dX0_edgeStart_7 : decode cX0_edgeStart 7 = .ok (.irem, 1) := by decide +kernel
theorem dX0_edgeStart_8 : decode cX0_edgeStart 8 = .ok (.iadd, 1) := by decide +kernel
theorem dX0_edgeStart_9 : decode cX0_edgeStart 9 = .ok (.ireturn, 1) := by decide +kernel
theorem dX0_edgeEnd_0 : decode cX0_edgeEnd 0 = .ok (.iload_n 0, 1) := by decide +kernel
theorem dX0_edgeEnd_1 : decode cX0_edgeEnd 1 = .ok (.iconst 3, 1) := by decide +kernel
theorem dX0_edgeEnd_2 : decode cX0_edgeEnd 2 = .ok (.imul, 1) := by decide +kernel
theorem dX0_edgeEnd_3 : decode cX0_edgeEnd 3 = .ok (.iload_n 1, 1) := by decide +kernel
theorem dX0_edgeEnd_4 : decode cX0_edgeEnd 4 = .ok (.iconst 2, 1) := by decide +kernel
theorem dX0_edgeEnd_5 : decode cX0_edgeEnd 5 = .ok (.iadd, 1) := by decide +kernel
theorem dX0_edgeEnd_6 : decode cX0_edgeEnd 6 = .ok (.iconst 3, 1) := by decide +kernel
theorem dX0_edgeEnd_7 : decode cX0_edgeEnd 7 = .ok (.irem, 1) := by decide +kernel
theorem dX0_edgeEnd_8 : decode cX0_edgeEnd 8 = .ok (.iadd, 1) := by decide +kernel
theorem dX0_edgeEnd_9 : decode cX0_edgeEnd 9 = .ok (.ireturn, 1) := by decide +kernel
set_option maxRecDepth 20000 in
theorem ggX0_covers_X0_edge : GoodIn wsX0_covers wsX0_edge := goodIn_r _ [5, 6, 7, 8, 9, 4, 10, 11, 12, 13, 18, 19, 20, 21] (by decide +kernel) (by decide +kernel)
set_option maxRecDepth 20000 in
theorem gX0_covers_X0_edge : GoodIn wsX0_covers (wsV RX0 60 RX0 yX0_edge wsX0_edge) := goodIn_app (goodIn_of _ (by decide +kernel)) ggX0_covers_X0_edge
set_option maxRecDepth 20000 in
theorem ggX0_covers_X0_ownsEdge : GoodIn wsX0_covers wsX0_ownsEdge := goodIn_r _ [17, 7, 6, 8, 9, 4, 10, 11, 12, 13, 18, 19, 20, 21] (by decide +kernel) (by decide +kernel)
set_option maxRecDepth 20000 in
theorem gX0_covers_X0_ownsEdge : GoodIn wsX0_covers (wsV RX0 70 RX0 yX0_ownsEdge wsX0_ownsEdge) := goodIn_app (goodIn_of _ (by decide +kernel)) ggX0_covers_X0_ownsEdge
theorem dX0_covers_0 : decode cX0_covers 0 = .ok (.iconst 0, 1) := by decide +kernel
theorem dX0_covers_1 : decode cX0_covers 1 = .ok (.istore 6, 2) := by decide +kernel
theorem dX0_covers_3 : decode cX0_covers 3 = .ok (.iload 6, 2) := by decide +kernel
theorem dX0_covers_5 : decode cX0_covers 5 = .ok (.iconst 3, 1) := by decide +kernel
theorem dX0_covers_6 : decode cX0_covers 6 = .ok (.if_icmp .ge 47, 3) := by decide +kernel
theorem dX0_covers_9 : decode cX0_covers 9 = .ok (.aload_n 0, 1) := by decide +kernel
theorem dX0_covers_10 : decode cX0_covers 10 = .ok (.iload_n 1, 1) := by decide +kernel
theorem dX0_covers_11 : decode cX0_covers 11 = .ok (.iload 6, 2) := by decide +kernel
theorem dX0_covers_13 : decode cX0_covers 13 = .ok (.lload_n 2, 1) := by decide +kernel
theorem dX0_covers_14 : decode cX0_covers 14 = .ok (.lload 4, 2) := by decide +kernel
theorem dX0_covers_16 : decode cX0_covers 16 = .ok (.invokevirtual 60, 3) := by decide +kernel
theorem dX0_covers_19 : decode cX0_covers 19 = .ok (.lstore 7, 2) := by decide +kernel
theorem dX0_covers_21 : decode cX0_covers 21 = .ok (.lload 7, 2) := by decide +kernel
theorem dX0_covers_23 : decode cX0_covers 23 = .ok (.lconst 0, 1) := by decide +kernel
theorem dX0_covers_24 : decode cX0_covers 24 = .ok (.lcmp, 1) := by decide +kernel
theorem dX0_covers_25 : decode cX0_covers 25 = .ok (.ifCond .lt 20, 3) := by decide +kernel
theorem dX0_covers_28 : decode cX0_covers 28 = .ok (.lload 7, 2) := by decide +kernel
theorem dX0_covers_30 : decode cX0_covers 30 = .ok (.lconst 0, 1) := by decide +kernel
theorem dX0_covers_31 : decode cX0_covers 31 = .ok (.lcmp, 1) := by decide +kernel
theorem dX0_covers_32 : decode cX0_covers 32 = .ok (.ifCond .ne 15, 3) := by decide +kernel
theorem dX0_covers_35 : decode cX0_covers 35 = .ok (.aload_n 0, 1) := by decide +kernel
theorem dX0_covers_36 : decode cX0_covers 36 = .ok (.iload_n 1, 1) := by decide +kernel
theorem dX0_covers_37 : decode cX0_covers 37 = .ok (.iload 6, 2) := by decide +kernel
theorem dX0_covers_39 : decode cX0_covers 39 = .ok (.invokevirtual 70, 3) := by decide +kernel
theorem dX0_covers_42 : decode cX0_covers 42 = .ok (.ifCond .ne 5, 3) := by decide +kernel
theorem dX0_covers_45 : decode cX0_covers 45 = .ok (.iconst 0, 1) := by decide +kernel
theorem dX0_covers_46 : decode cX0_covers 46 = .ok (.ireturn, 1) := by decide +kernel
theorem dX0_covers_47 : decode cX0_covers 47 = .ok (.iinc 6 1, 3) := by decide +kernel
theorem dX0_covers_50 : decode cX0_covers 50 = .ok (.goto (-47), 3) := by decide +kernel
theorem dX0_covers_53 : decode cX0_covers 53 = .ok (.iconst 1, 1) := by decide +kernel
theorem dX0_covers_54 : decode cX0_covers 54 = .ok (.ireturn, 1) := by decide +kernel
set_option maxRecDepth 20000 in
theorem ggX0_ownsEdge_X0_edgeStart : GoodIn wsX0_ownsEdge wsX0_edgeStart := goodIn_r _ [6] (by decide +kernel) (by decide +kernel)
set_option maxRecDepth 20000 in
theorem gX0_ownsEdge_X0_edgeStart : GoodIn wsX0_ownsEdge (va_wsS RX0 64 yX0_edgeStart wsX0_edgeStart) := goodIn_app (goodIn_of _ (by decide +kernel)) ggX0_ownsEdge_X0_edgeStart
set_option maxRecDepth 20000 in
theorem ggX0_ownsEdge_X0_edgeEnd : GoodIn wsX0_ownsEdge wsX0_edgeEnd := goodIn_r _ [9] (by decide +kernel) (by decide +kernel)
set_option maxRecDepth 20000 in
theorem gX0_ownsEdge_X0_edgeEnd : GoodIn wsX0_ownsEdge (va_wsS RX0 67 yX0_edgeEnd wsX0_edgeEnd) := goodIn_app (goodIn_of _ (by decide +kernel)) ggX0_ownsEdge_X0_edgeEnd
theorem dX0_ownsEdge_0 : decode cX0_ownsEdge 0 = .ok (.iload_n 1, 1) := by decide +kernel
theorem dX0_ownsEdge_1 : decode cX0_ownsEdge 1 = .ok (.iload_n 2, 1) := by decide +kernel
theorem dX0_ownsEdge_2 : decode cX0_ownsEdge 2 = .ok (.invokestatic 64, 3) := by decide +kernel
theorem dX0_ownsEdge_5 : decode cX0_ownsEdge 5 = .ok (.istore_n 3, 1) := by decide +kernel
theorem dX0_ownsEdge_6 : decode cX0_ownsEdge 6 = .ok (.iload_n 1, 1) := by decide +kernel
theorem dX0_ownsEdge_7 : decode cX0_ownsEdge 7 = .ok (.iload_n 2, 1) := by decide +kernel
theorem dX0_ownsEdge_8 : decode cX0_ownsEdge 8 = .ok (.invokestatic 67, 3) := by decide +kernel
theorem dX0_ownsEdge_11 : decode cX0_ownsEdge 11 = .ok (.istore 4, 2) := by decide +kernel
theorem dX0_ownsEdge_13 : decode cX0_ownsEdge 13 = .ok (.aload_n 0, 1) := by decide +kernel
theorem dX0_ownsEdge_14 : decode cX0_ownsEdge 14 = .ok (.getfield 13, 3) := by decide +kernel
theorem dX0_ownsEdge_17 : decode cX0_ownsEdge 17 = .ok (.iload 4, 2) := by decide +kernel
theorem dX0_ownsEdge_19 : decode cX0_ownsEdge 19 = .ok (.iaload, 1) := by decide +kernel
theorem dX0_ownsEdge_20 : decode cX0_ownsEdge 20 = .ok (.aload_n 0, 1) := by decide +kernel
theorem dX0_ownsEdge_21 : decode cX0_ownsEdge 21 = .ok (.getfield 13, 3) := by decide +kernel
theorem dX0_ownsEdge_24 : decode cX0_ownsEdge 24 = .ok (.iload_n 3, 1) := by decide +kernel
theorem dX0_ownsEdge_25 : decode cX0_ownsEdge 25 = .ok (.iaload, 1) := by decide +kernel
theorem dX0_ownsEdge_26 : decode cX0_ownsEdge 26 = .ok (.if_icmp .lt 35, 3) := by decide +kernel
theorem dX0_ownsEdge_29 : decode cX0_ownsEdge 29 = .ok (.aload_n 0, 1) := by decide +kernel
theorem dX0_ownsEdge_30 : decode cX0_ownsEdge 30 = .ok (.getfield 13, 3) := by decide +kernel
theorem dX0_ownsEdge_33 : decode cX0_ownsEdge 33 = .ok (.iload 4, 2) := by decide +kernel
theorem dX0_ownsEdge_35 : decode cX0_ownsEdge 35 = .ok (.iaload, 1) := by decide +kernel
theorem dX0_ownsEdge_36 : decode cX0_ownsEdge 36 = .ok (.aload_n 0, 1) := by decide +kernel
theorem dX0_ownsEdge_37 : decode cX0_ownsEdge 37 = .ok (.getfield 13, 3) := by decide +kernel
theorem dX0_ownsEdge_40 : decode cX0_ownsEdge 40 = .ok (.iload_n 3, 1) := by decide +kernel
theorem dX0_ownsEdge_41 : decode cX0_ownsEdge 41 = .ok (.iaload, 1) := by decide +kernel
theorem dX0_ownsEdge_42 : decode cX0_ownsEdge 42 = .ok (.if_icmp .ne 23, 3) := by decide +kernel
theorem dX0_ownsEdge_45 : decode cX0_ownsEdge 45 = .ok (.aload_n 0, 1) := by decide +kernel
theorem dX0_ownsEdge_46 : decode cX0_ownsEdge 46 = .ok (.getfield 9, 3) := by decide +kernel
theorem dX0_ownsEdge_49 : decode cX0_ownsEdge 49 = .ok (.iload 4, 2) := by decide +kernel
theorem dX0_ownsEdge_51 : decode cX0_ownsEdge 51 = .ok (.iaload, 1) := by decide +kernel
theorem dX0_ownsEdge_52 : decode cX0_ownsEdge 52 = .ok (.aload_n 0, 1) := by decide +kernel
theorem dX0_ownsEdge_53 : decode cX0_ownsEdge 53 = .ok (.getfield 9, 3) := by decide +kernel
theorem dX0_ownsEdge_56 : decode cX0_ownsEdge 56 = .ok (.iload_n 3, 1) := by decide +kernel
theorem dX0_ownsEdge_57 : decode cX0_ownsEdge 57 = .ok (.iaload, 1) := by decide +kernel
theorem dX0_ownsEdge_58 : decode cX0_ownsEdge 58 = .ok (.if_icmp .le 7, 3) := by decide +kernel
theorem dX0_ownsEdge_61 : decode cX0_ownsEdge 61 = .ok (.iconst 1, 1) := by decide +kernel
theorem dX0_ownsEdge_62 : decode cX0_ownsEdge 62 = .ok (.goto 4, 3) := by decide +kernel
theorem dX0_ownsEdge_65 : decode cX0_ownsEdge 65 = .ok (.iconst 0, 1) := by decide +kernel
theorem dX0_ownsEdge_66 : decode cX0_ownsEdge 66 = .ok (.ireturn, 1) := by decide +kernel
set_option maxRecDepth 20000 in
theorem ggX0_nearnessOf_X0_edge : GoodIn wsX0_nearnessOf wsX0_edge := goodIn_r _ [6, 7, 8, 9, 10, 5, 11, 12, 13, 14, 23, 24, 25, 26] (by decide +kernel) (by decide +kernel)
set_option maxRecDepth 20000 in
theorem gX0_nearnessOf_X0_edge : GoodIn wsX0_nearnessOf (wsV RX0 60 RX0 yX0_edge wsX0_edge) := goodIn_app (goodIn_of _ (by decide +kernel)) ggX0_nearnessOf_X0_edge
set_option maxRecDepth 20000 in
theorem ggX0_nearnessOf_X0_areaOf : GoodIn wsX0_nearnessOf wsX0_areaOf := goodIn_r _ [18, 7, 8, 2, 3, 4, 5, 6, 9, 10, 11, 12, 13, 14, 23, 24, 25, 26] (by decide +kernel) (by decide +kernel)
set_option maxRecDepth 20000 in
theorem gX0_nearnessOf_X0_areaOf : GoodIn wsX0_nearnessOf (wsV RX0 28 RX0 yX0_areaOf wsX0_areaOf) := goodIn_app (goodIn_of _ (by decide +kernel)) ggX0_nearnessOf_X0_areaOf
set_option maxRecDepth 20000 in
theorem ggX0_nearnessOf_J9_floorDiv_f86c9 : GoodIn wsX0_nearnessOf wsJ9_floorDiv_f86c9 := goodIn_r _ [22] (by decide +kernel) (by decide +kernel)
set_option maxRecDepth 20000 in
theorem gX0_nearnessOf_J9_floorDiv_f86c9 : GoodIn wsX0_nearnessOf (va_wsS RX0 74 yJ9_floorDiv_f86c9 wsJ9_floorDiv_f86c9) := goodIn_app (goodIn_of _ (by decide +kernel)) ggX0_nearnessOf_J9_floorDiv_f86c9
theorem dX0_nearnessOf_0 : decode cX0_nearnessOf 0 = .ok (.lconst 0, 1) := by decide +kernel
theorem dX0_nearnessOf_1 : decode cX0_nearnessOf 1 = .ok (.lstore 6, 2) := by decide +kernel
theorem dX0_nearnessOf_3 : decode cX0_nearnessOf 3 = .ok (.iconst 0, 1) := by decide +kernel
theorem dX0_nearnessOf_4 : decode cX0_nearnessOf 4 = .ok (.istore 8, 2) := by decide +kernel
theorem dX0_nearnessOf_6 : decode cX0_nearnessOf 6 = .ok (.iload 8, 2) := by decide +kernel
theorem dX0_nearnessOf_8 : decode cX0_nearnessOf 8 = .ok (.iconst 3, 1) := by decide +kernel
theorem dX0_nearnessOf_9 : decode cX0_nearnessOf 9 = .ok (.if_icmp .ge 37, 3) := by decide +kernel
theorem dX0_nearnessOf_12 : decode cX0_nearnessOf 12 = .ok (.lload 6, 2) := by decide +kernel
theorem dX0_nearnessOf_14 : decode cX0_nearnessOf 14 = .ok (.aload_n 0, 1) := by decide +kernel
theorem dX0_nearnessOf_15 : decode cX0_nearnessOf 15 = .ok (.iload_n 1, 1) := by decide +kernel
theorem dX0_nearnessOf_16 : decode cX0_nearnessOf 16 = .ok (.iload 8, 2) := by decide +kernel
theorem dX0_nearnessOf_18 : decode cX0_nearnessOf 18 = .ok (.lload_n 2, 1) := by decide +kernel
theorem dX0_nearnessOf_19 : decode cX0_nearnessOf 19 = .ok (.lload 4, 2) := by decide +kernel
theorem dX0_nearnessOf_21 : decode cX0_nearnessOf 21 = .ok (.invokevirtual 60, 3) := by decide +kernel
theorem dX0_nearnessOf_24 : decode cX0_nearnessOf 24 = .ok (.aload_n 0, 1) := by decide +kernel
theorem dX0_nearnessOf_25 : decode cX0_nearnessOf 25 = .ok (.getfield 16, 3) := by decide +kernel
theorem dX0_nearnessOf_28 : decode cX0_nearnessOf 28 = .ok (.iload_n 1, 1) := by decide +kernel
theorem dX0_nearnessOf_29 : decode cX0_nearnessOf 29 = .ok (.iconst 3, 1) := by decide +kernel
theorem dX0_nearnessOf_30 : decode cX0_nearnessOf 30 = .ok (.imul, 1) := by decide +kernel
theorem dX0_nearnessOf_31 : decode cX0_nearnessOf 31 = .ok (.iload 8, 2) := by decide +kernel
theorem dX0_nearnessOf_33 : decode cX0_nearnessOf 33 = .ok (.iadd, 1) := by decide +kernel
theorem dX0_nearnessOf_34 : decode cX0_nearnessOf 34 = .ok (.iaload, 1) := by decide +kernel
theorem dX0_nearnessOf_35 : decode cX0_nearnessOf 35 = .ok (.i2l, 1) := by decide +kernel
theorem dX0_nearnessOf_36 : decode cX0_nearnessOf 36 = .ok (.lmul, 1) := by decide +kernel
theorem dX0_nearnessOf_37 : decode cX0_nearnessOf 37 = .ok (.ladd, 1) := by decide +kernel
theorem dX0_nearnessOf_38 : decode cX0_nearnessOf 38 = .ok (.lstore 6, 2) := by decide +kernel
theorem dX0_nearnessOf_40 : decode cX0_nearnessOf 40 = .ok (.iinc 8 1, 3) := by decide +kernel
theorem dX0_nearnessOf_43 : decode cX0_nearnessOf 43 = .ok (.goto (-37), 3) := by decide +kernel
theorem dX0_nearnessOf_46 : decode cX0_nearnessOf 46 = .ok (.aload_n 0, 1) := by decide +kernel
theorem dX0_nearnessOf_47 : decode cX0_nearnessOf 47 = .ok (.iload_n 1, 1) := by decide +kernel
theorem dX0_nearnessOf_48 : decode cX0_nearnessOf 48 = .ok (.invokevirtual 28, 3) := by decide +kernel
theorem dX0_nearnessOf_51 : decode cX0_nearnessOf 51 = .ok (.lstore 8, 2) := by decide +kernel
theorem dX0_nearnessOf_53 : decode cX0_nearnessOf 53 = .ok (.lload 8, 2) := by decide +kernel
theorem dX0_nearnessOf_55 : decode cX0_nearnessOf 55 = .ok (.lconst 0, 1) := by decide +kernel
theorem dX0_nearnessOf_56 : decode cX0_nearnessOf 56 = .ok (.lcmp, 1) := by decide +kernel
theorem dX0_nearnessOf_57 : decode cX0_nearnessOf 57 = .ok (.ifCond .gt 5, 3) := by decide +kernel
theorem dX0_nearnessOf_60 : decode cX0_nearnessOf 60 = .ok (.iconst (-1), 1) := by decide +kernel
theorem dX0_nearnessOf_61 : decode cX0_nearnessOf 61 = .ok (.ireturn, 1) := by decide +kernel
theorem dX0_nearnessOf_62 : decode cX0_nearnessOf 62 = .ok (.lload 6, 2) := by decide +kernel
theorem dX0_nearnessOf_64 : decode cX0_nearnessOf 64 = .ok (.lload 8, 2) := by decide +kernel
theorem dX0_nearnessOf_66 : decode cX0_nearnessOf 66 = .ok (.invokestatic 74, 3) := by decide +kernel
theorem dX0_nearnessOf_69 : decode cX0_nearnessOf 69 = .ok (.l2i, 1) := by decide +kernel
theorem dX0_nearnessOf_70 : decode cX0_nearnessOf 70 = .ok (.ireturn, 1) := by decide +kernel
theorem dX1_init_0 : decode cX1_init 0 = .ok (.aload_n 0, 1) := by decide +kernel
theorem dX1_init_1 : decode cX1_init 1 = .ok (.invokespecial 1, 3) := by decide +kernel
theorem dX1_init_4 : decode cX1_init 4 = .ok (.aload_n 0, 1) := by decide +kernel
theorem dX1_init_5 : decode cX1_init 5 = .ok (.sipush 4617, 3) := by decide +kernel
theorem dX1_init_8 : decode cX1_init 8 = .ok (.newarray .int, 2) := by decide +kernel
theorem dX1_init_10 : decode cX1_init 10 = .ok (.putfield 7, 3) := by decide +kernel
theorem dX1_init_13 : decode cX1_init 13 = .ok (.iconst 0, 1) := by decide +kernel
theorem dX1_init_14 : decode cX1_init 14 = .ok (.istore_n 1, 1) := by decide +kernel
theorem dX1_init_15 : decode cX1_init 15 = .ok (.iload_n 1, 1) := by decide +kernel
theorem dX1_init_16 : decode cX1_init 16 = .ok (.iconst 3, 1) := by decide +kernel
theorem dX1_init_17 : decode cX1_init 17 = .ok (.if_icmp .ge 24, 3) := by decide +kernel
theorem dX1_init_20 : decode cX1_init 20 = .ok (.aload_n 0, 1) := by decide +kernel
theorem dX1_init_21 : decode cX1_init 21 = .ok (.getfield 7, 3) := by decide +kernel
theorem dX1_init_24 : decode cX1_init 24 = .ok (.sipush 4608, 3) := by decide +kernel
theorem dX1_init_27 : decode cX1_init 27 = .ok (.iconst 3, 1) := by decide +kernel
theorem dX1_init_28 : decode cX1_init 28 = .ok (.iload_n 1, 1) := by decide +kernel
theorem dX1_init_29 : decode cX1_init 29 = .ok (.imul, 1) := by decide +kernel
theorem dX1_init_30 : decode cX1_init 30 = .ok (.iadd, 1) := by decide +kernel
theorem dX1_init_31 : decode cX1_init 31 = .ok (.iconst 2, 1) := by decide +kernel
theorem dX1_init_32 : decode cX1_init 32 = .ok (.iadd, 1) := by decide +kernel
theorem dX1_init_33 : decode cX1_init 33 = .ok (.iconst 1, 1) := by decide +kernel
theorem dX1_init_34 : decode cX1_init 34 = .ok (.iastore, 1) := by decide +kernel
theorem dX1_init_35 : decode cX1_init 35 = .ok (.iinc 1 1, 3) := by decide +kernel
theorem dX1_init_38 : decode cX1_init 38 = .ok (.goto (-23), 3) := by decide +kernel
theorem dX1_init_41 : decode cX1_init 41 = .ok (.return_, 1) := by decide +kernel
theorem dX1_corner_0 : decode cX1_corner 0 = .ok (.aload_n 0, 1) := by decide +kernel
theorem dX1_corner_1 : decode cX1_corner 1 = .ok (.iconst 0, 1) := by decide +kernel
theorem dX1_corner_2 : decode cX1_corner 2 = .ok (.putfield 13, 3) := by decide +kernel
theorem dX1_corner_5 : decode cX1_corner 5 = .ok (.iload_n 1, 1) := by decide +kernel
theorem dX1_corner_6 : decode cX1_corner 6 = .ok (.ifCond .lt 53, 3) := by decide +kernel
theorem dX1_corner_9 : decode cX1_corner 9 = .ok (.iload_n 1, 1) := by decide +kernel
theorem dX1_corner_10 : decode cX1_corner 10 = .ok (.iconst 3, 1) := by decide +kernel
theorem dX1_corner_11 : decode cX1_corner 11 = .ok (.if_icmp .ge 48, 3) := by decide +kernel
theorem dX1_corner_14 : decode cX1_corner 14 = .ok (.iload_n 2, 1) := by decide +kernel
theorem dX1_corner_15 : decode cX1_corner 15 = .ok (.sipush (-4096), 3) := by decide +kernel
theorem dX1_corner_18 : decode cX1_corner 18 = .ok (.if_icmp .lt 41, 3) := by decide +kernel
theorem dX1_corner_21 : decode cX1_corner 21 = .ok (.iload_n 2, 1) := by decide +kernel
theorem dX1_corner_22 : decode cX1_corner 22 = .ok (.sipush 4096, 3) := by decide +kernel
theorem dX1_corner_25 : decode cX1_corner 25 = .ok (.if_icmp .gt 34, 3) := by decide +kernel
theorem dX1_corner_28 : decode cX1_corner 28 = .ok (.iload_n 3, 1) := by decide +kernel
theorem dX1_corner_29 : decode cX1_corner 29 = .ok (.sipush (-4096), 3) := by decide +kernel
theorem dX1_corner_32 : decode cX1_corner 32 = .ok (.if_icmp .lt 27, 3) := by decide +kernel
theorem dX1_corner_35 : decode cX1_corner 35 = .ok (.iload_n 3, 1) := by decide +kernel
theorem dX1_corner_36 : decode cX1_corner 36 = .ok (.sipush 4096, 3) := by decide +kernel
theorem dX1_corner_39 : decode cX1_corner 39 = .ok (.if_icmp .gt 20, 3) := by decide +kernel
theorem dX1_corner_42 : decode cX1_corner 42 = .ok (.iload 4, 2) := by decide +kernel
theorem dX1_corner_44 : decode cX1_corner 44 = .ok (.iconst 1, 1) := by decide +kernel
theorem dX1_corner_45 : decode cX1_corner 45 = .ok (.if_icmp .lt 14, 3) := by decide +kernel
theorem dX1_corner_48 : decode cX1_corner 48 = .ok (.iload 4, 2) := by decide +kernel
theorem dX1_corner_50 : decode cX1_corner 50 = .ok (.ldc 17, 2) := by decide +kernel
theorem dX1_corner_52 : decode cX1_corner 52 = .ok (.if_icmp .gt 7, 3) := by decide +kernel
theorem dX1_corner_55 : decode cX1_corner 55 = .ok (.iconst 1, 1) := by decide +kernel
theorem dX1_corner_56 : decode cX1_corner 56 = .ok (.goto 4, 3) := by decide +kernel
theorem dX1_corner_59 : decode cX1_corner 59 = .ok (.iconst 0, 1) := by decide +kernel
theorem dX1_corner_60 : decode cX1_corner 60 = .ok (.istore 5, 2) := by decide +kernel
theorem dX1_corner_62 : decode cX1_corner 62 = .ok (.iload 5, 2) := by decide +kernel
theorem dX1_corner_64 : decode cX1_corner 64 = .ok (.ifCond .eq 47, 3) := by decide +kernel
theorem dX1_corner_67 : decode cX1_corner 67 = .ok (.aload_n 0, 1) := by decide +kernel
theorem dX1_corner_68 : decode cX1_corner 68 = .ok (.getfield 7, 3) := by decide +kernel
theorem dX1_corner_71 : decode cX1_corner 71 = .ok (.sipush 4608, 3) := by decide +kernel
theorem dX1_corner_74 : decode cX1_corner 74 = .ok (.iconst 3, 1) := by decide +kernel
theorem dX1_corner_75 : decode cX1_corner 75 = .ok (.iload_n 1, 1) := by decide +kernel
theorem dX1_corner_76 : decode cX1_corner 76 = .ok (.imul, 1) := by decide +kernel
theorem dX1_corner_77 : decode cX1_corner 77 = .ok (.iadd, 1) := by decide +kernel
theorem dX1_corner_78 : decode cX1_corner 78 = .ok (.iload_n 2, 1) := by decide +kernel
theorem dX1_corner_79 : decode cX1_corner 79 = .ok (.iastore, 1) := by decide +kernel
theorem dX1_corner_80 : decode cX1_corner 80 = .ok (.aload_n 0, 1) := by decide +kernel
theorem dX1_corner_81 : decode cX1_corner 81 = .ok (.getfield 7, 3) := by decide +kernel
theorem dX1_corner_84 : decode cX1_corner 84 = .ok (.sipush 4608, 3) := by decide +kernel
theorem dX1_corner_87 : decode cX1_corner 87 = .ok (.iconst 3, 1) := by decide +kernel
theorem dX1_corner_88 : decode cX1_corner 88 = .ok (.iload_n 1, 1) := by decide +kernel
theorem dX1_corner_89 : decode cX1_corner 89 = .ok (.imul, 1) := by decide +kernel
theorem dX1_corner_90 : decode cX1_corner 90 = .ok (.iadd, 1) := by decide +kernel
theorem dX1_corner_91 : decode cX1_corner 91 = .ok (.iconst 1, 1) := by decide +kernel
theorem dX1_corner_92 : decode cX1_corner 92 = .ok (.iadd, 1) := by decide +kernel
theorem dX1_corner_93 : decode cX1_corner 93 = .ok (.iload_n 3, 1) := by decide +kernel
theorem dX1_corner_94 : decode cX1_corner 94 = .ok (.iastore, 1) := by decide +kernel
theorem dX1_corner_95 : decode cX1_corner 95 = .ok (.aload_n 0, 1) := by decide +kernel
theorem dX1_corner_96 : decode cX1_corner 96 = .ok (.getfield 7, 3) := by decide +kernel
theorem dX1_corner_99 : decode cX1_corner 99 = .ok (.sipush 4608, 3) := by decide +kernel
theorem dX1_corner_102 : decode cX1_corner 102 = .ok (.iconst 3, 1) := by decide +kernel
theorem dX1_corner_103 : decode cX1_corner 103 = .ok (.iload_n 1, 1) := by decide +kernel
theorem dX1_corner_104 : decode cX1_corner 104 = .ok (.imul, 1) := by decide +kernel
theorem dX1_corner_105 : decode cX1_corner 105 = .ok (.iadd, 1) := by decide +kernel
theorem dX1_corner_106 : decode cX1_corner 106 = .ok (.iconst 2, 1) := by decide +kernel
theorem dX1_corner_107 : decode cX1_corner 107 = .ok (.iadd, 1) := by decide +kernel
theorem dX1_corner_108 : decode cX1_corner 108 = .ok (.iload 4, 2) := by decide +kernel
theorem dX1_corner_110 : decode cX1_corner 110 = .ok (.iastore, 1) := by decide +kernel
theorem dX1_corner_111 : decode cX1_corner 111 = .ok (.iload 5, 2) := by decide +kernel
theorem dX1_corner_113 : decode cX1_corner 113 = .ok (.ireturn, 1) := by decide +kernel
theorem dX1_edge_0 : decode cX1_edge 0 = .ok (.aload_n 0, 1) := by decide +kernel
theorem dX1_edge_1 : decode cX1_edge 1 = .ok (.getfield 7, 3) := by decide +kernel
theorem dX1_edge_4 : decode cX1_edge 4 = .ok (.iload_n 2, 1) := by decide +kernel
theorem dX1_edge_5 : decode cX1_edge 5 = .ok (.iaload, 1) := by decide +kernel
theorem dX1_edge_6 : decode cX1_edge 6 = .ok (.aload_n 0, 1) := by decide +kernel
theorem dX1_edge_7 : decode cX1_edge 7 = .ok (.getfield 7, 3) := by decide +kernel
theorem dX1_edge_10 : decode cX1_edge 10 = .ok (.iload_n 1, 1) := by decide +kernel
theorem dX1_edge_11 : decode cX1_edge 11 = .ok (.iaload, 1) := by decide +kernel
theorem dX1_edge_12 : decode cX1_edge 12 = .ok (.isub, 1) := by decide +kernel
theorem dX1_edge_13 : decode cX1_edge 13 = .ok (.i2l, 1) := by decide +kernel
theorem dX1_edge_14 : decode cX1_edge 14 = .ok (.lload 5, 2) := by decide +kernel
theorem dX1_edge_16 : decode cX1_edge 16 = .ok (.aload_n 0, 1) := by decide +kernel
theorem dX1_edge_17 : decode cX1_edge 17 = .ok (.getfield 7, 3) := by decide +kernel
theorem dX1_edge_20 : decode cX1_edge 20 = .ok (.iload_n 1, 1) := by decide +kernel
theorem dX1_edge_21 : decode cX1_edge 21 = .ok (.iconst 1, 1) := by decide +kernel
theorem dX1_edge_22 : decode cX1_edge 22 = .ok (.iadd, 1) := by decide +kernel
theorem dX1_edge_23 : decode cX1_edge 23 = .ok (.iaload, 1) := by decide +kernel
theorem dX1_edge_24 : decode cX1_edge 24 = .ok (.i2l, 1) := by decide +kernel
theorem dX1_edge_25 : decode cX1_edge 25 = .ok (.lsub, 1) := by decide +kernel
theorem dX1_edge_26 : decode cX1_edge 26 = .ok (.lmul, 1) := by decide +kernel
theorem dX1_edge_27 : decode cX1_edge 27 = .ok (.aload_n 0, 1) := by decide +kernel
theorem dX1_edge_28 : decode cX1_edge 28 = .ok (.getfield 7, 3) := by decide +kernel
theorem dX1_edge_31 : decode cX1_edge 31 = .ok (.iload_n 2, 1) := by decide +kernel
theorem dX1_edge_32 : decode cX1_edge 32 = .ok (.iconst 1, 1) := by decide +kernel
theorem dX1_edge_33 : decode cX1_edge 33 = .ok (.iadd, 1) := by decide +kernel
theorem dX1_edge_34 : decode cX1_edge 34 = .ok (.iaload, 1) := by decide +kernel
theorem dX1_edge_35 : decode cX1_edge 35 = .ok (.aload_n 0, 1) := by decide +kernel
theorem dX1_edge_36 : decode cX1_edge 36 = .ok (.getfield 7, 3) := by decide +kernel
theorem dX1_edge_39 : decode cX1_edge 39 = .ok (.iload_n 1, 1) := by decide +kernel
theorem dX1_edge_40 : decode cX1_edge 40 = .ok (.iconst 1, 1) := by decide +kernel
theorem dX1_edge_41 : decode cX1_edge 41 = .ok (.iadd, 1) := by decide +kernel
theorem dX1_edge_42 : decode cX1_edge 42 = .ok (.iaload, 1) := by decide +kernel
theorem dX1_edge_43 : decode cX1_edge 43 = .ok (.isub, 1) := by decide +kernel
theorem dX1_edge_44 : decode cX1_edge 44 = .ok (.i2l, 1) := by decide +kernel
theorem dX1_edge_45 : decode cX1_edge 45 = .ok (.lload_n 3, 1) := by decide +kernel
theorem dX1_edge_46 : decode cX1_edge 46 = .ok (.aload_n 0, 1) := by decide +kernel
theorem dX1_edge_47 : decode cX1_edge 47 = .ok (.getfield 7, 3) := by decide +kernel
theorem dX1_edge_50 : decode cX1_edge 50 = .ok (.iload_n 1, 1) := by decide +kernel
theorem dX1_edge_51 : decode cX1_edge 51 = .ok (.iaload, 1) := by decide +kernel
theorem dX1_edge_52 : decode cX1_edge 52 = .ok (.i2l, 1) := by decide +kernel
theorem dX1_edge_53 : decode cX1_edge 53 = .ok (.lsub, 1) := by decide +kernel
theorem dX1_edge_54 : decode cX1_edge 54 = .ok (.lmul, 1) := by decide +kernel
theorem dX1_edge_55 : decode cX1_edge 55 = .ok (.lsub, 1) := by decide +kernel
theorem dX1_edge_56 : decode cX1_edge 56 = .ok (.lreturn, 1) := by decide +kernel
set_option maxRecDepth 20000 in
theorem ggX1_areaAt_X1_edge : GoodIn wsX1_areaAt wsX1_edge := goodIn_r _ [6, 1, 7, 8, 9] (by decide +kernel) (by decide +kernel)
set_option maxRecDepth 20000 in
theorem gX1_areaAt_X1_edge : GoodIn wsX1_areaAt (wsV RX1 18 RX1 yX1_edge wsX1_edge) := goodIn_app (goodIn_of _ (by decide +kernel)) ggX1_areaAt_X1_edge
theorem dX1_areaAt_0 : decode cX1_areaAt 0 = .ok (.aload_n 0, 1) := by decide +kernel
theorem dX1_areaAt_1 : decode cX1_areaAt 1 = .ok (.iload_n 1, 1) := by decide +kernel
theorem dX1_areaAt_2 : decode cX1_areaAt 2 = .ok (.iload_n 1, 1) := by decide +kernel
theorem dX1_areaAt_3 : decode cX1_areaAt 3 = .ok (.iconst 3, 1) := by decide +kernel
theorem dX1_areaAt_4 : decode cX1_areaAt 4 = .ok (.iadd, 1) := by decide +kernel
theorem dX1_areaAt_5 : decode cX1_areaAt 5 = .ok (.aload_n 0, 1) := by decide +kernel
theorem dX1_areaAt_6 : decode cX1_areaAt 6 = .ok (.getfield 7, 3) := by decide +kernel
theorem dX1_areaAt_9 : decode cX1_areaAt 9 = .ok (.iload_n 1, 1) := by decide +kernel
theorem dX1_areaAt_10 : decode cX1_areaAt 10 = .ok (.bipush 6, 2) := by decide +kernel
theorem dX1_areaAt_12 : decode cX1_areaAt 12 = .ok (.iadd, 1) := by decide +kernel
theorem dX1_areaAt_13 : decode cX1_areaAt 13 = .ok (.iaload, 1) := by decide +kernel
theorem dX1_areaAt_14 : decode cX1_areaAt 14 = .ok (.i2l, 1) := by decide +kernel
theorem dX1_areaAt_15 : decode cX1_areaAt 15 = .ok (.aload_n 0, 1) := by decide +kernel
theorem dX1_areaAt_16 : decode cX1_areaAt 16 = .ok (.getfield 7, 3) := by decide +kernel
theorem dX1_areaAt_19 : decode cX1_areaAt 19 = .ok (.iload_n 1, 1) := by decide +kernel
theorem dX1_areaAt_20 : decode cX1_areaAt 20 = .ok (.bipush 7, 2) := by decide +kernel
theorem dX1_areaAt_22 : decode cX1_areaAt 22 = .ok (.iadd, 1) := by decide +kernel
theorem dX1_areaAt_23 : decode cX1_areaAt 23 = .ok (.iaload, 1) := by decide +kernel
theorem dX1_areaAt_24 : decode cX1_areaAt 24 = .ok (.i2l, 1) := by decide +kernel
theorem dX1_areaAt_25 : decode cX1_areaAt 25 = .ok (.invokevirtual 18, 3) := by decide +kernel
theorem dX1_areaAt_28 : decode cX1_areaAt 28 = .ok (.lreturn, 1) := by decide +kernel
set_option maxRecDepth 20000 in
theorem ggX1_add_X1_areaAt : GoodIn wsX1_add wsX1_areaAt := goodIn_r _ [8, 3, 9, 10, 11, 7, 12, 13, 14, 15] (by decide +kernel) (by decide +kernel)
set_option maxRecDepth 20000 in
theorem gX1_add_X1_areaAt : GoodIn wsX1_add (wsV RX1 25 RX1 yX1_areaAt wsX1_areaAt) := goodIn_app (goodIn_of _ (by decide +kernel)) ggX1_add_X1_areaAt
theorem dX1_add_0 : decode cX1_add 0 = .ok (.aload_n 0, 1) := by decide +kernel
theorem dX1_add_1 : decode cX1_add 1 = .ok (.iconst 0, 1) := by decide +kernel
theorem dX1_add_2 : decode cX1_add 2 = .ok (.putfield 13, 3) := by decide +kernel
theorem dX1_add_5 : decode cX1_add 5 = .ok (.aload_n 0, 1) := by decide +kernel
theorem dX1_add_6 : decode cX1_add 6 = .ok (.getfield 22, 3) := by decide +kernel
theorem dX1_add_9 : decode cX1_add 9 = .ok (.sipush 512, 3) := by decide +kernel
theorem dX1_add_12 : decode cX1_add 12 = .ok (.if_icmp .eq 15, 3) := by decide +kernel
theorem dX1_add_15 : decode cX1_add 15 = .ok (.aload_n 0, 1) := by decide +kernel
theorem dX1_add_16 : decode cX1_add 16 = .ok (.sipush 4608, 3) := by decide +kernel
theorem dX1_add_19 : decode cX1_add 19 = .ok (.invokevirtual 25, 3) := by decide +kernel
theorem dX1_add_22 : decode cX1_add 22 = .ok (.lconst 0, 1) := by decide +kernel
theorem dX1_add_23 : decode cX1_add 23 = .ok (.lcmp, 1) := by decide +kernel
theorem dX1_add_24 : decode cX1_add 24 = .ok (.ifCond .gt 5, 3) := by decide +kernel
theorem dX1_add_27 : decode cX1_add 27 = .ok (.iconst (-1), 1) := by decide +kernel
theorem dX1_add_28 : decode cX1_add 28 = .ok (.ireturn, 1) := by decide +kernel
theorem dX1_add_29 : decode cX1_add 29 = .ok (.iconst 0, 1) := by decide +kernel
theorem dX1_add_30 : decode cX1_add 30 = .ok (.istore_n 1, 1) := by decide +kernel
theorem dX1_add_31 : decode cX1_add 31 = .ok (.iload_n 1, 1) := by decide +kernel
theorem dX1_add_32 : decode cX1_add 32 = .ok (.bipush 9, 2) := by decide +kernel
theorem dX1_add_34 : decode cX1_add 34 = .ok (.if_icmp .ge 33, 3) := by decide +kernel
theorem dX1_add_37 : decode cX1_add 37 = .ok (.aload_n 0, 1) := by decide +kernel
theorem dX1_add_38 : decode cX1_add 38 = .ok (.getfield 7, 3) := by decide +kernel
theorem dX1_add_41 : decode cX1_add 41 = .ok (.bipush 9, 2) := by decide +kernel
theorem dX1_add_43 : decode cX1_add 43 = .ok (.aload_n 0, 1) := by decide +kernel
theorem dX1_add_44 : decode cX1_add 44 = .ok (.getfield 22, 3) := by decide +kernel
theorem dX1_add_47 : decode cX1_add 47 = .ok (.imul, 1) := by decide +kernel
theorem dX1_add_48 : decode cX1_add 48 = .ok (.iload_n 1, 1) := by decide +kernel
theorem dX1_add_49 : decode cX1_add 49 = .ok (.iadd, 1) := by decide +kernel
theorem dX1_add_50 : decode cX1_add 50 = .ok (.aload_n 0, 1) := by decide +kernel
theorem dX1_add_51 : decode cX1_add 51 = .ok (.getfield 7, 3) := by decide +kernel
theorem dX1_add_54 : decode cX1_add 54 = .ok (.sipush 4608, 3) := by decide +kernel
theorem dX1_add_57 : decode cX1_add 57 = .ok (.iload_n 1, 1) := by decide +kernel
theorem dX1_add_58 : decode cX1_add 58 = .ok (.iadd, 1) := by decide +kernel
theorem dX1_add_59 : decode cX1_add 59 = .ok (.iaload, 1) := by decide +kernel
theorem dX1_add_60 : decode cX1_add 60 = .ok (.iastore, 1) := by decide +kernel
theorem dX1_add_61 : decode cX1_add 61 = .ok (.iinc 1 1, 3) := by decide +kernel
theorem dX1_add_64 : decode cX1_add 64 = .ok (.goto (-33), 3) := by decide +kernel
theorem dX1_add_67 : decode cX1_add 67 = .ok (.aload_n 0, 1) := by decide +kernel
theorem dX1_add_68 : decode cX1_add 68 = .ok (.dup, 1) := by decide +kernel
theorem dX1_add_69 : decode cX1_add 69 = .ok (.getfield 22, 3) := by decide +kernel
theorem dX1_add_72 : decode cX1_add 72 = .ok (.iconst 1, 1) := by decide +kernel
theorem dX1_add_73 : decode cX1_add 73 = .ok (.iadd, 1) := by decide +kernel
theorem dX1_add_74 : decode cX1_add 74 = .ok (.putfield 22, 3) := by decide +kernel
theorem dX1_add_77 : decode cX1_add 77 = .ok (.aload_n 0, 1) := by decide +kernel
theorem dX1_add_78 : decode cX1_add 78 = .ok (.getfield 22, 3) := by decide +kernel
theorem dX1_add_81 : decode cX1_add 81 = .ok (.iconst 1, 1) := by decide +kernel
theorem dX1_add_82 : decode cX1_add 82 = .ok (.isub, 1) := by decide +kernel
theorem dX1_add_83 : decode cX1_add 83 = .ok (.ireturn, 1) := by decide +kernel
theorem dX1_clear_0 : decode cX1_clear 0 = .ok (.aload_n 0, 1) := by decide +kernel
theorem dX1_clear_1 : decode cX1_clear 1 = .ok (.iconst 0, 1) := by decide +kernel
theorem dX1_clear_2 : decode cX1_clear 2 = .ok (.putfield 13, 3) := by decide +kernel
theorem dX1_clear_5 : decode cX1_clear 5 = .ok (.aload_n 0, 1) := by decide +kernel
theorem dX1_clear_6 : decode cX1_clear 6 = .ok (.iconst 0, 1) := by decide +kernel
theorem dX1_clear_7 : decode cX1_clear 7 = .ok (.putfield 22, 3) := by decide +kernel
theorem dX1_clear_10 : decode cX1_clear 10 = .ok (.return_, 1) := by decide +kernel
theorem dX1_count_0 : decode cX1_count 0 = .ok (.aload_n 0, 1) := by decide +kernel
theorem dX1_count_1 : decode cX1_count 1 = .ok (.iconst 0, 1) := by decide +kernel
theorem dX1_count_2 : decode cX1_count 2 = .ok (.putfield 13, 3) := by decide +kernel
theorem dX1_count_5 : decode cX1_count 5 = .ok (.aload_n 0, 1) := by decide +kernel
theorem dX1_count_6 : decode cX1_count 6 = .ok (.getfield 22, 3) := by decide +kernel
theorem dX1_count_9 : decode cX1_count 9 = .ok (.ireturn, 1) := by decide +kernel
set_option maxRecDepth 20000 in
theorem ggX1_area_X1_areaAt : GoodIn wsX1_area wsX1_areaAt := goodIn_r _ [7, 8, 9, 10, 11, 6, 12, 13, 14, 15] (by decide +kernel) (by decide +kernel)
set_option maxRecDepth 20000 in
theorem gX1_area_X1_areaAt : GoodIn wsX1_area (wsV RX1 25 RX1 yX1_areaAt wsX1_areaAt) := goodIn_app (goodIn_of _ (by decide +kernel)) ggX1_area_X1_areaAt
theorem dX1_area_0 : decode cX1_area 0 = .ok (.aload_n 0, 1) := by decide +kernel
theorem dX1_area_1 : decode cX1_area 1 = .ok (.iconst 0, 1) := by decide +kernel
theorem dX1_area_2 : decode cX1_area 2 = .ok (.putfield 13, 3) := by decide +kernel
theorem dX1_area_5 : decode cX1_area 5 = .ok (.iload_n 1, 1) := by decide +kernel
theorem dX1_area_6 : decode cX1_area 6 = .ok (.ifCond .lt 23, 3) := by decide +kernel
theorem dX1_area_9 : decode cX1_area 9 = .ok (.iload_n 1, 1) := by decide +kernel
theorem dX1_area_10 : decode cX1_area 10 = .ok (.aload_n 0, 1) := by decide +kernel
theorem dX1_area_11 : decode cX1_area 11 = .ok (.getfield 22, 3) := by decide +kernel
theorem dX1_area_14 : decode cX1_area 14 = .ok (.if_icmp .ge 15, 3) := by decide +kernel
theorem dX1_area_17 : decode cX1_area 17 = .ok (.aload_n 0, 1) := by decide +kernel
theorem dX1_area_18 : decode cX1_area 18 = .ok (.bipush 9, 2) := by decide +kernel
theorem dX1_area_20 : decode cX1_area 20 = .ok (.iload_n 1, 1) := by decide +kernel
theorem dX1_area_21 : decode cX1_area 21 = .ok (.imul, 1) := by decide +kernel
theorem dX1_area_22 : decode cX1_area 22 = .ok (.invokevirtual 25, 3) := by decide +kernel
theorem dX1_area_25 : decode cX1_area 25 = .ok (.l2i, 1) := by decide +kernel
theorem dX1_area_26 : decode cX1_area 26 = .ok (.goto 4, 3) := by decide +kernel
theorem dX1_area_29 : decode cX1_area 29 = .ok (.iconst (-1), 1) := by decide +kernel
theorem dX1_area_30 : decode cX1_area 30 = .ok (.ireturn, 1) := by decide +kernel
set_option maxRecDepth 20000 in
theorem ggX1_holds_X1_edge : GoodIn wsX1_holds wsX1_edge := goodIn_r _ [6, 1, 7, 8, 9] (by decide +kernel) (by decide +kernel)
set_option maxRecDepth 20000 in
theorem gX1_holds_X1_edge : GoodIn wsX1_holds (wsV RX1 18 RX1 yX1_edge wsX1_edge) := goodIn_app (goodIn_of _ (by decide +kernel)) ggX1_holds_X1_edge
theorem dX1_holds_0 : decode cX1_holds 0 = .ok (.aload_n 0, 1) := by decide +kernel
theorem dX1_holds_1 : decode cX1_holds 1 = .ok (.iload_n 1, 1) := by decide +kernel
theorem dX1_holds_2 : decode cX1_holds 2 = .ok (.iload_n 2, 1) := by decide +kernel
theorem dX1_holds_3 : decode cX1_holds 3 = .ok (.lload_n 3, 1) := by decide +kernel
theorem dX1_holds_4 : decode cX1_holds 4 = .ok (.lload 5, 2) := by decide +kernel
theorem dX1_holds_6 : decode cX1_holds 6 = .ok (.invokevirtual 18, 3) := by decide +kernel
theorem dX1_holds_9 : decode cX1_holds 9 = .ok (.lstore 7, 2) := by decide +kernel
theorem dX1_holds_11 : decode cX1_holds 11 = .ok (.aload_n 0, 1) := by decide +kernel
theorem dX1_holds_12 : decode cX1_holds 12 = .ok (.getfield 7, 3) := by decide +kernel
theorem dX1_holds_15 : decode cX1_holds 15 = .ok (.iload_n 2, 1) := by decide +kernel
theorem dX1_holds_16 : decode cX1_holds 16 = .ok (.iconst 1, 1) := by decide +kernel
theorem dX1_holds_17 : decode cX1_holds 17 = .ok (.iadd, 1) := by decide +kernel
theorem dX1_holds_18 : decode cX1_holds 18 = .ok (.iaload, 1) := by decide +kernel
theorem dX1_holds_19 : decode cX1_holds 19 = .ok (.aload_n 0, 1) := by decide +kernel
theorem dX1_holds_20 : decode cX1_holds 20 = .ok (.getfield 7, 3) := by decide +kernel
theorem dX1_holds_23 : decode cX1_holds 23 = .ok (.iload_n 1, 1) := by decide +kernel
theorem dX1_holds_24 : decode cX1_holds 24 = .ok (.iconst 1, 1) := by decide +kernel
theorem dX1_holds_25 : decode cX1_holds 25 = .ok (.iadd, 1) := by decide +kernel
theorem dX1_holds_26 : decode cX1_holds 26 = .ok (.iaload, 1) := by decide +kernel
theorem dX1_holds_27 : decode cX1_holds 27 = .ok (.if_icmp .lt 37, 3) := by decide +kernel
theorem dX1_holds_30 : decode cX1_holds 30 = .ok (.aload_n 0, 1) := by decide +kernel
theorem dX1_holds_31 : decode cX1_holds 31 = .ok (.getfield 7, 3) := by decide +kernel
theorem dX1_holds_34 : decode cX1_holds 34 = .ok (.iload_n 2, 1) := by decide +kernel
theorem dX1_holds_35 : decode cX1_holds 35 = .ok (.iconst 1, 1) := by decide +kernel
theorem dX1_holds_36 : decode cX1_holds 36 = .ok (.iadd, 1) := by decide +kernel
theorem dX1_holds_37 : decode cX1_holds 37 = .ok (.iaload, 1) := by decide +kernel
theorem dX1_holds_38 : decode cX1_holds 38 = .ok (.aload_n 0, 1) := by decide +kernel
theorem dX1_holds_39 : decode cX1_holds 39 = .ok (.getfield 7, 3) := by decide +kernel
theorem dX1_holds_42 : decode cX1_holds 42 = .ok (.iload_n 1, 1) := by decide +kernel
theorem dX1_holds_43 : decode cX1_holds 43 = .ok (.iconst 1, 1) := by decide +kernel
theorem dX1_holds_44 : decode cX1_holds 44 = .ok (.iadd, 1) := by decide +kernel
theorem dX1_holds_45 : decode cX1_holds 45 = .ok (.iaload, 1) := by decide +kernel
theorem dX1_holds_46 : decode cX1_holds 46 = .ok (.if_icmp .ne 22, 3) := by decide +kernel
theorem dX1_holds_49 : decode cX1_holds 49 = .ok (.aload_n 0, 1) := by decide +kernel
theorem dX1_holds_50 : decode cX1_holds 50 = .ok (.getfield 7, 3) := by decide +kernel
theorem dX1_holds_53 : decode cX1_holds 53 = .ok (.iload_n 2, 1) := by decide +kernel
theorem dX1_holds_54 : decode cX1_holds 54 = .ok (.iaload, 1) := by decide +kernel
theorem dX1_holds_55 : decode cX1_holds 55 = .ok (.aload_n 0, 1) := by decide +kernel
theorem dX1_holds_56 : decode cX1_holds 56 = .ok (.getfield 7, 3) := by decide +kernel
theorem dX1_holds_59 : decode cX1_holds 59 = .ok (.iload_n 1, 1) := by decide +kernel
theorem dX1_holds_60 : decode cX1_holds 60 = .ok (.iaload, 1) := by decide +kernel
theorem dX1_holds_61 : decode cX1_holds 61 = .ok (.if_icmp .le 7, 3) := by decide +kernel
theorem dX1_holds_64 : decode cX1_holds 64 = .ok (.iconst 1, 1) := by decide +kernel
theorem dX1_holds_65 : decode cX1_holds 65 = .ok (.goto 4, 3) := by decide +kernel
theorem dX1_holds_68 : decode cX1_holds 68 = .ok (.iconst 0, 1) := by decide +kernel
theorem dX1_holds_69 : decode cX1_holds 69 = .ok (.istore 9, 2) := by decide +kernel
theorem dX1_holds_71 : decode cX1_holds 71 = .ok (.lload 7, 2) := by decide +kernel
theorem dX1_holds_73 : decode cX1_holds 73 = .ok (.lconst 0, 1) := by decide +kernel
theorem dX1_holds_74 : decode cX1_holds 74 = .ok (.lcmp, 1) := by decide +kernel
theorem dX1_holds_75 : decode cX1_holds 75 = .ok (.ifCond .gt 15, 3) := by decide +kernel
theorem dX1_holds_78 : decode cX1_holds 78 = .ok (.lload 7, 2) := by decide +kernel
theorem dX1_holds_80 : decode cX1_holds 80 = .ok (.lconst 0, 1) := by decide +kernel
theorem dX1_holds_81 : decode cX1_holds 81 = .ok (.lcmp, 1) := by decide +kernel
theorem dX1_holds_82 : decode cX1_holds 82 = .ok (.ifCond .ne 12, 3) := by decide +kernel
theorem dX1_holds_85 : decode cX1_holds 85 = .ok (.iload 9, 2) := by decide +kernel
theorem dX1_holds_87 : decode cX1_holds 87 = .ok (.ifCond .eq 7, 3) := by decide +kernel
theorem dX1_holds_90 : decode cX1_holds 90 = .ok (.iconst 1, 1) := by decide +kernel
theorem dX1_holds_91 : decode cX1_holds 91 = .ok (.goto 4, 3) := by decide +kernel
theorem dX1_holds_94 : decode cX1_holds 94 = .ok (.iconst 0, 1) := by decide +kernel
theorem dX1_holds_95 : decode cX1_holds 95 = .ok (.ireturn, 1) := by decide +kernel
set_option maxRecDepth 20000 in
theorem ggX1_nearAt_X1_holds : GoodIn wsX1_nearAt wsX1_holds := goodIn_r _ [8, 3, 9, 10, 11, 7, 12, 17, 18, 19] (by decide +kernel) (by decide +kernel)
set_option maxRecDepth 20000 in
theorem gX1_nearAt_X1_holds : GoodIn wsX1_nearAt (wsV RX1 33 RX1 yX1_holds wsX1_holds) := goodIn_app (goodIn_of _ (by decide +kernel)) ggX1_nearAt_X1_holds
set_option maxRecDepth 20000 in
theorem ggX1_nearAt_X1_edge : GoodIn wsX1_nearAt wsX1_edge := goodIn_r _ [12, 3, 17, 18, 19] (by decide +kernel) (by decide +kernel)
set_option maxRecDepth 20000 in
theorem gX1_nearAt_X1_edge : GoodIn wsX1_nearAt (wsV RX1 18 RX1 yX1_edge wsX1_edge) := goodIn_app (goodIn_of _ (by decide +kernel)) ggX1_nearAt_X1_edge
set_option maxRecDepth 20000 in
theorem ggX1_nearAt_X1_areaAt : GoodIn wsX1_nearAt wsX1_areaAt := goodIn_r _ [16, 3, 9, 10, 11, 7, 12, 17, 18, 19] (by decide +kernel) (by decide +kernel)
set_option maxRecDepth 20000 in
theorem gX1_nearAt_X1_areaAt : GoodIn wsX1_nearAt (wsV RX1 25 RX1 yX1_areaAt wsX1_areaAt) := goodIn_app (goodIn_of _ (by decide +kernel)) ggX1_nearAt_X1_areaAt
theorem dX1_nearAt_0 : decode cX1_nearAt 0 = .ok (.bipush 9, 2) := by decide +kernel
theorem dX1_nearAt_2 : decode cX1_nearAt 2 = .ok (.iload_n 1, 1) := by decide +kernel
theorem dX1_nearAt_3 : decode cX1_nearAt 3 = .ok (.imul, 1) := by decide +kernel
theorem dX1_nearAt_4 : decode cX1_nearAt 4 = .ok (.istore 4, 2) := by decide +kernel
theorem dX1_nearAt_6 : decode cX1_nearAt 6 = .ok (.ldc2_w 29, 3) := by decide +kernel
theorem dX1_nearAt_9 : decode cX1_nearAt 9 = .ok (.iload_n 2, 1) := by decide +kernel
theorem dX1_nearAt_10 : decode cX1_nearAt 10 = .ok (.i2l, 1) := by decide +kernel
theorem dX1_nearAt_11 : decode cX1_nearAt 11 = .ok (.lmul, 1) := by decide +kernel
theorem dX1_nearAt_12 : decode cX1_nearAt 12 = .ok (.ldc2_w 31, 3) := by decide +kernel
theorem dX1_nearAt_15 : decode cX1_nearAt 15 = .ok (.ladd, 1) := by decide +kernel
theorem dX1_nearAt_16 : decode cX1_nearAt 16 = .ok (.lstore 5, 2) := by decide +kernel
theorem dX1_nearAt_18 : decode cX1_nearAt 18 = .ok (.ldc2_w 29, 3) := by decide +kernel
theorem dX1_nearAt_21 : decode cX1_nearAt 21 = .ok (.iload_n 3, 1) := by decide +kernel
theorem dX1_nearAt_22 : decode cX1_nearAt 22 = .ok (.i2l, 1) := by decide +kernel
theorem dX1_nearAt_23 : decode cX1_nearAt 23 = .ok (.lmul, 1) := by decide +kernel
theorem dX1_nearAt_24 : decode cX1_nearAt 24 = .ok (.ldc2_w 31, 3) := by decide +kernel
theorem dX1_nearAt_27 : decode cX1_nearAt 27 = .ok (.ladd, 1) := by decide +kernel
theorem dX1_nearAt_28 : decode cX1_nearAt 28 = .ok (.lstore 7, 2) := by decide +kernel
theorem dX1_nearAt_30 : decode cX1_nearAt 30 = .ok (.aload_n 0, 1) := by decide +kernel
theorem dX1_nearAt_31 : decode cX1_nearAt 31 = .ok (.iload 4, 2) := by decide +kernel
theorem dX1_nearAt_33 : decode cX1_nearAt 33 = .ok (.iconst 3, 1) := by decide +kernel
theorem dX1_nearAt_34 : decode cX1_nearAt 34 = .ok (.iadd, 1) := by decide +kernel
theorem dX1_nearAt_35 : decode cX1_nearAt 35 = .ok (.iload 4, 2) := by decide +kernel
theorem dX1_nearAt_37 : decode cX1_nearAt 37 = .ok (.bipush 6, 2) := by decide +kernel
theorem dX1_nearAt_39 : decode cX1_nearAt 39 = .ok (.iadd, 1) := by decide +kernel
theorem dX1_nearAt_40 : decode cX1_nearAt 40 = .ok (.lload 5, 2) := by decide +kernel
theorem dX1_nearAt_42 : decode cX1_nearAt 42 = .ok (.lload 7, 2) := by decide +kernel
theorem dX1_nearAt_44 : decode cX1_nearAt 44 = .ok (.invokevirtual 33, 3) := by decide +kernel
theorem dX1_nearAt_47 : decode cX1_nearAt 47 = .ok (.ifCond .eq 38, 3) := by decide +kernel
theorem dX1_nearAt_50 : decode cX1_nearAt 50 = .ok (.aload_n 0, 1) := by decide +kernel
theorem dX1_nearAt_51 : decode cX1_nearAt 51 = .ok (.iload 4, 2) := by decide +kernel
theorem dX1_nearAt_53 : decode cX1_nearAt 53 = .ok (.bipush 6, 2) := by decide +kernel
theorem dX1_nearAt_55 : decode cX1_nearAt 55 = .ok (.iadd, 1) := by decide +kernel
theorem dX1_nearAt_56 : decode cX1_nearAt 56 = .ok (.iload 4, 2) := by decide +kernel
theorem dX1_nearAt_58 : decode cX1_nearAt 58 = .ok (.lload 5, 2) := by decide +kernel
theorem dX1_nearAt_60 : decode cX1_nearAt 60 = .ok (.lload 7, 2) := by decide +kernel
theorem dX1_nearAt_62 : decode cX1_nearAt 62 = .ok (.invokevirtual 33, 3) := by decide +kernel
theorem dX1_nearAt_65 : decode cX1_nearAt 65 = .ok (.ifCond .eq 20, 3) := by decide +kernel
theorem dX1_nearAt_68 : decode cX1_nearAt 68 = .ok (.aload_n 0, 1) := by decide +kernel
theorem dX1_nearAt_69 : decode cX1_nearAt 69 = .ok (.iload 4, 2) := by decide +kernel
theorem dX1_nearAt_71 : decode cX1_nearAt 71 = .ok (.iload 4, 2) := by decide +kernel
theorem dX1_nearAt_73 : decode cX1_nearAt 73 = .ok (.iconst 3, 1) := by decide +kernel
theorem dX1_nearAt_74 : decode cX1_nearAt 74 = .ok (.iadd, 1) := by decide +kernel
theorem dX1_nearAt_75 : decode cX1_nearAt 75 = .ok (.lload 5, 2) := by decide +kernel
theorem dX1_nearAt_77 : decode cX1_nearAt 77 = .ok (.lload 7, 2) := by decide +kernel
theorem dX1_nearAt_79 : decode cX1_nearAt 79 = .ok (.invokevirtual 33, 3) := by decide +kernel
theorem dX1_nearAt_82 : decode cX1_nearAt 82 = .ok (.ifCond .ne 5, 3) := by decide +kernel
theorem dX1_nearAt_85 : decode cX1_nearAt 85 = .ok (.iconst (-1), 1) := by decide +kernel
theorem dX1_nearAt_86 : decode cX1_nearAt 86 = .ok (.ireturn, 1) := by decide +kernel
theorem dX1_nearAt_87 : decode cX1_nearAt 87 = .ok (.aload_n 0, 1) := by decide +kernel
theorem dX1_nearAt_88 : decode cX1_nearAt 88 = .ok (.iload 4, 2) := by decide +kernel
theorem dX1_nearAt_90 : decode cX1_nearAt 90 = .ok (.iconst 3, 1) := by decide +kernel
theorem dX1_nearAt_91 : decode cX1_nearAt 91 = .ok (.iadd, 1) := by decide +kernel
theorem dX1_nearAt_92 : decode cX1_nearAt 92 = .ok (.iload 4, 2) := by decide +kernel
theorem dX1_nearAt_94 : decode cX1_nearAt 94 = .ok (.bipush 6, 2) := by decide +kernel
theorem dX1_nearAt_96 : decode cX1_nearAt 96 = .ok (.iadd, 1) := by decide +kernel
theorem dX1_nearAt_97 : decode cX1_nearAt 97 = .ok (.lload 5, 2) := by decide +kernel
theorem dX1_nearAt_99 : decode cX1_nearAt 99 = .ok (.lload 7, 2) := by decide +kernel
theorem dX1_nearAt_101 : decode cX1_nearAt 101 = .ok (.invokevirtual 18, 3) := by decide +kernel
theorem dX1_nearAt_104 : decode cX1_nearAt 104 = .ok (.aload_n 0, 1) := by decide +kernel
theorem dX1_nearAt_105 : decode cX1_nearAt 105 = .ok (.getfield 7, 3) := by decide +kernel
theorem dX1_nearAt_108 : decode cX1_nearAt 108 = .ok (.iload 4, 2) := by decide +kernel
theorem dX1_nearAt_110 : decode cX1_nearAt 110 = .ok (.iconst 2, 1) := by decide +kernel
theorem dX1_nearAt_111 : decode cX1_nearAt 111 = .ok (.iadd, 1) := by decide +kernel
theorem dX1_nearAt_112 : decode cX1_nearAt 112 = .ok (.iaload, 1) := by decide +kernel
theorem dX1_nearAt_113 : decode cX1_nearAt 113 = .ok (.i2l, 1) := by decide +kernel
theorem dX1_nearAt_114 : decode cX1_nearAt 114 = .ok (.lmul, 1) := by decide +kernel
theorem dX1_nearAt_115 : decode cX1_nearAt 115 = .ok (.aload_n 0, 1) := by decide +kernel
theorem dX1_nearAt_116 : decode cX1_nearAt 116 = .ok (.iload 4, 2) := by decide +kernel
theorem dX1_nearAt_118 : decode cX1_nearAt 118 = .ok (.bipush 6, 2) := by decide +kernel
theorem dX1_nearAt_120 : decode cX1_nearAt 120 = .ok (.iadd, 1) := by decide +kernel
theorem dX1_nearAt_121 : decode cX1_nearAt 121 = .ok (.iload 4, 2) := by decide +kernel
theorem dX1_nearAt_123 : decode cX1_nearAt 123 = .ok (.lload 5, 2) := by decide +kernel
theorem dX1_nearAt_125 : decode cX1_nearAt 125 = .ok (.lload 7, 2) := by decide +kernel
theorem dX1_nearAt_127 : decode cX1_nearAt 127 = .ok (.invokevirtual 18, 3) := by decide +kernel
theorem dX1_nearAt_130 : decode cX1_nearAt 130 = .ok (.aload_n 0, 1) := by decide +kernel
theorem dX1_nearAt_131 : decode cX1_nearAt 131 = .ok (.getfield 7, 3) := by decide +kernel
theorem dX1_nearAt_134 : decode cX1_nearAt 134 = .ok (.iload 4, 2) := by decide +kernel
theorem dX1_nearAt_136 : decode cX1_nearAt 136 = .ok (.iconst 5, 1) := by decide +kernel
theorem dX1_nearAt_137 : decode cX1_nearAt 137 = .ok (.iadd, 1) := by decide +kernel
theorem dX1_nearAt_138 : decode cX1_nearAt 138 = .ok (.iaload, 1) := by decide +kernel
theorem dX1_nearAt_139 : decode cX1_nearAt 139 = .ok (.i2l, 1) := by decide +kernel
theorem dX1_nearAt_140 : decode cX1_nearAt 140 = .ok (.lmul, 1) := by decide +kernel
theorem dX1_nearAt_141 : decode cX1_nearAt 141 = .ok (.ladd, 1) := by decide +kernel
theorem dX1_nearAt_142 : decode cX1_nearAt 142 = .ok (.aload_n 0, 1) := by decide +kernel
theorem dX1_nearAt_143 : decode cX1_nearAt 143 = .ok (.iload 4, 2) := by decide +kernel
theorem dX1_nearAt_145 : decode cX1_nearAt 145 = .ok (.iload 4, 2) := by decide +kernel
theorem dX1_nearAt_147 : decode cX1_nearAt 147 = .ok (.iconst 3, 1) := by decide +kernel
theorem dX1_nearAt_148 : decode cX1_nearAt 148 = .ok (.iadd, 1) := by decide +kernel
theorem dX1_nearAt_149 : decode cX1_nearAt 149 = .ok (.lload 5, 2) := by decide +kernel
theorem dX1_nearAt_151 : decode cX1_nearAt 151 = .ok (.lload 7, 2) := by decide +kernel
theorem dX1_nearAt_153 : decode cX1_nearAt 153 = .ok (.invokevirtual 18, 3) := by decide +kernel
theorem dX1_nearAt_156 : decode cX1_nearAt 156 = .ok (.aload_n 0, 1) := by decide +kernel
theorem dX1_nearAt_157 : decode cX1_nearAt 157 = .ok (.getfield 7, 3) := by decide +kernel
theorem dX1_nearAt_160 : decode cX1_nearAt 160 = .ok (.iload 4, 2) := by decide +kernel
theorem dX1_nearAt_162 : decode cX1_nearAt 162 = .ok (.bipush 8, 2) := by decide +kernel
theorem dX1_nearAt_164 : decode cX1_nearAt 164 = .ok (.iadd, 1) := by decide +kernel
theorem dX1_nearAt_165 : decode cX1_nearAt 165 = .ok (.iaload, 1) := by decide +kernel
theorem dX1_nearAt_166 : decode cX1_nearAt 166 = .ok (.i2l, 1) := by decide +kernel
theorem dX1_nearAt_167 : decode cX1_nearAt 167 = .ok (.lmul, 1) := by decide +kernel
theorem dX1_nearAt_168 : decode cX1_nearAt 168 = .ok (.ladd, 1) := by decide +kernel
theorem dX1_nearAt_169 : decode cX1_nearAt 169 = .ok (.lstore 9, 2) := by decide +kernel
theorem dX1_nearAt_171 : decode cX1_nearAt 171 = .ok (.lload 9, 2) := by decide +kernel
theorem dX1_nearAt_173 : decode cX1_nearAt 173 = .ok (.aload_n 0, 1) := by decide +kernel
theorem dX1_nearAt_174 : decode cX1_nearAt 174 = .ok (.iload 4, 2) := by decide +kernel
theorem dX1_nearAt_176 : decode cX1_nearAt 176 = .ok (.invokevirtual 25, 3) := by decide +kernel
theorem dX1_nearAt_179 : decode cX1_nearAt 179 = .ok (.ldiv, 1) := by decide +kernel
theorem dX1_nearAt_180 : decode cX1_nearAt 180 = .ok (.l2i, 1) := by decide +kernel
theorem dX1_nearAt_181 : decode cX1_nearAt 181 = .ok (.ireturn, 1) := by decide +kernel
set_option maxRecDepth 20000 in
theorem ggX1_near_X1_nearAt : GoodIn wsX1_near wsX1_nearAt := goodIn_r _ [7, 8, 9, 10, 11, 12, 13, 6, 14, 15, 16, 17, 18, 19, 20, 21, 22, 23, 24, 25] (by decide +kernel) (by decide +kernel)
set_option maxRecDepth 20000 in
theorem gX1_near_X1_nearAt : GoodIn wsX1_near (wsV RX1 37 RX1 yX1_nearAt wsX1_nearAt) := goodIn_app (goodIn_of _ (by decide +kernel)) ggX1_near_X1_nearAt
theorem dX1_near_0 : decode cX1_near 0 = .ok (.aload_n 0, 1) := by decide +kernel
theorem dX1_near_1 : decode cX1_near 1 = .ok (.iconst 0, 1) := by decide +kernel
theorem dX1_near_2 : decode cX1_near 2 = .ok (.putfield 13, 3) := by decide +kernel
theorem dX1_near_5 : decode cX1_near 5 = .ok (.iload_n 1, 1) := by decide +kernel
theorem dX1_near_6 : decode cX1_near 6 = .ok (.ifCond .lt 21, 3) := by decide +kernel
theorem dX1_near_9 : decode cX1_near 9 = .ok (.iload_n 1, 1) := by decide +kernel
theorem dX1_near_10 : decode cX1_near 10 = .ok (.aload_n 0, 1) := by decide +kernel
theorem dX1_near_11 : decode cX1_near 11 = .ok (.getfield 22, 3) := by decide +kernel
theorem dX1_near_14 : decode cX1_near 14 = .ok (.if_icmp .ge 13, 3) := by decide +kernel
theorem dX1_near_17 : decode cX1_near 17 = .ok (.aload_n 0, 1) := by decide +kernel
theorem dX1_near_18 : decode cX1_near 18 = .ok (.iload_n 1, 1) := by decide +kernel
theorem dX1_near_19 : decode cX1_near 19 = .ok (.iload_n 2, 1) := by decide +kernel
theorem dX1_near_20 : decode cX1_near 20 = .ok (.iload_n 3, 1) := by decide +kernel
theorem dX1_near_21 : decode cX1_near 21 = .ok (.invokevirtual 37, 3) := by decide +kernel
theorem dX1_near_24 : decode cX1_near 24 = .ok (.goto 4, 3) := by decide +kernel
theorem dX1_near_27 : decode cX1_near 27 = .ok (.iconst (-1), 1) := by decide +kernel
theorem dX1_near_28 : decode cX1_near 28 = .ok (.ireturn, 1) := by decide +kernel
set_option maxRecDepth 20000 in
theorem ggX1_nearest_X1_nearAt : GoodIn wsX1_nearest wsX1_nearAt := goodIn_r _ [7, 8, 9, 10, 11, 12, 13, 6, 14, 15, 16, 17, 18, 19, 20, 21, 22, 23, 24, 25] (by decide +kernel) (by decide +kernel)
set_option maxRecDepth 20000 in
theorem gX1_nearest_X1_nearAt : GoodIn wsX1_nearest (wsV RX1 37 RX1 yX1_nearAt wsX1_nearAt) := goodIn_app (goodIn_of _ (by decide +kernel)) ggX1_nearest_X1_nearAt
theorem dX1_nearest_0 : decode cX1_nearest 0 = .ok (.aload_n 0, 1) := by decide +kernel
theorem dX1_nearest_1 : decode cX1_nearest 1 = .ok (.iconst 0, 1) := by decide +kernel
theorem dX1_nearest_2 : decode cX1_nearest 2 = .ok (.putfield 13, 3) := by decide +kernel
theorem dX1_nearest_5 : decode cX1_nearest 5 = .ok (.iconst (-1), 1) := by decide +kernel
theorem dX1_nearest_6 : decode cX1_nearest 6 = .ok (.istore_n 3, 1) := by decide +kernel
theorem dX1_nearest_7 : decode cX1_nearest 7 = .ok (.iconst (-1), 1) := by decide +kernel
theorem dX1_nearest_8 : decode cX1_nearest 8 = .ok (.istore 4, 2) := by decide +kernel
theorem dX1_nearest_10 : decode cX1_nearest 10 = .ok (.iconst 0, 1) := by decide +kernel
theorem dX1_nearest_11 : decode cX1_nearest 11 = .ok (.istore 5, 2) := by decide +kernel
theorem dX1_nearest_13 : decode cX1_nearest 13 = .ok (.iload 5, 2) := by decide +kernel
theorem dX1_nearest_15 : decode cX1_nearest 15 = .ok (.aload_n 0, 1) := by decide +kernel
theorem dX1_nearest_16 : decode cX1_nearest 16 = .ok (.getfield 22, 3) := by decide +kernel
theorem dX1_nearest_19 : decode cX1_nearest 19 = .ok (.if_icmp .ge 49, 3) := by decide +kernel
theorem dX1_nearest_22 : decode cX1_nearest 22 = .ok (.aload_n 0, 1) := by decide +kernel
theorem dX1_nearest_23 : decode cX1_nearest 23 = .ok (.iload 5, 2) := by decide +kernel
theorem dX1_nearest_25 : decode cX1_nearest 25 = .ok (.iload_n 1, 1) := by decide +kernel
theorem dX1_nearest_26 : decode cX1_nearest 26 = .ok (.iload_n 2, 1) := by decide +kernel
theorem dX1_nearest_27 : decode cX1_nearest 27 = .ok (.invokevirtual 37, 3) := by decide +kernel
theorem dX1_nearest_30 : decode cX1_nearest 30 = .ok (.istore 6, 2) := by decide +kernel
theorem dX1_nearest_32 : decode cX1_nearest 32 = .ok (.iload 6, 2) := by decide +kernel
theorem dX1_nearest_34 : decode cX1_nearest 34 = .ok (.iload 4, 2) := by decide +kernel
theorem dX1_nearest_36 : decode cX1_nearest 36 = .ok (.if_icmp .le 8, 3) := by decide +kernel
theorem dX1_nearest_39 : decode cX1_nearest 39 = .ok (.iload 5, 2) := by decide +kernel
theorem dX1_nearest_41 : decode cX1_nearest 41 = .ok (.goto 4, 3) := by decide +kernel
theorem dX1_nearest_44 : decode cX1_nearest 44 = .ok (.iload_n 3, 1) := by decide +kernel
theorem dX1_nearest_45 : decode cX1_nearest 45 = .ok (.istore_n 3, 1) := by decide +kernel
theorem dX1_nearest_46 : decode cX1_nearest 46 = .ok (.iload 6, 2) := by decide +kernel
theorem dX1_nearest_48 : decode cX1_nearest 48 = .ok (.iload 4, 2) := by decide +kernel
theorem dX1_nearest_50 : decode cX1_nearest 50 = .ok (.if_icmp .le 8, 3) := by decide +kernel
theorem dX1_nearest_53 : decode cX1_nearest 53 = .ok (.iload 6, 2) := by decide +kernel
theorem dX1_nearest_55 : decode cX1_nearest 55 = .ok (.goto 5, 3) := by decide +kernel
theorem dX1_nearest_58 : decode cX1_nearest 58 = .ok (.iload 4, 2) := by decide +kernel
theorem dX1_nearest_60 : decode cX1_nearest 60 = .ok (.istore 4, 2) := by decide +kernel
theorem dX1_nearest_62 : decode cX1_nearest 62 = .ok (.iinc 5 1, 3) := by decide +kernel
theorem dX1_nearest_65 : decode cX1_nearest 65 = .ok (.goto (-52), 3) := by decide +kernel
theorem dX1_nearest_68 : decode cX1_nearest 68 = .ok (.iload_n 3, 1) := by decide +kernel
theorem dX1_nearest_69 : decode cX1_nearest 69 = .ok (.ireturn, 1) := by decide +kernel
set_option maxRecDepth 20000 in
theorem ggX1_covering_X1_nearAt : GoodIn wsX1_covering wsX1_nearAt := goodIn_r _ [7, 8, 9, 10, 11, 12, 13, 6, 14, 15, 16, 17, 18, 19, 20, 21, 22, 23, 24, 25] (by decide +kernel) (by decide +kernel)
set_option maxRecDepth 20000 in
theorem gX1_covering_X1_nearAt : GoodIn wsX1_covering (wsV RX1 37 RX1 yX1_nearAt wsX1_nearAt) := goodIn_app (goodIn_of _ (by decide +kernel)) ggX1_covering_X1_nearAt
theorem dX1_covering_0 : decode cX1_covering 0 = .ok (.aload_n 0, 1) := by decide +kernel
theorem dX1_covering_1 : decode cX1_covering 1 = .ok (.iconst 0, 1) := by decide +kernel
theorem dX1_covering_2 : decode cX1_covering 2 = .ok (.putfield 13, 3) := by decide +kernel
theorem dX1_covering_5 : decode cX1_covering 5 = .ok (.iconst 0, 1) := by decide +kernel
theorem dX1_covering_6 : decode cX1_covering 6 = .ok (.istore_n 3, 1) := by decide +kernel
theorem dX1_covering_7 : decode cX1_covering 7 = .ok (.iconst 0, 1) := by decide +kernel
theorem dX1_covering_8 : decode cX1_covering 8 = .ok (.istore 4, 2) := by decide +kernel
theorem dX1_covering_10 : decode cX1_covering 10 = .ok (.iload 4, 2) := by decide +kernel
theorem dX1_covering_12 : decode cX1_covering 12 = .ok (.aload_n 0, 1) := by decide +kernel
theorem dX1_covering_13 : decode cX1_covering 13 = .ok (.getfield 22, 3) := by decide +kernel
theorem dX1_covering_16 : decode cX1_covering 16 = .ok (.if_icmp .ge 29, 3) := by decide +kernel
theorem dX1_covering_19 : decode cX1_covering 19 = .ok (.iload_n 3, 1) := by decide +kernel
theorem dX1_covering_20 : decode cX1_covering 20 = .ok (.aload_n 0, 1) := by decide +kernel
theorem dX1_covering_21 : decode cX1_covering 21 = .ok (.iload 4, 2) := by decide +kernel
theorem dX1_covering_23 : decode cX1_covering 23 = .ok (.iload_n 1, 1) := by decide +kernel
theorem dX1_covering_24 : decode cX1_covering 24 = .ok (.iload_n 2, 1) := by decide +kernel
theorem dX1_covering_25 : decode cX1_covering 25 = .ok (.invokevirtual 37, 3) := by decide +kernel
theorem dX1_covering_28 : decode cX1_covering 28 = .ok (.iconst (-1), 1) := by decide +kernel
theorem dX1_covering_29 : decode cX1_covering 29 = .ok (.if_icmp .ne 7, 3) := by decide +kernel
theorem dX1_covering_32 : decode cX1_covering 32 = .ok (.iconst 0, 1) := by decide +kernel
theorem dX1_covering_33 : decode cX1_covering 33 = .ok (.goto 4, 3) := by decide +kernel
theorem dX1_covering_36 : decode cX1_covering 36 = .ok (.iconst 1, 1) := by decide +kernel
theorem dX1_covering_37 : decode cX1_covering 37 = .ok (.iadd, 1) := by decide +kernel
theorem dX1_covering_38 : decode cX1_covering 38 = .ok (.istore_n 3, 1) := by decide +kernel
theorem dX1_covering_39 : decode cX1_covering 39 = .ok (.iinc 4 1, 3) := by decide +kernel
theorem dX1_covering_42 : decode cX1_covering 42 = .ok (.goto (-32), 3) := by decide +kernel
theorem dX1_covering_45 : decode cX1_covering 45 = .ok (.iload_n 3, 1) := by decide +kernel
theorem dX1_covering_46 : decode cX1_covering 46 = .ok (.ireturn, 1) := by decide +kernel
set_option maxRecDepth 20000 in
theorem ggX1_next_X1_nearAt : GoodIn wsX1_next wsX1_nearAt := goodIn_r _ [7, 8, 9, 10, 11, 12, 13, 6, 14, 15, 16, 17, 18, 19, 20, 21, 22, 23, 24, 25] (by decide +kernel) (by decide +kernel)
set_option maxRecDepth 20000 in
theorem gX1_next_X1_nearAt : GoodIn wsX1_next (wsV RX1 37 RX1 yX1_nearAt wsX1_nearAt) := goodIn_app (goodIn_of _ (by decide +kernel)) ggX1_next_X1_nearAt
theorem dX1_next_0 : decode cX1_next 0 = .ok (.aload_n 0, 1) := by decide +kernel
theorem dX1_next_1 : decode cX1_next 1 = .ok (.iconst 0, 1) := by decide +kernel
theorem dX1_next_2 : decode cX1_next 2 = .ok (.putfield 13, 3) := by decide +kernel
theorem dX1_next_5 : decode cX1_next 5 = .ok (.iload_n 3, 1) := by decide +kernel
theorem dX1_next_6 : decode cX1_next 6 = .ok (.ifCond .ge 7, 3) := by decide +kernel
theorem dX1_next_9 : decode cX1_next 9 = .ok (.iconst 0, 1) := by decide +kernel
theorem dX1_next_10 : decode cX1_next 10 = .ok (.goto 4, 3) := by decide +kernel
theorem dX1_next_13 : decode cX1_next 13 = .ok (.iload_n 3, 1) := by decide +kernel
theorem dX1_next_14 : decode cX1_next 14 = .ok (.istore 4, 2) := by decide +kernel
theorem dX1_next_16 : decode cX1_next 16 = .ok (.iload 4, 2) := by decide +kernel
theorem dX1_next_18 : decode cX1_next 18 = .ok (.aload_n 0, 1) := by decide +kernel
theorem dX1_next_19 : decode cX1_next 19 = .ok (.getfield 22, 3) := by decide +kernel
theorem dX1_next_22 : decode cX1_next 22 = .ok (.if_icmp .ge 24, 3) := by decide +kernel
theorem dX1_next_25 : decode cX1_next 25 = .ok (.aload_n 0, 1) := by decide +kernel
theorem dX1_next_26 : decode cX1_next 26 = .ok (.iload 4, 2) := by decide +kernel
theorem dX1_next_28 : decode cX1_next 28 = .ok (.iload_n 1, 1) := by decide +kernel
theorem dX1_next_29 : decode cX1_next 29 = .ok (.iload_n 2, 1) := by decide +kernel
theorem dX1_next_30 : decode cX1_next 30 = .ok (.invokevirtual 37, 3) := by decide +kernel
theorem dX1_next_33 : decode cX1_next 33 = .ok (.iconst (-1), 1) := by decide +kernel
theorem dX1_next_34 : decode cX1_next 34 = .ok (.if_icmp .eq 6, 3) := by decide +kernel
theorem dX1_next_37 : decode cX1_next 37 = .ok (.iload 4, 2) := by decide +kernel
theorem dX1_next_39 : decode cX1_next 39 = .ok (.ireturn, 1) := by decide +kernel
theorem dX1_next_40 : decode cX1_next 40 = .ok (.iinc 4 1, 3) := by decide +kernel
theorem dX1_next_43 : decode cX1_next 43 = .ok (.goto (-27), 3) := by decide +kernel
theorem dX1_next_46 : decode cX1_next 46 = .ok (.iconst (-1), 1) := by decide +kernel
theorem dX1_next_47 : decode cX1_next 47 = .ok (.ireturn, 1) := by decide +kernel
theorem dJ9_floorDiv_f86c9_0 : decode cJ9_floorDiv_f86c9 0 = .ok (.lload_n 0, 1) := by decide +kernel
theorem dJ9_floorDiv_f86c9_1 : decode cJ9_floorDiv_f86c9 1 = .ok (.lload_n 2, 1) := by decide +kernel
theorem dJ9_floorDiv_f86c9_2 : decode cJ9_floorDiv_f86c9 2 = .ok (.ldiv, 1) := by decide +kernel
theorem dJ9_floorDiv_f86c9_3 : decode cJ9_floorDiv_f86c9 3 = .ok (.lstore 4, 2) := by decide +kernel
theorem dJ9_floorDiv_f86c9_5 : decode cJ9_floorDiv_f86c9 5 = .ok (.lload_n 0, 1) := by decide +kernel
theorem dJ9_floorDiv_f86c9_6 : decode cJ9_floorDiv_f86c9 6 = .ok (.lload_n 2, 1) := by decide +kernel
theorem dJ9_floorDiv_f86c9_7 : decode cJ9_floorDiv_f86c9 7 = .ok (.lxor, 1) := by decide +kernel
theorem dJ9_floorDiv_f86c9_8 : decode cJ9_floorDiv_f86c9 8 = .ok (.lconst 0, 1) := by decide +kernel
theorem dJ9_floorDiv_f86c9_9 : decode cJ9_floorDiv_f86c9 9 = .ok (.lcmp, 1) := by decide +kernel
theorem dJ9_floorDiv_f86c9_10 : decode cJ9_floorDiv_f86c9 10 = .ok (.ifCond .ge 17, 3) := by decide +kernel
theorem dJ9_floorDiv_f86c9_13 : decode cJ9_floorDiv_f86c9 13 = .ok (.lload 4, 2) := by decide +kernel
theorem dJ9_floorDiv_f86c9_15 : decode cJ9_floorDiv_f86c9 15 = .ok (.lload_n 2, 1) := by decide +kernel
theorem dJ9_floorDiv_f86c9_16 : decode cJ9_floorDiv_f86c9 16 = .ok (.lmul, 1) := by decide +kernel
theorem dJ9_floorDiv_f86c9_17 : decode cJ9_floorDiv_f86c9 17 = .ok (.lload_n 0, 1) := by decide +kernel
theorem dJ9_floorDiv_f86c9_18 : decode cJ9_floorDiv_f86c9 18 = .ok (.lcmp, 1) := by decide +kernel
theorem dJ9_floorDiv_f86c9_19 : decode cJ9_floorDiv_f86c9 19 = .ok (.ifCond .eq 8, 3) := by decide +kernel
theorem dJ9_floorDiv_f86c9_22 : decode cJ9_floorDiv_f86c9 22 = .ok (.lload 4, 2) := by decide +kernel
theorem dJ9_floorDiv_f86c9_24 : decode cJ9_floorDiv_f86c9 24 = .ok (.lconst 1, 1) := by decide +kernel
theorem dJ9_floorDiv_f86c9_25 : decode cJ9_floorDiv_f86c9 25 = .ok (.lsub, 1) := by decide +kernel
theorem dJ9_floorDiv_f86c9_26 : decode cJ9_floorDiv_f86c9 26 = .ok (.lreturn, 1) := by decide +kernel
theorem dJ9_floorDiv_f86c9_27 : decode cJ9_floorDiv_f86c9 27 = .ok (.lload 4, 2) := by decide +kernel
theorem dJ9_floorDiv_f86c9_29 : decode cJ9_floorDiv_f86c9 29 = .ok (.lreturn, 1) := by decide +kernel
theorem dJ9_max_7cf53_0 : decode cJ9_max_7cf53 0 = .ok (.iload_n 0, 1) := by decide +kernel
theorem dJ9_max_7cf53_1 : decode cJ9_max_7cf53 1 = .ok (.iload_n 1, 1) := by decide +kernel
theorem dJ9_max_7cf53_2 : decode cJ9_max_7cf53 2 = .ok (.if_icmp .lt 7, 3) := by decide +kernel
theorem dJ9_max_7cf53_5 : decode cJ9_max_7cf53 5 = .ok (.iload_n 0, 1) := by decide +kernel
theorem dJ9_max_7cf53_6 : decode cJ9_max_7cf53 6 = .ok (.goto 4, 3) := by decide +kernel
theorem dJ9_max_7cf53_9 : decode cJ9_max_7cf53 9 = .ok (.iload_n 1, 1) := by decide +kernel
theorem dJ9_max_7cf53_10 : decode cJ9_max_7cf53 10 = .ok (.ireturn, 1) := by decide +kernel
set_option maxRecDepth 20000 in
theorem ggL_law_X0_init : GoodIn wsL_law wsX0_init := goodIn_r _ [8, 9, 10, 11, 12, 13, 14, 15, 16, 163, 164, 165, 166] (by decide +kernel) (by decide +kernel)
set_option maxRecDepth 20000 in
theorem gL_law_X0_init : GoodIn wsL_law (wsX0_init) := ggL_law_X0_init
set_option maxRecDepth 20000 in
theorem ggL_law_X1_init : GoodIn wsL_law wsX1_init := goodIn_r _ [19, 20, 10, 11, 12, 21, 167, 168, 169] (by decide +kernel) (by decide +kernel)
set_option maxRecDepth 20000 in
theorem gL_law_X1_init : GoodIn wsL_law (wsX1_init) := ggL_law_X1_init
set_option maxRecDepth 20000 in
theorem ggL_law_X0_corner : GoodIn wsL_law wsX0_corner := goodIn_r _ [25, 26, 13, 14, 15, 27, 28, 2, 29, 163, 164, 165, 166] (by decide +kernel) (by decide +kernel)
set_option maxRecDepth 20000 in
theorem gL_law_X0_corner : GoodIn wsL_law (wsV RL 13 RX0 yX0_corner wsX0_corner) := goodIn_app (goodIn_of _ (by decide +kernel)) ggL_law_X0_corner
set_option maxRecDepth 20000 in
theorem ggL_law_X1_corner : GoodIn wsL_law wsX1_corner := goodIn_r _ [33, 34, 35, 21, 167, 168, 169] (by decide +kernel) (by decide +kernel)
set_option maxRecDepth 20000 in
theorem gL_law_X1_corner : GoodIn wsL_law (wsV RL 17 RX1 yX1_corner wsX1_corner) := goodIn_app (goodIn_of _ (by decide +kernel)) ggL_law_X1_corner
set_option maxRecDepth 20000 in
theorem ggL_law_X0_add : GoodIn wsL_law wsX0_add := goodIn_r _ [39, 16, 13, 14, 15, 40, 41, 42, 2, 43, 44, 45, 46, 47, 48, 49, 50, 51, 52, 53, 163, 164, 165, 166] (by decide +kernel) (by decide +kernel)
set_option maxRecDepth 20000 in
theorem gL_law_X0_add : GoodIn wsL_law (wsV RL 18 RX0 yX0_add wsX0_add) := goodIn_app (goodIn_of _ (by decide +kernel)) ggL_law_X0_add
set_option maxRecDepth 20000 in
theorem ggL_law_X1_add : GoodIn wsL_law wsX1_add := goodIn_r _ [57, 34, 58, 21, 59, 60, 61, 5, 62, 63, 64, 65, 66, 167, 168, 169] (by decide +kernel) (by decide +kernel)
set_option maxRecDepth 20000 in
theorem gL_law_X1_add : GoodIn wsL_law (wsV RL 22 RX1 yX1_add wsX1_add) := goodIn_app (goodIn_of _ (by decide +kernel)) ggL_law_X1_add
set_option maxRecDepth 20000 in
theorem ggL_law_X0_clear : GoodIn wsL_law wsX0_clear := goodIn_r _ [70, 16, 163, 164, 165, 166] (by decide +kernel) (by decide +kernel)
set_option maxRecDepth 20000 in
theorem gL_law_X0_clear : GoodIn wsL_law (wsV RL 23 RX0 yX0_clear wsX0_clear) := goodIn_app (goodIn_of _ (by decide +kernel)) ggL_law_X0_clear
set_option maxRecDepth 20000 in
theorem ggL_law_X1_clear : GoodIn wsL_law wsX1_clear := goodIn_r _ [74, 34, 58, 167, 168, 169] (by decide +kernel) (by decide +kernel)
set_option maxRecDepth 20000 in
theorem gL_law_X1_clear : GoodIn wsL_law (wsV RL 26 RX1 yX1_clear wsX1_clear) := goodIn_app (goodIn_of _ (by decide +kernel)) ggL_law_X1_clear
set_option maxRecDepth 20000 in
theorem ggL_law_X0_count : GoodIn wsL_law wsX0_count := goodIn_r _ [78, 16, 163, 164, 165, 166] (by decide +kernel) (by decide +kernel)
set_option maxRecDepth 20000 in
theorem gL_law_X0_count : GoodIn wsL_law (wsV RL 27 RX0 yX0_count wsX0_count) := goodIn_app (goodIn_of _ (by decide +kernel)) ggL_law_X0_count
set_option maxRecDepth 20000 in
theorem ggL_law_X1_count : GoodIn wsL_law wsX1_count := goodIn_r _ [82, 34, 58, 167, 168, 169] (by decide +kernel) (by decide +kernel)
set_option maxRecDepth 20000 in
theorem gL_law_X1_count : GoodIn wsL_law (wsV RL 30 RX1 yX1_count wsX1_count) := goodIn_app (goodIn_of _ (by decide +kernel)) ggL_law_X1_count
set_option maxRecDepth 20000 in
theorem ggL_law_X0_area : GoodIn wsL_law wsX0_area := goodIn_r _ [86, 87, 88, 89, 2, 90, 16, 40, 41, 42, 43, 13, 14, 44, 45, 46, 47, 48, 49, 50, 51, 52, 53, 163, 164, 165, 166] (by decide +kernel) (by decide +kernel)
set_option maxRecDepth 20000 in
theorem gL_law_X0_area : GoodIn wsL_law (wsV RL 31 RX0 yX0_area wsX0_area) := goodIn_app (goodIn_of _ (by decide +kernel)) ggL_law_X0_area
set_option maxRecDepth 20000 in
theorem ggL_law_X1_area : GoodIn wsL_law wsX1_area := goodIn_r _ [94, 34, 58, 59, 60, 61, 5, 62, 21, 63, 64, 65, 66, 167, 168, 169] (by decide +kernel) (by decide +kernel)
set_option maxRecDepth 20000 in
theorem gL_law_X1_area : GoodIn wsL_law (wsV RL 35 RX1 yX1_area wsX1_area) := goodIn_app (goodIn_of _ (by decide +kernel)) ggL_law_X1_area
set_option maxRecDepth 20000 in
theorem ggL_law_X0_near : GoodIn wsL_law wsX0_near := goodIn_r _ [98, 87, 88, 89, 2, 90, 16, 99, 100, 101, 102, 103, 104, 105, 106, 107, 44, 45, 46, 47, 13, 14, 48, 49, 50, 51, 52, 53, 108, 109, 110, 111, 112, 113, 114, 115, 15, 40, 41, 42, 43, 116, 117, 118, 119, 163, 164, 165, 166] (by decide +kernel) (by decide +kernel)
set_option maxRecDepth 20000 in
theorem gL_law_X0_near : GoodIn wsL_law (wsV RL 36 RX0 yX0_near wsX0_near) := goodIn_app (goodIn_of _ (by decide +kernel)) ggL_law_X0_near
set_option maxRecDepth 20000 in
theorem ggL_law_X1_near : GoodIn wsL_law wsX1_near := goodIn_r _ [123, 34, 58, 124, 125, 126, 5, 127, 128, 129, 21, 130, 131, 132, 133, 63, 64, 65, 66, 59, 60, 61, 62, 167, 168, 169] (by decide +kernel) (by decide +kernel)
set_option maxRecDepth 20000 in
theorem gL_law_X1_near : GoodIn wsL_law (wsV RL 40 RX1 yX1_near wsX1_near) := goodIn_app (goodIn_of _ (by decide +kernel)) ggL_law_X1_near
set_option maxRecDepth 20000 in
theorem ggL_law_X0_nearest : GoodIn wsL_law wsX0_nearest := goodIn_r _ [137, 16, 138, 96, 97, 2, 98, 87, 88, 89, 90, 99, 100, 101, 102, 103, 104, 105, 106, 107, 44, 45, 46, 47, 13, 14, 48, 49, 50, 51, 52, 53, 108, 109, 110, 111, 112, 113, 114, 115, 15, 40, 41, 42, 43, 116, 117, 118, 119, 163, 164, 165, 166] (by decide +kernel) (by decide +kernel)
set_option maxRecDepth 20000 in
theorem gL_law_X0_nearest : GoodIn wsL_law (wsV RL 41 RX0 yX0_nearest wsX0_nearest) := goodIn_app (goodIn_of _ (by decide +kernel)) ggL_law_X0_nearest
set_option maxRecDepth 20000 in
theorem ggL_law_X1_nearest : GoodIn wsL_law wsX1_nearest := goodIn_r _ [142, 34, 58, 124, 125, 126, 5, 127, 128, 129, 21, 130, 131, 132, 133, 63, 64, 65, 66, 59, 60, 61, 62, 167, 168, 169] (by decide +kernel) (by decide +kernel)
set_option maxRecDepth 20000 in
theorem gL_law_X1_nearest : GoodIn wsL_law (wsV RL 45 RX1 yX1_nearest wsX1_nearest) := goodIn_app (goodIn_of _ (by decide +kernel)) ggL_law_X1_nearest
set_option maxRecDepth 20000 in
theorem ggL_law_X0_covering : GoodIn wsL_law wsX0_covering := goodIn_r _ [146, 16, 99, 100, 2, 101, 102, 103, 104, 105, 106, 107, 44, 45, 46, 47, 13, 14, 48, 49, 50, 51, 52, 53, 108, 109, 110, 111, 163, 164, 165, 166] (by decide +kernel) (by decide +kernel)
set_option maxRecDepth 20000 in
theorem gL_law_X0_covering : GoodIn wsL_law (wsV RL 46 RX0 yX0_covering wsX0_covering) := goodIn_app (goodIn_of _ (by decide +kernel)) ggL_law_X0_covering
set_option maxRecDepth 20000 in
theorem ggL_law_X1_covering : GoodIn wsL_law wsX1_covering := goodIn_r _ [150, 34, 58, 124, 125, 126, 5, 127, 128, 129, 21, 130, 131, 132, 133, 63, 64, 65, 66, 59, 60, 61, 62, 167, 168, 169] (by decide +kernel) (by decide +kernel)
set_option maxRecDepth 20000 in
theorem gL_law_X1_covering : GoodIn wsL_law (wsV RL 49 RX1 yX1_covering wsX1_covering) := goodIn_app (goodIn_of _ (by decide +kernel)) ggL_law_X1_covering
set_option maxRecDepth 20000 in
theorem ggL_law_X0_next : GoodIn wsL_law wsX0_next := goodIn_r _ [154, 155, 156, 157, 158, 16, 99, 100, 2, 101, 102, 103, 104, 105, 106, 107, 44, 45, 46, 47, 13, 14, 48, 49, 50, 51, 52, 53, 108, 109, 110, 111, 163, 164, 165, 166] (by decide +kernel) (by decide +kernel)
set_option maxRecDepth 20000 in
theorem gL_law_X0_next : GoodIn wsL_law (wsV RL 50 RX0 yX0_next wsX0_next) := goodIn_app (goodIn_of _ (by decide +kernel)) ggL_law_X0_next
set_option maxRecDepth 20000 in
theorem ggL_law_X1_next : GoodIn wsL_law wsX1_next := goodIn_r _ [162, 34, 58, 124, 125, 126, 5, 127, 128, 129, 21, 130, 131, 132, 133, 63, 64, 65, 66, 59, 60, 61, 62, 167, 168, 169] (by decide +kernel) (by decide +kernel)
set_option maxRecDepth 20000 in
theorem gL_law_X1_next : GoodIn wsL_law (wsV RL 53 RX1 yX1_next wsX1_next) := goodIn_app (goodIn_of _ (by decide +kernel)) ggL_law_X1_next
theorem dL_law_0 : decode cL_law 0 = .ok (.new 7, 3) := by decide +kernel
theorem dL_law_3 : decode cL_law 3 = .ok (.dup, 1) := by decide +kernel
theorem dL_law_4 : decode cL_law 4 = .ok (.invokespecial 9, 3) := by decide +kernel
theorem dL_law_7 : decode cL_law 7 = .ok (.astore_n 1, 1) := by decide +kernel
theorem dL_law_8 : decode cL_law 8 = .ok (.new 10, 3) := by decide +kernel
theorem dL_law_11 : decode cL_law 11 = .ok (.dup, 1) := by decide +kernel
theorem dL_law_12 : decode cL_law 12 = .ok (.invokespecial 12, 3) := by decide +kernel
theorem dL_law_15 : decode cL_law 15 = .ok (.astore_n 2, 1) := by decide +kernel
theorem dL_law_16 : decode cL_law 16 = .ok (.iconst 0, 1) := by decide +kernel
theorem dL_law_17 : decode cL_law 17 = .ok (.istore_n 3, 1) := by decide +kernel
theorem dL_law_18 : decode cL_law 18 = .ok (.iload_n 3, 1) := by decide +kernel
theorem dL_law_19 : decode cL_law 19 = .ok (.aload_n 0, 1) := by decide +kernel
theorem dL_law_20 : decode cL_law 20 = .ok (.arraylength, 1) := by decide +kernel
theorem dL_law_21 : decode cL_law 21 = .ok (.iconst 5, 1) := by decide +kernel
theorem dL_law_22 : decode cL_law 22 = .ok (.isub, 1) := by decide +kernel
theorem dL_law_23 : decode cL_law 23 = .ok (.if_icmp .gt 332, 3) := by decide +kernel
theorem dL_law_26 : decode cL_law 26 = .ok (.aload_n 0, 1) := by decide +kernel
theorem dL_law_27 : decode cL_law 27 = .ok (.iload_n 3, 1) := by decide +kernel
theorem dL_law_28 : decode cL_law 28 = .ok (.iaload, 1) := by decide +kernel
theorem dL_law_29 : decode cL_law 29 = .ok (.bipush 15, 2) := by decide +kernel
theorem dL_law_31 : decode cL_law 31 = .ok (.iand, 1) := by decide +kernel
theorem dL_law_32 : decode cL_law 32 = .ok (.tableswitch 317 0 8 #[52, 105, 118, 129, 142, 165, 208, 241, 274], 52) := by decide +kernel
theorem dL_law_84 : decode cL_law 84 = .ok (.aload_n 1, 1) := by decide +kernel
theorem dL_law_85 : decode cL_law 85 = .ok (.aload_n 0, 1) := by decide +kernel
theorem dL_law_86 : decode cL_law 86 = .ok (.iload_n 3, 1) := by decide +kernel
theorem dL_law_87 : decode cL_law 87 = .ok (.iconst 1, 1) := by decide +kernel
theorem dL_law_88 : decode cL_law 88 = .ok (.iadd, 1) := by decide +kernel
theorem dL_law_89 : decode cL_law 89 = .ok (.iaload, 1) := by decide +kernel
theorem dL_law_90 : decode cL_law 90 = .ok (.aload_n 0, 1) := by decide +kernel
theorem dL_law_91 : decode cL_law 91 = .ok (.iload_n 3, 1) := by decide +kernel
theorem dL_law_92 : decode cL_law 92 = .ok (.iconst 2, 1) := by decide +kernel
theorem dL_law_93 : decode cL_law 93 = .ok (.iadd, 1) := by decide +kernel
theorem dL_law_94 : decode cL_law 94 = .ok (.iaload, 1) := by decide +kernel
theorem dL_law_95 : decode cL_law 95 = .ok (.aload_n 0, 1) := by decide +kernel
theorem dL_law_96 : decode cL_law 96 = .ok (.iload_n 3, 1) := by decide +kernel
theorem dL_law_97 : decode cL_law 97 = .ok (.iconst 3, 1) := by decide +kernel
theorem dL_law_98 : decode cL_law 98 = .ok (.iadd, 1) := by decide +kernel
theorem dL_law_99 : decode cL_law 99 = .ok (.iaload, 1) := by decide +kernel
theorem dL_law_100 : decode cL_law 100 = .ok (.aload_n 0, 1) := by decide +kernel
theorem dL_law_101 : decode cL_law 101 = .ok (.iload_n 3, 1) := by decide +kernel
theorem dL_law_102 : decode cL_law 102 = .ok (.iconst 4, 1) := by decide +kernel
theorem dL_law_103 : decode cL_law 103 = .ok (.iadd, 1) := by decide +kernel
theorem dL_law_104 : decode cL_law 104 = .ok (.iaload, 1) := by decide +kernel
theorem dL_law_105 : decode cL_law 105 = .ok (.invokevirtual 13, 3) := by decide +kernel
theorem dL_law_108 : decode cL_law 108 = .ok (.aload_n 2, 1) := by decide +kernel
theorem dL_law_109 : decode cL_law 109 = .ok (.aload_n 0, 1) := by decide +kernel
theorem dL_law_110 : decode cL_law 110 = .ok (.iload_n 3, 1) := by decide +kernel
theorem dL_law_111 : decode cL_law 111 = .ok (.iconst 1, 1) := by decide +kernel
theorem dL_law_112 : decode cL_law 112 = .ok (.iadd, 1) := by decide +kernel
theorem dL_law_113 : decode cL_law 113 = .ok (.iaload, 1) := by decide +kernel
theorem dL_law_114 : decode cL_law 114 = .ok (.aload_n 0, 1) := by decide +kernel
theorem dL_law_115 : decode cL_law 115 = .ok (.iload_n 3, 1) := by decide +kernel
theorem dL_law_116 : decode cL_law 116 = .ok (.iconst 2, 1) := by decide +kernel
theorem dL_law_117 : decode cL_law 117 = .ok (.iadd, 1) := by decide +kernel
theorem dL_law_118 : decode cL_law 118 = .ok (.iaload, 1) := by decide +kernel
theorem dL_law_119 : decode cL_law 119 = .ok (.aload_n 0, 1) := by decide +kernel
theorem dL_law_120 : decode cL_law 120 = .ok (.iload_n 3, 1) := by decide +kernel
theorem dL_law_121 : decode cL_law 121 = .ok (.iconst 3, 1) := by decide +kernel
theorem dL_law_122 : decode cL_law 122 = .ok (.iadd, 1) := by decide +kernel
theorem dL_law_123 : decode cL_law 123 = .ok (.iaload, 1) := by decide +kernel
theorem dL_law_124 : decode cL_law 124 = .ok (.aload_n 0, 1) := by decide +kernel
theorem dL_law_125 : decode cL_law 125 = .ok (.iload_n 3, 1) := by decide +kernel
theorem dL_law_126 : decode cL_law 126 = .ok (.iconst 4, 1) := by decide +kernel
theorem dL_law_127 : decode cL_law 127 = .ok (.iadd, 1) := by decide +kernel
theorem dL_law_128 : decode cL_law 128 = .ok (.iaload, 1) := by decide +kernel
theorem dL_law_129 : decode cL_law 129 = .ok (.invokevirtual 17, 3) := by decide +kernel
theorem dL_law_132 : decode cL_law 132 = .ok (.if_icmp .eq 217, 3) := by decide +kernel
theorem dL_law_135 : decode cL_law 135 = .ok (.iconst 0, 1) := by decide +kernel
theorem dL_law_136 : decode cL_law 136 = .ok (.ireturn, 1) := by decide +kernel
theorem dL_law_137 : decode cL_law 137 = .ok (.aload_n 1, 1) := by decide +kernel
theorem dL_law_138 : decode cL_law 138 = .ok (.invokevirtual 18, 3) := by decide +kernel
theorem dL_law_141 : decode cL_law 141 = .ok (.aload_n 2, 1) := by decide +kernel
theorem dL_law_142 : decode cL_law 142 = .ok (.invokevirtual 22, 3) := by decide +kernel
theorem dL_law_145 : decode cL_law 145 = .ok (.if_icmp .eq 204, 3) := by decide +kernel
theorem dL_law_148 : decode cL_law 148 = .ok (.iconst 0, 1) := by decide +kernel
theorem dL_law_149 : decode cL_law 149 = .ok (.ireturn, 1) := by decide +kernel
theorem dL_law_150 : decode cL_law 150 = .ok (.aload_n 1, 1) := by decide +kernel
theorem dL_law_151 : decode cL_law 151 = .ok (.invokevirtual 23, 3) := by decide +kernel
theorem dL_law_154 : decode cL_law 154 = .ok (.aload_n 2, 1) := by decide +kernel
theorem dL_law_155 : decode cL_law 155 = .ok (.invokevirtual 26, 3) := by decide +kernel
theorem dL_law_158 : decode cL_law 158 = .ok (.goto 191, 3) := by decide +kernel
theorem dL_law_161 : decode cL_law 161 = .ok (.aload_n 1, 1) := by decide +kernel
theorem dL_law_162 : decode cL_law 162 = .ok (.invokevirtual 27, 3) := by decide +kernel
theorem dL_law_165 : decode cL_law 165 = .ok (.aload_n 2, 1) := by decide +kernel
theorem dL_law_166 : decode cL_law 166 = .ok (.invokevirtual 30, 3) := by decide +kernel
theorem dL_law_169 : decode cL_law 169 = .ok (.if_icmp .eq 180, 3) := by decide +kernel
theorem dL_law_172 : decode cL_law 172 = .ok (.iconst 0, 1) := by decide +kernel
theorem dL_law_173 : decode cL_law 173 = .ok (.ireturn, 1) := by decide +kernel
theorem dL_law_174 : decode cL_law 174 = .ok (.aload_n 1, 1) := by decide +kernel
theorem dL_law_175 : decode cL_law 175 = .ok (.aload_n 0, 1) := by decide +kernel
theorem dL_law_176 : decode cL_law 176 = .ok (.iload_n 3, 1) := by decide +kernel
theorem dL_law_177 : decode cL_law 177 = .ok (.iconst 1, 1) := by decide +kernel
theorem dL_law_178 : decode cL_law 178 = .ok (.iadd, 1) := by decide +kernel
theorem dL_law_179 : decode cL_law 179 = .ok (.iaload, 1) := by decide +kernel
theorem dL_law_180 : decode cL_law 180 = .ok (.invokevirtual 31, 3) := by decide +kernel
theorem dL_law_183 : decode cL_law 183 = .ok (.aload_n 2, 1) := by decide +kernel
theorem dL_law_184 : decode cL_law 184 = .ok (.aload_n 0, 1) := by decide +kernel
theorem dL_law_185 : decode cL_law 185 = .ok (.iload_n 3, 1) := by decide +kernel
theorem dL_law_186 : decode cL_law 186 = .ok (.iconst 1, 1) := by decide +kernel
theorem dL_law_187 : decode cL_law 187 = .ok (.iadd, 1) := by decide +kernel
theorem dL_law_188 : decode cL_law 188 = .ok (.iaload, 1) := by decide +kernel
theorem dL_law_189 : decode cL_law 189 = .ok (.invokevirtual 35, 3) := by decide +kernel
theorem dL_law_192 : decode cL_law 192 = .ok (.if_icmp .eq 157, 3) := by decide +kernel
theorem dL_law_195 : decode cL_law 195 = .ok (.iconst 0, 1) := by decide +kernel
theorem dL_law_196 : decode cL_law 196 = .ok (.ireturn, 1) := by decide +kernel
theorem dL_law_197 : decode cL_law 197 = .ok (.aload_n 1, 1) := by decide +kernel
theorem dL_law_198 : decode cL_law 198 = .ok (.aload_n 0, 1) := by decide +kernel
theorem dL_law_199 : decode cL_law 199 = .ok (.iload_n 3, 1) := by decide +kernel
theorem dL_law_200 : decode cL_law 200 = .ok (.iconst 1, 1) := by decide +kernel
theorem dL_law_201 : decode cL_law 201 = .ok (.iadd, 1) := by decide +kernel
theorem dL_law_202 : decode cL_law 202 = .ok (.iaload, 1) := by decide +kernel
theorem dL_law_203 : decode cL_law 203 = .ok (.aload_n 0, 1) := by decide +kernel
theorem dL_law_204 : decode cL_law 204 = .ok (.iload_n 3, 1) := by decide +kernel
theorem dL_law_205 : decode cL_law 205 = .ok (.iconst 2, 1) := by decide +kernel
theorem dL_law_206 : decode cL_law 206 = .ok (.iadd, 1) := by decide +kernel
theorem dL_law_207 : decode cL_law 207 = .ok (.iaload, 1) := by decide +kernel
theorem dL_law_208 : decode cL_law 208 = .ok (.aload_n 0, 1) := by decide +kernel
theorem dL_law_209 : decode cL_law 209 = .ok (.iload_n 3, 1) := by decide +kernel
theorem dL_law_210 : decode cL_law 210 = .ok (.iconst 3, 1) := by decide +kernel
theorem dL_law_211 : decode cL_law 211 = .ok (.iadd, 1) := by decide +kernel
theorem dL_law_212 : decode cL_law 212 = .ok (.iaload, 1) := by decide +kernel
theorem dL_law_213 : decode cL_law 213 = .ok (.invokevirtual 36, 3) := by decide +kernel
theorem dL_law_216 : decode cL_law 216 = .ok (.aload_n 2, 1) := by decide +kernel
theorem dL_law_217 : decode cL_law 217 = .ok (.aload_n 0, 1) := by decide +kernel
theorem dL_law_218 : decode cL_law 218 = .ok (.iload_n 3, 1) := by decide +kernel
theorem dL_law_219 : decode cL_law 219 = .ok (.iconst 1, 1) := by decide +kernel
theorem dL_law_220 : decode cL_law 220 = .ok (.iadd, 1) := by decide +kernel
theorem dL_law_221 : decode cL_law 221 = .ok (.iaload, 1) := by decide +kernel
theorem dL_law_222 : decode cL_law 222 = .ok (.aload_n 0, 1) := by decide +kernel
theorem dL_law_223 : decode cL_law 223 = .ok (.iload_n 3, 1) := by decide +kernel
theorem dL_law_224 : decode cL_law 224 = .ok (.iconst 2, 1) := by decide +kernel
theorem dL_law_225 : decode cL_law 225 = .ok (.iadd, 1) := by decide +kernel
theorem dL_law_226 : decode cL_law 226 = .ok (.iaload, 1) := by decide +kernel
theorem dL_law_227 : decode cL_law 227 = .ok (.aload_n 0, 1) := by decide +kernel
theorem dL_law_228 : decode cL_law 228 = .ok (.iload_n 3, 1) := by decide +kernel
theorem dL_law_229 : decode cL_law 229 = .ok (.iconst 3, 1) := by decide +kernel
theorem dL_law_230 : decode cL_law 230 = .ok (.iadd, 1) := by decide +kernel
theorem dL_law_231 : decode cL_law 231 = .ok (.iaload, 1) := by decide +kernel
theorem dL_law_232 : decode cL_law 232 = .ok (.invokevirtual 40, 3) := by decide +kernel
theorem dL_law_235 : decode cL_law 235 = .ok (.if_icmp .eq 114, 3) := by decide +kernel
theorem dL_law_238 : decode cL_law 238 = .ok (.iconst 0, 1) := by decide +kernel
theorem dL_law_239 : decode cL_law 239 = .ok (.ireturn, 1) := by decide +kernel
theorem dL_law_240 : decode cL_law 240 = .ok (.aload_n 1, 1) := by decide +kernel
theorem dL_law_241 : decode cL_law 241 = .ok (.aload_n 0, 1) := by decide +kernel
theorem dL_law_242 : decode cL_law 242 = .ok (.iload_n 3, 1) := by decide +kernel
theorem dL_law_243 : decode cL_law 243 = .ok (.iconst 1, 1) := by decide +kernel
theorem dL_law_244 : decode cL_law 244 = .ok (.iadd, 1) := by decide +kernel
theorem dL_law_245 : decode cL_law 245 = .ok (.iaload, 1) := by decide +kernel
theorem dL_law_246 : decode cL_law 246 = .ok (.aload_n 0, 1) := by decide +kernel
theorem dL_law_247 : decode cL_law 247 = .ok (.iload_n 3, 1) := by decide +kernel
theorem dL_law_248 : decode cL_law 248 = .ok (.iconst 2, 1) := by decide +kernel
theorem dL_law_249 : decode cL_law 249 = .ok (.iadd, 1) := by decide +kernel
theorem dL_law_250 : decode cL_law 250 = .ok (.iaload, 1) := by decide +kernel
theorem dL_law_251 : decode cL_law 251 = .ok (.invokevirtual 41, 3) := by decide +kernel
theorem dL_law_254 : decode cL_law 254 = .ok (.aload_n 2, 1) := by decide +kernel
theorem dL_law_255 : decode cL_law 255 = .ok (.aload_n 0, 1) := by decide +kernel
theorem dL_law_256 : decode cL_law 256 = .ok (.iload_n 3, 1) := by decide +kernel
theorem dL_law_257 : decode cL_law 257 = .ok (.iconst 1, 1) := by decide +kernel
theorem dL_law_258 : decode cL_law 258 = .ok (.iadd, 1) := by decide +kernel
theorem dL_law_259 : decode cL_law 259 = .ok (.iaload, 1) := by decide +kernel
theorem dL_law_260 : decode cL_law 260 = .ok (.aload_n 0, 1) := by decide +kernel
theorem dL_law_261 : decode cL_law 261 = .ok (.iload_n 3, 1) := by decide +kernel
theorem dL_law_262 : decode cL_law 262 = .ok (.iconst 2, 1) := by decide +kernel
theorem dL_law_263 : decode cL_law 263 = .ok (.iadd, 1) := by decide +kernel
theorem dL_law_264 : decode cL_law 264 = .ok (.iaload, 1) := by decide +kernel
theorem dL_law_265 : decode cL_law 265 = .ok (.invokevirtual 45, 3) := by decide +kernel
theorem dL_law_268 : decode cL_law 268 = .ok (.if_icmp .eq 81, 3) := by decide +kernel
theorem dL_law_271 : decode cL_law 271 = .ok (.iconst 0, 1) := by decide +kernel
theorem dL_law_272 : decode cL_law 272 = .ok (.ireturn, 1) := by decide +kernel
theorem dL_law_273 : decode cL_law 273 = .ok (.aload_n 1, 1) := by decide +kernel
theorem dL_law_274 : decode cL_law 274 = .ok (.aload_n 0, 1) := by decide +kernel
theorem dL_law_275 : decode cL_law 275 = .ok (.iload_n 3, 1) := by decide +kernel
theorem dL_law_276 : decode cL_law 276 = .ok (.iconst 1, 1) := by decide +kernel
theorem dL_law_277 : decode cL_law 277 = .ok (.iadd, 1) := by decide +kernel
theorem dL_law_278 : decode cL_law 278 = .ok (.iaload, 1) := by decide +kernel
theorem dL_law_279 : decode cL_law 279 = .ok (.aload_n 0, 1) := by decide +kernel
theorem dL_law_280 : decode cL_law 280 = .ok (.iload_n 3, 1) := by decide +kernel
theorem dL_law_281 : decode cL_law 281 = .ok (.iconst 2, 1) := by decide +kernel
theorem dL_law_282 : decode cL_law 282 = .ok (.iadd, 1) := by decide +kernel
theorem dL_law_283 : decode cL_law 283 = .ok (.iaload, 1) := by decide +kernel
theorem dL_law_284 : decode cL_law 284 = .ok (.invokevirtual 46, 3) := by decide +kernel
theorem dL_law_287 : decode cL_law 287 = .ok (.aload_n 2, 1) := by decide +kernel
theorem dL_law_288 : decode cL_law 288 = .ok (.aload_n 0, 1) := by decide +kernel
theorem dL_law_289 : decode cL_law 289 = .ok (.iload_n 3, 1) := by decide +kernel
theorem dL_law_290 : decode cL_law 290 = .ok (.iconst 1, 1) := by decide +kernel
theorem dL_law_291 : decode cL_law 291 = .ok (.iadd, 1) := by decide +kernel
theorem dL_law_292 : decode cL_law 292 = .ok (.iaload, 1) := by decide +kernel
theorem dL_law_293 : decode cL_law 293 = .ok (.aload_n 0, 1) := by decide +kernel
theorem dL_law_294 : decode cL_law 294 = .ok (.iload_n 3, 1) := by decide +kernel
theorem dL_law_295 : decode cL_law 295 = .ok (.iconst 2, 1) := by decide +kernel
theorem dL_law_296 : decode cL_law 296 = .ok (.iadd, 1) := by decide +kernel
theorem dL_law_297 : decode cL_law 297 = .ok (.iaload, 1) := by decide +kernel
theorem dL_law_298 : decode cL_law 298 = .ok (.invokevirtual 49, 3) := by decide +kernel
theorem dL_law_301 : decode cL_law 301 = .ok (.if_icmp .eq 48, 3) := by decide +kernel
theorem dL_law_304 : decode cL_law 304 = .ok (.iconst 0, 1) := by decide +kernel
theorem dL_law_305 : decode cL_law 305 = .ok (.ireturn, 1) := by decide +kernel
theorem dL_law_306 : decode cL_law 306 = .ok (.aload_n 1, 1) := by decide +kernel
theorem dL_law_307 : decode cL_law 307 = .ok (.aload_n 0, 1) := by decide +kernel
theorem dL_law_308 : decode cL_law 308 = .ok (.iload_n 3, 1) := by decide +kernel
theorem dL_law_309 : decode cL_law 309 = .ok (.iconst 1, 1) := by decide +kernel
theorem dL_law_310 : decode cL_law 310 = .ok (.iadd, 1) := by decide +kernel
theorem dL_law_311 : decode cL_law 311 = .ok (.iaload, 1) := by decide +kernel
theorem dL_law_312 : decode cL_law 312 = .ok (.aload_n 0, 1) := by decide +kernel
theorem dL_law_313 : decode cL_law 313 = .ok (.iload_n 3, 1) := by decide +kernel
theorem dL_law_314 : decode cL_law 314 = .ok (.iconst 2, 1) := by decide +kernel
theorem dL_law_315 : decode cL_law 315 = .ok (.iadd, 1) := by decide +kernel
theorem dL_law_316 : decode cL_law 316 = .ok (.iaload, 1) := by decide +kernel
theorem dL_law_317 : decode cL_law 317 = .ok (.aload_n 0, 1) := by decide +kernel
theorem dL_law_318 : decode cL_law 318 = .ok (.iload_n 3, 1) := by decide +kernel
theorem dL_law_319 : decode cL_law 319 = .ok (.iconst 3, 1) := by decide +kernel
theorem dL_law_320 : decode cL_law 320 = .ok (.iadd, 1) := by decide +kernel
theorem dL_law_321 : decode cL_law 321 = .ok (.iaload, 1) := by decide +kernel
theorem dL_law_322 : decode cL_law 322 = .ok (.invokevirtual 50, 3) := by decide +kernel
theorem dL_law_325 : decode cL_law 325 = .ok (.aload_n 2, 1) := by decide +kernel
theorem dL_law_326 : decode cL_law 326 = .ok (.aload_n 0, 1) := by decide +kernel
theorem dL_law_327 : decode cL_law 327 = .ok (.iload_n 3, 1) := by decide +kernel
theorem dL_law_328 : decode cL_law 328 = .ok (.iconst 1, 1) := by decide +kernel
theorem dL_law_329 : decode cL_law 329 = .ok (.iadd, 1) := by decide +kernel
theorem dL_law_330 : decode cL_law 330 = .ok (.iaload, 1) := by decide +kernel
theorem dL_law_331 : decode cL_law 331 = .ok (.aload_n 0, 1) := by decide +kernel
theorem dL_law_332 : decode cL_law 332 = .ok (.iload_n 3, 1) := by decide +kernel
theorem dL_law_333 : decode cL_law 333 = .ok (.iconst 2, 1) := by decide +kernel
theorem dL_law_334 : decode cL_law 334 = .ok (.iadd, 1) := by decide +kernel
theorem dL_law_335 : decode cL_law 335 = .ok (.iaload, 1) := by decide +kernel
theorem dL_law_336 : decode cL_law 336 = .ok (.aload_n 0, 1) := by decide +kernel
theorem dL_law_337 : decode cL_law 337 = .ok (.iload_n 3, 1) := by decide +kernel
theorem dL_law_338 : decode cL_law 338 = .ok (.iconst 3, 1) := by decide +kernel
theorem dL_law_339 : decode cL_law 339 = .ok (.iadd, 1) := by decide +kernel
theorem dL_law_340 : decode cL_law 340 = .ok (.iaload, 1) := by decide +kernel
theorem dL_law_341 : decode cL_law 341 = .ok (.invokevirtual 53, 3) := by decide +kernel
theorem dL_law_344 : decode cL_law 344 = .ok (.if_icmp .eq 5, 3) := by decide +kernel
theorem dL_law_347 : decode cL_law 347 = .ok (.iconst 0, 1) := by decide +kernel
theorem dL_law_348 : decode cL_law 348 = .ok (.ireturn, 1) := by decide +kernel
theorem dL_law_349 : decode cL_law 349 = .ok (.iinc 3 5, 3) := by decide +kernel
theorem dL_law_352 : decode cL_law 352 = .ok (.goto (-334), 3) := by decide +kernel
theorem dL_law_355 : decode cL_law 355 = .ok (.iconst 1, 1) := by decide +kernel
theorem dL_law_356 : decode cL_law 356 = .ok (.ireturn, 1) := by decide +kernel
abbrev vwCl : List vw_C := [(RX0, TX0, 4), (RX1, TX1, 3)]
