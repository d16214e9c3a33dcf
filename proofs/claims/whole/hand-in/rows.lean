section
def lw_okq (q : MethodName × Nat) : Prop := (q.1.cls ≠ "java/lang/invoke/MethodHandle" ∧ q.1.cls ≠ "java/lang/invoke/VarHandle") ∧ Cond.instantiable q.1.cls q.2 ∈ tables_1 ∧ Cond.privateMethod q.1 ∈ tables_1 ∧ Cond.instanceMethod q.1 ∈ tables_1
theorem lw_p0 : lw_okq (⟨"PieceBoxes", "areaOf", "(I)J"⟩, 4) := ⟨⟨by decide +kernel, by decide +kernel⟩, List.mem_of_getElem? (i := 5) (by decide +kernel), List.mem_of_getElem? (i := 39) (by decide +kernel), List.mem_of_getElem? (i := 40) (by decide +kernel)⟩
theorem lw_p1 : lw_okq (⟨"PieceBoxes", "edge", "(IIJJ)J"⟩, 4) := ⟨⟨by decide +kernel, by decide +kernel⟩, List.mem_of_getElem? (i := 5) (by decide +kernel), List.mem_of_getElem? (i := 43) (by decide +kernel), List.mem_of_getElem? (i := 44) (by decide +kernel)⟩
theorem lw_p2 : lw_okq (⟨"PieceBoxes", "isPiece", "(I)Z"⟩, 4) := ⟨⟨by decide +kernel, by decide +kernel⟩, List.mem_of_getElem? (i := 5) (by decide +kernel), List.mem_of_getElem? (i := 65) (by decide +kernel), List.mem_of_getElem? (i := 66) (by decide +kernel)⟩
theorem lw_p3 : lw_okq (⟨"PieceBoxes", "covers", "(IJJ)Z"⟩, 4) := ⟨⟨by decide +kernel, by decide +kernel⟩, List.mem_of_getElem? (i := 5) (by decide +kernel), List.mem_of_getElem? (i := 78) (by decide +kernel), List.mem_of_getElem? (i := 79) (by decide +kernel)⟩
theorem lw_p4 : lw_okq (⟨"PieceBoxes", "ownsEdge", "(II)Z"⟩, 4) := ⟨⟨by decide +kernel, by decide +kernel⟩, List.mem_of_getElem? (i := 5) (by decide +kernel), List.mem_of_getElem? (i := 82) (by decide +kernel), List.mem_of_getElem? (i := 83) (by decide +kernel)⟩
theorem lw_p5 : lw_okq (⟨"PieceBoxes", "nearnessOf", "(IJJ)I"⟩, 4) := ⟨⟨by decide +kernel, by decide +kernel⟩, List.mem_of_getElem? (i := 5) (by decide +kernel), List.mem_of_getElem? (i := 86) (by decide +kernel), List.mem_of_getElem? (i := 87) (by decide +kernel)⟩
theorem lw_p6 : lw_okq (⟨"PieceBoxesModel", "areaAt", "(I)J"⟩, 3) := ⟨⟨by decide +kernel, by decide +kernel⟩, List.mem_of_getElem? (i := 109) (by decide +kernel), List.mem_of_getElem? (i := 134) (by decide +kernel), List.mem_of_getElem? (i := 135) (by decide +kernel)⟩
theorem lw_p7 : lw_okq (⟨"PieceBoxesModel", "edge", "(IIJJ)J"⟩, 3) := ⟨⟨by decide +kernel, by decide +kernel⟩, List.mem_of_getElem? (i := 109) (by decide +kernel), List.mem_of_getElem? (i := 138) (by decide +kernel), List.mem_of_getElem? (i := 139) (by decide +kernel)⟩
theorem lw_p8 : lw_okq (⟨"PieceBoxesModel", "nearAt", "(III)I"⟩, 3) := ⟨⟨by decide +kernel, by decide +kernel⟩, List.mem_of_getElem? (i := 109) (by decide +kernel), List.mem_of_getElem? (i := 158) (by decide +kernel), List.mem_of_getElem? (i := 159) (by decide +kernel)⟩
theorem lw_p9 : lw_okq (⟨"PieceBoxesModel", "holds", "(IIJJ)Z"⟩, 3) := ⟨⟨by decide +kernel, by decide +kernel⟩, List.mem_of_getElem? (i := 109) (by decide +kernel), List.mem_of_getElem? (i := 164) (by decide +kernel), List.mem_of_getElem? (i := 165) (by decide +kernel)⟩
def lw_privs_1 : List (MethodName × Nat) := [(⟨"PieceBoxes", "areaOf", "(I)J"⟩, 4), (⟨"PieceBoxes", "edge", "(IIJJ)J"⟩, 4), (⟨"PieceBoxes", "isPiece", "(I)Z"⟩, 4), (⟨"PieceBoxes", "covers", "(IJJ)Z"⟩, 4), (⟨"PieceBoxes", "ownsEdge", "(II)Z"⟩, 4), (⟨"PieceBoxes", "nearnessOf", "(IJJ)I"⟩, 4), (⟨"PieceBoxesModel", "areaAt", "(I)J"⟩, 3), (⟨"PieceBoxesModel", "edge", "(IIJJ)J"⟩, 3), (⟨"PieceBoxesModel", "nearAt", "(III)I"⟩, 3), (⟨"PieceBoxesModel", "holds", "(IIJJ)Z"⟩, 3)]
theorem lw_r1 : ∀ q ∈ lw_privs_1, lw_okq q := List.forall_mem_cons.mpr ⟨lw_p0, List.forall_mem_cons.mpr ⟨lw_p1, List.forall_mem_cons.mpr ⟨lw_p2, List.forall_mem_cons.mpr ⟨lw_p3, List.forall_mem_cons.mpr ⟨lw_p4, List.forall_mem_cons.mpr ⟨lw_p5, List.forall_mem_cons.mpr ⟨lw_p6, List.forall_mem_cons.mpr ⟨lw_p7, List.forall_mem_cons.mpr ⟨lw_p8, List.forall_mem_cons.mpr ⟨lw_p9, fun _ h => absurd h List.not_mem_nil⟩⟩⟩⟩⟩⟩⟩⟩⟩⟩
def lw_privs : List (MethodName × Nat) := lw_privs_1
def lw_tbl : List Cond := k2_sels lw_privs ++ tables_1
theorem lw_privs_ok : ∀ q ∈ lw_privs, lw_okq q := lw_r1
end
section
/-! ===== BEGIN words of one list among another's, by their places ===== -/
theorem goodIn_r {big : List Cond} (ws : List Cond) (ps : List Nat) (hp : ws = ps.filterMap (fun i => big[i]?)) (h : ws.all goodWord = true) : GoodIn big ws := by
  intro w hw
  have h1 := List.all_eq_true.mp h w hw
  rw [hp] at hw
  obtain ⟨i, -, hi⟩ := List.mem_filterMap.mp hw
  have hm : w ∈ big := by first | exact List.mem_of_getElem? hi | exact List.getElem?_mem hi
  exact ⟨hm, good_of_word h1⟩
theorem goodIn_app {big a b : List Cond} (ha : GoodIn big a) (hb : GoodIn big b) : GoodIn big (a ++ b) := fun w h => (List.mem_append.mp h).elim (ha w) (hb w)
theorem goodIn_ca {big a b : List Cond} {c : Cond} (ha : GoodIn big (c :: a)) (hb : GoodIn big b) : GoodIn big (c :: (a ++ b)) := fun w h => (List.mem_cons.mp h).elim (fun e => ha w (List.mem_cons.mpr (Or.inl e))) (fun h => (List.mem_append.mp h).elim (fun h => ha w (List.mem_cons.mpr (Or.inr h))) (hb w))
theorem goodIn_sub {big ws : List Cond} (hm : ∀ w ∈ ws, w ∈ big) (h : ws.all goodWord = true) : GoodIn big ws := fun w hw => ⟨hm w hw, good_of_word (List.all_eq_true.mp h w hw)⟩
/-! ===== END ===== -/

/-! ===== BEGIN printed: names, fields, word lists, decode rows ===== -/
def RX0 : String := "PieceBoxes"
def TX0 : u_T := fun k => match k with
  | 0 => ("PieceBoxes", "xs", "[I", true)
  | 1 => ("PieceBoxes", "ys", "[I", true)
  | 2 => ("PieceBoxes", "rs", "[I", true)
  | _ => ("PieceBoxes", "pieces", "I", false)
def tyX0 : Nat → FieldType := fun k => match k with
  | 0 => .array .int
  | 1 => .array .int
  | 2 => .array .int
  | _ => .int
abbrev wsX00 : List Cond := u_ws RX0 TX0 4
theorem nmX0 : ∀ a, a < 4 → ∀ b, b < 4 → a ≠ b → (TX0 a).2.1 ≠ (TX0 b).2.1 := by decide +kernel
theorem tyX0_ok : ∀ k, k < 4 → parseFieldDescriptor (TX0 k).2.2.1 = some (tyX0 k) := by decide +kernel
abbrev cX0_init : ByteArray := prog_1_method_1_code
def yX0_init : MethodName := ⟨RX0, "<init>", "()V"⟩
abbrev cX0_corner : ByteArray := prog_1_method_2_code
def yX0_corner : MethodName := ⟨RX0, "corner", "(IIII)Z"⟩
abbrev cX0_add : ByteArray := prog_1_method_3_code
def yX0_add : MethodName := ⟨RX0, "add", "()I"⟩
abbrev cX0_clear : ByteArray := prog_1_method_4_code
def yX0_clear : MethodName := ⟨RX0, "clear", "()V"⟩
abbrev cX0_count : ByteArray := prog_1_method_5_code
def yX0_count : MethodName := ⟨RX0, "count", "()I"⟩
abbrev cX0_area : ByteArray := prog_1_method_6_code
def yX0_area : MethodName := ⟨RX0, "area", "(I)I"⟩
abbrev cX0_near : ByteArray := prog_1_method_7_code
def yX0_near : MethodName := ⟨RX0, "near", "(III)I"⟩
abbrev cX0_nearest : ByteArray := prog_1_method_8_code
def yX0_nearest : MethodName := ⟨RX0, "nearest", "(II)I"⟩
abbrev cX0_covering : ByteArray := prog_1_method_9_code
def yX0_covering : MethodName := ⟨RX0, "covering", "(II)I"⟩
abbrev cX0_next : ByteArray := prog_1_method_10_code
def yX0_next : MethodName := ⟨RX0, "next", "(III)I"⟩
abbrev cX0_isOnGrid : ByteArray := prog_1_method_11_code
def yX0_isOnGrid : MethodName := ⟨RX0, "isOnGrid", "(I)Z"⟩
abbrev cX0_middle : ByteArray := prog_1_method_12_code
def yX0_middle : MethodName := ⟨RX0, "middle", "(I)J"⟩
abbrev cX0_isPiece : ByteArray := prog_1_method_13_code
def yX0_isPiece : MethodName := ⟨RX0, "isPiece", "(I)Z"⟩
abbrev cX0_areaOf : ByteArray := prog_1_method_14_code
def yX0_areaOf : MethodName := ⟨RX0, "areaOf", "(I)J"⟩
abbrev cX0_edge : ByteArray := prog_1_method_15_code
def yX0_edge : MethodName := ⟨RX0, "edge", "(IIJJ)J"⟩
abbrev cX0_edgeStart : ByteArray := prog_1_method_16_code
def yX0_edgeStart : MethodName := ⟨RX0, "edgeStart", "(II)I"⟩
abbrev cX0_edgeEnd : ByteArray := prog_1_method_17_code
def yX0_edgeEnd : MethodName := ⟨RX0, "edgeEnd", "(II)I"⟩
abbrev cX0_covers : ByteArray := prog_1_method_18_code
def yX0_covers : MethodName := ⟨RX0, "covers", "(IJJ)Z"⟩
abbrev cX0_ownsEdge : ByteArray := prog_1_method_19_code
def yX0_ownsEdge : MethodName := ⟨RX0, "ownsEdge", "(II)Z"⟩
abbrev cX0_nearnessOf : ByteArray := prog_1_method_20_code
def yX0_nearnessOf : MethodName := ⟨RX0, "nearnessOf", "(IJJ)I"⟩
def RX1 : String := "PieceBoxesModel"
def TX1 : u_T := fun k => match k with
  | 0 => ("PieceBoxesModel", "thrown", "I", false)
  | 1 => ("PieceBoxesModel", "many", "I", false)
  | _ => ("PieceBoxesModel", "corners", "[I", true)
def tyX1 : Nat → FieldType := fun k => match k with
  | 0 => .int
  | 1 => .int
  | _ => .array .int
abbrev wsX10 : List Cond := u_ws RX1 TX1 3
theorem nmX1 : ∀ a, a < 3 → ∀ b, b < 3 → a ≠ b → (TX1 a).2.1 ≠ (TX1 b).2.1 := by decide +kernel
theorem tyX1_ok : ∀ k, k < 3 → parseFieldDescriptor (TX1 k).2.2.1 = some (tyX1 k) := by decide +kernel
abbrev cX1_init : ByteArray := prog_3_method_1_code
def yX1_init : MethodName := ⟨RX1, "<init>", "()V"⟩
abbrev cX1_corner : ByteArray := prog_3_method_3_code
def yX1_corner : MethodName := ⟨RX1, "corner", "(IIII)Z"⟩
abbrev cX1_edge : ByteArray := prog_3_method_4_code
def yX1_edge : MethodName := ⟨RX1, "edge", "(IIJJ)J"⟩
abbrev cX1_areaAt : ByteArray := prog_3_method_5_code
def yX1_areaAt : MethodName := ⟨RX1, "areaAt", "(I)J"⟩
abbrev cX1_add : ByteArray := prog_3_method_6_code
def yX1_add : MethodName := ⟨RX1, "add", "()I"⟩
abbrev cX1_clear : ByteArray := prog_3_method_7_code
def yX1_clear : MethodName := ⟨RX1, "clear", "()V"⟩
abbrev cX1_count : ByteArray := prog_3_method_8_code
def yX1_count : MethodName := ⟨RX1, "count", "()I"⟩
abbrev cX1_area : ByteArray := prog_3_method_9_code
def yX1_area : MethodName := ⟨RX1, "area", "(I)I"⟩
abbrev cX1_holds : ByteArray := prog_3_method_10_code
def yX1_holds : MethodName := ⟨RX1, "holds", "(IIJJ)Z"⟩
abbrev cX1_nearAt : ByteArray := prog_3_method_11_code
def yX1_nearAt : MethodName := ⟨RX1, "nearAt", "(III)I"⟩
abbrev cX1_near : ByteArray := prog_3_method_12_code
def yX1_near : MethodName := ⟨RX1, "near", "(III)I"⟩
abbrev cX1_nearest : ByteArray := prog_3_method_13_code
def yX1_nearest : MethodName := ⟨RX1, "nearest", "(II)I"⟩
abbrev cX1_covering : ByteArray := prog_3_method_14_code
def yX1_covering : MethodName := ⟨RX1, "covering", "(II)I"⟩
abbrev cX1_next : ByteArray := prog_3_method_15_code
def yX1_next : MethodName := ⟨RX1, "next", "(III)I"⟩
def RJ9 : String := "java/lang/Math"
def TJ9 : u_T := fun k => match k with
  | _ => ("", "", "", false)
def tyJ9 : Nat → FieldType := fun k => match k with
  | _ => .int
abbrev wsJ90 : List Cond := u_ws RJ9 TJ9 0
theorem nmJ9 : ∀ a, a < 0 → ∀ b, b < 0 → a ≠ b → (TJ9 a).2.1 ≠ (TJ9 b).2.1 := by decide +kernel
theorem tyJ9_ok : ∀ k, k < 0 → parseFieldDescriptor (TJ9 k).2.2.1 = some (tyJ9 k) := by decide +kernel
abbrev cJ9_floorDiv_f86c9 : ByteArray := prog_4_method_49_code
def yJ9_floorDiv_f86c9 : MethodName := ⟨RJ9, "floorDiv", "(JJ)J"⟩
abbrev cJ9_max_7cf53 : ByteArray := prog_4_method_65_code
def yJ9_max_7cf53 : MethodName := ⟨RJ9, "max", "(II)I"⟩
def RL : String := "PieceBoxesLaw"
abbrev cL_law : ByteArray := code
def yL_law : MethodName := ⟨RL, "law", "([I)Z"⟩
def wsX0_init : List Cond := .code yX0_init cX0_init 3 none :: ([.methodLink RX0 3 objectInit, .instanceMethod objectInit, .code objectInit ⟨#[0xb1]⟩ 1 none, .arrayClass .int, .fieldLink RX0 9 "PieceBoxes" "xs" "[I", .fieldLink RX0 13 "PieceBoxes" "ys" "[I", .fieldLink RX0 16 "PieceBoxes" "rs" "[I", .fieldLink RX0 19 "PieceBoxes" "pieces" "I"] ++ wsX00)
def wsX0_isOnGrid : List Cond := .code yX0_isOnGrid cX0_isOnGrid 1 (some .boolean) :: ([])
def wsX0_corner : List Cond := .code yX0_corner cX0_corner 6 (some .boolean) :: ([.constant RX0 27 (1048576), .fieldLink RX0 9 "PieceBoxes" "xs" "[I", .fieldLink RX0 13 "PieceBoxes" "ys" "[I", .fieldLink RX0 16 "PieceBoxes" "rs" "[I", .methodLink RX0 23 yX0_isOnGrid, .static yX0_isOnGrid, .initialized RX0, .code yX0_isOnGrid cX0_isOnGrid 1 (some .boolean)] ++ wsX00)
def wsX0_edgeStart : List Cond := .code yX0_edgeStart cX0_edgeStart 2 (some .int) :: ([])
def wsX0_edgeEnd : List Cond := .code yX0_edgeEnd cX0_edgeEnd 2 (some .int) :: ([])
def wsX0_edge : List Cond := .code yX0_edge cX0_edge 13 (some .long) :: ([.fieldLink RX0 9 "PieceBoxes" "xs" "[I", .fieldLink RX0 13 "PieceBoxes" "ys" "[I", .methodLink RX0 64 yX0_edgeStart, .static yX0_edgeStart, .initialized RX0, .code yX0_edgeStart cX0_edgeStart 2 (some .int), .methodLink RX0 67 yX0_edgeEnd, .static yX0_edgeEnd, .code yX0_edgeEnd cX0_edgeEnd 2 (some .int)] ++ wsX00)
def wsX0_areaOf : List Cond := .code yX0_areaOf cX0_areaOf 3 (some .long) :: ([.fieldLink RX0 9 "PieceBoxes" "xs" "[I", .fieldLink RX0 13 "PieceBoxes" "ys" "[I", .methodLink RX0 60 yX0_edge, .instanceMethod yX0_edge, .selects RX0 yX0_edge yX0_edge, .initialized RX0, .code yX0_edge cX0_edge 13 (some .long), .methodLink RX0 64 yX0_edgeStart, .static yX0_edgeStart, .code yX0_edgeStart cX0_edgeStart 2 (some .int), .methodLink RX0 67 yX0_edgeEnd, .static yX0_edgeEnd, .code yX0_edgeEnd cX0_edgeEnd 2 (some .int)] ++ wsX00)
def wsX0_add : List Cond := .code yX0_add cX0_add 5 (some .int) :: ([.fieldLink RX0 19 "PieceBoxes" "pieces" "I", .fieldLink RX0 9 "PieceBoxes" "xs" "[I", .fieldLink RX0 13 "PieceBoxes" "ys" "[I", .fieldLink RX0 16 "PieceBoxes" "rs" "[I", .methodLink RX0 28 yX0_areaOf, .instanceMethod yX0_areaOf, .selects RX0 yX0_areaOf yX0_areaOf, .initialized RX0, .code yX0_areaOf cX0_areaOf 3 (some .long), .methodLink RX0 60 yX0_edge, .instanceMethod yX0_edge, .selects RX0 yX0_edge yX0_edge, .code yX0_edge cX0_edge 13 (some .long), .methodLink RX0 64 yX0_edgeStart, .static yX0_edgeStart, .code yX0_edgeStart cX0_edgeStart 2 (some .int), .methodLink RX0 67 yX0_edgeEnd, .static yX0_edgeEnd, .code yX0_edgeEnd cX0_edgeEnd 2 (some .int)] ++ wsX00)
def wsX0_clear : List Cond := .code yX0_clear cX0_clear 1 none :: ([.fieldLink RX0 19 "PieceBoxes" "pieces" "I"] ++ wsX00)
def wsX0_count : List Cond := .code yX0_count cX0_count 1 (some .int) :: ([.fieldLink RX0 19 "PieceBoxes" "pieces" "I"] ++ wsX00)
def wsX0_isPiece : List Cond := .code yX0_isPiece cX0_isPiece 2 (some .boolean) :: ([.fieldLink RX0 19 "PieceBoxes" "pieces" "I"] ++ wsX00)
def wsX0_area : List Cond := .code yX0_area cX0_area 2 (some .int) :: ([.methodLink RX0 32 yX0_isPiece, .instanceMethod yX0_isPiece, .selects RX0 yX0_isPiece yX0_isPiece, .initialized RX0, .code yX0_isPiece cX0_isPiece 2 (some .boolean), .fieldLink RX0 19 "PieceBoxes" "pieces" "I", .methodLink RX0 28 yX0_areaOf, .instanceMethod yX0_areaOf, .selects RX0 yX0_areaOf yX0_areaOf, .code yX0_areaOf cX0_areaOf 3 (some .long), .fieldLink RX0 9 "PieceBoxes" "xs" "[I", .fieldLink RX0 13 "PieceBoxes" "ys" "[I", .methodLink RX0 60 yX0_edge, .instanceMethod yX0_edge, .selects RX0 yX0_edge yX0_edge, .code yX0_edge cX0_edge 13 (some .long), .methodLink RX0 64 yX0_edgeStart, .static yX0_edgeStart, .code yX0_edgeStart cX0_edgeStart 2 (some .int), .methodLink RX0 67 yX0_edgeEnd, .static yX0_edgeEnd, .code yX0_edgeEnd cX0_edgeEnd 2 (some .int)] ++ wsX00)
def wsX0_middle : List Cond := .code yX0_middle cX0_middle 1 (some .long) :: ([.constantLong RX0 56 (16), .constantLong RX0 58 (8)])
def wsX0_ownsEdge : List Cond := .code yX0_ownsEdge cX0_ownsEdge 5 (some .boolean) :: ([.fieldLink RX0 13 "PieceBoxes" "ys" "[I", .fieldLink RX0 9 "PieceBoxes" "xs" "[I", .methodLink RX0 64 yX0_edgeStart, .static yX0_edgeStart, .initialized RX0, .code yX0_edgeStart cX0_edgeStart 2 (some .int), .methodLink RX0 67 yX0_edgeEnd, .static yX0_edgeEnd, .code yX0_edgeEnd cX0_edgeEnd 2 (some .int)] ++ wsX00)
def wsX0_covers : List Cond := .code yX0_covers cX0_covers 9 (some .boolean) :: ([.methodLink RX0 60 yX0_edge, .instanceMethod yX0_edge, .selects RX0 yX0_edge yX0_edge, .initialized RX0, .code yX0_edge cX0_edge 13 (some .long), .fieldLink RX0 9 "PieceBoxes" "xs" "[I", .fieldLink RX0 13 "PieceBoxes" "ys" "[I", .methodLink RX0 64 yX0_edgeStart, .static yX0_edgeStart, .code yX0_edgeStart cX0_edgeStart 2 (some .int), .methodLink RX0 67 yX0_edgeEnd, .static yX0_edgeEnd, .code yX0_edgeEnd cX0_edgeEnd 2 (some .int), .methodLink RX0 70 yX0_ownsEdge, .instanceMethod yX0_ownsEdge, .selects RX0 yX0_ownsEdge yX0_ownsEdge, .code yX0_ownsEdge cX0_ownsEdge 5 (some .boolean)] ++ wsX00)
def wsJ9_floorDiv_f86c9 : List Cond := .code yJ9_floorDiv_f86c9 cJ9_floorDiv_f86c9 6 (some .long) :: ([])
def wsX0_nearnessOf : List Cond := .code yX0_nearnessOf cX0_nearnessOf 10 (some .int) :: ([.fieldLink RX0 16 "PieceBoxes" "rs" "[I", .methodLink RX0 60 yX0_edge, .instanceMethod yX0_edge, .selects RX0 yX0_edge yX0_edge, .initialized RX0, .code yX0_edge cX0_edge 13 (some .long), .fieldLink RX0 9 "PieceBoxes" "xs" "[I", .fieldLink RX0 13 "PieceBoxes" "ys" "[I", .methodLink RX0 64 yX0_edgeStart, .static yX0_edgeStart, .code yX0_edgeStart cX0_edgeStart 2 (some .int), .methodLink RX0 67 yX0_edgeEnd, .static yX0_edgeEnd, .code yX0_edgeEnd cX0_edgeEnd 2 (some .int), .methodLink RX0 28 yX0_areaOf, .instanceMethod yX0_areaOf, .selects RX0 yX0_areaOf yX0_areaOf, .code yX0_areaOf cX0_areaOf 3 (some .long), .methodLink RX0 74 yJ9_floorDiv_f86c9, .static yJ9_floorDiv_f86c9, .initialized RJ9, .code yJ9_floorDiv_f86c9 cJ9_floorDiv_f86c9 6 (some .long)] ++ wsX00)
def wsX0_near_r1 : List Cond := [Cond.methodLink RX0 32 yX0_isPiece, Cond.instanceMethod yX0_isPiece, Cond.selects RX0 yX0_isPiece yX0_isPiece, Cond.initialized RX0, Cond.code yX0_isPiece cX0_isPiece 2 (some .boolean), Cond.fieldLink RX0 19 "PieceBoxes" "pieces" "I", Cond.methodLink RX0 35 yX0_middle, Cond.static yX0_middle, Cond.code yX0_middle cX0_middle 1 (some .long), Cond.constantLong RX0 56 (16), Cond.constantLong RX0 58 (8), Cond.methodLink RX0 38 yX0_covers, Cond.instanceMethod yX0_covers, Cond.selects RX0 yX0_covers yX0_covers, Cond.code yX0_covers cX0_covers 9 (some .boolean), Cond.methodLink RX0 60 yX0_edge, Cond.instanceMethod yX0_edge, Cond.selects RX0 yX0_edge yX0_edge, Cond.code yX0_edge cX0_edge 13 (some .long), Cond.fieldLink RX0 9 "PieceBoxes" "xs" "[I", Cond.fieldLink RX0 13 "PieceBoxes" "ys" "[I", Cond.methodLink RX0 64 yX0_edgeStart, Cond.static yX0_edgeStart, Cond.code yX0_edgeStart cX0_edgeStart 2 (some .int)]
def wsX0_near_r2 : List Cond := [Cond.methodLink RX0 67 yX0_edgeEnd, Cond.static yX0_edgeEnd, Cond.code yX0_edgeEnd cX0_edgeEnd 2 (some .int), Cond.methodLink RX0 70 yX0_ownsEdge, Cond.instanceMethod yX0_ownsEdge, Cond.selects RX0 yX0_ownsEdge yX0_ownsEdge, Cond.code yX0_ownsEdge cX0_ownsEdge 5 (some .boolean), Cond.methodLink RX0 42 yX0_nearnessOf, Cond.instanceMethod yX0_nearnessOf, Cond.selects RX0 yX0_nearnessOf yX0_nearnessOf, Cond.code yX0_nearnessOf cX0_nearnessOf 10 (some .int), Cond.fieldLink RX0 16 "PieceBoxes" "rs" "[I", Cond.methodLink RX0 28 yX0_areaOf, Cond.instanceMethod yX0_areaOf, Cond.selects RX0 yX0_areaOf yX0_areaOf, Cond.code yX0_areaOf cX0_areaOf 3 (some .long), Cond.methodLink RX0 74 yJ9_floorDiv_f86c9, Cond.static yJ9_floorDiv_f86c9, Cond.initialized RJ9, Cond.code yJ9_floorDiv_f86c9 cJ9_floorDiv_f86c9 6 (some .long)]
def wsX0_near : List Cond := .code yX0_near cX0_near 4 (some .int) :: ((wsX0_near_r1 ++ wsX0_near_r2) ++ wsX00)
def wsX0_nearest_r1 : List Cond := [Cond.fieldLink RX0 19 "PieceBoxes" "pieces" "I", Cond.methodLink RX0 46 yX0_near, Cond.instanceMethod yX0_near, Cond.selects RX0 yX0_near yX0_near, Cond.initialized RX0, Cond.code yX0_near cX0_near 4 (some .int), Cond.methodLink RX0 32 yX0_isPiece, Cond.instanceMethod yX0_isPiece, Cond.selects RX0 yX0_isPiece yX0_isPiece, Cond.code yX0_isPiece cX0_isPiece 2 (some .boolean), Cond.methodLink RX0 35 yX0_middle, Cond.static yX0_middle, Cond.code yX0_middle cX0_middle 1 (some .long), Cond.constantLong RX0 56 (16), Cond.constantLong RX0 58 (8), Cond.methodLink RX0 38 yX0_covers, Cond.instanceMethod yX0_covers, Cond.selects RX0 yX0_covers yX0_covers, Cond.code yX0_covers cX0_covers 9 (some .boolean), Cond.methodLink RX0 60 yX0_edge, Cond.instanceMethod yX0_edge, Cond.selects RX0 yX0_edge yX0_edge, Cond.code yX0_edge cX0_edge 13 (some .long), Cond.fieldLink RX0 9 "PieceBoxes" "xs" "[I"]
def wsX0_nearest_r2 : List Cond := [Cond.fieldLink RX0 13 "PieceBoxes" "ys" "[I", Cond.methodLink RX0 64 yX0_edgeStart, Cond.static yX0_edgeStart, Cond.code yX0_edgeStart cX0_edgeStart 2 (some .int), Cond.methodLink RX0 67 yX0_edgeEnd, Cond.static yX0_edgeEnd, Cond.code yX0_edgeEnd cX0_edgeEnd 2 (some .int), Cond.methodLink RX0 70 yX0_ownsEdge, Cond.instanceMethod yX0_ownsEdge, Cond.selects RX0 yX0_ownsEdge yX0_ownsEdge, Cond.code yX0_ownsEdge cX0_ownsEdge 5 (some .boolean), Cond.methodLink RX0 42 yX0_nearnessOf, Cond.instanceMethod yX0_nearnessOf, Cond.selects RX0 yX0_nearnessOf yX0_nearnessOf, Cond.code yX0_nearnessOf cX0_nearnessOf 10 (some .int), Cond.fieldLink RX0 16 "PieceBoxes" "rs" "[I", Cond.methodLink RX0 28 yX0_areaOf, Cond.instanceMethod yX0_areaOf, Cond.selects RX0 yX0_areaOf yX0_areaOf, Cond.code yX0_areaOf cX0_areaOf 3 (some .long), Cond.methodLink RX0 74 yJ9_floorDiv_f86c9, Cond.static yJ9_floorDiv_f86c9, Cond.initialized RJ9, Cond.code yJ9_floorDiv_f86c9 cJ9_floorDiv_f86c9 6 (some .long)]
def wsX0_nearest : List Cond := .code yX0_nearest cX0_nearest 7 (some .int) :: ((wsX0_nearest_r1 ++ wsX0_nearest_r2) ++ wsX00)
def wsX0_covering_r1 : List Cond := [Cond.fieldLink RX0 19 "PieceBoxes" "pieces" "I", Cond.methodLink RX0 35 yX0_middle, Cond.static yX0_middle, Cond.initialized RX0, Cond.code yX0_middle cX0_middle 1 (some .long), Cond.constantLong RX0 56 (16), Cond.constantLong RX0 58 (8), Cond.methodLink RX0 38 yX0_covers, Cond.instanceMethod yX0_covers, Cond.selects RX0 yX0_covers yX0_covers, Cond.code yX0_covers cX0_covers 9 (some .boolean), Cond.methodLink RX0 60 yX0_edge, Cond.instanceMethod yX0_edge, Cond.selects RX0 yX0_edge yX0_edge, Cond.code yX0_edge cX0_edge 13 (some .long), Cond.fieldLink RX0 9 "PieceBoxes" "xs" "[I", Cond.fieldLink RX0 13 "PieceBoxes" "ys" "[I", Cond.methodLink RX0 64 yX0_edgeStart, Cond.static yX0_edgeStart, Cond.code yX0_edgeStart cX0_edgeStart 2 (some .int), Cond.methodLink RX0 67 yX0_edgeEnd, Cond.static yX0_edgeEnd, Cond.code yX0_edgeEnd cX0_edgeEnd 2 (some .int), Cond.methodLink RX0 70 yX0_ownsEdge]
def wsX0_covering_r2 : List Cond := [Cond.instanceMethod yX0_ownsEdge, Cond.selects RX0 yX0_ownsEdge yX0_ownsEdge, Cond.code yX0_ownsEdge cX0_ownsEdge 5 (some .boolean)]
def wsX0_covering : List Cond := .code yX0_covering cX0_covering 5 (some .int) :: ((wsX0_covering_r1 ++ wsX0_covering_r2) ++ wsX00)
def wsX0_next_r1 : List Cond := [Cond.methodLink RX0 50 Lib.Math.max.name, Cond.static Lib.Math.max.name, Cond.initialized "java/lang/Math", Cond.code Lib.Math.max.name Lib.Math.max.code 2 (some .int), Cond.fieldLink RX0 19 "PieceBoxes" "pieces" "I", Cond.methodLink RX0 35 yX0_middle, Cond.static yX0_middle, Cond.initialized RX0, Cond.code yX0_middle cX0_middle 1 (some .long), Cond.constantLong RX0 56 (16), Cond.constantLong RX0 58 (8), Cond.methodLink RX0 38 yX0_covers, Cond.instanceMethod yX0_covers, Cond.selects RX0 yX0_covers yX0_covers, Cond.code yX0_covers cX0_covers 9 (some .boolean), Cond.methodLink RX0 60 yX0_edge, Cond.instanceMethod yX0_edge, Cond.selects RX0 yX0_edge yX0_edge, Cond.code yX0_edge cX0_edge 13 (some .long), Cond.fieldLink RX0 9 "PieceBoxes" "xs" "[I", Cond.fieldLink RX0 13 "PieceBoxes" "ys" "[I", Cond.methodLink RX0 64 yX0_edgeStart, Cond.static yX0_edgeStart, Cond.code yX0_edgeStart cX0_edgeStart 2 (some .int)]
def wsX0_next_r2 : List Cond := [Cond.methodLink RX0 67 yX0_edgeEnd, Cond.static yX0_edgeEnd, Cond.code yX0_edgeEnd cX0_edgeEnd 2 (some .int), Cond.methodLink RX0 70 yX0_ownsEdge, Cond.instanceMethod yX0_ownsEdge, Cond.selects RX0 yX0_ownsEdge yX0_ownsEdge, Cond.code yX0_ownsEdge cX0_ownsEdge 5 (some .boolean)]
def wsX0_next : List Cond := .code yX0_next cX0_next 5 (some .int) :: ((wsX0_next_r1 ++ wsX0_next_r2) ++ wsX00)
def wsX1_init : List Cond := .code yX1_init cX1_init 2 none :: ([.methodLink RX1 1 objectInit, .instanceMethod objectInit, .code objectInit ⟨#[0xb1]⟩ 1 none, .arrayClass .int, .fieldLink RX1 7 "PieceBoxesModel" "corners" "[I"] ++ wsX10)
def wsX1_corner : List Cond := .code yX1_corner cX1_corner 6 (some .boolean) :: ([.fieldLink RX1 13 "PieceBoxesModel" "thrown" "I", .constant RX1 17 (1048576), .fieldLink RX1 7 "PieceBoxesModel" "corners" "[I"] ++ wsX10)
def wsX1_edge : List Cond := .code yX1_edge cX1_edge 7 (some .long) :: ([.fieldLink RX1 7 "PieceBoxesModel" "corners" "[I"] ++ wsX10)
def wsX1_areaAt : List Cond := .code yX1_areaAt cX1_areaAt 2 (some .long) :: ([.fieldLink RX1 7 "PieceBoxesModel" "corners" "[I", .methodLink RX1 18 yX1_edge, .instanceMethod yX1_edge, .selects RX1 yX1_edge yX1_edge, .initialized RX1, .code yX1_edge cX1_edge 7 (some .long)] ++ wsX10)
def wsX1_add : List Cond := .code yX1_add cX1_add 2 (some .int) :: ([.fieldLink RX1 13 "PieceBoxesModel" "thrown" "I", .fieldLink RX1 22 "PieceBoxesModel" "many" "I", .fieldLink RX1 7 "PieceBoxesModel" "corners" "[I", .methodLink RX1 25 yX1_areaAt, .instanceMethod yX1_areaAt, .selects RX1 yX1_areaAt yX1_areaAt, .initialized RX1, .code yX1_areaAt cX1_areaAt 2 (some .long), .methodLink RX1 18 yX1_edge, .instanceMethod yX1_edge, .selects RX1 yX1_edge yX1_edge, .code yX1_edge cX1_edge 7 (some .long)] ++ wsX10)
def wsX1_clear : List Cond := .code yX1_clear cX1_clear 1 none :: ([.fieldLink RX1 13 "PieceBoxesModel" "thrown" "I", .fieldLink RX1 22 "PieceBoxesModel" "many" "I"] ++ wsX10)
def wsX1_count : List Cond := .code yX1_count cX1_count 1 (some .int) :: ([.fieldLink RX1 13 "PieceBoxesModel" "thrown" "I", .fieldLink RX1 22 "PieceBoxesModel" "many" "I"] ++ wsX10)
def wsX1_area : List Cond := .code yX1_area cX1_area 2 (some .int) :: ([.fieldLink RX1 13 "PieceBoxesModel" "thrown" "I", .fieldLink RX1 22 "PieceBoxesModel" "many" "I", .methodLink RX1 25 yX1_areaAt, .instanceMethod yX1_areaAt, .selects RX1 yX1_areaAt yX1_areaAt, .initialized RX1, .code yX1_areaAt cX1_areaAt 2 (some .long), .fieldLink RX1 7 "PieceBoxesModel" "corners" "[I", .methodLink RX1 18 yX1_edge, .instanceMethod yX1_edge, .selects RX1 yX1_edge yX1_edge, .code yX1_edge cX1_edge 7 (some .long)] ++ wsX10)
def wsX1_holds : List Cond := .code yX1_holds cX1_holds 10 (some .boolean) :: ([.fieldLink RX1 7 "PieceBoxesModel" "corners" "[I", .methodLink RX1 18 yX1_edge, .instanceMethod yX1_edge, .selects RX1 yX1_edge yX1_edge, .initialized RX1, .code yX1_edge cX1_edge 7 (some .long)] ++ wsX10)
def wsX1_nearAt : List Cond := .code yX1_nearAt cX1_nearAt 11 (some .int) :: ([.constantLong RX1 29 (16), .constantLong RX1 31 (8), .fieldLink RX1 7 "PieceBoxesModel" "corners" "[I", .methodLink RX1 33 yX1_holds, .instanceMethod yX1_holds, .selects RX1 yX1_holds yX1_holds, .initialized RX1, .code yX1_holds cX1_holds 10 (some .boolean), .methodLink RX1 18 yX1_edge, .instanceMethod yX1_edge, .selects RX1 yX1_edge yX1_edge, .code yX1_edge cX1_edge 7 (some .long), .methodLink RX1 25 yX1_areaAt, .instanceMethod yX1_areaAt, .selects RX1 yX1_areaAt yX1_areaAt, .code yX1_areaAt cX1_areaAt 2 (some .long)] ++ wsX10)
def wsX1_near : List Cond := .code yX1_near cX1_near 4 (some .int) :: ([.fieldLink RX1 13 "PieceBoxesModel" "thrown" "I", .fieldLink RX1 22 "PieceBoxesModel" "many" "I", .methodLink RX1 37 yX1_nearAt, .instanceMethod yX1_nearAt, .selects RX1 yX1_nearAt yX1_nearAt, .initialized RX1, .code yX1_nearAt cX1_nearAt 11 (some .int), .constantLong RX1 29 (16), .constantLong RX1 31 (8), .fieldLink RX1 7 "PieceBoxesModel" "corners" "[I", .methodLink RX1 33 yX1_holds, .instanceMethod yX1_holds, .selects RX1 yX1_holds yX1_holds, .code yX1_holds cX1_holds 10 (some .boolean), .methodLink RX1 18 yX1_edge, .instanceMethod yX1_edge, .selects RX1 yX1_edge yX1_edge, .code yX1_edge cX1_edge 7 (some .long), .methodLink RX1 25 yX1_areaAt, .instanceMethod yX1_areaAt, .selects RX1 yX1_areaAt yX1_areaAt, .code yX1_areaAt cX1_areaAt 2 (some .long)] ++ wsX10)
def wsX1_nearest : List Cond := .code yX1_nearest cX1_nearest 7 (some .int) :: ([.fieldLink RX1 13 "PieceBoxesModel" "thrown" "I", .fieldLink RX1 22 "PieceBoxesModel" "many" "I", .methodLink RX1 37 yX1_nearAt, .instanceMethod yX1_nearAt, .selects RX1 yX1_nearAt yX1_nearAt, .initialized RX1, .code yX1_nearAt cX1_nearAt 11 (some .int), .constantLong RX1 29 (16), .constantLong RX1 31 (8), .fieldLink RX1 7 "PieceBoxesModel" "corners" "[I", .methodLink RX1 33 yX1_holds, .instanceMethod yX1_holds, .selects RX1 yX1_holds yX1_holds, .code yX1_holds cX1_holds 10 (some .boolean), .methodLink RX1 18 yX1_edge, .instanceMethod yX1_edge, .selects RX1 yX1_edge yX1_edge, .code yX1_edge cX1_edge 7 (some .long), .methodLink RX1 25 yX1_areaAt, .instanceMethod yX1_areaAt, .selects RX1 yX1_areaAt yX1_areaAt, .code yX1_areaAt cX1_areaAt 2 (some .long)] ++ wsX10)
def wsX1_covering : List Cond := .code yX1_covering cX1_covering 5 (some .int) :: ([.fieldLink RX1 13 "PieceBoxesModel" "thrown" "I", .fieldLink RX1 22 "PieceBoxesModel" "many" "I", .methodLink RX1 37 yX1_nearAt, .instanceMethod yX1_nearAt, .selects RX1 yX1_nearAt yX1_nearAt, .initialized RX1, .code yX1_nearAt cX1_nearAt 11 (some .int), .constantLong RX1 29 (16), .constantLong RX1 31 (8), .fieldLink RX1 7 "PieceBoxesModel" "corners" "[I", .methodLink RX1 33 yX1_holds, .instanceMethod yX1_holds, .selects RX1 yX1_holds yX1_holds, .code yX1_holds cX1_holds 10 (some .boolean), .methodLink RX1 18 yX1_edge, .instanceMethod yX1_edge, .selects RX1 yX1_edge yX1_edge, .code yX1_edge cX1_edge 7 (some .long), .methodLink RX1 25 yX1_areaAt, .instanceMethod yX1_areaAt, .selects RX1 yX1_areaAt yX1_areaAt, .code yX1_areaAt cX1_areaAt 2 (some .long)] ++ wsX10)
def wsX1_next : List Cond := .code yX1_next cX1_next 5 (some .int) :: ([.fieldLink RX1 13 "PieceBoxesModel" "thrown" "I", .fieldLink RX1 22 "PieceBoxesModel" "many" "I", .methodLink RX1 37 yX1_nearAt, .instanceMethod yX1_nearAt, .selects RX1 yX1_nearAt yX1_nearAt, .initialized RX1, .code yX1_nearAt cX1_nearAt 11 (some .int), .constantLong RX1 29 (16), .constantLong RX1 31 (8), .fieldLink RX1 7 "PieceBoxesModel" "corners" "[I", .methodLink RX1 33 yX1_holds, .instanceMethod yX1_holds, .selects RX1 yX1_holds yX1_holds, .code yX1_holds cX1_holds 10 (some .boolean), .methodLink RX1 18 yX1_edge, .instanceMethod yX1_edge, .selects RX1 yX1_edge yX1_edge, .code yX1_edge cX1_edge 7 (some .long), .methodLink RX1 25 yX1_areaAt, .instanceMethod yX1_areaAt, .selects RX1 yX1_areaAt yX1_areaAt, .code yX1_areaAt cX1_areaAt 2 (some .long)] ++ wsX10)
def wsJ9_max_7cf53 : List Cond := .code yJ9_max_7cf53 cJ9_max_7cf53 2 (some .int) :: ([])
def wsL_law_r1 : List Cond := [Cond.classLink RL 7 RX0, Cond.instantiable RX0 4, Cond.initialized RX0, Cond.classLink RL 10 RX1, Cond.instantiable RX1 3, Cond.initialized RX1, Cond.methodLink RL 9 yX0_init, Cond.instanceMethod yX0_init, Cond.code yX0_init cX0_init 3 none, Cond.methodLink RX0 3 objectInit, Cond.instanceMethod objectInit, Cond.code objectInit ⟨#[0xb1]⟩ 1 none, Cond.arrayClass .int, Cond.fieldLink RX0 9 "PieceBoxes" "xs" "[I", Cond.fieldLink RX0 13 "PieceBoxes" "ys" "[I", Cond.fieldLink RX0 16 "PieceBoxes" "rs" "[I", Cond.fieldLink RX0 19 "PieceBoxes" "pieces" "I", Cond.methodLink RL 12 yX1_init, Cond.instanceMethod yX1_init, Cond.code yX1_init cX1_init 2 none, Cond.methodLink RX1 1 objectInit, Cond.fieldLink RX1 7 "PieceBoxesModel" "corners" "[I", Cond.methodLink RL 13 yX0_corner, Cond.instanceMethod yX0_corner]
def wsL_law_r2 : List Cond := [Cond.selects RX0 yX0_corner yX0_corner, Cond.code yX0_corner cX0_corner 6 (some .boolean), Cond.constant RX0 27 (1048576), Cond.methodLink RX0 23 yX0_isOnGrid, Cond.static yX0_isOnGrid, Cond.code yX0_isOnGrid cX0_isOnGrid 1 (some .boolean), Cond.methodLink RL 17 yX1_corner, Cond.instanceMethod yX1_corner, Cond.selects RX1 yX1_corner yX1_corner, Cond.code yX1_corner cX1_corner 6 (some .boolean), Cond.fieldLink RX1 13 "PieceBoxesModel" "thrown" "I", Cond.constant RX1 17 (1048576), Cond.methodLink RL 18 yX0_add, Cond.instanceMethod yX0_add, Cond.selects RX0 yX0_add yX0_add, Cond.code yX0_add cX0_add 5 (some .int), Cond.methodLink RX0 28 yX0_areaOf, Cond.instanceMethod yX0_areaOf, Cond.selects RX0 yX0_areaOf yX0_areaOf, Cond.code yX0_areaOf cX0_areaOf 3 (some .long), Cond.methodLink RX0 60 yX0_edge, Cond.instanceMethod yX0_edge, Cond.selects RX0 yX0_edge yX0_edge, Cond.code yX0_edge cX0_edge 13 (some .long)]
def wsL_law_r3 : List Cond := [Cond.methodLink RX0 64 yX0_edgeStart, Cond.static yX0_edgeStart, Cond.code yX0_edgeStart cX0_edgeStart 2 (some .int), Cond.methodLink RX0 67 yX0_edgeEnd, Cond.static yX0_edgeEnd, Cond.code yX0_edgeEnd cX0_edgeEnd 2 (some .int), Cond.methodLink RL 22 yX1_add, Cond.instanceMethod yX1_add, Cond.selects RX1 yX1_add yX1_add, Cond.code yX1_add cX1_add 2 (some .int), Cond.fieldLink RX1 22 "PieceBoxesModel" "many" "I", Cond.methodLink RX1 25 yX1_areaAt, Cond.instanceMethod yX1_areaAt, Cond.selects RX1 yX1_areaAt yX1_areaAt, Cond.code yX1_areaAt cX1_areaAt 2 (some .long), Cond.methodLink RX1 18 yX1_edge, Cond.instanceMethod yX1_edge, Cond.selects RX1 yX1_edge yX1_edge, Cond.code yX1_edge cX1_edge 7 (some .long), Cond.methodLink RL 23 yX0_clear, Cond.instanceMethod yX0_clear, Cond.selects RX0 yX0_clear yX0_clear, Cond.code yX0_clear cX0_clear 1 none, Cond.methodLink RL 26 yX1_clear]
def wsL_law_r4 : List Cond := [Cond.instanceMethod yX1_clear, Cond.selects RX1 yX1_clear yX1_clear, Cond.code yX1_clear cX1_clear 1 none, Cond.methodLink RL 27 yX0_count, Cond.instanceMethod yX0_count, Cond.selects RX0 yX0_count yX0_count, Cond.code yX0_count cX0_count 1 (some .int), Cond.methodLink RL 30 yX1_count, Cond.instanceMethod yX1_count, Cond.selects RX1 yX1_count yX1_count, Cond.code yX1_count cX1_count 1 (some .int), Cond.methodLink RL 31 yX0_area, Cond.instanceMethod yX0_area, Cond.selects RX0 yX0_area yX0_area, Cond.code yX0_area cX0_area 2 (some .int), Cond.methodLink RX0 32 yX0_isPiece, Cond.instanceMethod yX0_isPiece, Cond.selects RX0 yX0_isPiece yX0_isPiece, Cond.code yX0_isPiece cX0_isPiece 2 (some .boolean), Cond.methodLink RL 35 yX1_area, Cond.instanceMethod yX1_area, Cond.selects RX1 yX1_area yX1_area, Cond.code yX1_area cX1_area 2 (some .int), Cond.methodLink RL 36 yX0_near]
def wsL_law_r5 : List Cond := [Cond.instanceMethod yX0_near, Cond.selects RX0 yX0_near yX0_near, Cond.code yX0_near cX0_near 4 (some .int), Cond.methodLink RX0 35 yX0_middle, Cond.static yX0_middle, Cond.code yX0_middle cX0_middle 1 (some .long), Cond.constantLong RX0 56 (16), Cond.constantLong RX0 58 (8), Cond.methodLink RX0 38 yX0_covers, Cond.instanceMethod yX0_covers, Cond.selects RX0 yX0_covers yX0_covers, Cond.code yX0_covers cX0_covers 9 (some .boolean), Cond.methodLink RX0 70 yX0_ownsEdge, Cond.instanceMethod yX0_ownsEdge, Cond.selects RX0 yX0_ownsEdge yX0_ownsEdge, Cond.code yX0_ownsEdge cX0_ownsEdge 5 (some .boolean), Cond.methodLink RX0 42 yX0_nearnessOf, Cond.instanceMethod yX0_nearnessOf, Cond.selects RX0 yX0_nearnessOf yX0_nearnessOf, Cond.code yX0_nearnessOf cX0_nearnessOf 10 (some .int), Cond.methodLink RX0 74 yJ9_floorDiv_f86c9, Cond.static yJ9_floorDiv_f86c9, Cond.initialized RJ9, Cond.code yJ9_floorDiv_f86c9 cJ9_floorDiv_f86c9 6 (some .long)]
def wsL_law_r6 : List Cond := [Cond.methodLink RL 40 yX1_near, Cond.instanceMethod yX1_near, Cond.selects RX1 yX1_near yX1_near, Cond.code yX1_near cX1_near 4 (some .int), Cond.methodLink RX1 37 yX1_nearAt, Cond.instanceMethod yX1_nearAt, Cond.selects RX1 yX1_nearAt yX1_nearAt, Cond.code yX1_nearAt cX1_nearAt 11 (some .int), Cond.constantLong RX1 29 (16), Cond.constantLong RX1 31 (8), Cond.methodLink RX1 33 yX1_holds, Cond.instanceMethod yX1_holds, Cond.selects RX1 yX1_holds yX1_holds, Cond.code yX1_holds cX1_holds 10 (some .boolean), Cond.methodLink RL 41 yX0_nearest, Cond.instanceMethod yX0_nearest, Cond.selects RX0 yX0_nearest yX0_nearest, Cond.code yX0_nearest cX0_nearest 7 (some .int), Cond.methodLink RX0 46 yX0_near, Cond.methodLink RL 45 yX1_nearest, Cond.instanceMethod yX1_nearest, Cond.selects RX1 yX1_nearest yX1_nearest, Cond.code yX1_nearest cX1_nearest 7 (some .int), Cond.methodLink RL 46 yX0_covering]
def wsL_law_r7 : List Cond := [Cond.instanceMethod yX0_covering, Cond.selects RX0 yX0_covering yX0_covering, Cond.code yX0_covering cX0_covering 5 (some .int), Cond.methodLink RL 49 yX1_covering, Cond.instanceMethod yX1_covering, Cond.selects RX1 yX1_covering yX1_covering, Cond.code yX1_covering cX1_covering 5 (some .int), Cond.methodLink RL 50 yX0_next, Cond.instanceMethod yX0_next, Cond.selects RX0 yX0_next yX0_next, Cond.code yX0_next cX0_next 5 (some .int), Cond.methodLink RX0 50 Lib.Math.max.name, Cond.static Lib.Math.max.name, Cond.initialized "java/lang/Math", Cond.code Lib.Math.max.name Lib.Math.max.code 2 (some .int), Cond.methodLink RL 53 yX1_next, Cond.instanceMethod yX1_next, Cond.selects RX1 yX1_next yX1_next, Cond.code yX1_next cX1_next 5 (some .int)]
def wsL_law : List Cond := (wsL_law_r1 ++ (wsL_law_r2 ++ (wsL_law_r3 ++ (wsL_law_r4 ++ (wsL_law_r5 ++ (wsL_law_r6 ++ wsL_law_r7)))))) ++ wsX00 ++ wsX10 ++ ([] : List Cond)
set_option maxRecDepth 20000 in
theorem wsL_law_in : ∀ w ∈ wsL_law, w ∈ lw_tbl := fun w h => (goodIn_p wsL_law [18, 21, 122, 39, 42, 137, 47, 51, 55, 58, 61, 142, 146, 150, 65, 154, 69, 158, 73, 77, 162, 81, 84, 90, 94, 98, 101, 166, 170, 176, 105, 180, 110, 184, 114, 117, 188] (by decide +kernel) (by decide +kernel) w h).1
theorem inlX0 : ∀ w ∈ wsX00, w ∈ wsL_law := fun _ h => List.mem_append_left _ (List.mem_append_left _ (List.mem_append_right _ h))
theorem inX0 : ∀ w ∈ wsX00, w ∈ lw_tbl := fun w h => wsL_law_in w (inlX0 w h)
theorem inlX1 : ∀ w ∈ wsX10, w ∈ wsL_law := fun _ h => List.mem_append_left _ (List.mem_append_right _ h)
theorem inX1 : ∀ w ∈ wsX10, w ∈ lw_tbl := fun w h => wsL_law_in w (inlX1 w h)
theorem inJ9 : ∀ w ∈ wsJ90, w ∈ lw_tbl := by decide +kernel
theorem dX0_init_0 : decode cX0_init 0 = .ok (.aload_n 0, 1) := by decide +kernel
theorem dX0_init_1 : decode cX0_init 1 = .ok (.invokespecial 3, 3) := by decide +kernel
theorem dX0_init_4 : decode cX0_init 4 = .ok (.sipush 1539, 3) := by decide +kernel
theorem dX0_init_7 : decode cX0_init 7 = .ok (.istore_n 1, 1) := by decide +kernel
theorem dX0_init_8 : decode cX0_init 8 = .ok (.aload_n 0, 1) := by decide +kernel
theorem dX0_init_9 : decode cX0_init 9 = .ok (.iload_n 1, 1) := by decide +kernel
theorem dX0_init_10 : decode cX0_init 10 = .ok (.newarray .int, 2) := by decide +kernel
theorem dX0_init_12 : decode cX0_init 12 = .ok (.putfield 9, 3) := by decide +kernel
theorem dX0_init_15 : decode cX0_init 15 = .ok (.aload_n 0, 1) := by decide +kernel
theorem dX0_init_16 : decode cX0_init 16 = .ok (.iload_n 1, 1) := by decide +kernel
theorem dX0_init_17 : decode cX0_init 17 = .ok (.newarray .int, 2) := by decide +kernel
theorem dX0_init_19 : decode cX0_init 19 = .ok (.putfield 13, 3) := by decide +kernel
theorem dX0_init_22 : decode cX0_init 22 = .ok (.aload_n 0, 1) := by decide +kernel
theorem dX0_init_23 : decode cX0_init 23 = .ok (.iload_n 1, 1) := by decide +kernel
theorem dX0_init_24 : decode cX0_init 24 = .ok (.newarray .int, 2) := by decide +kernel
theorem dX0_init_26 : decode cX0_init 26 = .ok (.putfield 16, 3) := by decide +kernel
theorem dX0_init_29 : decode cX0_init 29 = .ok (.iconst 0, 1) := by decide +kernel
theorem dX0_init_30 : decode cX0_init 30 = .ok (.istore_n 2, 1) := by decide +kernel
theorem dX0_init_31 : decode cX0_init 31 = .ok (.iload_n 2, 1) := by decide +kernel
theorem dX0_init_32 : decode cX0_init 32 = .ok (.iconst 3, 1) := by decide +kernel
theorem dX0_init_33 : decode cX0_init 33 = .ok (.if_icmp .ge 20, 3) := by decide +kernel
theorem dX0_init_36 : decode cX0_init 36 = .ok (.aload_n 0, 1) := by decide +kernel
theorem dX0_init_37 : decode cX0_init 37 = .ok (.getfield 16, 3) := by decide +kernel
theorem dX0_init_40 : decode cX0_init 40 = .ok (.sipush 1536, 3) := by decide +kernel
theorem dX0_init_43 : decode cX0_init 43 = .ok (.iload_n 2, 1) := by decide +kernel
theorem dX0_init_44 : decode cX0_init 44 = .ok (.iadd, 1) := by decide +kernel
theorem dX0_init_45 : decode cX0_init 45 = .ok (.iconst 1, 1) := by decide +kernel
theorem dX0_init_46 : decode cX0_init 46 = .ok (.iastore, 1) := by decide +kernel
theorem dX0_init_47 : decode cX0_init 47 = .ok (.iinc 2 1, 3) := by decide +kernel
theorem dX0_init_50 : decode cX0_init 50 = .ok (.goto (-19), 3) := by decide +kernel
theorem dX0_init_53 : decode cX0_init 53 = .ok (.aload_n 0, 1) := by decide +kernel
theorem dX0_init_54 : decode cX0_init 54 = .ok (.iconst 0, 1) := by decide +kernel
theorem dX0_init_55 : decode cX0_init 55 = .ok (.putfield 19, 3) := by decide +kernel
theorem dX0_init_58 : decode cX0_init 58 = .ok (.return_, 1) := by decide +kernel
set_option maxRecDepth 20000 in
theorem ggX0_corner_X0_isOnGrid : GoodIn wsX0_corner wsX0_isOnGrid := goodIn_r _ [8] (by decide +kernel) (by decide +kernel)
set_option maxRecDepth 20000 in
theorem gX0_corner_X0_isOnGrid : GoodIn wsX0_corner (va_wsS RX0 23 yX0_isOnGrid wsX0_isOnGrid) := goodIn_app (goodIn_of _ (by decide +kernel)) ggX0_corner_X0_isOnGrid
theorem dX0_corner_0 : decode cX0_corner 0 = .ok (.iload_n 1, 1) := by decide +kernel
theorem dX0_corner_1 : decode cX0_corner 1 = .ok (.ifCond .lt 8, 3) := by decide +kernel
theorem dX0_corner_4 : decode cX0_corner 4 = .ok (.iload_n 1, 1) := by decide +kernel
theorem dX0_corner_5 : decode cX0_corner 5 = .ok (.iconst 3, 1) := by decide +kernel
theorem dX0_corner_6 : decode cX0_corner 6 = .ok (.if_icmp .lt 5, 3) := by decide +kernel
theorem dX0_corner_9 : decode cX0_corner 9 = .ok (.iconst 0, 1) := by decide +kernel
theorem dX0_corner_10 : decode cX0_corner 10 = .ok (.ireturn, 1) := by decide +kernel
theorem dX0_corner_11 : decode cX0_corner 11 = .ok (.iload_n 2, 1) := by decide +kernel
theorem dX0_corner_12 : decode cX0_corner 12 = .ok (.invokestatic 23, 3) := by decide +kernel
theorem dX0_corner_15 : decode cX0_corner 15 = .ok (.ifCond .eq 23, 3) := by decide +kernel
theorem dX0_corner_18 : decode cX0_corner 18 = .ok (.iload_n 3, 1) := by decide +kernel
theorem dX0_corner_19 : decode cX0_corner 19 = .ok (.invokestatic 23, 3) := by decide +kernel
theorem dX0_corner_22 : decode cX0_corner 22 = .ok (.ifCond .eq 16, 3) := by decide +kernel
theorem dX0_corner_25 : decode cX0_corner 25 = .ok (.iload 4, 2) := by decide +kernel
theorem dX0_corner_27 : decode cX0_corner 27 = .ok (.iconst 1, 1) := by decide +kernel
theorem dX0_corner_28 : decode cX0_corner 28 = .ok (.if_icmp .lt 10, 3) := by decide +kernel
theorem dX0_corner_31 : decode cX0_corner 31 = .ok (.iload 4, 2) := by decide +kernel
theorem dX0_corner_33 : decode cX0_corner 33 = .ok (.ldc 27, 2) := by decide +kernel
theorem dX0_corner_35 : decode cX0_corner 35 = .ok (.if_icmp .le 5, 3) := by decide +kernel
theorem dX0_corner_38 : decode cX0_corner 38 = .ok (.iconst 0, 1) := by decide +kernel
theorem dX0_corner_39 : decode cX0_corner 39 = .ok (.ireturn, 1) := by decide +kernel
theorem dX0_corner_40 : decode cX0_corner 40 = .ok (.sipush 1536, 3) := by decide +kernel
theorem dX0_corner_43 : decode cX0_corner 43 = .ok (.iload_n 1, 1) := by decide +kernel
theorem dX0_corner_44 : decode cX0_corner 44 = .ok (.iadd, 1) := by decide +kernel
theorem dX0_corner_45 : decode cX0_corner 45 = .ok (.istore 5, 2) := by decide +kernel
theorem dX0_corner_47 : decode cX0_corner 47 = .ok (.aload_n 0, 1) := by decide +kernel
theorem dX0_corner_48 : decode cX0_corner 48 = .ok (.getfield 9, 3) := by decide +kernel
theorem dX0_corner_51 : decode cX0_corner 51 = .ok (.iload 5, 2) := by decide +kernel
theorem dX0_corner_53 : decode cX0_corner 53 = .ok (.iload_n 2, 1) := by decide +kernel
theorem dX0_corner_54 : decode cX0_corner 54 = .ok (.iastore, 1) := by decide +kernel
theorem dX0_corner_55 : decode cX0_corner 55 = .ok (.aload_n 0, 1) := by decide +kernel
theorem dX0_corner_56 : decode cX0_corner 56 = .ok (.getfield 13, 3) := by decide +kernel
theorem dX0_corner_59 : decode cX0_corner 59 = .ok (.iload 5, 2) := by decide +kernel
theorem dX0_corner_61 : decode cX0_corner 61 = .ok (.iload_n 3, 1) := by decide +kernel
theorem dX0_corner_62 : decode cX0_corner 62 = .ok (.iastore, 1) := by decide +kernel
theorem dX0_corner_63 : decode cX0_corner 63 = .ok (.aload_n 0, 1) := by decide +kernel
theorem dX0_corner_64 : decode cX0_corner 64 = .ok (.getfield 16, 3) := by decide +kernel
theorem dX0_corner_67 : decode cX0_corner 67 = .ok (.iload 5, 2) := by decide +kernel
theorem dX0_corner_69 : decode cX0_corner 69 = .ok (.iload 4, 2) := by decide +kernel
theorem dX0_corner_71 : decode cX0_corner 71 = .ok (.iastore, 1) := by decide +kernel
theorem dX0_corner_72 : decode cX0_corner 72 = .ok (.iconst 1, 1) := by decide +kernel
theorem dX0_corner_73 : decode cX0_corner 73 = .ok (.ireturn, 1) := by decide +kernel
set_option maxRecDepth 20000 in
theorem ggX0_add_X0_areaOf : GoodIn wsX0_add wsX0_areaOf := goodIn_r _ [9, 2, 3, 10, 11, 12, 8, 13, 14, 15, 16, 17, 18, 19, 20, 21, 22, 23] (by decide +kernel) (by decide +kernel)
set_option maxRecDepth 20000 in
theorem gX0_add_X0_areaOf : GoodIn wsX0_add (wsV RX0 28 RX0 yX0_areaOf wsX0_areaOf) := goodIn_app (goodIn_of _ (by decide +kernel)) ggX0_add_X0_areaOf
theorem dX0_add_0 : decode cX0_add 0 = .ok (.aload_n 0, 1) := by decide +kernel
theorem dX0_add_1 : decode cX0_add 1 = .ok (.getfield 19, 3) := by decide +kernel
theorem dX0_add_4 : decode cX0_add 4 = .ok (.sipush 512, 3) := by decide +kernel
theorem dX0_add_7 : decode cX0_add 7 = .ok (.if_icmp .ge 15, 3) := by decide +kernel
theorem dX0_add_10 : decode cX0_add 10 = .ok (.aload_n 0, 1) := by decide +kernel
theorem dX0_add_11 : decode cX0_add 11 = .ok (.sipush 512, 3) := by decide +kernel
theorem dX0_add_14 : decode cX0_add 14 = .ok (.invokevirtual 28, 3) := by decide +kernel
theorem dX0_add_17 : decode cX0_add 17 = .ok (.lconst 0, 1) := by decide +kernel
theorem dX0_add_18 : decode cX0_add 18 = .ok (.lcmp, 1) := by decide +kernel
theorem dX0_add_19 : decode cX0_add 19 = .ok (.ifCond .gt 5, 3) := by decide +kernel
theorem dX0_add_22 : decode cX0_add 22 = .ok (.iconst (-1), 1) := by decide +kernel
theorem dX0_add_23 : decode cX0_add 23 = .ok (.ireturn, 1) := by decide +kernel
theorem dX0_add_24 : decode cX0_add 24 = .ok (.aload_n 0, 1) := by decide +kernel
theorem dX0_add_25 : decode cX0_add 25 = .ok (.getfield 19, 3) := by decide +kernel
theorem dX0_add_28 : decode cX0_add 28 = .ok (.istore_n 1, 1) := by decide +kernel
theorem dX0_add_29 : decode cX0_add 29 = .ok (.iconst 0, 1) := by decide +kernel
theorem dX0_add_30 : decode cX0_add 30 = .ok (.istore_n 2, 1) := by decide +kernel
theorem dX0_add_31 : decode cX0_add 31 = .ok (.iload_n 2, 1) := by decide +kernel
theorem dX0_add_32 : decode cX0_add 32 = .ok (.iconst 3, 1) := by decide +kernel
theorem dX0_add_33 : decode cX0_add 33 = .ok (.if_icmp .ge 61, 3) := by decide +kernel
theorem dX0_add_36 : decode cX0_add 36 = .ok (.sipush 1536, 3) := by decide +kernel
theorem dX0_add_39 : decode cX0_add 39 = .ok (.iload_n 2, 1) := by decide +kernel
theorem dX0_add_40 : decode cX0_add 40 = .ok (.iadd, 1) := by decide +kernel
theorem dX0_add_41 : decode cX0_add 41 = .ok (.istore_n 3, 1) := by decide +kernel
theorem dX0_add_42 : decode cX0_add 42 = .ok (.iload_n 1, 1) := by decide +kernel
theorem dX0_add_43 : decode cX0_add 43 = .ok (.iconst 3, 1) := by decide +kernel
theorem dX0_add_44 : decode cX0_add 44 = .ok (.imul, 1) := by decide +kernel
theorem dX0_add_45 : decode cX0_add 45 = .ok (.iload_n 2, 1) := by decide +kernel
theorem dX0_add_46 : decode cX0_add 46 = .ok (.iadd, 1) := by decide +kernel
theorem dX0_add_47 : decode cX0_add 47 = .ok (.istore 4, 2) := by decide +kernel
theorem dX0_add_49 : decode cX0_add 49 = .ok (.aload_n 0, 1) := by decide +kernel
theorem dX0_add_50 : decode cX0_add 50 = .ok (.getfield 9, 3) := by decide +kernel
theorem dX0_add_53 : decode cX0_add 53 = .ok (.iload 4, 2) := by decide +kernel
theorem dX0_add_55 : decode cX0_add 55 = .ok (.aload_n 0, 1) := by decide +kernel
theorem dX0_add_56 : decode cX0_add 56 = .ok (.getfield 9, 3) := by decide +kernel
theorem dX0_add_59 : decode cX0_add 59 = .ok (.iload_n 3, 1) := by decide +kernel
theorem dX0_add_60 : decode cX0_add 60 = .ok (.iaload, 1) := by decide +kernel
theorem dX0_add_61 : decode cX0_add 61 = .ok (.iastore, 1) := by decide +kernel
theorem dX0_add_62 : decode cX0_add 62 = .ok (.aload_n 0, 1) := by decide +kernel
theorem dX0_add_63 : decode cX0_add 63 = .ok (.getfield 13, 3) := by decide +kernel
theorem dX0_add_66 : decode cX0_add 66 = .ok (.iload 4, 2) := by decide +kernel
theorem dX0_add_68 : decode cX0_add 68 = .ok (.aload_n 0, 1) := by decide +kernel
theorem dX0_add_69 : decode cX0_add 69 = .ok (.getfield 13, 3) := by decide +kernel
theorem dX0_add_72 : decode cX0_add 72 = .ok (.iload_n 3, 1) := by decide +kernel
theorem dX0_add_73 : decode cX0_add 73 = .ok (.iaload, 1) := by decide +kernel
theorem dX0_add_74 : decode cX0_add 74 = .ok (.iastore, 1) := by decide +kernel
theorem dX0_add_75 : decode cX0_add 75 = .ok (.aload_n 0, 1) := by decide +kernel
theorem dX0_add_76 : decode cX0_add 76 = .ok (.getfield 16, 3) := by decide +kernel
theorem dX0_add_79 : decode cX0_add 79 = .ok (.iload 4, 2) := by decide +kernel
theorem dX0_add_81 : decode cX0_add 81 = .ok (.aload_n 0, 1) := by decide +kernel
theorem dX0_add_82 : decode cX0_add 82 = .ok (.getfield 16, 3) := by decide +kernel
theorem dX0_add_85 : decode cX0_add 85 = .ok (.iload_n 3, 1) := by decide +kernel
theorem dX0_add_86 : decode cX0_add 86 = .ok (.iaload, 1) := by decide +kernel
theorem dX0_add_87 : decode cX0_add 87 = .ok (.iastore, 1) := by decide +kernel
theorem dX0_add_88 : decode cX0_add 88 = .ok (.iinc 2 1, 3) := by decide +kernel
theorem dX0_add_91 : decode cX0_add 91 = .ok (.goto (-60), 3) := by decide +kernel
theorem dX0_add_94 : decode cX0_add 94 = .ok (.aload_n 0, 1) := by decide +kernel
theorem dX0_add_95 : decode cX0_add 95 = .ok (.iload_n 1, 1) := by decide +kernel
theorem dX0_add_96 : decode cX0_add 96 = .ok (.iconst 1, 1) := by decide +kernel
theorem dX0_add_97 : decode cX0_add 97 = .ok (.iadd, 1) := by decide +kernel
theorem dX0_add_98 : decode cX0_add 98 = .ok (.putfield 19, 3) := by decide +kernel
theorem dX0_add_101 : decode cX0_add 101 = .ok (.iload_n 1, 1) := by decide +kernel
theorem dX0_add_102 : decode cX0_add 102 = .ok (.ireturn, 1) := by decide +kernel
theorem dX0_clear_0 : decode cX0_clear 0 = .ok (.aload_n 0, 1) := by decide +kernel
theorem dX0_clear_1 : decode cX0_clear 1 = .ok (.iconst 0, 1) := by decide +kernel
theorem dX0_clear_2 : decode cX0_clear 2 = .ok (.putfield 19, 3) := by decide +kernel
theorem dX0_clear_5 : decode cX0_clear 5 = .ok (.return_, 1) := by decide +kernel
theorem dX0_count_0 : decode cX0_count 0 = .ok (.aload_n 0, 1) := by decide +kernel
theorem dX0_count_1 : decode cX0_count 1 = .ok (.getfield 19, 3) := by decide +kernel
theorem dX0_count_4 : decode cX0_count 4 = .ok (.ireturn, 1) := by decide +kernel
set_option maxRecDepth 20000 in
theorem ggX0_area_X0_isPiece : GoodIn wsX0_area wsX0_isPiece := goodIn_r _ [5, 6, 23, 24, 25, 26] (by decide +kernel) (by decide +kernel)
set_option maxRecDepth 20000 in
theorem gX0_area_X0_isPiece : GoodIn wsX0_area (wsV RX0 32 RX0 yX0_isPiece wsX0_isPiece) := goodIn_app (goodIn_of _ (by decide +kernel)) ggX0_area_X0_isPiece
set_option maxRecDepth 20000 in
theorem ggX0_area_X0_areaOf : GoodIn wsX0_area wsX0_areaOf := goodIn_r _ [10, 11, 12, 13, 14, 15, 4, 16, 17, 18, 19, 20, 21, 22, 23, 24, 25, 26] (by decide +kernel) (by decide +kernel)
set_option maxRecDepth 20000 in
theorem gX0_area_X0_areaOf : GoodIn wsX0_area (wsV RX0 28 RX0 yX0_areaOf wsX0_areaOf) := goodIn_app (goodIn_of _ (by decide +kernel)) ggX0_area_X0_areaOf
theorem dX0_area_0 : decode cX0_area 0 = .ok (.aload_n 0, 1) := by decide +kernel
theorem dX0_area_1 : decode cX0_area 1 = .ok (.iload_n 1, 1) := by decide +kernel
theorem dX0_area_2 : decode cX0_area 2 = .ok (.invokevirtual 32, 3) := by decide +kernel
theorem dX0_area_5 : decode cX0_area 5 = .ok (.ifCond .ne 5, 3) := by decide +kernel
theorem dX0_area_8 : decode cX0_area 8 = .ok (.iconst (-1), 1) := by decide +kernel
theorem dX0_area_9 : decode cX0_area 9 = .ok (.ireturn, 1) := by decide +kernel
theorem dX0_area_10 : decode cX0_area 10 = .ok (.aload_n 0, 1) := by decide +kernel
theorem dX0_area_11 : decode cX0_area 11 = .ok (.iload_n 1, 1) := by decide +kernel
theorem dX0_area_12 : decode cX0_area 12 = .ok (.invokevirtual 28, 3) := by decide +kernel
theorem dX0_area_15 : decode cX0_area 15 = .ok (.l2i, 1) := by decide +kernel
theorem dX0_area_16 : decode cX0_area 16 = .ok (.ireturn, 1) := by decide +kernel
set_option maxRecDepth 20000 in
theorem ggX0_near_X0_isPiece : GoodIn wsX0_near wsX0_isPiece := goodIn_r _ [5, 6, 45, 46, 47, 48] (by decide +kernel) (by decide +kernel)
set_option maxRecDepth 20000 in
theorem gX0_near_X0_isPiece : GoodIn wsX0_near (wsV RX0 32 RX0 yX0_isPiece wsX0_isPiece) := goodIn_app (goodIn_of _ (by decide +kernel)) ggX0_near_X0_isPiece
set_option maxRecDepth 20000 in
theorem ggX0_near_X0_middle : GoodIn wsX0_near wsX0_middle := goodIn_r _ [9, 10, 11] (by decide +kernel) (by decide +kernel)
set_option maxRecDepth 20000 in
theorem gX0_near_X0_middle : GoodIn wsX0_near (va_wsS RX0 35 yX0_middle wsX0_middle) := goodIn_app (goodIn_of _ (by decide +kernel)) ggX0_near_X0_middle
set_option maxRecDepth 20000 in
theorem ggX0_near_X0_covers : GoodIn wsX0_near wsX0_covers := goodIn_r _ [15, 16, 17, 18, 4, 19, 20, 21, 22, 23, 24, 25, 26, 27, 28, 29, 30, 31, 45, 46, 47, 48] (by decide +kernel) (by decide +kernel)
set_option maxRecDepth 20000 in
theorem gX0_near_X0_covers : GoodIn wsX0_near (wsV RX0 38 RX0 yX0_covers wsX0_covers) := goodIn_app (goodIn_of _ (by decide +kernel)) ggX0_near_X0_covers
set_option maxRecDepth 20000 in
theorem ggX0_near_X0_nearnessOf : GoodIn wsX0_near wsX0_nearnessOf := goodIn_r _ [35, 36, 16, 17, 18, 4, 19, 20, 21, 22, 23, 24, 25, 26, 27, 37, 38, 39, 40, 41, 42, 43, 44, 45, 46, 47, 48] (by decide +kernel) (by decide +kernel)
set_option maxRecDepth 20000 in
theorem gX0_near_X0_nearnessOf : GoodIn wsX0_near (wsV RX0 42 RX0 yX0_nearnessOf wsX0_nearnessOf) := goodIn_app (goodIn_of _ (by decide +kernel)) ggX0_near_X0_nearnessOf
theorem dX0_near_0 : decode cX0_near 0 = .ok (.aload_n 0, 1) := by decide +kernel
theorem dX0_near_1 : decode cX0_near 1 = .ok (.iload_n 1, 1) := by decide +kernel
theorem dX0_near_2 : decode cX0_near 2 = .ok (.invokevirtual 32, 3) := by decide +kernel
theorem dX0_near_5 : decode cX0_near 5 = .ok (.ifCond .eq 19, 3) := by decide +kernel
theorem dX0_near_8 : decode cX0_near 8 = .ok (.aload_n 0, 1) := by decide +kernel
theorem dX0_near_9 : decode cX0_near 9 = .ok (.iload_n 1, 1) := by decide +kernel
theorem dX0_near_10 : decode cX0_near 10 = .ok (.iload_n 2, 1) := by decide +kernel
theorem dX0_near_11 : decode cX0_near 11 = .ok (.invokestatic 35, 3) := by decide +kernel
theorem dX0_near_14 : decode cX0_near 14 = .ok (.iload_n 3, 1) := by decide +kernel
theorem dX0_near_15 : decode cX0_near 15 = .ok (.invokestatic 35, 3) := by decide +kernel
theorem dX0_near_18 : decode cX0_near 18 = .ok (.invokevirtual 38, 3) := by decide +kernel
theorem dX0_near_21 : decode cX0_near 21 = .ok (.ifCond .ne 5, 3) := by decide +kernel
theorem dX0_near_24 : decode cX0_near 24 = .ok (.iconst (-1), 1) := by decide +kernel
theorem dX0_near_25 : decode cX0_near 25 = .ok (.ireturn, 1) := by decide +kernel
theorem dX0_near_26 : decode cX0_near 26 = .ok (.aload_n 0, 1) := by decide +kernel
theorem dX0_near_27 : decode cX0_near 27 = .ok (.iload_n 1, 1) := by decide +kernel
theorem dX0_near_28 : decode cX0_near 28 = .ok (.iload_n 2, 1) := by decide +kernel
theorem dX0_near_29 : decode cX0_near 29 = .ok (.invokestatic 35, 3) := by decide +kernel
theorem dX0_near_32 : decode cX0_near 32 = .ok (.iload_n 3, 1) := by decide +kernel
theorem dX0_near_33 : decode cX0_near 33 = .ok (.invokestatic 35, 3) := by decide +kernel
theorem dX0_near_36 : decode cX0_near 36 = .ok (.invokevirtual 42, 3) := by decide +kernel
theorem dX0_near_39 : decode cX0_near 39 = .ok (.ireturn, 1) := by decide +kernel
set_option maxRecDepth 20000 in
theorem ggX0_nearest_X0_near : GoodIn wsX0_nearest wsX0_near := goodIn_r _ [6, 7, 8, 9, 5, 10, 1, 11, 12, 13, 14, 15, 16, 17, 18, 19, 20, 21, 22, 23, 24, 25, 26, 27, 28, 29, 30, 31, 32, 33, 34, 35, 36, 37, 38, 39, 40, 41, 42, 43, 44, 45, 46, 47, 48, 49, 50, 51, 52] (by decide +kernel) (by decide +kernel)
set_option maxRecDepth 20000 in
theorem gX0_nearest_X0_near : GoodIn wsX0_nearest (wsV RX0 46 RX0 yX0_near wsX0_near) := goodIn_app (goodIn_of _ (by decide +kernel)) ggX0_nearest_X0_near
theorem dX0_nearest_0 : decode cX0_nearest 0 = .ok (.iconst (-1), 1) := by decide +kernel
theorem dX0_nearest_1 : decode cX0_nearest 1 = .ok (.istore_n 3, 1) := by decide +kernel
theorem dX0_nearest_2 : decode cX0_nearest 2 = .ok (.iconst (-1), 1) := by decide +kernel
theorem dX0_nearest_3 : decode cX0_nearest 3 = .ok (.istore 4, 2) := by decide +kernel
theorem dX0_nearest_5 : decode cX0_nearest 5 = .ok (.iconst 0, 1) := by decide +kernel
theorem dX0_nearest_6 : decode cX0_nearest 6 = .ok (.istore 5, 2) := by decide +kernel
theorem dX0_nearest_8 : decode cX0_nearest 8 = .ok (.iload 5, 2) := by decide +kernel
theorem dX0_nearest_10 : decode cX0_nearest 10 = .ok (.aload_n 0, 1) := by decide +kernel
theorem dX0_nearest_11 : decode cX0_nearest 11 = .ok (.getfield 19, 3) := by decide +kernel
theorem dX0_nearest_14 : decode cX0_nearest 14 = .ok (.if_icmp .ge 33, 3) := by decide +kernel
theorem dX0_nearest_17 : decode cX0_nearest 17 = .ok (.aload_n 0, 1) := by decide +kernel
theorem dX0_nearest_18 : decode cX0_nearest 18 = .ok (.iload 5, 2) := by decide +kernel
theorem dX0_nearest_20 : decode cX0_nearest 20 = .ok (.iload_n 1, 1) := by decide +kernel
theorem dX0_nearest_21 : decode cX0_nearest 21 = .ok (.iload_n 2, 1) := by decide +kernel
theorem dX0_nearest_22 : decode cX0_nearest 22 = .ok (.invokevirtual 46, 3) := by decide +kernel
theorem dX0_nearest_25 : decode cX0_nearest 25 = .ok (.istore 6, 2) := by decide +kernel
theorem dX0_nearest_27 : decode cX0_nearest 27 = .ok (.iload 6, 2) := by decide +kernel
theorem dX0_nearest_29 : decode cX0_nearest 29 = .ok (.iload 4, 2) := by decide +kernel
theorem dX0_nearest_31 : decode cX0_nearest 31 = .ok (.if_icmp .le 10, 3) := by decide +kernel
theorem dX0_nearest_34 : decode cX0_nearest 34 = .ok (.iload 5, 2) := by decide +kernel
theorem dX0_nearest_36 : decode cX0_nearest 36 = .ok (.istore_n 3, 1) := by decide +kernel
theorem dX0_nearest_37 : decode cX0_nearest 37 = .ok (.iload 6, 2) := by decide +kernel
theorem dX0_nearest_39 : decode cX0_nearest 39 = .ok (.istore 4, 2) := by decide +kernel
theorem dX0_nearest_41 : decode cX0_nearest 41 = .ok (.iinc 5 1, 3) := by decide +kernel
theorem dX0_nearest_44 : decode cX0_nearest 44 = .ok (.goto (-36), 3) := by decide +kernel
theorem dX0_nearest_47 : decode cX0_nearest 47 = .ok (.iload_n 3, 1) := by decide +kernel
theorem dX0_nearest_48 : decode cX0_nearest 48 = .ok (.ireturn, 1) := by decide +kernel
set_option maxRecDepth 20000 in
theorem ggX0_covering_X0_middle : GoodIn wsX0_covering wsX0_middle := goodIn_r _ [5, 6, 7] (by decide +kernel) (by decide +kernel)
set_option maxRecDepth 20000 in
theorem gX0_covering_X0_middle : GoodIn wsX0_covering (va_wsS RX0 35 yX0_middle wsX0_middle) := goodIn_app (goodIn_of _ (by decide +kernel)) ggX0_covering_X0_middle
set_option maxRecDepth 20000 in
theorem ggX0_covering_X0_covers : GoodIn wsX0_covering wsX0_covers := goodIn_r _ [11, 12, 13, 14, 4, 15, 16, 17, 18, 19, 20, 21, 22, 23, 24, 25, 26, 27, 28, 29, 30, 31] (by decide +kernel) (by decide +kernel)
set_option maxRecDepth 20000 in
theorem gX0_covering_X0_covers : GoodIn wsX0_covering (wsV RX0 38 RX0 yX0_covers wsX0_covers) := goodIn_app (goodIn_of _ (by decide +kernel)) ggX0_covering_X0_covers
theorem dX0_covering_0 : decode cX0_covering 0 = .ok (.iconst 0, 1) := by decide +kernel
theorem dX0_covering_1 : decode cX0_covering 1 = .ok (.istore_n 3, 1) := by decide +kernel
theorem dX0_covering_2 : decode cX0_covering 2 = .ok (.iconst 0, 1) := by decide +kernel
theorem dX0_covering_3 : decode cX0_covering 3 = .ok (.istore 4, 2) := by decide +kernel
theorem dX0_covering_5 : decode cX0_covering 5 = .ok (.iload 4, 2) := by decide +kernel
theorem dX0_covering_7 : decode cX0_covering 7 = .ok (.aload_n 0, 1) := by decide +kernel
theorem dX0_covering_8 : decode cX0_covering 8 = .ok (.getfield 19, 3) := by decide +kernel
theorem dX0_covering_11 : decode cX0_covering 11 = .ok (.if_icmp .ge 29, 3) := by decide +kernel
theorem dX0_covering_14 : decode cX0_covering 14 = .ok (.aload_n 0, 1) := by decide +kernel
theorem dX0_covering_15 : decode cX0_covering 15 = .ok (.iload 4, 2) := by decide +kernel
theorem dX0_covering_17 : decode cX0_covering 17 = .ok (.iload_n 1, 1) := by decide +kernel
theorem dX0_covering_18 : decode cX0_covering 18 = .ok (.invokestatic 35, 3) := by decide +kernel
theorem dX0_covering_21 : decode cX0_covering 21 = .ok (.iload_n 2, 1) := by decide +kernel
theorem dX0_covering_22 : decode cX0_covering 22 = .ok (.invokestatic 35, 3) := by decide +kernel
theorem dX0_covering_25 : decode cX0_covering 25 = .ok (.invokevirtual 38, 3) := by decide +kernel
theorem dX0_covering_28 : decode cX0_covering 28 = .ok (.ifCond .eq 6, 3) := by decide +kernel
theorem dX0_covering_31 : decode cX0_covering 31 = .ok (.iinc 3 1, 3) := by decide +kernel
theorem dX0_covering_34 : decode cX0_covering 34 = .ok (.iinc 4 1, 3) := by decide +kernel
theorem dX0_covering_37 : decode cX0_covering 37 = .ok (.goto (-32), 3) := by decide +kernel
theorem dX0_covering_40 : decode cX0_covering 40 = .ok (.iload_n 3, 1) := by decide +kernel
theorem dX0_covering_41 : decode cX0_covering 41 = .ok (.ireturn, 1) := by decide +kernel
set_option maxRecDepth 20000 in
theorem ggX0_next_X0_middle : GoodIn wsX0_next wsX0_middle := goodIn_r _ [9, 10, 11] (by decide +kernel) (by decide +kernel)
set_option maxRecDepth 20000 in
theorem gX0_next_X0_middle : GoodIn wsX0_next (va_wsS RX0 35 yX0_middle wsX0_middle) := goodIn_app (goodIn_of _ (by decide +kernel)) ggX0_next_X0_middle
set_option maxRecDepth 20000 in
theorem ggX0_next_X0_covers : GoodIn wsX0_next wsX0_covers := goodIn_r _ [15, 16, 17, 18, 8, 19, 20, 21, 22, 23, 24, 25, 26, 27, 28, 29, 30, 31, 32, 33, 34, 35] (by decide +kernel) (by decide +kernel)
set_option maxRecDepth 20000 in
theorem gX0_next_X0_covers : GoodIn wsX0_next (wsV RX0 38 RX0 yX0_covers wsX0_covers) := goodIn_app (goodIn_of _ (by decide +kernel)) ggX0_next_X0_covers
theorem dX0_next_0 : decode cX0_next 0 = .ok (.iload_n 3, 1) := by decide +kernel
theorem dX0_next_1 : decode cX0_next 1 = .ok (.iconst 0, 1) := by decide +kernel
theorem dX0_next_2 : decode cX0_next 2 = .ok (.invokestatic 50, 3) := by decide +kernel
theorem dX0_next_5 : decode cX0_next 5 = .ok (.istore 4, 2) := by decide +kernel
theorem dX0_next_7 : decode cX0_next 7 = .ok (.iload 4, 2) := by decide +kernel
theorem dX0_next_9 : decode cX0_next 9 = .ok (.aload_n 0, 1) := by decide +kernel
theorem dX0_next_10 : decode cX0_next 10 = .ok (.getfield 19, 3) := by decide +kernel
theorem dX0_next_13 : decode cX0_next 13 = .ok (.if_icmp .ge 29, 3) := by decide +kernel
theorem dX0_next_16 : decode cX0_next 16 = .ok (.aload_n 0, 1) := by decide +kernel
theorem dX0_next_17 : decode cX0_next 17 = .ok (.iload 4, 2) := by decide +kernel
theorem dX0_next_19 : decode cX0_next 19 = .ok (.iload_n 1, 1) := by decide +kernel
theorem dX0_next_20 : decode cX0_next 20 = .ok (.invokestatic 35, 3) := by decide +kernel
theorem dX0_next_23 : decode cX0_next 23 = .ok (.iload_n 2, 1) := by decide +kernel
theorem dX0_next_24 : decode cX0_next 24 = .ok (.invokestatic 35, 3) := by decide +kernel
theorem dX0_next_27 : decode cX0_next 27 = .ok (.invokevirtual 38, 3) := by decide +kernel
theorem dX0_next_30 : decode cX0_next 30 = .ok (.ifCond .eq 6, 3) := by decide +kernel
theorem dX0_next_33 : decode cX0_next 33 = .ok (.iload 4, 2) := by decide +kernel
theorem dX0_next_35 : decode cX0_next 35 = .ok (.ireturn, 1) := by decide +kernel
theorem dX0_next_36 : decode cX0_next 36 = .ok (.iinc 4 1, 3) := by decide +kernel
theorem dX0_next_39 : decode cX0_next 39 = .ok (.goto (-32), 3) := by decide +kernel
theorem dX0_next_42 : decode cX0_next 42 = .ok (.iconst (-1), 1) := by decide +kernel
theorem dX0_next_43 : decode cX0_next 43 = .ok (.ireturn, 1) := by decide +kernel
theorem dX0_isOnGrid_0 : decode cX0_isOnGrid 0 = .ok (.iload_n 0, 1) := by decide +kernel
theorem dX0_isOnGrid_1 : decode cX0_isOnGrid 1 = .ok (.sipush (-4096), 3) := by decide +kernel
theorem dX0_isOnGrid_4 : decode cX0_isOnGrid 4 = .ok (.if_icmp .lt 14, 3) := by decide +kernel
theorem dX0_isOnGrid_7 : decode cX0_isOnGrid 7 = .ok (.iload_n 0, 1) := by decide +kernel
theorem dX0_isOnGrid_8 : decode cX0_isOnGrid 8 = .ok (.sipush 4096, 3) := by decide +kernel
theorem dX0_isOnGrid_11 : decode cX0_isOnGrid 11 = .ok (.if_icmp .gt 7, 3) := by decide +kernel
theorem dX0_isOnGrid_14 : decode cX0_isOnGrid 14 = .ok (.iconst 1, 1) := by decide +kernel
theorem dX0_isOnGrid_15 : decode cX0_isOnGrid 15 = .ok (.goto 4, 3) := by decide +kernel
theorem dX0_isOnGrid_18 : decode cX0_isOnGrid 18 = .ok (.iconst 0, 1) := by decide +kernel
theorem dX0_isOnGrid_19 : decode cX0_isOnGrid 19 = .ok (.ireturn, 1) := by decide +kernel
theorem dX0_middle_0 : decode cX0_middle 0 = .ok (.ldc2_w 56, 3) := by decide +kernel
theorem dX0_middle_3 : decode cX0_middle 3 = .ok (.iload_n 0, 1) := by decide +kernel
theorem dX0_middle_4 : decode cX0_middle 4 = .ok (.i2l, 1) := by decide +kernel
theorem dX0_middle_5 : decode cX0_middle 5 = .ok (.lmul, 1) := by decide +kernel
theorem dX0_middle_6 : decode cX0_middle 6 = .ok (.ldc2_w 58, 3) := by decide +kernel
theorem dX0_middle_9 : decode cX0_middle 9 = .ok (.ladd, 1) := by decide +kernel
theorem dX0_middle_10 : decode cX0_middle 10 = .ok (.lreturn, 1) := by decide +kernel
theorem dX0_isPiece_0 : decode cX0_isPiece 0 = .ok (.iload_n 1, 1) := by decide +kernel
theorem dX0_isPiece_1 : decode cX0_isPiece 1 = .ok (.ifCond .lt 15, 3) := by decide +kernel
theorem dX0_isPiece_4 : decode cX0_isPiece 4 = .ok (.iload_n 1, 1) := by decide +kernel
theorem dX0_isPiece_5 : decode cX0_isPiece 5 = .ok (.aload_n 0, 1) := by decide +kernel
theorem dX0_isPiece_6 : decode cX0_isPiece 6 = .ok (.getfield 19, 3) := by decide +kernel
theorem dX0_isPiece_9 : decode cX0_isPiece 9 = .ok (.if_icmp .ge 7, 3) := by decide +kernel
theorem dX0_isPiece_12 : decode cX0_isPiece 12 = .ok (.iconst 1, 1) := by decide +kernel
theorem dX0_isPiece_13 : decode cX0_isPiece 13 = .ok (.goto 4, 3) := by decide +kernel
theorem dX0_isPiece_16 : decode cX0_isPiece 16 = .ok (.iconst 0, 1) := by decide +kernel
theorem dX0_isPiece_17 : decode cX0_isPiece 17 = .ok (.ireturn, 1) := by decide +kernel
set_option maxRecDepth 20000 in
theorem ggX0_areaOf_X0_edge : GoodIn wsX0_areaOf wsX0_edge := goodIn_r _ [7, 1, 2, 8, 9, 6, 10, 11, 12, 13, 14, 15, 16, 17] (by decide +kernel) (by decide +kernel)
set_option maxRecDepth 20000 in
theorem gX0_areaOf_X0_edge : GoodIn wsX0_areaOf (wsV RX0 60 RX0 yX0_edge wsX0_edge) := goodIn_app (goodIn_of _ (by decide +kernel)) ggX0_areaOf_X0_edge
theorem dX0_areaOf_0 : decode cX0_areaOf 0 = .ok (.iload_n 1, 1) := by decide +kernel
theorem dX0_areaOf_1 : decode cX0_areaOf 1 = .ok (.iconst 3, 1) := by decide +kernel
theorem dX0_areaOf_2 : decode cX0_areaOf 2 = .ok (.imul, 1) := by decide +kernel
theorem dX0_areaOf_3 : decode cX0_areaOf 3 = .ok (.iconst 2, 1) := by decide +kernel
theorem dX0_areaOf_4 : decode cX0_areaOf 4 = .ok (.iadd, 1) := by decide +kernel
theorem dX0_areaOf_5 : decode cX0_areaOf 5 = .ok (.istore_n 2, 1) := by decide +kernel
theorem dX0_areaOf_6 : decode cX0_areaOf 6 = .ok (.aload_n 0, 1) := by decide +kernel
theorem dX0_areaOf_7 : decode cX0_areaOf 7 = .ok (.iload_n 1, 1) := by decide +kernel
theorem dX0_areaOf_8 : decode cX0_areaOf 8 = .ok (.iconst 2, 1) := by decide +kernel
theorem dX0_areaOf_9 : decode cX0_areaOf 9 = .ok (.aload_n 0, 1) := by decide +kernel
theorem dX0_areaOf_10 : decode cX0_areaOf 10 = .ok (.getfield 9, 3) := by decide +kernel
theorem dX0_areaOf_13 : decode cX0_areaOf 13 = .ok (.iload_n 2, 1) := by decide +kernel
theorem dX0_areaOf_14 : decode cX0_areaOf 14 = .ok (.iaload, 1) := by decide +kernel
theorem dX0_areaOf_15 : decode cX0_areaOf 15 = .ok (.i2l, 1) := by decide +kernel
theorem dX0_areaOf_16 : decode cX0_areaOf 16 = .ok (.aload_n 0, 1) := by decide +kernel
theorem dX0_areaOf_17 : decode cX0_areaOf 17 = .ok (.getfield 13, 3) := by decide +kernel
theorem dX0_areaOf_20 : decode cX0_areaOf 20 = .ok (.iload_n 2, 1) := by decide +kernel
theorem dX0_areaOf_21 : decode cX0_areaOf 21 = .ok (.iaload, 1) := by decide +kernel
theorem dX0_areaOf_22 : decode cX0_areaOf 22 = .ok (.i2l, 1) := by decide +kernel
theorem dX0_areaOf_23 : decode cX0_areaOf 23 = .ok (.invokevirtual 60, 3) := by decide +kernel
theorem dX0_areaOf_26 : decode cX0_areaOf 26 = .ok (.lreturn, 1) := by decide +kernel
set_option maxRecDepth 20000 in
theorem ggX0_edge_X0_edgeStart : GoodIn wsX0_edge wsX0_edgeStart := goodIn_r _ [6] (by decide +kernel) (by decide +kernel)
set_option maxRecDepth 20000 in
theorem gX0_edge_X0_edgeStart : GoodIn wsX0_edge (va_wsS RX0 64 yX0_edgeStart wsX0_edgeStart) := goodIn_app (goodIn_of _ (by decide +kernel)) ggX0_edge_X0_edgeStart
set_option maxRecDepth 20000 in
theorem ggX0_edge_X0_edgeEnd : GoodIn wsX0_edge wsX0_edgeEnd := goodIn_r _ [9] (by decide +kernel) (by decide +kernel)
set_option maxRecDepth 20000 in
theorem gX0_edge_X0_edgeEnd : GoodIn wsX0_edge (va_wsS RX0 67 yX0_edgeEnd wsX0_edgeEnd) := goodIn_app (goodIn_of _ (by decide +kernel)) ggX0_edge_X0_edgeEnd
theorem dX0_edge_0 : decode cX0_edge 0 = .ok (.iload_n 1, 1) := by decide +kernel
theorem dX0_edge_1 : decode cX0_edge 1 = .ok (.iload_n 2, 1) := by decide +kernel
theorem dX0_edge_2 : decode cX0_edge 2 = .ok (.invokestatic 64, 3) := by decide +kernel
theorem dX0_edge_5 : decode cX0_edge 5 = .ok (.istore 7, 2) := by decide +kernel
theorem dX0_edge_7 : decode cX0_edge 7 = .ok (.iload_n 1, 1) := by decide +kernel
theorem dX0_edge_8 : decode cX0_edge 8 = .ok (.iload_n 2, 1) := by decide +kernel
theorem dX0_edge_9 : decode cX0_edge 9 = .ok (.invokestatic 67, 3) := by decide +kernel
theorem dX0_edge_12 : decode cX0_edge 12 = .ok (.istore 8, 2) := by decide +kernel
theorem dX0_edge_14 : decode cX0_edge 14 = .ok (.aload_n 0, 1) := by decide +kernel
theorem dX0_edge_15 : decode cX0_edge 15 = .ok (.getfield 9, 3) := by decide +kernel
theorem dX0_edge_18 : decode cX0_edge 18 = .ok (.iload 8, 2) := by decide +kernel
theorem dX0_edge_20 : decode cX0_edge 20 = .ok (.iaload, 1) := by decide +kernel
theorem dX0_edge_21 : decode cX0_edge 21 = .ok (.aload_n 0, 1) := by decide +kernel
theorem dX0_edge_22 : decode cX0_edge 22 = .ok (.getfield 9, 3) := by decide +kernel
theorem dX0_edge_25 : decode cX0_edge 25 = .ok (.iload 7, 2) := by decide +kernel
theorem dX0_edge_27 : decode cX0_edge 27 = .ok (.iaload, 1) := by decide +kernel
theorem dX0_edge_28 : decode cX0_edge 28 = .ok (.isub, 1) := by decide +kernel
theorem dX0_edge_29 : decode cX0_edge 29 = .ok (.i2l, 1) := by decide +kernel
theorem dX0_edge_30 : decode cX0_edge 30 = .ok (.lstore 9, 2) := by decide +kernel
theorem dX0_edge_32 : decode cX0_edge 32 = .ok (.aload_n 0, 1) := by decide +kernel
theorem dX0_edge_33 : decode cX0_edge 33 = .ok (.getfield 13, 3) := by decide +kernel
theorem dX0_edge_36 : decode cX0_edge 36 = .ok (.iload 8, 2) := by decide +kernel
theorem dX0_edge_38 : decode cX0_edge 38 = .ok (.iaload, 1) := by decide +kernel
theorem dX0_edge_39 : decode cX0_edge 39 = .ok (.aload_n 0, 1) := by decide +kernel
theorem dX0_edge_40 : decode cX0_edge 40 = .ok (.getfield 13, 3) := by decide +kernel
theorem dX0_edge_43 : decode cX0_edge 43 = .ok (.iload 7, 2) := by decide +kernel
theorem dX0_edge_45 : decode cX0_edge 45 = .ok (.iaload, 1) := by decide +kernel
theorem dX0_edge_46 : decode cX0_edge 46 = .ok (.isub, 1) := by decide +kernel
theorem dX0_edge_47 : decode cX0_edge 47 = .ok (.i2l, 1) := by decide +kernel
theorem dX0_edge_48 : decode cX0_edge 48 = .ok (.lstore 11, 2) := by decide +kernel
theorem dX0_edge_50 : decode cX0_edge 50 = .ok (.lload 9, 2) := by decide +kernel
theorem dX0_edge_52 : decode cX0_edge 52 = .ok (.lload 5, 2) := by decide +kernel
theorem dX0_edge_54 : decode cX0_edge 54 = .ok (.aload_n 0, 1) := by decide +kernel
theorem dX0_edge_55 : decode cX0_edge 55 = .ok (.getfield 13, 3) := by decide +kernel
theorem dX0_edge_58 : decode cX0_edge 58 = .ok (.iload 7, 2) := by decide +kernel
theorem dX0_edge_60 : decode cX0_edge 60 = .ok (.iaload, 1) := by decide +kernel
theorem dX0_edge_61 : decode cX0_edge 61 = .ok (.i2l, 1) := by decide +kernel
theorem dX0_edge_62 : decode cX0_edge 62 = .ok (.lsub, 1) := by decide +kernel
theorem dX0_edge_63 : decode cX0_edge 63 = .ok (.lmul, 1) := by decide +kernel
theorem dX0_edge_64 : decode cX0_edge 64 = .ok (.lload 11, 2) := by decide +kernel
theorem dX0_edge_66 : decode cX0_edge 66 = .ok (.lload_n 3, 1) := by decide +kernel
theorem dX0_edge_67 : decode cX0_edge 67 = .ok (.aload_n 0, 1) := by decide +kernel
theorem dX0_edge_68 : decode cX0_edge 68 = .ok (.getfield 9, 3) := by decide +kernel
theorem dX0_edge_71 : decode cX0_edge 71 = .ok (.iload 7, 2) := by decide +kernel
theorem dX0_edge_73 : decode cX0_edge 73 = .ok (.iaload, 1) := by decide +kernel
theorem dX0_edge_74 : decode cX0_edge 74 = .ok (.i2l, 1) := by decide +kernel
theorem dX0_edge_75 : decode cX0_edge 75 = .ok (.lsub, 1) := by decide +kernel
theorem dX0_edge_76 : decode cX0_edge 76 = .ok (.lmul, 1) := by decide +kernel
theorem dX0_edge_77 : decode cX0_edge 77 = .ok (.lsub, 1) := by decide +kernel
theorem dX0_edge_78 : decode cX0_edge 78 = .ok (.lreturn, 1) := by decide +kernel
theorem dX0_edgeStart_0 : decode cX0_edgeStart 0 = .ok (.iload_n 0, 1) := by decide +kernel
theorem dX0_edgeStart_1 : decode cX0_edgeStart 1 = .ok (.iconst 3, 1) := by decide +kernel
theorem dX0_edgeStart_2 : decode cX0_edgeStart 2 = .ok (.imul, 1) := by decide +kernel
theorem dX0_edgeStart_3 : decode cX0_edgeStart 3 = .ok (.iload_n 1, 1) := by decide +kernel
theorem dX0_edgeStart_4 : decode cX0_edgeStart 4 = .ok (.iconst 1, 1) := by decide +kernel
theorem dX0_edgeStart_5 : decode cX0_edgeStart 5 = .ok (.iadd, 1) := by decide +kernel
theorem dX0_edgeStart_6 : decode cX0_edgeStart 6 = .ok (.iconst 3, 1) := by decide +kernel
theorem dX0_edgeStart_7 : decode cX0_edgeStart 7 = .ok (.irem, 1) := by decide +kernel
theorem dX0_edgeStart_8 : decode cX0_edgeStart 8 = .ok (.iadd, 1) := by decide +kernel
theorem dX0_edgeStart_9 : decode cX0_edgeStart 9 = .ok (.ireturn, 1) := by decide +kernel
theorem dX0_edgeEnd_0 : decode cX0_edgeEnd 0 = .ok (.iload_n 0, 1) := by decide +kernel
theorem dX0_edgeEnd_1 : decode cX0_edgeEnd 1 = .ok (.iconst 3, 1) := by decide +kernel
theorem dX0_edgeEnd_2 : decode cX0_edgeEnd 2 = .ok (.imul, 1) := by decide +kernel
theorem dX0_edgeEnd_3 : decode cX0_edgeEnd 3 = .ok (.iload_n 1, 1) := by decide +kernel
theorem dX0_edgeEnd_4 : decode cX0_edgeEnd 4 = .ok (.iconst 2, 1) := by decide +kernel
theorem dX0_edgeEnd_5 : decode cX0_edgeEnd 5 = .ok (.iadd, 1) := by decide +kernel
theorem dX0_edgeEnd_6 : decode cX0_edgeEnd 6 = .ok (.iconst 3, 1) := by decide +kernel
theorem dX0_edgeEnd_7 : decode cX0_edgeEnd 7 = .ok (.irem, 1) := by decide +kernel
theorem dX0_edgeEnd_8 : decode cX0_edgeEnd 8 = .ok (.iadd, 1) := by decide +kernel
theorem dX0_edgeEnd_9 : decode cX0_edgeEnd 9 = .ok (.ireturn, 1) := by decide +kernel
set_option maxRecDepth 20000 in
theorem ggX0_covers_X0_edge : GoodIn wsX0_covers wsX0_edge := goodIn_r _ [5, 6, 7, 8, 9, 4, 10, 11, 12, 13, 18, 19, 20, 21] (by decide +kernel) (by decide +kernel)
set_option maxRecDepth 20000 in
theorem gX0_covers_X0_edge : GoodIn wsX0_covers (wsV RX0 60 RX0 yX0_edge wsX0_edge) := goodIn_app (goodIn_of _ (by decide +kernel)) ggX0_covers_X0_edge
set_option maxRecDepth 20000 in
theorem ggX0_covers_X0_ownsEdge : GoodIn wsX0_covers wsX0_ownsEdge := goodIn_r _ [17, 7, 6, 8, 9, 4, 10, 11, 12, 13, 18, 19, 20, 21] (by decide +kernel) (by decide +kernel)
set_option maxRecDepth 20000 in
theorem gX0_covers_X0_ownsEdge : GoodIn wsX0_covers (wsV RX0 70 RX0 yX0_ownsEdge wsX0_ownsEdge) := goodIn_app (goodIn_of _ (by decide +kernel)) ggX0_covers_X0_ownsEdge
theorem dX0_covers_0 : decode cX0_covers 0 = .ok (.iconst 0, 1) := by decide +kernel
theorem dX0_covers_1 : decode cX0_covers 1 = .ok (.istore 6, 2) := by decide +kernel
theorem dX0_covers_3 : decode cX0_covers 3 = .ok (.iload 6, 2) := by decide +kernel
theorem dX0_covers_5 : decode cX0_covers 5 = .ok (.iconst 3, 1) := by decide +kernel
theorem dX0_covers_6 : decode cX0_covers 6 = .ok (.if_icmp .ge 47, 3) := by decide +kernel
theorem dX0_covers_9 : decode cX0_covers 9 = .ok (.aload_n 0, 1) := by decide +kernel
theorem dX0_covers_10 : decode cX0_covers 10 = .ok (.iload_n 1, 1) := by decide +kernel
theorem dX0_covers_11 : decode cX0_covers 11 = .ok (.iload 6, 2) := by decide +kernel
theorem dX0_covers_13 : decode cX0_covers 13 = .ok (.lload_n 2, 1) := by decide +kernel
theorem dX0_covers_14 : decode cX0_covers 14 = .ok (.lload 4, 2) := by decide +kernel
theorem dX0_covers_16 : decode cX0_covers 16 = .ok (.invokevirtual 60, 3) := by decide +kernel
theorem dX0_covers_19 : decode cX0_covers 19 = .ok (.lstore 7, 2) := by decide +kernel
theorem dX0_covers_21 : decode cX0_covers 21 = .ok (.lload 7, 2) := by decide +kernel
theorem dX0_covers_23 : decode cX0_covers 23 = .ok (.lconst 0, 1) := by decide +kernel
theorem dX0_covers_24 : decode cX0_covers 24 = .ok (.lcmp, 1) := by decide +kernel
theorem dX0_covers_25 : decode cX0_covers 25 = .ok (.ifCond .lt 20, 3) := by decide +kernel
theorem dX0_covers_28 : decode cX0_covers 28 = .ok (.lload 7, 2) := by decide +kernel
theorem dX0_covers_30 : decode cX0_covers 30 = .ok (.lconst 0, 1) := by decide +kernel
theorem dX0_covers_31 : decode cX0_covers 31 = .ok (.lcmp, 1) := by decide +kernel
theorem dX0_covers_32 : decode cX0_covers 32 = .ok (.ifCond .ne 15, 3) := by decide +kernel
theorem dX0_covers_35 : decode cX0_covers 35 = .ok (.aload_n 0, 1) := by decide +kernel
theorem dX0_covers_36 : decode cX0_covers 36 = .ok (.iload_n 1, 1) := by decide +kernel
theorem dX0_covers_37 : decode cX0_covers 37 = .ok (.iload 6, 2) := by decide +kernel
theorem dX0_covers_39 : decode cX0_covers 39 = .ok (.invokevirtual 70, 3) := by decide +kernel
theorem dX0_covers_42 : decode cX0_covers 42 = .ok (.ifCond .ne 5, 3) := by decide +kernel
theorem dX0_covers_45 : decode cX0_covers 45 = .ok (.iconst 0, 1) := by decide +kernel
theorem dX0_covers_46 : decode cX0_covers 46 = .ok (.ireturn, 1) := by decide +kernel
theorem dX0_covers_47 : decode cX0_covers 47 = .ok (.iinc 6 1, 3) := by decide +kernel
theorem dX0_covers_50 : decode cX0_covers 50 = .ok (.goto (-47), 3) := by decide +kernel
theorem dX0_covers_53 : decode cX0_covers 53 = .ok (.iconst 1, 1) := by decide +kernel
theorem dX0_covers_54 : decode cX0_covers 54 = .ok (.ireturn, 1) := by decide +kernel
set_option maxRecDepth 20000 in
theorem ggX0_ownsEdge_X0_edgeStart : GoodIn wsX0_ownsEdge wsX0_edgeStart := goodIn_r _ [6] (by decide +kernel) (by decide +kernel)
set_option maxRecDepth 20000 in
theorem gX0_ownsEdge_X0_edgeStart : GoodIn wsX0_ownsEdge (va_wsS RX0 64 yX0_edgeStart wsX0_edgeStart) := goodIn_app (goodIn_of _ (by decide +kernel)) ggX0_ownsEdge_X0_edgeStart
set_option maxRecDepth 20000 in
theorem ggX0_ownsEdge_X0_edgeEnd : GoodIn wsX0_ownsEdge wsX0_edgeEnd := goodIn_r _ [9] (by decide +kernel) (by decide +kernel)
set_option maxRecDepth 20000 in
theorem gX0_ownsEdge_X0_edgeEnd : GoodIn wsX0_ownsEdge (va_wsS RX0 67 yX0_edgeEnd wsX0_edgeEnd) := goodIn_app (goodIn_of _ (by decide +kernel)) ggX0_ownsEdge_X0_edgeEnd
theorem dX0_ownsEdge_0 : decode cX0_ownsEdge 0 = .ok (.iload_n 1, 1) := by decide +kernel
theorem dX0_ownsEdge_1 : decode cX0_ownsEdge 1 = .ok (.iload_n 2, 1) := by decide +kernel
theorem dX0_ownsEdge_2 : decode cX0_ownsEdge 2 = .ok (.invokestatic 64, 3) := by decide +kernel
theorem dX0_ownsEdge_5 : decode cX0_ownsEdge 5 = .ok (.istore_n 3, 1) := by decide +kernel
theorem dX0_ownsEdge_6 : decode cX0_ownsEdge 6 = .ok (.iload_n 1, 1) := by decide +kernel
theorem dX0_ownsEdge_7 : decode cX0_ownsEdge 7 = .ok (.iload_n 2, 1) := by decide +kernel
theorem dX0_ownsEdge_8 : decode cX0_ownsEdge 8 = .ok (.invokestatic 67, 3) := by decide +kernel
theorem dX0_ownsEdge_11 : decode cX0_ownsEdge 11 = .ok (.istore 4, 2) := by decide +kernel
theorem dX0_ownsEdge_13 : decode cX0_ownsEdge 13 = .ok (.aload_n 0, 1) := by decide +kernel
theorem dX0_ownsEdge_14 : decode cX0_ownsEdge 14 = .ok (.getfield 13, 3) := by decide +kernel
theorem dX0_ownsEdge_17 : decode cX0_ownsEdge 17 = .ok (.iload 4, 2) := by decide +kernel
theorem dX0_ownsEdge_19 : decode cX0_ownsEdge 19 = .ok (.iaload, 1) := by decide +kernel
theorem dX0_ownsEdge_20 : decode cX0_ownsEdge 20 = .ok (.aload_n 0, 1) := by decide +kernel
theorem dX0_ownsEdge_21 : decode cX0_ownsEdge 21 = .ok (.getfield 13, 3) := by decide +kernel
theorem dX0_ownsEdge_24 : decode cX0_ownsEdge 24 = .ok (.iload_n 3, 1) := by decide +kernel
theorem dX0_ownsEdge_25 : decode cX0_ownsEdge 25 = .ok (.iaload, 1) := by decide +kernel
theorem dX0_ownsEdge_26 : decode cX0_ownsEdge 26 = .ok (.if_icmp .lt 35, 3) := by decide +kernel
theorem dX0_ownsEdge_29 : decode cX0_ownsEdge 29 = .ok (.aload_n 0, 1) := by decide +kernel
theorem dX0_ownsEdge_30 : decode cX0_ownsEdge 30 = .ok (.getfield 13, 3) := by decide +kernel
theorem dX0_ownsEdge_33 : decode cX0_ownsEdge 33 = .ok (.iload 4, 2) := by decide +kernel
theorem dX0_ownsEdge_35 : decode cX0_ownsEdge 35 = .ok (.iaload, 1) := by decide +kernel
theorem dX0_ownsEdge_36 : decode cX0_ownsEdge 36 = .ok (.aload_n 0, 1) := by decide +kernel
theorem dX0_ownsEdge_37 : decode cX0_ownsEdge 37 = .ok (.getfield 13, 3) := by decide +kernel
theorem dX0_ownsEdge_40 : decode cX0_ownsEdge 40 = .ok (.iload_n 3, 1) := by decide +kernel
theorem dX0_ownsEdge_41 : decode cX0_ownsEdge 41 = .ok (.iaload, 1) := by decide +kernel
theorem dX0_ownsEdge_42 : decode cX0_ownsEdge 42 = .ok (.if_icmp .ne 23, 3) := by decide +kernel
theorem dX0_ownsEdge_45 : decode cX0_ownsEdge 45 = .ok (.aload_n 0, 1) := by decide +kernel
theorem dX0_ownsEdge_46 : decode cX0_ownsEdge 46 = .ok (.getfield 9, 3) := by decide +kernel
theorem dX0_ownsEdge_49 : decode cX0_ownsEdge 49 = .ok (.iload 4, 2) := by decide +kernel
theorem dX0_ownsEdge_51 : decode cX0_ownsEdge 51 = .ok (.iaload, 1) := by decide +kernel
theorem dX0_ownsEdge_52 : decode cX0_ownsEdge 52 = .ok (.aload_n 0, 1) := by decide +kernel
theorem dX0_ownsEdge_53 : decode cX0_ownsEdge 53 = .ok (.getfield 9, 3) := by decide +kernel
theorem dX0_ownsEdge_56 : decode cX0_ownsEdge 56 = .ok (.iload_n 3, 1) := by decide +kernel
theorem dX0_ownsEdge_57 : decode cX0_ownsEdge 57 = .ok (.iaload, 1) := by decide +kernel
theorem dX0_ownsEdge_58 : decode cX0_ownsEdge 58 = .ok (.if_icmp .le 7, 3) := by decide +kernel
theorem dX0_ownsEdge_61 : decode cX0_ownsEdge 61 = .ok (.iconst 1, 1) := by decide +kernel
theorem dX0_ownsEdge_62 : decode cX0_ownsEdge 62 = .ok (.goto 4, 3) := by decide +kernel
theorem dX0_ownsEdge_65 : decode cX0_ownsEdge 65 = .ok (.iconst 0, 1) := by decide +kernel
theorem dX0_ownsEdge_66 : decode cX0_ownsEdge 66 = .ok (.ireturn, 1) := by decide +kernel
set_option maxRecDepth 20000 in
theorem ggX0_nearnessOf_X0_edge : GoodIn wsX0_nearnessOf wsX0_edge := goodIn_r _ [6, 7, 8, 9, 10, 5, 11, 12, 13, 14, 23, 24, 25, 26] (by decide +kernel) (by decide +kernel)
set_option maxRecDepth 20000 in
theorem gX0_nearnessOf_X0_edge : GoodIn wsX0_nearnessOf (wsV RX0 60 RX0 yX0_edge wsX0_edge) := goodIn_app (goodIn_of _ (by decide +kernel)) ggX0_nearnessOf_X0_edge
set_option maxRecDepth 20000 in
theorem ggX0_nearnessOf_X0_areaOf : GoodIn wsX0_nearnessOf wsX0_areaOf := goodIn_r _ [18, 7, 8, 2, 3, 4, 5, 6, 9, 10, 11, 12, 13, 14, 23, 24, 25, 26] (by decide +kernel) (by decide +kernel)
set_option maxRecDepth 20000 in
theorem gX0_nearnessOf_X0_areaOf : GoodIn wsX0_nearnessOf (wsV RX0 28 RX0 yX0_areaOf wsX0_areaOf) := goodIn_app (goodIn_of _ (by decide +kernel)) ggX0_nearnessOf_X0_areaOf
set_option maxRecDepth 20000 in
theorem ggX0_nearnessOf_J9_floorDiv_f86c9 : GoodIn wsX0_nearnessOf wsJ9_floorDiv_f86c9 := goodIn_r _ [22] (by decide +kernel) (by decide +kernel)
set_option maxRecDepth 20000 in
theorem gX0_nearnessOf_J9_floorDiv_f86c9 : GoodIn wsX0_nearnessOf (va_wsS RX0 74 yJ9_floorDiv_f86c9 wsJ9_floorDiv_f86c9) := goodIn_app (goodIn_of _ (by decide +kernel)) ggX0_nearnessOf_J9_floorDiv_f86c9
theorem dX0_nearnessOf_0 : decode cX0_nearnessOf 0 = .ok (.lconst 0, 1) := by decide +kernel
theorem dX0_nearnessOf_1 : decode cX0_nearnessOf 1 = .ok (.lstore 6, 2) := by decide +kernel
theorem dX0_nearnessOf_3 : decode cX0_nearnessOf 3 = .ok (.iconst 0, 1) := by decide +kernel
theorem dX0_nearnessOf_4 : decode cX0_nearnessOf 4 = .ok (.istore 8, 2) := by decide +kernel
theorem dX0_nearnessOf_6 : decode cX0_nearnessOf 6 = .ok (.iload 8, 2) := by decide +kernel
theorem dX0_nearnessOf_8 : decode cX0_nearnessOf 8 = .ok (.iconst 3, 1) := by decide +kernel
theorem dX0_nearnessOf_9 : decode cX0_nearnessOf 9 = .ok (.if_icmp .ge 37, 3) := by decide +kernel
theorem dX0_nearnessOf_12 : decode cX0_nearnessOf 12 = .ok (.lload 6, 2) := by decide +kernel
theorem dX0_nearnessOf_14 : decode cX0_nearnessOf 14 = .ok (.aload_n 0, 1) := by decide +kernel
theorem dX0_nearnessOf_15 : decode cX0_nearnessOf 15 = .ok (.iload_n 1, 1) := by decide +kernel
theorem dX0_nearnessOf_16 : decode cX0_nearnessOf 16 = .ok (.iload 8, 2) := by decide +kernel
theorem dX0_nearnessOf_18 : decode cX0_nearnessOf 18 = .ok (.lload_n 2, 1) := by decide +kernel
theorem dX0_nearnessOf_19 : decode cX0_nearnessOf 19 = .ok (.lload 4, 2) := by decide +kernel
theorem dX0_nearnessOf_21 : decode cX0_nearnessOf 21 = .ok (.invokevirtual 60, 3) := by decide +kernel
theorem dX0_nearnessOf_24 : decode cX0_nearnessOf 24 = .ok (.aload_n 0, 1) := by decide +kernel
theorem dX0_nearnessOf_25 : decode cX0_nearnessOf 25 = .ok (.getfield 16, 3) := by decide +kernel
theorem dX0_nearnessOf_28 : decode cX0_nearnessOf 28 = .ok (.iload_n 1, 1) := by decide +kernel
theorem dX0_nearnessOf_29 : decode cX0_nearnessOf 29 = .ok (.iconst 3, 1) := by decide +kernel
theorem dX0_nearnessOf_30 : decode cX0_nearnessOf 30 = .ok (.imul, 1) := by decide +kernel
theorem dX0_nearnessOf_31 : decode cX0_nearnessOf 31 = .ok (.iload 8, 2) := by decide +kernel
theorem dX0_nearnessOf_33 : decode cX0_nearnessOf 33 = .ok (.iadd, 1) := by decide +kernel
theorem dX0_nearnessOf_34 : decode cX0_nearnessOf 34 = .ok (.iaload, 1) := by decide +kernel
theorem dX0_nearnessOf_35 : decode cX0_nearnessOf 35 = .ok (.i2l, 1) := by decide +kernel
theorem dX0_nearnessOf_36 : decode cX0_nearnessOf 36 = .ok (.lmul, 1) := by decide +kernel
theorem dX0_nearnessOf_37 : decode cX0_nearnessOf 37 = .ok (.ladd, 1) := by decide +kernel
theorem dX0_nearnessOf_38 : decode cX0_nearnessOf 38 = .ok (.lstore 6, 2) := by decide +kernel
theorem dX0_nearnessOf_40 : decode cX0_nearnessOf 40 = .ok (.iinc 8 1, 3) := by decide +kernel
theorem dX0_nearnessOf_43 : decode cX0_nearnessOf 43 = .ok (.goto (-37), 3) := by decide +kernel
theorem dX0_nearnessOf_46 : decode cX0_nearnessOf 46 = .ok (.aload_n 0, 1) := by decide +kernel
theorem dX0_nearnessOf_47 : decode cX0_nearnessOf 47 = .ok (.iload_n 1, 1) := by decide +kernel
theorem dX0_nearnessOf_48 : decode cX0_nearnessOf 48 = .ok (.invokevirtual 28, 3) := by decide +kernel
theorem dX0_nearnessOf_51 : decode cX0_nearnessOf 51 = .ok (.lstore 8, 2) := by decide +kernel
theorem dX0_nearnessOf_53 : decode cX0_nearnessOf 53 = .ok (.lload 8, 2) := by decide +kernel
theorem dX0_nearnessOf_55 : decode cX0_nearnessOf 55 = .ok (.lconst 0, 1) := by decide +kernel
theorem dX0_nearnessOf_56 : decode cX0_nearnessOf 56 = .ok (.lcmp, 1) := by decide +kernel
theorem dX0_nearnessOf_57 : decode cX0_nearnessOf 57 = .ok (.ifCond .gt 5, 3) := by decide +kernel
theorem dX0_nearnessOf_60 : decode cX0_nearnessOf 60 = .ok (.iconst (-1), 1) := by decide +kernel
theorem dX0_nearnessOf_61 : decode cX0_nearnessOf 61 = .ok (.ireturn, 1) := by decide +kernel
theorem dX0_nearnessOf_62 : decode cX0_nearnessOf 62 = .ok (.lload 6, 2) := by decide +kernel
theorem dX0_nearnessOf_64 : decode cX0_nearnessOf 64 = .ok (.lload 8, 2) := by decide +kernel
theorem dX0_nearnessOf_66 : decode cX0_nearnessOf 66 = .ok (.invokestatic 74, 3) := by decide +kernel
theorem dX0_nearnessOf_69 : decode cX0_nearnessOf 69 = .ok (.l2i, 1) := by decide +kernel
theorem dX0_nearnessOf_70 : decode cX0_nearnessOf 70 = .ok (.ireturn, 1) := by decide +kernel
theorem dX1_init_0 : decode cX1_init 0 = .ok (.aload_n 0, 1) := by decide +kernel
theorem dX1_init_1 : decode cX1_init 1 = .ok (.invokespecial 1, 3) := by decide +kernel
theorem dX1_init_4 : decode cX1_init 4 = .ok (.aload_n 0, 1) := by decide +kernel
theorem dX1_init_5 : decode cX1_init 5 = .ok (.sipush 4617, 3) := by decide +kernel
theorem dX1_init_8 : decode cX1_init 8 = .ok (.newarray .int, 2) := by decide +kernel
theorem dX1_init_10 : decode cX1_init 10 = .ok (.putfield 7, 3) := by decide +kernel
theorem dX1_init_13 : decode cX1_init 13 = .ok (.iconst 0, 1) := by decide +kernel
theorem dX1_init_14 : decode cX1_init 14 = .ok (.istore_n 1, 1) := by decide +kernel
theorem dX1_init_15 : decode cX1_init 15 = .ok (.iload_n 1, 1) := by decide +kernel
theorem dX1_init_16 : decode cX1_init 16 = .ok (.iconst 3, 1) := by decide +kernel
theorem dX1_init_17 : decode cX1_init 17 = .ok (.if_icmp .ge 24, 3) := by decide +kernel
theorem dX1_init_20 : decode cX1_init 20 = .ok (.aload_n 0, 1) := by decide +kernel
theorem dX1_init_21 : decode cX1_init 21 = .ok (.getfield 7, 3) := by decide +kernel
theorem dX1_init_24 : decode cX1_init 24 = .ok (.sipush 4608, 3) := by decide +kernel
theorem dX1_init_27 : decode cX1_init 27 = .ok (.iconst 3, 1) := by decide +kernel
theorem dX1_init_28 : decode cX1_init 28 = .ok (.iload_n 1, 1) := by decide +kernel
theorem dX1_init_29 : decode cX1_init 29 = .ok (.imul, 1) := by decide +kernel
theorem dX1_init_30 : decode cX1_init 30 = .ok (.iadd, 1) := by decide +kernel
theorem dX1_init_31 : decode cX1_init 31 = .ok (.iconst 2, 1) := by decide +kernel
theorem dX1_init_32 : decode cX1_init 32 = .ok (.iadd, 1) := by decide +kernel
theorem dX1_init_33 : decode cX1_init 33 = .ok (.iconst 1, 1) := by decide +kernel
theorem dX1_init_34 : decode cX1_init 34 = .ok (.iastore, 1) := by decide +kernel
theorem dX1_init_35 : decode cX1_init 35 = .ok (.iinc 1 1, 3) := by decide +kernel
theorem dX1_init_38 : decode cX1_init 38 = .ok (.goto (-23), 3) := by decide +kernel
theorem dX1_init_41 : decode cX1_init 41 = .ok (.return_, 1) := by decide +kernel
theorem dX1_corner_0 : decode cX1_corner 0 = .ok (.aload_n 0, 1) := by decide +kernel
theorem dX1_corner_1 : decode cX1_corner 1 = .ok (.iconst 0, 1) := by decide +kernel
theorem dX1_corner_2 : decode cX1_corner 2 = .ok (.putfield 13, 3) := by decide +kernel
theorem dX1_corner_5 : decode cX1_corner 5 = .ok (.iload_n 1, 1) := by decide +kernel
theorem dX1_corner_6 : decode cX1_corner 6 = .ok (.ifCond .lt 53, 3) := by decide +kernel
theorem dX1_corner_9 : decode cX1_corner 9 = .ok (.iload_n 1, 1) := by decide +kernel
theorem dX1_corner_10 : decode cX1_corner 10 = .ok (.iconst 3, 1) := by decide +kernel
theorem dX1_corner_11 : decode cX1_corner 11 = .ok (.if_icmp .ge 48, 3) := by decide +kernel
theorem dX1_corner_14 : decode cX1_corner 14 = .ok (.iload_n 2, 1) := by decide +kernel
theorem dX1_corner_15 : decode cX1_corner 15 = .ok (.sipush (-4096), 3) := by decide +kernel
theorem dX1_corner_18 : decode cX1_corner 18 = .ok (.if_icmp .lt 41, 3) := by decide +kernel
theorem dX1_corner_21 : decode cX1_corner 21 = .ok (.iload_n 2, 1) := by decide +kernel
theorem dX1_corner_22 : decode cX1_corner 22 = .ok (.sipush 4096, 3) := by decide +kernel
theorem dX1_corner_25 : decode cX1_corner 25 = .ok (.if_icmp .gt 34, 3) := by decide +kernel
theorem dX1_corner_28 : decode cX1_corner 28 = .ok (.iload_n 3, 1) := by decide +kernel
theorem dX1_corner_29 : decode cX1_corner 29 = .ok (.sipush (-4096), 3) := by decide +kernel
theorem dX1_corner_32 : decode cX1_corner 32 = .ok (.if_icmp .lt 27, 3) := by decide +kernel
theorem dX1_corner_35 : decode cX1_corner 35 = .ok (.iload_n 3, 1) := by decide +kernel
theorem dX1_corner_36 : decode cX1_corner 36 = .ok (.sipush 4096, 3) := by decide +kernel
theorem dX1_corner_39 : decode cX1_corner 39 = .ok (.if_icmp .gt 20, 3) := by decide +kernel
theorem dX1_corner_42 : decode cX1_corner 42 = .ok (.iload 4, 2) := by decide +kernel
theorem dX1_corner_44 : decode cX1_corner 44 = .ok (.iconst 1, 1) := by decide +kernel
theorem dX1_corner_45 : decode cX1_corner 45 = .ok (.if_icmp .lt 14, 3) := by decide +kernel
theorem dX1_corner_48 : decode cX1_corner 48 = .ok (.iload 4, 2) := by decide +kernel
theorem dX1_corner_50 : decode cX1_corner 50 = .ok (.ldc 17, 2) := by decide +kernel
theorem dX1_corner_52 : decode cX1_corner 52 = .ok (.if_icmp .gt 7, 3) := by decide +kernel
theorem dX1_corner_55 : decode cX1_corner 55 = .ok (.iconst 1, 1) := by decide +kernel
theorem dX1_corner_56 : decode cX1_corner 56 = .ok (.goto 4, 3) := by decide +kernel
theorem dX1_corner_59 : decode cX1_corner 59 = .ok (.iconst 0, 1) := by decide +kernel
theorem dX1_corner_60 : decode cX1_corner 60 = .ok (.istore 5, 2) := by decide +kernel
theorem dX1_corner_62 : decode cX1_corner 62 = .ok (.iload 5, 2) := by decide +kernel
theorem dX1_corner_64 : decode cX1_corner 64 = .ok (.ifCond .eq 47, 3) := by decide +kernel
theorem dX1_corner_67 : decode cX1_corner 67 = .ok (.aload_n 0, 1) := by decide +kernel
theorem dX1_corner_68 : decode cX1_corner 68 = .ok (.getfield 7, 3) := by decide +kernel
theorem dX1_corner_71 : decode cX1_corner 71 = .ok (.sipush 4608, 3) := by decide +kernel
theorem dX1_corner_74 : decode cX1_corner 74 = .ok (.iconst 3, 1) := by decide +kernel
theorem dX1_corner_75 : decode cX1_corner 75 = .ok (.iload_n 1, 1) := by decide +kernel
theorem dX1_corner_76 : decode cX1_corner 76 = .ok (.imul, 1) := by decide +kernel
theorem dX1_corner_77 : decode cX1_corner 77 = .ok (.iadd, 1) := by decide +kernel
theorem dX1_corner_78 : decode cX1_corner 78 = .ok (.iload_n 2, 1) := by decide +kernel
theorem dX1_corner_79 : decode cX1_corner 79 = .ok (.iastore, 1) := by decide +kernel
theorem dX1_corner_80 : decode cX1_corner 80 = .ok (.aload_n 0, 1) := by decide +kernel
theorem dX1_corner_81 : decode cX1_corner 81 = .ok (.getfield 7, 3) := by decide +kernel
theorem dX1_corner_84 : decode cX1_corner 84 = .ok (.sipush 4608, 3) := by decide +kernel
theorem dX1_corner_87 : decode cX1_corner 87 = .ok (.iconst 3, 1) := by decide +kernel
theorem dX1_corner_88 : decode cX1_corner 88 = .ok (.iload_n 1, 1) := by decide +kernel
theorem dX1_corner_89 : decode cX1_corner 89 = .ok (.imul, 1) := by decide +kernel
theorem dX1_corner_90 : decode cX1_corner 90 = .ok (.iadd, 1) := by decide +kernel
theorem dX1_corner_91 : decode cX1_corner 91 = .ok (.iconst 1, 1) := by decide +kernel
theorem dX1_corner_92 : decode cX1_corner 92 = .ok (.iadd, 1) := by decide +kernel
theorem dX1_corner_93 : decode cX1_corner 93 = .ok (.iload_n 3, 1) := by decide +kernel
theorem dX1_corner_94 : decode cX1_corner 94 = .ok (.iastore, 1) := by decide +kernel
theorem dX1_corner_95 : decode cX1_corner 95 = .ok (.aload_n 0, 1) := by decide +kernel
theorem dX1_corner_96 : decode cX1_corner 96 = .ok (.getfield 7, 3) := by decide +kernel
theorem dX1_corner_99 : decode cX1_corner 99 = .ok (.sipush 4608, 3) := by decide +kernel
theorem dX1_corner_102 : decode cX1_corner 102 = .ok (.iconst 3, 1) := by decide +kernel
theorem dX1_corner_103 : decode cX1_corner 103 = .ok (.iload_n 1, 1) := by decide +kernel
theorem dX1_corner_104 : decode cX1_corner 104 = .ok (.imul, 1) := by decide +kernel
theorem dX1_corner_105 : decode cX1_corner 105 = .ok (.iadd, 1) := by decide +kernel
theorem dX1_corner_106 : decode cX1_corner 106 = .ok (.iconst 2, 1) := by decide +kernel
theorem dX1_corner_107 : decode cX1_corner 107 = .ok (.iadd, 1) := by decide +kernel
theorem dX1_corner_108 : decode cX1_corner 108 = .ok (.iload 4, 2) := by decide +kernel
theorem dX1_corner_110 : decode cX1_corner 110 = .ok (.iastore, 1) := by decide +kernel
theorem dX1_corner_111 : decode cX1_corner 111 = .ok (.iload 5, 2) := by decide +kernel
theorem dX1_corner_113 : decode cX1_corner 113 = .ok (.ireturn, 1) := by decide +kernel
theorem dX1_edge_0 : decode cX1_edge 0 = .ok (.aload_n 0, 1) := by decide +kernel
theorem dX1_edge_1 : decode cX1_edge 1 = .ok (.getfield 7, 3) := by decide +kernel
theorem dX1_edge_4 : decode cX1_edge 4 = .ok (.iload_n 2, 1) := by decide +kernel
theorem dX1_edge_5 : decode cX1_edge 5 = .ok (.iaload, 1) := by decide +kernel
theorem dX1_edge_6 : decode cX1_edge 6 = .ok (.aload_n 0, 1) := by decide +kernel
theorem dX1_edge_7 : decode cX1_edge 7 = .ok (.getfield 7, 3) := by decide +kernel
theorem dX1_edge_10 : decode cX1_edge 10 = .ok (.iload_n 1, 1) := by decide +kernel
theorem dX1_edge_11 : decode cX1_edge 11 = .ok (.iaload, 1) := by decide +kernel
theorem dX1_edge_12 : decode cX1_edge 12 = .ok (.isub, 1) := by decide +kernel
theorem dX1_edge_13 : decode cX1_edge 13 = .ok (.i2l, 1) := by decide +kernel
theorem dX1_edge_14 : decode cX1_edge 14 = .ok (.lload 5, 2) := by decide +kernel
theorem dX1_edge_16 : decode cX1_edge 16 = .ok (.aload_n 0, 1) := by decide +kernel
theorem dX1_edge_17 : decode cX1_edge 17 = .ok (.getfield 7, 3) := by decide +kernel
theorem dX1_edge_20 : decode cX1_edge 20 = .ok (.iload_n 1, 1) := by decide +kernel
theorem dX1_edge_21 : decode cX1_edge 21 = .ok (.iconst 1, 1) := by decide +kernel
theorem dX1_edge_22 : decode cX1_edge 22 = .ok (.iadd, 1) := by decide +kernel
theorem dX1_edge_23 : decode cX1_edge 23 = .ok (.iaload, 1) := by decide +kernel
theorem dX1_edge_24 : decode cX1_edge 24 = .ok (.i2l, 1) := by decide +kernel
theorem dX1_edge_25 : decode cX1_edge 25 = .ok (.lsub, 1) := by decide +kernel
theorem dX1_edge_26 : decode cX1_edge 26 = .ok (.lmul, 1) := by decide +kernel
theorem dX1_edge_27 : decode cX1_edge 27 = .ok (.aload_n 0, 1) := by decide +kernel
theorem dX1_edge_28 : decode cX1_edge 28 = .ok (.getfield 7, 3) := by decide +kernel
theorem dX1_edge_31 : decode cX1_edge 31 = .ok (.iload_n 2, 1) := by decide +kernel
theorem dX1_edge_32 : decode cX1_edge 32 = .ok (.iconst 1, 1) := by decide +kernel
theorem dX1_edge_33 : decode cX1_edge 33 = .ok (.iadd, 1) := by decide +kernel
theorem dX1_edge_34 : decode cX1_edge 34 = .ok (.iaload, 1) := by decide +kernel
theorem dX1_edge_35 : decode cX1_edge 35 = .ok (.aload_n 0, 1) := by decide +kernel
theorem dX1_edge_36 : decode cX1_edge 36 = .ok (.getfield 7, 3) := by decide +kernel
theorem dX1_edge_39 : decode cX1_edge 39 = .ok (.iload_n 1, 1) := by decide +kernel
theorem dX1_edge_40 : decode cX1_edge 40 = .ok (.iconst 1, 1) := by decide +kernel
theorem dX1_edge_41 : decode cX1_edge 41 = .ok (.iadd, 1) := by decide +kernel
theorem dX1_edge_42 : decode cX1_edge 42 = .ok (.iaload, 1) := by decide +kernel
theorem dX1_edge_43 : decode cX1_edge 43 = .ok (.isub, 1) := by decide +kernel
theorem dX1_edge_44 : decode cX1_edge 44 = .ok (.i2l, 1) := by decide +kernel
theorem dX1_edge_45 : decode cX1_edge 45 = .ok (.lload_n 3, 1) := by decide +kernel
theorem dX1_edge_46 : decode cX1_edge 46 = .ok (.aload_n 0, 1) := by decide +kernel
theorem dX1_edge_47 : decode cX1_edge 47 = .ok (.getfield 7, 3) := by decide +kernel
theorem dX1_edge_50 : decode cX1_edge 50 = .ok (.iload_n 1, 1) := by decide +kernel
theorem dX1_edge_51 : decode cX1_edge 51 = .ok (.iaload, 1) := by decide +kernel
theorem dX1_edge_52 : decode cX1_edge 52 = .ok (.i2l, 1) := by decide +kernel
theorem dX1_edge_53 : decode cX1_edge 53 = .ok (.lsub, 1) := by decide +kernel
theorem dX1_edge_54 : decode cX1_edge 54 = .ok (.lmul, 1) := by decide +kernel
theorem dX1_edge_55 : decode cX1_edge 55 = .ok (.lsub, 1) := by decide +kernel
theorem dX1_edge_56 : decode cX1_edge 56 = .ok (.lreturn, 1) := by decide +kernel
set_option maxRecDepth 20000 in
theorem ggX1_areaAt_X1_edge : GoodIn wsX1_areaAt wsX1_edge := goodIn_r _ [6, 1, 7, 8, 9] (by decide +kernel) (by decide +kernel)
set_option maxRecDepth 20000 in
theorem gX1_areaAt_X1_edge : GoodIn wsX1_areaAt (wsV RX1 18 RX1 yX1_edge wsX1_edge) := goodIn_app (goodIn_of _ (by decide +kernel)) ggX1_areaAt_X1_edge
theorem dX1_areaAt_0 : decode cX1_areaAt 0 = .ok (.aload_n 0, 1) := by decide +kernel
theorem dX1_areaAt_1 : decode cX1_areaAt 1 = .ok (.iload_n 1, 1) := by decide +kernel
theorem dX1_areaAt_2 : decode cX1_areaAt 2 = .ok (.iload_n 1, 1) := by decide +kernel
theorem dX1_areaAt_3 : decode cX1_areaAt 3 = .ok (.iconst 3, 1) := by decide +kernel
theorem dX1_areaAt_4 : decode cX1_areaAt 4 = .ok (.iadd, 1) := by decide +kernel
theorem dX1_areaAt_5 : decode cX1_areaAt 5 = .ok (.aload_n 0, 1) := by decide +kernel
theorem dX1_areaAt_6 : decode cX1_areaAt 6 = .ok (.getfield 7, 3) := by decide +kernel
theorem dX1_areaAt_9 : decode cX1_areaAt 9 = .ok (.iload_n 1, 1) := by decide +kernel
theorem dX1_areaAt_10 : decode cX1_areaAt 10 = .ok (.bipush 6, 2) := by decide +kernel
theorem dX1_areaAt_12 : decode cX1_areaAt 12 = .ok (.iadd, 1) := by decide +kernel
theorem dX1_areaAt_13 : decode cX1_areaAt 13 = .ok (.iaload, 1) := by decide +kernel
theorem dX1_areaAt_14 : decode cX1_areaAt 14 = .ok (.i2l, 1) := by decide +kernel
theorem dX1_areaAt_15 : decode cX1_areaAt 15 = .ok (.aload_n 0, 1) := by decide +kernel
theorem dX1_areaAt_16 : decode cX1_areaAt 16 = .ok (.getfield 7, 3) := by decide +kernel
theorem dX1_areaAt_19 : decode cX1_areaAt 19 = .ok (.iload_n 1, 1) := by decide +kernel
theorem dX1_areaAt_20 : decode cX1_areaAt 20 = .ok (.bipush 7, 2) := by decide +kernel
theorem dX1_areaAt_22 : decode cX1_areaAt 22 = .ok (.iadd, 1) := by decide +kernel
theorem dX1_areaAt_23 : decode cX1_areaAt 23 = .ok (.iaload, 1) := by decide +kernel
theorem dX1_areaAt_24 : decode cX1_areaAt 24 = .ok (.i2l, 1) := by decide +kernel
theorem dX1_areaAt_25 : decode cX1_areaAt 25 = .ok (.invokevirtual 18, 3) := by decide +kernel
theorem dX1_areaAt_28 : decode cX1_areaAt 28 = .ok (.lreturn, 1) := by decide +kernel
set_option maxRecDepth 20000 in
theorem ggX1_add_X1_areaAt : GoodIn wsX1_add wsX1_areaAt := goodIn_r _ [8, 3, 9, 10, 11, 7, 12, 13, 14, 15] (by decide +kernel) (by decide +kernel)
set_option maxRecDepth 20000 in
theorem gX1_add_X1_areaAt : GoodIn wsX1_add (wsV RX1 25 RX1 yX1_areaAt wsX1_areaAt) := goodIn_app (goodIn_of _ (by decide +kernel)) ggX1_add_X1_areaAt
theorem dX1_add_0 : decode cX1_add 0 = .ok (.aload_n 0, 1) := by decide +kernel
theorem dX1_add_1 : decode cX1_add 1 = .ok (.iconst 0, 1) := by decide +kernel
theorem dX1_add_2 : decode cX1_add 2 = .ok (.putfield 13, 3) := by decide +kernel
theorem dX1_add_5 : decode cX1_add 5 = .ok (.aload_n 0, 1) := by decide +kernel
theorem dX1_add_6 : decode cX1_add 6 = .ok (.getfield 22, 3) := by decide +kernel
theorem dX1_add_9 : decode cX1_add 9 = .ok (.sipush 512, 3) := by decide +kernel
theorem dX1_add_12 : decode cX1_add 12 = .ok (.if_icmp .eq 15, 3) := by decide +kernel
theorem dX1_add_15 : decode cX1_add 15 = .ok (.aload_n 0, 1) := by decide +kernel
theorem dX1_add_16 : decode cX1_add 16 = .ok (.sipush 4608, 3) := by decide +kernel
theorem dX1_add_19 : decode cX1_add 19 = .ok (.invokevirtual 25, 3) := by decide +kernel
theorem dX1_add_22 : decode cX1_add 22 = .ok (.lconst 0, 1) := by decide +kernel
theorem dX1_add_23 : decode cX1_add 23 = .ok (.lcmp, 1) := by decide +kernel
theorem dX1_add_24 : decode cX1_add 24 = .ok (.ifCond .gt 5, 3) := by decide +kernel
theorem dX1_add_27 : decode cX1_add 27 = .ok (.iconst (-1), 1) := by decide +kernel
theorem dX1_add_28 : decode cX1_add 28 = .ok (.ireturn, 1) := by decide +kernel
theorem dX1_add_29 : decode cX1_add 29 = .ok (.iconst 0, 1) := by decide +kernel
theorem dX1_add_30 : decode cX1_add 30 = .ok (.istore_n 1, 1) := by decide +kernel
theorem dX1_add_31 : decode cX1_add 31 = .ok (.iload_n 1, 1) := by decide +kernel
theorem dX1_add_32 : decode cX1_add 32 = .ok (.bipush 9, 2) := by decide +kernel
theorem dX1_add_34 : decode cX1_add 34 = .ok (.if_icmp .ge 33, 3) := by decide +kernel
theorem dX1_add_37 : decode cX1_add 37 = .ok (.aload_n 0, 1) := by decide +kernel
theorem dX1_add_38 : decode cX1_add 38 = .ok (.getfield 7, 3) := by decide +kernel
theorem dX1_add_41 : decode cX1_add 41 = .ok (.bipush 9, 2) := by decide +kernel
theorem dX1_add_43 : decode cX1_add 43 = .ok (.aload_n 0, 1) := by decide +kernel
theorem dX1_add_44 : decode cX1_add 44 = .ok (.getfield 22, 3) := by decide +kernel
theorem dX1_add_47 : decode cX1_add 47 = .ok (.imul, 1) := by decide +kernel
theorem dX1_add_48 : decode cX1_add 48 = .ok (.iload_n 1, 1) := by decide +kernel
theorem dX1_add_49 : decode cX1_add 49 = .ok (.iadd, 1) := by decide +kernel
theorem dX1_add_50 : decode cX1_add 50 = .ok (.aload_n 0, 1) := by decide +kernel
theorem dX1_add_51 : decode cX1_add 51 = .ok (.getfield 7, 3) := by decide +kernel
theorem dX1_add_54 : decode cX1_add 54 = .ok (.sipush 4608, 3) := by decide +kernel
theorem dX1_add_57 : decode cX1_add 57 = .ok (.iload_n 1, 1) := by decide +kernel
theorem dX1_add_58 : decode cX1_add 58 = .ok (.iadd, 1) := by decide +kernel
theorem dX1_add_59 : decode cX1_add 59 = .ok (.iaload, 1) := by decide +kernel
theorem dX1_add_60 : decode cX1_add 60 = .ok (.iastore, 1) := by decide +kernel
theorem dX1_add_61 : decode cX1_add 61 = .ok (.iinc 1 1, 3) := by decide +kernel
theorem dX1_add_64 : decode cX1_add 64 = .ok (.goto (-33), 3) := by decide +kernel
theorem dX1_add_67 : decode cX1_add 67 = .ok (.aload_n 0, 1) := by decide +kernel
theorem dX1_add_68 : decode cX1_add 68 = .ok (.dup, 1) := by decide +kernel
theorem dX1_add_69 : decode cX1_add 69 = .ok (.getfield 22, 3) := by decide +kernel
theorem dX1_add_72 : decode cX1_add 72 = .ok (.iconst 1, 1) := by decide +kernel
theorem dX1_add_73 : decode cX1_add 73 = .ok (.iadd, 1) := by decide +kernel
theorem dX1_add_74 : decode cX1_add 74 = .ok (.putfield 22, 3) := by decide +kernel
theorem dX1_add_77 : decode cX1_add 77 = .ok (.aload_n 0, 1) := by decide +kernel
theorem dX1_add_78 : decode cX1_add 78 = .ok (.getfield 22, 3) := by decide +kernel
theorem dX1_add_81 : decode cX1_add 81 = .ok (.iconst 1, 1) := by decide +kernel
theorem dX1_add_82 : decode cX1_add 82 = .ok (.isub, 1) := by decide +kernel
theorem dX1_add_83 : decode cX1_add 83 = .ok (.ireturn, 1) := by decide +kernel
theorem dX1_clear_0 : decode cX1_clear 0 = .ok (.aload_n 0, 1) := by decide +kernel
theorem dX1_clear_1 : decode cX1_clear 1 = .ok (.iconst 0, 1) := by decide +kernel
theorem dX1_clear_2 : decode cX1_clear 2 = .ok (.putfield 13, 3) := by decide +kernel
theorem dX1_clear_5 : decode cX1_clear 5 = .ok (.aload_n 0, 1) := by decide +kernel
theorem dX1_clear_6 : decode cX1_clear 6 = .ok (.iconst 0, 1) := by decide +kernel
theorem dX1_clear_7 : decode cX1_clear 7 = .ok (.putfield 22, 3) := by decide +kernel
theorem dX1_clear_10 : decode cX1_clear 10 = .ok (.return_, 1) := by decide +kernel
theorem dX1_count_0 : decode cX1_count 0 = .ok (.aload_n 0, 1) := by decide +kernel
theorem dX1_count_1 : decode cX1_count 1 = .ok (.iconst 0, 1) := by decide +kernel
theorem dX1_count_2 : decode cX1_count 2 = .ok (.putfield 13, 3) := by decide +kernel
theorem dX1_count_5 : decode cX1_count 5 = .ok (.aload_n 0, 1) := by decide +kernel
theorem dX1_count_6 : decode cX1_count 6 = .ok (.getfield 22, 3) := by decide +kernel
theorem dX1_count_9 : decode cX1_count 9 = .ok (.ireturn, 1) := by decide +kernel
set_option maxRecDepth 20000 in
theorem ggX1_area_X1_areaAt : GoodIn wsX1_area wsX1_areaAt := goodIn_r _ [7, 8, 9, 10, 11, 6, 12, 13, 14, 15] (by decide +kernel) (by decide +kernel)
set_option maxRecDepth 20000 in
theorem gX1_area_X1_areaAt : GoodIn wsX1_area (wsV RX1 25 RX1 yX1_areaAt wsX1_areaAt) := goodIn_app (goodIn_of _ (by decide +kernel)) ggX1_area_X1_areaAt
theorem dX1_area_0 : decode cX1_area 0 = .ok (.aload_n 0, 1) := by decide +kernel
theorem dX1_area_1 : decode cX1_area 1 = .ok (.iconst 0, 1) := by decide +kernel
theorem dX1_area_2 : decode cX1_area 2 = .ok (.putfield 13, 3) := by decide +kernel
theorem dX1_area_5 : decode cX1_area 5 = .ok (.iload_n 1, 1) := by decide +kernel
theorem dX1_area_6 : decode cX1_area 6 = .ok (.ifCond .lt 23, 3) := by decide +kernel
theorem dX1_area_9 : decode cX1_area 9 = .ok (.iload_n 1, 1) := by decide +kernel
theorem dX1_area_10 : decode cX1_area 10 = .ok (.aload_n 0, 1) := by decide +kernel
theorem dX1_area_11 : decode cX1_area 11 = .ok (.getfield 22, 3) := by decide +kernel
theorem dX1_area_14 : decode cX1_area 14 = .ok (.if_icmp .ge 15, 3) := by decide +kernel
theorem dX1_area_17 : decode cX1_area 17 = .ok (.aload_n 0, 1) := by decide +kernel
theorem dX1_area_18 : decode cX1_area 18 = .ok (.bipush 9, 2) := by decide +kernel
theorem dX1_area_20 : decode cX1_area 20 = .ok (.iload_n 1, 1) := by decide +kernel
theorem dX1_area_21 : decode cX1_area 21 = .ok (.imul, 1) := by decide +kernel
theorem dX1_area_22 : decode cX1_area 22 = .ok (.invokevirtual 25, 3) := by decide +kernel
theorem dX1_area_25 : decode cX1_area 25 = .ok (.l2i, 1) := by decide +kernel
theorem dX1_area_26 : decode cX1_area 26 = .ok (.goto 4, 3) := by decide +kernel
theorem dX1_area_29 : decode cX1_area 29 = .ok (.iconst (-1), 1) := by decide +kernel
theorem dX1_area_30 : decode cX1_area 30 = .ok (.ireturn, 1) := by decide +kernel
set_option maxRecDepth 20000 in
theorem ggX1_holds_X1_edge : GoodIn wsX1_holds wsX1_edge := goodIn_r _ [6, 1, 7, 8, 9] (by decide +kernel) (by decide +kernel)
set_option maxRecDepth 20000 in
theorem gX1_holds_X1_edge : GoodIn wsX1_holds (wsV RX1 18 RX1 yX1_edge wsX1_edge) := goodIn_app (goodIn_of _ (by decide +kernel)) ggX1_holds_X1_edge
theorem dX1_holds_0 : decode cX1_holds 0 = .ok (.aload_n 0, 1) := by decide +kernel
theorem dX1_holds_1 : decode cX1_holds 1 = .ok (.iload_n 1, 1) := by decide +kernel
theorem dX1_holds_2 : decode cX1_holds 2 = .ok (.iload_n 2, 1) := by decide +kernel
theorem dX1_holds_3 : decode cX1_holds 3 = .ok (.lload_n 3, 1) := by decide +kernel
theorem dX1_holds_4 : decode cX1_holds 4 = .ok (.lload 5, 2) := by decide +kernel
theorem dX1_holds_6 : decode cX1_holds 6 = .ok (.invokevirtual 18, 3) := by decide +kernel
theorem dX1_holds_9 : decode cX1_holds 9 = .ok (.lstore 7, 2) := by decide +kernel
theorem dX1_holds_11 : decode cX1_holds 11 = .ok (.aload_n 0, 1) := by decide +kernel
theorem dX1_holds_12 : decode cX1_holds 12 = .ok (.getfield 7, 3) := by decide +kernel
theorem dX1_holds_15 : decode cX1_holds 15 = .ok (.iload_n 2, 1) := by decide +kernel
theorem dX1_holds_16 : decode cX1_holds 16 = .ok (.iconst 1, 1) := by decide +kernel
theorem dX1_holds_17 : decode cX1_holds 17 = .ok (.iadd, 1) := by decide +kernel
theorem dX1_holds_18 : decode cX1_holds 18 = .ok (.iaload, 1) := by decide +kernel
theorem dX1_holds_19 : decode cX1_holds 19 = .ok (.aload_n 0, 1) := by decide +kernel
theorem dX1_holds_20 : decode cX1_holds 20 = .ok (.getfield 7, 3) := by decide +kernel
theorem dX1_holds_23 : decode cX1_holds 23 = .ok (.iload_n 1, 1) := by decide +kernel
theorem dX1_holds_24 : decode cX1_holds 24 = .ok (.iconst 1, 1) := by decide +kernel
theorem dX1_holds_25 : decode cX1_holds 25 = .ok (.iadd, 1) := by decide +kernel
theorem dX1_holds_26 : decode cX1_holds 26 = .ok (.iaload, 1) := by decide +kernel
theorem dX1_holds_27 : decode cX1_holds 27 = .ok (.if_icmp .lt 37, 3) := by decide +kernel
theorem dX1_holds_30 : decode cX1_holds 30 = .ok (.aload_n 0, 1) := by decide +kernel
theorem dX1_holds_31 : decode cX1_holds 31 = .ok (.getfield 7, 3) := by decide +kernel
theorem dX1_holds_34 : decode cX1_holds 34 = .ok (.iload_n 2, 1) := by decide +kernel
theorem dX1_holds_35 : decode cX1_holds 35 = .ok (.iconst 1, 1) := by decide +kernel
theorem dX1_holds_36 : decode cX1_holds 36 = .ok (.iadd, 1) := by decide +kernel
theorem dX1_holds_37 : decode cX1_holds 37 = .ok (.iaload, 1) := by decide +kernel
theorem dX1_holds_38 : decode cX1_holds 38 = .ok (.aload_n 0, 1) := by decide +kernel
theorem dX1_holds_39 : decode cX1_holds 39 = .ok (.getfield 7, 3) := by decide +kernel
theorem dX1_holds_42 : decode cX1_holds 42 = .ok (.iload_n 1, 1) := by decide +kernel
theorem dX1_holds_43 : decode cX1_holds 43 = .ok (.iconst 1, 1) := by decide +kernel
theorem dX1_holds_44 : decode cX1_holds 44 = .ok (.iadd, 1) := by decide +kernel
theorem dX1_holds_45 : decode cX1_holds 45 = .ok (.iaload, 1) := by decide +kernel
theorem dX1_holds_46 : decode cX1_holds 46 = .ok (.if_icmp .ne 22, 3) := by decide +kernel
theorem dX1_holds_49 : decode cX1_holds 49 = .ok (.aload_n 0, 1) := by decide +kernel
theorem dX1_holds_50 : decode cX1_holds 50 = .ok (.getfield 7, 3) := by decide +kernel
theorem dX1_holds_53 : decode cX1_holds 53 = .ok (.iload_n 2, 1) := by decide +kernel
theorem dX1_holds_54 : decode cX1_holds 54 = .ok (.iaload, 1) := by decide +kernel
theorem dX1_holds_55 : decode cX1_holds 55 = .ok (.aload_n 0, 1) := by decide +kernel
theorem dX1_holds_56 : decode cX1_holds 56 = .ok (.getfield 7, 3) := by decide +kernel
theorem dX1_holds_59 : decode cX1_holds 59 = .ok (.iload_n 1, 1) := by decide +kernel
theorem dX1_holds_60 : decode cX1_holds 60 = .ok (.iaload, 1) := by decide +kernel
theorem dX1_holds_61 : decode cX1_holds 61 = .ok (.if_icmp .le 7, 3) := by decide +kernel
theorem dX1_holds_64 : decode cX1_holds 64 = .ok (.iconst 1, 1) := by decide +kernel
theorem dX1_holds_65 : decode cX1_holds 65 = .ok (.goto 4, 3) := by decide +kernel
theorem dX1_holds_68 : decode cX1_holds 68 = .ok (.iconst 0, 1) := by decide +kernel
theorem dX1_holds_69 : decode cX1_holds 69 = .ok (.istore 9, 2) := by decide +kernel
theorem dX1_holds_71 : decode cX1_holds 71 = .ok (.lload 7, 2) := by decide +kernel
theorem dX1_holds_73 : decode cX1_holds 73 = .ok (.lconst 0, 1) := by decide +kernel
theorem dX1_holds_74 : decode cX1_holds 74 = .ok (.lcmp, 1) := by decide +kernel
theorem dX1_holds_75 : decode cX1_holds 75 = .ok (.ifCond .gt 15, 3) := by decide +kernel
theorem dX1_holds_78 : decode cX1_holds 78 = .ok (.lload 7, 2) := by decide +kernel
theorem dX1_holds_80 : decode cX1_holds 80 = .ok (.lconst 0, 1) := by decide +kernel
theorem dX1_holds_81 : decode cX1_holds 81 = .ok (.lcmp, 1) := by decide +kernel
theorem dX1_holds_82 : decode cX1_holds 82 = .ok (.ifCond .ne 12, 3) := by decide +kernel
theorem dX1_holds_85 : decode cX1_holds 85 = .ok (.iload 9, 2) := by decide +kernel
theorem dX1_holds_87 : decode cX1_holds 87 = .ok (.ifCond .eq 7, 3) := by decide +kernel
theorem dX1_holds_90 : decode cX1_holds 90 = .ok (.iconst 1, 1) := by decide +kernel
theorem dX1_holds_91 : decode cX1_holds 91 = .ok (.goto 4, 3) := by decide +kernel
theorem dX1_holds_94 : decode cX1_holds 94 = .ok (.iconst 0, 1) := by decide +kernel
theorem dX1_holds_95 : decode cX1_holds 95 = .ok (.ireturn, 1) := by decide +kernel
set_option maxRecDepth 20000 in
theorem ggX1_nearAt_X1_holds : GoodIn wsX1_nearAt wsX1_holds := goodIn_r _ [8, 3, 9, 10, 11, 7, 12, 17, 18, 19] (by decide +kernel) (by decide +kernel)
set_option maxRecDepth 20000 in
theorem gX1_nearAt_X1_holds : GoodIn wsX1_nearAt (wsV RX1 33 RX1 yX1_holds wsX1_holds) := goodIn_app (goodIn_of _ (by decide +kernel)) ggX1_nearAt_X1_holds
set_option maxRecDepth 20000 in
theorem ggX1_nearAt_X1_edge : GoodIn wsX1_nearAt wsX1_edge := goodIn_r _ [12, 3, 17, 18, 19] (by decide +kernel) (by decide +kernel)
set_option maxRecDepth 20000 in
theorem gX1_nearAt_X1_edge : GoodIn wsX1_nearAt (wsV RX1 18 RX1 yX1_edge wsX1_edge) := goodIn_app (goodIn_of _ (by decide +kernel)) ggX1_nearAt_X1_edge
set_option maxRecDepth 20000 in
theorem ggX1_nearAt_X1_areaAt : GoodIn wsX1_nearAt wsX1_areaAt := goodIn_r _ [16, 3, 9, 10, 11, 7, 12, 17, 18, 19] (by decide +kernel) (by decide +kernel)
set_option maxRecDepth 20000 in
theorem gX1_nearAt_X1_areaAt : GoodIn wsX1_nearAt (wsV RX1 25 RX1 yX1_areaAt wsX1_areaAt) := goodIn_app (goodIn_of _ (by decide +kernel)) ggX1_nearAt_X1_areaAt
theorem dX1_nearAt_0 : decode cX1_nearAt 0 = .ok (.bipush 9, 2) := by decide +kernel
theorem dX1_nearAt_2 : decode cX1_nearAt 2 = .ok (.iload_n 1, 1) := by decide +kernel
theorem dX1_nearAt_3 : decode cX1_nearAt 3 = .ok (.imul, 1) := by decide +kernel
theorem dX1_nearAt_4 : decode cX1_nearAt 4 = .ok (.istore 4, 2) := by decide +kernel
theorem dX1_nearAt_6 : decode cX1_nearAt 6 = .ok (.ldc2_w 29, 3) := by decide +kernel
theorem dX1_nearAt_9 : decode cX1_nearAt 9 = .ok (.iload_n 2, 1) := by decide +kernel
theorem dX1_nearAt_10 : decode cX1_nearAt 10 = .ok (.i2l, 1) := by decide +kernel
theorem dX1_nearAt_11 : decode cX1_nearAt 11 = .ok (.lmul, 1) := by decide +kernel
theorem dX1_nearAt_12 : decode cX1_nearAt 12 = .ok (.ldc2_w 31, 3) := by decide +kernel
theorem dX1_nearAt_15 : decode cX1_nearAt 15 = .ok (.ladd, 1) := by decide +kernel
theorem dX1_nearAt_16 : decode cX1_nearAt 16 = .ok (.lstore 5, 2) := by decide +kernel
theorem dX1_nearAt_18 : decode cX1_nearAt 18 = .ok (.ldc2_w 29, 3) := by decide +kernel
theorem dX1_nearAt_21 : decode cX1_nearAt 21 = .ok (.iload_n 3, 1) := by decide +kernel
theorem dX1_nearAt_22 : decode cX1_nearAt 22 = .ok (.i2l, 1) := by decide +kernel
theorem dX1_nearAt_23 : decode cX1_nearAt 23 = .ok (.lmul, 1) := by decide +kernel
theorem dX1_nearAt_24 : decode cX1_nearAt 24 = .ok (.ldc2_w 31, 3) := by decide +kernel
theorem dX1_nearAt_27 : decode cX1_nearAt 27 = .ok (.ladd, 1) := by decide +kernel
theorem dX1_nearAt_28 : decode cX1_nearAt 28 = .ok (.lstore 7, 2) := by decide +kernel
theorem dX1_nearAt_30 : decode cX1_nearAt 30 = .ok (.aload_n 0, 1) := by decide +kernel
theorem dX1_nearAt_31 : decode cX1_nearAt 31 = .ok (.iload 4, 2) := by decide +kernel
theorem dX1_nearAt_33 : decode cX1_nearAt 33 = .ok (.iconst 3, 1) := by decide +kernel
theorem dX1_nearAt_34 : decode cX1_nearAt 34 = .ok (.iadd, 1) := by decide +kernel
theorem dX1_nearAt_35 : decode cX1_nearAt 35 = .ok (.iload 4, 2) := by decide +kernel
theorem dX1_nearAt_37 : decode cX1_nearAt 37 = .ok (.bipush 6, 2) := by decide +kernel
theorem dX1_nearAt_39 : decode cX1_nearAt 39 = .ok (.iadd, 1) := by decide +kernel
theorem dX1_nearAt_40 : decode cX1_nearAt 40 = .ok (.lload 5, 2) := by decide +kernel
theorem dX1_nearAt_42 : decode cX1_nearAt 42 = .ok (.lload 7, 2) := by decide +kernel
theorem dX1_nearAt_44 : decode cX1_nearAt 44 = .ok (.invokevirtual 33, 3) := by decide +kernel
theorem dX1_nearAt_47 : decode cX1_nearAt 47 = .ok (.ifCond .eq 38, 3) := by decide +kernel
theorem dX1_nearAt_50 : decode cX1_nearAt 50 = .ok (.aload_n 0, 1) := by decide +kernel
theorem dX1_nearAt_51 : decode cX1_nearAt 51 = .ok (.iload 4, 2) := by decide +kernel
theorem dX1_nearAt_53 : decode cX1_nearAt 53 = .ok (.bipush 6, 2) := by decide +kernel
theorem dX1_nearAt_55 : decode cX1_nearAt 55 = .ok (.iadd, 1) := by decide +kernel
theorem dX1_nearAt_56 : decode cX1_nearAt 56 = .ok (.iload 4, 2) := by decide +kernel
theorem dX1_nearAt_58 : decode cX1_nearAt 58 = .ok (.lload 5, 2) := by decide +kernel
theorem dX1_nearAt_60 : decode cX1_nearAt 60 = .ok (.lload 7, 2) := by decide +kernel
theorem dX1_nearAt_62 : decode cX1_nearAt 62 = .ok (.invokevirtual 33, 3) := by decide +kernel
theorem dX1_nearAt_65 : decode cX1_nearAt 65 = .ok (.ifCond .eq 20, 3) := by decide +kernel
theorem dX1_nearAt_68 : decode cX1_nearAt 68 = .ok (.aload_n 0, 1) := by decide +kernel
theorem dX1_nearAt_69 : decode cX1_nearAt 69 = .ok (.iload 4, 2) := by decide +kernel
theorem dX1_nearAt_71 : decode cX1_nearAt 71 = .ok (.iload 4, 2) := by decide +kernel
theorem dX1_nearAt_73 : decode cX1_nearAt 73 = .ok (.iconst 3, 1) := by decide +kernel
theorem dX1_nearAt_74 : decode cX1_nearAt 74 = .ok (.iadd, 1) := by decide +kernel
theorem dX1_nearAt_75 : decode cX1_nearAt 75 = .ok (.lload 5, 2) := by decide +kernel
theorem dX1_nearAt_77 : decode cX1_nearAt 77 = .ok (.lload 7, 2) := by decide +kernel
theorem dX1_nearAt_79 : decode cX1_nearAt 79 = .ok (.invokevirtual 33, 3) := by decide +kernel
theorem dX1_nearAt_82 : decode cX1_nearAt 82 = .ok (.ifCond .ne 5, 3) := by decide +kernel
theorem dX1_nearAt_85 : decode cX1_nearAt 85 = .ok (.iconst (-1), 1) := by decide +kernel
theorem dX1_nearAt_86 : decode cX1_nearAt 86 = .ok (.ireturn, 1) := by decide +kernel
theorem dX1_nearAt_87 : decode cX1_nearAt 87 = .ok (.aload_n 0, 1) := by decide +kernel
theorem dX1_nearAt_88 : decode cX1_nearAt 88 = .ok (.iload 4, 2) := by decide +kernel
theorem dX1_nearAt_90 : decode cX1_nearAt 90 = .ok (.iconst 3, 1) := by decide +kernel
theorem dX1_nearAt_91 : decode cX1_nearAt 91 = .ok (.iadd, 1) := by decide +kernel
theorem dX1_nearAt_92 : decode cX1_nearAt 92 = .ok (.iload 4, 2) := by decide +kernel
theorem dX1_nearAt_94 : decode cX1_nearAt 94 = .ok (.bipush 6, 2) := by decide +kernel
theorem dX1_nearAt_96 : decode cX1_nearAt 96 = .ok (.iadd, 1) := by decide +kernel
theorem dX1_nearAt_97 : decode cX1_nearAt 97 = .ok (.lload 5, 2) := by decide +kernel
theorem dX1_nearAt_99 : decode cX1_nearAt 99 = .ok (.lload 7, 2) := by decide +kernel
theorem dX1_nearAt_101 : decode cX1_nearAt 101 = .ok (.invokevirtual 18, 3) := by decide +kernel
theorem dX1_nearAt_104 : decode cX1_nearAt 104 = .ok (.aload_n 0, 1) := by decide +kernel
theorem dX1_nearAt_105 : decode cX1_nearAt 105 = .ok (.getfield 7, 3) := by decide +kernel
theorem dX1_nearAt_108 : decode cX1_nearAt 108 = .ok (.iload 4, 2) := by decide +kernel
theorem dX1_nearAt_110 : decode cX1_nearAt 110 = .ok (.iconst 2, 1) := by decide +kernel
theorem dX1_nearAt_111 : decode cX1_nearAt 111 = .ok (.iadd, 1) := by decide +kernel
theorem dX1_nearAt_112 : decode cX1_nearAt 112 = .ok (.iaload, 1) := by decide +kernel
theorem dX1_nearAt_113 : decode cX1_nearAt 113 = .ok (.i2l, 1) := by decide +kernel
theorem dX1_nearAt_114 : decode cX1_nearAt 114 = .ok (.lmul, 1) := by decide +kernel
theorem dX1_nearAt_115 : decode cX1_nearAt 115 = .ok (.aload_n 0, 1) := by decide +kernel
theorem dX1_nearAt_116 : decode cX1_nearAt 116 = .ok (.iload 4, 2) := by decide +kernel
theorem dX1_nearAt_118 : decode cX1_nearAt 118 = .ok (.bipush 6, 2) := by decide +kernel
theorem dX1_nearAt_120 : decode cX1_nearAt 120 = .ok (.iadd, 1) := by decide +kernel
theorem dX1_nearAt_121 : decode cX1_nearAt 121 = .ok (.iload 4, 2) := by decide +kernel
theorem dX1_nearAt_123 : decode cX1_nearAt 123 = .ok (.lload 5, 2) := by decide +kernel
theorem dX1_nearAt_125 : decode cX1_nearAt 125 = .ok (.lload 7, 2) := by decide +kernel
theorem dX1_nearAt_127 : decode cX1_nearAt 127 = .ok (.invokevirtual 18, 3) := by decide +kernel
theorem dX1_nearAt_130 : decode cX1_nearAt 130 = .ok (.aload_n 0, 1) := by decide +kernel
theorem dX1_nearAt_131 : decode cX1_nearAt 131 = .ok (.getfield 7, 3) := by decide +kernel
theorem dX1_nearAt_134 : decode cX1_nearAt 134 = .ok (.iload 4, 2) := by decide +kernel
theorem dX1_nearAt_136 : decode cX1_nearAt 136 = .ok (.iconst 5, 1) := by decide +kernel
theorem dX1_nearAt_137 : decode cX1_nearAt 137 = .ok (.iadd, 1) := by decide +kernel
theorem dX1_nearAt_138 : decode cX1_nearAt 138 = .ok (.iaload, 1) := by decide +kernel
theorem dX1_nearAt_139 : decode cX1_nearAt 139 = .ok (.i2l, 1) := by decide +kernel
theorem dX1_nearAt_140 : decode cX1_nearAt 140 = .ok (.lmul, 1) := by decide +kernel
theorem dX1_nearAt_141 : decode cX1_nearAt 141 = .ok (.ladd, 1) := by decide +kernel
theorem dX1_nearAt_142 : decode cX1_nearAt 142 = .ok (.aload_n 0, 1) := by decide +kernel
theorem dX1_nearAt_143 : decode cX1_nearAt 143 = .ok (.iload 4, 2) := by decide +kernel
theorem dX1_nearAt_145 : decode cX1_nearAt 145 = .ok (.iload 4, 2) := by decide +kernel
theorem dX1_nearAt_147 : decode cX1_nearAt 147 = .ok (.iconst 3, 1) := by decide +kernel
theorem dX1_nearAt_148 : decode cX1_nearAt 148 = .ok (.iadd, 1) := by decide +kernel
theorem dX1_nearAt_149 : decode cX1_nearAt 149 = .ok (.lload 5, 2) := by decide +kernel
theorem dX1_nearAt_151 : decode cX1_nearAt 151 = .ok (.lload 7, 2) := by decide +kernel
theorem dX1_nearAt_153 : decode cX1_nearAt 153 = .ok (.invokevirtual 18, 3) := by decide +kernel
theorem dX1_nearAt_156 : decode cX1_nearAt 156 = .ok (.aload_n 0, 1) := by decide +kernel
theorem dX1_nearAt_157 : decode cX1_nearAt 157 = .ok (.getfield 7, 3) := by decide +kernel
theorem dX1_nearAt_160 : decode cX1_nearAt 160 = .ok (.iload 4, 2) := by decide +kernel
theorem dX1_nearAt_162 : decode cX1_nearAt 162 = .ok (.bipush 8, 2) := by decide +kernel
theorem dX1_nearAt_164 : decode cX1_nearAt 164 = .ok (.iadd, 1) := by decide +kernel
theorem dX1_nearAt_165 : decode cX1_nearAt 165 = .ok (.iaload, 1) := by decide +kernel
theorem dX1_nearAt_166 : decode cX1_nearAt 166 = .ok (.i2l, 1) := by decide +kernel
theorem dX1_nearAt_167 : decode cX1_nearAt 167 = .ok (.lmul, 1) := by decide +kernel
theorem dX1_nearAt_168 : decode cX1_nearAt 168 = .ok (.ladd, 1) := by decide +kernel
theorem dX1_nearAt_169 : decode cX1_nearAt 169 = .ok (.lstore 9, 2) := by decide +kernel
theorem dX1_nearAt_171 : decode cX1_nearAt 171 = .ok (.lload 9, 2) := by decide +kernel
theorem dX1_nearAt_173 : decode cX1_nearAt 173 = .ok (.aload_n 0, 1) := by decide +kernel
theorem dX1_nearAt_174 : decode cX1_nearAt 174 = .ok (.iload 4, 2) := by decide +kernel
theorem dX1_nearAt_176 : decode cX1_nearAt 176 = .ok (.invokevirtual 25, 3) := by decide +kernel
theorem dX1_nearAt_179 : decode cX1_nearAt 179 = .ok (.ldiv, 1) := by decide +kernel
theorem dX1_nearAt_180 : decode cX1_nearAt 180 = .ok (.l2i, 1) := by decide +kernel
theorem dX1_nearAt_181 : decode cX1_nearAt 181 = .ok (.ireturn, 1) := by decide +kernel
set_option maxRecDepth 20000 in
theorem ggX1_near_X1_nearAt : GoodIn wsX1_near wsX1_nearAt := goodIn_r _ [7, 8, 9, 10, 11, 12, 13, 6, 14, 15, 16, 17, 18, 19, 20, 21, 22, 23, 24, 25] (by decide +kernel) (by decide +kernel)
set_option maxRecDepth 20000 in
theorem gX1_near_X1_nearAt : GoodIn wsX1_near (wsV RX1 37 RX1 yX1_nearAt wsX1_nearAt) := goodIn_app (goodIn_of _ (by decide +kernel)) ggX1_near_X1_nearAt
theorem dX1_near_0 : decode cX1_near 0 = .ok (.aload_n 0, 1) := by decide +kernel
theorem dX1_near_1 : decode cX1_near 1 = .ok (.iconst 0, 1) := by decide +kernel
theorem dX1_near_2 : decode cX1_near 2 = .ok (.putfield 13, 3) := by decide +kernel
theorem dX1_near_5 : decode cX1_near 5 = .ok (.iload_n 1, 1) := by decide +kernel
theorem dX1_near_6 : decode cX1_near 6 = .ok (.ifCond .lt 21, 3) := by decide +kernel
theorem dX1_near_9 : decode cX1_near 9 = .ok (.iload_n 1, 1) := by decide +kernel
theorem dX1_near_10 : decode cX1_near 10 = .ok (.aload_n 0, 1) := by decide +kernel
theorem dX1_near_11 : decode cX1_near 11 = .ok (.getfield 22, 3) := by decide +kernel
theorem dX1_near_14 : decode cX1_near 14 = .ok (.if_icmp .ge 13, 3) := by decide +kernel
theorem dX1_near_17 : decode cX1_near 17 = .ok (.aload_n 0, 1) := by decide +kernel
theorem dX1_near_18 : decode cX1_near 18 = .ok (.iload_n 1, 1) := by decide +kernel
theorem dX1_near_19 : decode cX1_near 19 = .ok (.iload_n 2, 1) := by decide +kernel
theorem dX1_near_20 : decode cX1_near 20 = .ok (.iload_n 3, 1) := by decide +kernel
theorem dX1_near_21 : decode cX1_near 21 = .ok (.invokevirtual 37, 3) := by decide +kernel
theorem dX1_near_24 : decode cX1_near 24 = .ok (.goto 4, 3) := by decide +kernel
theorem dX1_near_27 : decode cX1_near 27 = .ok (.iconst (-1), 1) := by decide +kernel
theorem dX1_near_28 : decode cX1_near 28 = .ok (.ireturn, 1) := by decide +kernel
set_option maxRecDepth 20000 in
theorem ggX1_nearest_X1_nearAt : GoodIn wsX1_nearest wsX1_nearAt := goodIn_r _ [7, 8, 9, 10, 11, 12, 13, 6, 14, 15, 16, 17, 18, 19, 20, 21, 22, 23, 24, 25] (by decide +kernel) (by decide +kernel)
set_option maxRecDepth 20000 in
theorem gX1_nearest_X1_nearAt : GoodIn wsX1_nearest (wsV RX1 37 RX1 yX1_nearAt wsX1_nearAt) := goodIn_app (goodIn_of _ (by decide +kernel)) ggX1_nearest_X1_nearAt
theorem dX1_nearest_0 : decode cX1_nearest 0 = .ok (.aload_n 0, 1) := by decide +kernel
theorem dX1_nearest_1 : decode cX1_nearest 1 = .ok (.iconst 0, 1) := by decide +kernel
theorem dX1_nearest_2 : decode cX1_nearest 2 = .ok (.putfield 13, 3) := by decide +kernel
theorem dX1_nearest_5 : decode cX1_nearest 5 = .ok (.iconst (-1), 1) := by decide +kernel
theorem dX1_nearest_6 : decode cX1_nearest 6 = .ok (.istore_n 3, 1) := by decide +kernel
theorem dX1_nearest_7 : decode cX1_nearest 7 = .ok (.iconst (-1), 1) := by decide +kernel
theorem dX1_nearest_8 : decode cX1_nearest 8 = .ok (.istore 4, 2) := by decide +kernel
theorem dX1_nearest_10 : decode cX1_nearest 10 = .ok (.iconst 0, 1) := by decide +kernel
theorem dX1_nearest_11 : decode cX1_nearest 11 = .ok (.istore 5, 2) := by decide +kernel
theorem dX1_nearest_13 : decode cX1_nearest 13 = .ok (.iload 5, 2) := by decide +kernel
theorem dX1_nearest_15 : decode cX1_nearest 15 = .ok (.aload_n 0, 1) := by decide +kernel
theorem dX1_nearest_16 : decode cX1_nearest 16 = .ok (.getfield 22, 3) := by decide +kernel
theorem dX1_nearest_19 : decode cX1_nearest 19 = .ok (.if_icmp .ge 49, 3) := by decide +kernel
theorem dX1_nearest_22 : decode cX1_nearest 22 = .ok (.aload_n 0, 1) := by decide +kernel
theorem dX1_nearest_23 : decode cX1_nearest 23 = .ok (.iload 5, 2) := by decide +kernel
theorem dX1_nearest_25 : decode cX1_nearest 25 = .ok (.iload_n 1, 1) := by decide +kernel
theorem dX1_nearest_26 : decode cX1_nearest 26 = .ok (.iload_n 2, 1) := by decide +kernel
theorem dX1_nearest_27 : decode cX1_nearest 27 = .ok (.invokevirtual 37, 3) := by decide +kernel
theorem dX1_nearest_30 : decode cX1_nearest 30 = .ok (.istore 6, 2) := by decide +kernel
theorem dX1_nearest_32 : decode cX1_nearest 32 = .ok (.iload 6, 2) := by decide +kernel
theorem dX1_nearest_34 : decode cX1_nearest 34 = .ok (.iload 4, 2) := by decide +kernel
theorem dX1_nearest_36 : decode cX1_nearest 36 = .ok (.if_icmp .le 8, 3) := by decide +kernel
theorem dX1_nearest_39 : decode cX1_nearest 39 = .ok (.iload 5, 2) := by decide +kernel
theorem dX1_nearest_41 : decode cX1_nearest 41 = .ok (.goto 4, 3) := by decide +kernel
theorem dX1_nearest_44 : decode cX1_nearest 44 = .ok (.iload_n 3, 1) := by decide +kernel
theorem dX1_nearest_45 : decode cX1_nearest 45 = .ok (.istore_n 3, 1) := by decide +kernel
theorem dX1_nearest_46 : decode cX1_nearest 46 = .ok (.iload 6, 2) := by decide +kernel
theorem dX1_nearest_48 : decode cX1_nearest 48 = .ok (.iload 4, 2) := by decide +kernel
theorem dX1_nearest_50 : decode cX1_nearest 50 = .ok (.if_icmp .le 8, 3) := by decide +kernel
theorem dX1_nearest_53 : decode cX1_nearest 53 = .ok (.iload 6, 2) := by decide +kernel
theorem dX1_nearest_55 : decode cX1_nearest 55 = .ok (.goto 5, 3) := by decide +kernel
theorem dX1_nearest_58 : decode cX1_nearest 58 = .ok (.iload 4, 2) := by decide +kernel
theorem dX1_nearest_60 : decode cX1_nearest 60 = .ok (.istore 4, 2) := by decide +kernel
theorem dX1_nearest_62 : decode cX1_nearest 62 = .ok (.iinc 5 1, 3) := by decide +kernel
theorem dX1_nearest_65 : decode cX1_nearest 65 = .ok (.goto (-52), 3) := by decide +kernel
theorem dX1_nearest_68 : decode cX1_nearest 68 = .ok (.iload_n 3, 1) := by decide +kernel
theorem dX1_nearest_69 : decode cX1_nearest 69 = .ok (.ireturn, 1) := by decide +kernel
set_option maxRecDepth 20000 in
theorem ggX1_covering_X1_nearAt : GoodIn wsX1_covering wsX1_nearAt := goodIn_r _ [7, 8, 9, 10, 11, 12, 13, 6, 14, 15, 16, 17, 18, 19, 20, 21, 22, 23, 24, 25] (by decide +kernel) (by decide +kernel)
set_option maxRecDepth 20000 in
theorem gX1_covering_X1_nearAt : GoodIn wsX1_covering (wsV RX1 37 RX1 yX1_nearAt wsX1_nearAt) := goodIn_app (goodIn_of _ (by decide +kernel)) ggX1_covering_X1_nearAt
theorem dX1_covering_0 : decode cX1_covering 0 = .ok (.aload_n 0, 1) := by decide +kernel
theorem dX1_covering_1 : decode cX1_covering 1 = .ok (.iconst 0, 1) := by decide +kernel
theorem dX1_covering_2 : decode cX1_covering 2 = .ok (.putfield 13, 3) := by decide +kernel
theorem dX1_covering_5 : decode cX1_covering 5 = .ok (.iconst 0, 1) := by decide +kernel
theorem dX1_covering_6 : decode cX1_covering 6 = .ok (.istore_n 3, 1) := by decide +kernel
theorem dX1_covering_7 : decode cX1_covering 7 = .ok (.iconst 0, 1) := by decide +kernel
theorem dX1_covering_8 : decode cX1_covering 8 = .ok (.istore 4, 2) := by decide +kernel
theorem dX1_covering_10 : decode cX1_covering 10 = .ok (.iload 4, 2) := by decide +kernel
theorem dX1_covering_12 : decode cX1_covering 12 = .ok (.aload_n 0, 1) := by decide +kernel
theorem dX1_covering_13 : decode cX1_covering 13 = .ok (.getfield 22, 3) := by decide +kernel
theorem dX1_covering_16 : decode cX1_covering 16 = .ok (.if_icmp .ge 29, 3) := by decide +kernel
theorem dX1_covering_19 : decode cX1_covering 19 = .ok (.iload_n 3, 1) := by decide +kernel
theorem dX1_covering_20 : decode cX1_covering 20 = .ok (.aload_n 0, 1) := by decide +kernel
theorem dX1_covering_21 : decode cX1_covering 21 = .ok (.iload 4, 2) := by decide +kernel
theorem dX1_covering_23 : decode cX1_covering 23 = .ok (.iload_n 1, 1) := by decide +kernel
theorem dX1_covering_24 : decode cX1_covering 24 = .ok (.iload_n 2, 1) := by decide +kernel
theorem dX1_covering_25 : decode cX1_covering 25 = .ok (.invokevirtual 37, 3) := by decide +kernel
theorem dX1_covering_28 : decode cX1_covering 28 = .ok (.iconst (-1), 1) := by decide +kernel
theorem dX1_covering_29 : decode cX1_covering 29 = .ok (.if_icmp .ne 7, 3) := by decide +kernel
theorem dX1_covering_32 : decode cX1_covering 32 = .ok (.iconst 0, 1) := by decide +kernel
theorem dX1_covering_33 : decode cX1_covering 33 = .ok (.goto 4, 3) := by decide +kernel
theorem dX1_covering_36 : decode cX1_covering 36 = .ok (.iconst 1, 1) := by decide +kernel
theorem dX1_covering_37 : decode cX1_covering 37 = .ok (.iadd, 1) := by decide +kernel
theorem dX1_covering_38 : decode cX1_covering 38 = .ok (.istore_n 3, 1) := by decide +kernel
theorem dX1_covering_39 : decode cX1_covering 39 = .ok (.iinc 4 1, 3) := by decide +kernel
theorem dX1_covering_42 : decode cX1_covering 42 = .ok (.goto (-32), 3) := by decide +kernel
theorem dX1_covering_45 : decode cX1_covering 45 = .ok (.iload_n 3, 1) := by decide +kernel
theorem dX1_covering_46 : decode cX1_covering 46 = .ok (.ireturn, 1) := by decide +kernel
set_option maxRecDepth 20000 in
theorem ggX1_next_X1_nearAt : GoodIn wsX1_next wsX1_nearAt := goodIn_r _ [7, 8, 9, 10, 11, 12, 13, 6, 14, 15, 16, 17, 18, 19, 20, 21, 22, 23, 24, 25] (by decide +kernel) (by decide +kernel)
set_option maxRecDepth 20000 in
theorem gX1_next_X1_nearAt : GoodIn wsX1_next (wsV RX1 37 RX1 yX1_nearAt wsX1_nearAt) := goodIn_app (goodIn_of _ (by decide +kernel)) ggX1_next_X1_nearAt
theorem dX1_next_0 : decode cX1_next 0 = .ok (.aload_n 0, 1) := by decide +kernel
theorem dX1_next_1 : decode cX1_next 1 = .ok (.iconst 0, 1) := by decide +kernel
theorem dX1_next_2 : decode cX1_next 2 = .ok (.putfield 13, 3) := by decide +kernel
theorem dX1_next_5 : decode cX1_next 5 = .ok (.iload_n 3, 1) := by decide +kernel
theorem dX1_next_6 : decode cX1_next 6 = .ok (.ifCond .ge 7, 3) := by decide +kernel
theorem dX1_next_9 : decode cX1_next 9 = .ok (.iconst 0, 1) := by decide +kernel
theorem dX1_next_10 : decode cX1_next 10 = .ok (.goto 4, 3) := by decide +kernel
theorem dX1_next_13 : decode cX1_next 13 = .ok (.iload_n 3, 1) := by decide +kernel
theorem dX1_next_14 : decode cX1_next 14 = .ok (.istore 4, 2) := by decide +kernel
theorem dX1_next_16 : decode cX1_next 16 = .ok (.iload 4, 2) := by decide +kernel
theorem dX1_next_18 : decode cX1_next 18 = .ok (.aload_n 0, 1) := by decide +kernel
theorem dX1_next_19 : decode cX1_next 19 = .ok (.getfield 22, 3) := by decide +kernel
theorem dX1_next_22 : decode cX1_next 22 = .ok (.if_icmp .ge 24, 3) := by decide +kernel
theorem dX1_next_25 : decode cX1_next 25 = .ok (.aload_n 0, 1) := by decide +kernel
theorem dX1_next_26 : decode cX1_next 26 = .ok (.iload 4, 2) := by decide +kernel
theorem dX1_next_28 : decode cX1_next 28 = .ok (.iload_n 1, 1) := by decide +kernel
theorem dX1_next_29 : decode cX1_next 29 = .ok (.iload_n 2, 1) := by decide +kernel
theorem dX1_next_30 : decode cX1_next 30 = .ok (.invokevirtual 37, 3) := by decide +kernel
theorem dX1_next_33 : decode cX1_next 33 = .ok (.iconst (-1), 1) := by decide +kernel
theorem dX1_next_34 : decode cX1_next 34 = .ok (.if_icmp .eq 6, 3) := by decide +kernel
theorem dX1_next_37 : decode cX1_next 37 = .ok (.iload 4, 2) := by decide +kernel
theorem dX1_next_39 : decode cX1_next 39 = .ok (.ireturn, 1) := by decide +kernel
theorem dX1_next_40 : decode cX1_next 40 = .ok (.iinc 4 1, 3) := by decide +kernel
theorem dX1_next_43 : decode cX1_next 43 = .ok (.goto (-27), 3) := by decide +kernel
theorem dX1_next_46 : decode cX1_next 46 = .ok (.iconst (-1), 1) := by decide +kernel
theorem dX1_next_47 : decode cX1_next 47 = .ok (.ireturn, 1) := by decide +kernel
theorem dJ9_floorDiv_f86c9_0 : decode cJ9_floorDiv_f86c9 0 = .ok (.lload_n 0, 1) := by decide +kernel
theorem dJ9_floorDiv_f86c9_1 : decode cJ9_floorDiv_f86c9 1 = .ok (.lload_n 2, 1) := by decide +kernel
theorem dJ9_floorDiv_f86c9_2 : decode cJ9_floorDiv_f86c9 2 = .ok (.ldiv, 1) := by decide +kernel
theorem dJ9_floorDiv_f86c9_3 : decode cJ9_floorDiv_f86c9 3 = .ok (.lstore 4, 2) := by decide +kernel
theorem dJ9_floorDiv_f86c9_5 : decode cJ9_floorDiv_f86c9 5 = .ok (.lload_n 0, 1) := by decide +kernel
theorem dJ9_floorDiv_f86c9_6 : decode cJ9_floorDiv_f86c9 6 = .ok (.lload_n 2, 1) := by decide +kernel
theorem dJ9_floorDiv_f86c9_7 : decode cJ9_floorDiv_f86c9 7 = .ok (.lxor, 1) := by decide +kernel
theorem dJ9_floorDiv_f86c9_8 : decode cJ9_floorDiv_f86c9 8 = .ok (.lconst 0, 1) := by decide +kernel
theorem dJ9_floorDiv_f86c9_9 : decode cJ9_floorDiv_f86c9 9 = .ok (.lcmp, 1) := by decide +kernel
theorem dJ9_floorDiv_f86c9_10 : decode cJ9_floorDiv_f86c9 10 = .ok (.ifCond .ge 17, 3) := by decide +kernel
theorem dJ9_floorDiv_f86c9_13 : decode cJ9_floorDiv_f86c9 13 = .ok (.lload 4, 2) := by decide +kernel
theorem dJ9_floorDiv_f86c9_15 : decode cJ9_floorDiv_f86c9 15 = .ok (.lload_n 2, 1) := by decide +kernel
theorem dJ9_floorDiv_f86c9_16 : decode cJ9_floorDiv_f86c9 16 = .ok (.lmul, 1) := by decide +kernel
theorem dJ9_floorDiv_f86c9_17 : decode cJ9_floorDiv_f86c9 17 = .ok (.lload_n 0, 1) := by decide +kernel
theorem dJ9_floorDiv_f86c9_18 : decode cJ9_floorDiv_f86c9 18 = .ok (.lcmp, 1) := by decide +kernel
theorem dJ9_floorDiv_f86c9_19 : decode cJ9_floorDiv_f86c9 19 = .ok (.ifCond .eq 8, 3) := by decide +kernel
theorem dJ9_floorDiv_f86c9_22 : decode cJ9_floorDiv_f86c9 22 = .ok (.lload 4, 2) := by decide +kernel
theorem dJ9_floorDiv_f86c9_24 : decode cJ9_floorDiv_f86c9 24 = .ok (.lconst 1, 1) := by decide +kernel
theorem dJ9_floorDiv_f86c9_25 : decode cJ9_floorDiv_f86c9 25 = .ok (.lsub, 1) := by decide +kernel
theorem dJ9_floorDiv_f86c9_26 : decode cJ9_floorDiv_f86c9 26 = .ok (.lreturn, 1) := by decide +kernel
theorem dJ9_floorDiv_f86c9_27 : decode cJ9_floorDiv_f86c9 27 = .ok (.lload 4, 2) := by decide +kernel
theorem dJ9_floorDiv_f86c9_29 : decode cJ9_floorDiv_f86c9 29 = .ok (.lreturn, 1) := by decide +kernel
theorem dJ9_max_7cf53_0 : decode cJ9_max_7cf53 0 = .ok (.iload_n 0, 1) := by decide +kernel
theorem dJ9_max_7cf53_1 : decode cJ9_max_7cf53 1 = .ok (.iload_n 1, 1) := by decide +kernel
theorem dJ9_max_7cf53_2 : decode cJ9_max_7cf53 2 = .ok (.if_icmp .lt 7, 3) := by decide +kernel
theorem dJ9_max_7cf53_5 : decode cJ9_max_7cf53 5 = .ok (.iload_n 0, 1) := by decide +kernel
theorem dJ9_max_7cf53_6 : decode cJ9_max_7cf53 6 = .ok (.goto 4, 3) := by decide +kernel
theorem dJ9_max_7cf53_9 : decode cJ9_max_7cf53 9 = .ok (.iload_n 1, 1) := by decide +kernel
theorem dJ9_max_7cf53_10 : decode cJ9_max_7cf53 10 = .ok (.ireturn, 1) := by decide +kernel
set_option maxRecDepth 20000 in
theorem ggL_law_X0_init : GoodIn wsL_law wsX0_init := goodIn_r _ [8, 9, 10, 11, 12, 13, 14, 15, 16, 163, 164, 165, 166] (by decide +kernel) (by decide +kernel)
set_option maxRecDepth 20000 in
theorem gL_law_X0_init : GoodIn wsL_law (wsX0_init) := ggL_law_X0_init
set_option maxRecDepth 20000 in
theorem ggL_law_X1_init : GoodIn wsL_law wsX1_init := goodIn_r _ [19, 20, 10, 11, 12, 21, 167, 168, 169] (by decide +kernel) (by decide +kernel)
set_option maxRecDepth 20000 in
theorem gL_law_X1_init : GoodIn wsL_law (wsX1_init) := ggL_law_X1_init
set_option maxRecDepth 20000 in
theorem ggL_law_X0_corner : GoodIn wsL_law wsX0_corner := goodIn_r _ [25, 26, 13, 14, 15, 27, 28, 2, 29, 163, 164, 165, 166] (by decide +kernel) (by decide +kernel)
set_option maxRecDepth 20000 in
theorem gL_law_X0_corner : GoodIn wsL_law (wsV RL 13 RX0 yX0_corner wsX0_corner) := goodIn_app (goodIn_of _ (by decide +kernel)) ggL_law_X0_corner
set_option maxRecDepth 20000 in
theorem ggL_law_X1_corner : GoodIn wsL_law wsX1_corner := goodIn_r _ [33, 34, 35, 21, 167, 168, 169] (by decide +kernel) (by decide +kernel)
set_option maxRecDepth 20000 in
theorem gL_law_X1_corner : GoodIn wsL_law (wsV RL 17 RX1 yX1_corner wsX1_corner) := goodIn_app (goodIn_of _ (by decide +kernel)) ggL_law_X1_corner
set_option maxRecDepth 20000 in
theorem ggL_law_X0_add : GoodIn wsL_law wsX0_add := goodIn_r _ [39, 16, 13, 14, 15, 40, 41, 42, 2, 43, 44, 45, 46, 47, 48, 49, 50, 51, 52, 53, 163, 164, 165, 166] (by decide +kernel) (by decide +kernel)
set_option maxRecDepth 20000 in
theorem gL_law_X0_add : GoodIn wsL_law (wsV RL 18 RX0 yX0_add wsX0_add) := goodIn_app (goodIn_of _ (by decide +kernel)) ggL_law_X0_add
set_option maxRecDepth 20000 in
theorem ggL_law_X1_add : GoodIn wsL_law wsX1_add := goodIn_r _ [57, 34, 58, 21, 59, 60, 61, 5, 62, 63, 64, 65, 66, 167, 168, 169] (by decide +kernel) (by decide +kernel)
set_option maxRecDepth 20000 in
theorem gL_law_X1_add : GoodIn wsL_law (wsV RL 22 RX1 yX1_add wsX1_add) := goodIn_app (goodIn_of _ (by decide +kernel)) ggL_law_X1_add
set_option maxRecDepth 20000 in
theorem ggL_law_X0_clear : GoodIn wsL_law wsX0_clear := goodIn_r _ [70, 16, 163, 164, 165, 166] (by decide +kernel) (by decide +kernel)
set_option maxRecDepth 20000 in
theorem gL_law_X0_clear : GoodIn wsL_law (wsV RL 23 RX0 yX0_clear wsX0_clear) := goodIn_app (goodIn_of _ (by decide +kernel)) ggL_law_X0_clear
set_option maxRecDepth 20000 in
theorem ggL_law_X1_clear : GoodIn wsL_law wsX1_clear := goodIn_r _ [74, 34, 58, 167, 168, 169] (by decide +kernel) (by decide +kernel)
set_option maxRecDepth 20000 in
theorem gL_law_X1_clear : GoodIn wsL_law (wsV RL 26 RX1 yX1_clear wsX1_clear) := goodIn_app (goodIn_of _ (by decide +kernel)) ggL_law_X1_clear
set_option maxRecDepth 20000 in
theorem ggL_law_X0_count : GoodIn wsL_law wsX0_count := goodIn_r _ [78, 16, 163, 164, 165, 166] (by decide +kernel) (by decide +kernel)
set_option maxRecDepth 20000 in
theorem gL_law_X0_count : GoodIn wsL_law (wsV RL 27 RX0 yX0_count wsX0_count) := goodIn_app (goodIn_of _ (by decide +kernel)) ggL_law_X0_count
set_option maxRecDepth 20000 in
theorem ggL_law_X1_count : GoodIn wsL_law wsX1_count := goodIn_r _ [82, 34, 58, 167, 168, 169] (by decide +kernel) (by decide +kernel)
set_option maxRecDepth 20000 in
theorem gL_law_X1_count : GoodIn wsL_law (wsV RL 30 RX1 yX1_count wsX1_count) := goodIn_app (goodIn_of _ (by decide +kernel)) ggL_law_X1_count
set_option maxRecDepth 20000 in
theorem ggL_law_X0_area : GoodIn wsL_law wsX0_area := goodIn_r _ [86, 87, 88, 89, 2, 90, 16, 40, 41, 42, 43, 13, 14, 44, 45, 46, 47, 48, 49, 50, 51, 52, 53, 163, 164, 165, 166] (by decide +kernel) (by decide +kernel)
set_option maxRecDepth 20000 in
theorem gL_law_X0_area : GoodIn wsL_law (wsV RL 31 RX0 yX0_area wsX0_area) := goodIn_app (goodIn_of _ (by decide +kernel)) ggL_law_X0_area
set_option maxRecDepth 20000 in
theorem ggL_law_X1_area : GoodIn wsL_law wsX1_area := goodIn_r _ [94, 34, 58, 59, 60, 61, 5, 62, 21, 63, 64, 65, 66, 167, 168, 169] (by decide +kernel) (by decide +kernel)
set_option maxRecDepth 20000 in
theorem gL_law_X1_area : GoodIn wsL_law (wsV RL 35 RX1 yX1_area wsX1_area) := goodIn_app (goodIn_of _ (by decide +kernel)) ggL_law_X1_area
set_option maxRecDepth 20000 in
theorem ggL_law_X0_near : GoodIn wsL_law wsX0_near := goodIn_r _ [98, 87, 88, 89, 2, 90, 16, 99, 100, 101, 102, 103, 104, 105, 106, 107, 44, 45, 46, 47, 13, 14, 48, 49, 50, 51, 52, 53, 108, 109, 110, 111, 112, 113, 114, 115, 15, 40, 41, 42, 43, 116, 117, 118, 119, 163, 164, 165, 166] (by decide +kernel) (by decide +kernel)
set_option maxRecDepth 20000 in
theorem gL_law_X0_near : GoodIn wsL_law (wsV RL 36 RX0 yX0_near wsX0_near) := goodIn_app (goodIn_of _ (by decide +kernel)) ggL_law_X0_near
set_option maxRecDepth 20000 in
theorem ggL_law_X1_near : GoodIn wsL_law wsX1_near := goodIn_r _ [123, 34, 58, 124, 125, 126, 5, 127, 128, 129, 21, 130, 131, 132, 133, 63, 64, 65, 66, 59, 60, 61, 62, 167, 168, 169] (by decide +kernel) (by decide +kernel)
set_option maxRecDepth 20000 in
theorem gL_law_X1_near : GoodIn wsL_law (wsV RL 40 RX1 yX1_near wsX1_near) := goodIn_app (goodIn_of _ (by decide +kernel)) ggL_law_X1_near
set_option maxRecDepth 20000 in
theorem ggL_law_X0_nearest : GoodIn wsL_law wsX0_nearest := goodIn_r _ [137, 16, 138, 96, 97, 2, 98, 87, 88, 89, 90, 99, 100, 101, 102, 103, 104, 105, 106, 107, 44, 45, 46, 47, 13, 14, 48, 49, 50, 51, 52, 53, 108, 109, 110, 111, 112, 113, 114, 115, 15, 40, 41, 42, 43, 116, 117, 118, 119, 163, 164, 165, 166] (by decide +kernel) (by decide +kernel)
set_option maxRecDepth 20000 in
theorem gL_law_X0_nearest : GoodIn wsL_law (wsV RL 41 RX0 yX0_nearest wsX0_nearest) := goodIn_app (goodIn_of _ (by decide +kernel)) ggL_law_X0_nearest
set_option maxRecDepth 20000 in
theorem ggL_law_X1_nearest : GoodIn wsL_law wsX1_nearest := goodIn_r _ [142, 34, 58, 124, 125, 126, 5, 127, 128, 129, 21, 130, 131, 132, 133, 63, 64, 65, 66, 59, 60, 61, 62, 167, 168, 169] (by decide +kernel) (by decide +kernel)
set_option maxRecDepth 20000 in
theorem gL_law_X1_nearest : GoodIn wsL_law (wsV RL 45 RX1 yX1_nearest wsX1_nearest) := goodIn_app (goodIn_of _ (by decide +kernel)) ggL_law_X1_nearest
set_option maxRecDepth 20000 in
theorem ggL_law_X0_covering : GoodIn wsL_law wsX0_covering := goodIn_r _ [146, 16, 99, 100, 2, 101, 102, 103, 104, 105, 106, 107, 44, 45, 46, 47, 13, 14, 48, 49, 50, 51, 52, 53, 108, 109, 110, 111, 163, 164, 165, 166] (by decide +kernel) (by decide +kernel)
set_option maxRecDepth 20000 in
theorem gL_law_X0_covering : GoodIn wsL_law (wsV RL 46 RX0 yX0_covering wsX0_covering) := goodIn_app (goodIn_of _ (by decide +kernel)) ggL_law_X0_covering
set_option maxRecDepth 20000 in
theorem ggL_law_X1_covering : GoodIn wsL_law wsX1_covering := goodIn_r _ [150, 34, 58, 124, 125, 126, 5, 127, 128, 129, 21, 130, 131, 132, 133, 63, 64, 65, 66, 59, 60, 61, 62, 167, 168, 169] (by decide +kernel) (by decide +kernel)
set_option maxRecDepth 20000 in
theorem gL_law_X1_covering : GoodIn wsL_law (wsV RL 49 RX1 yX1_covering wsX1_covering) := goodIn_app (goodIn_of _ (by decide +kernel)) ggL_law_X1_covering
set_option maxRecDepth 20000 in
theorem ggL_law_X0_next : GoodIn wsL_law wsX0_next := goodIn_r _ [154, 155, 156, 157, 158, 16, 99, 100, 2, 101, 102, 103, 104, 105, 106, 107, 44, 45, 46, 47, 13, 14, 48, 49, 50, 51, 52, 53, 108, 109, 110, 111, 163, 164, 165, 166] (by decide +kernel) (by decide +kernel)
set_option maxRecDepth 20000 in
theorem gL_law_X0_next : GoodIn wsL_law (wsV RL 50 RX0 yX0_next wsX0_next) := goodIn_app (goodIn_of _ (by decide +kernel)) ggL_law_X0_next
set_option maxRecDepth 20000 in
theorem ggL_law_X1_next : GoodIn wsL_law wsX1_next := goodIn_r _ [162, 34, 58, 124, 125, 126, 5, 127, 128, 129, 21, 130, 131, 132, 133, 63, 64, 65, 66, 59, 60, 61, 62, 167, 168, 169] (by decide +kernel) (by decide +kernel)
set_option maxRecDepth 20000 in
theorem gL_law_X1_next : GoodIn wsL_law (wsV RL 53 RX1 yX1_next wsX1_next) := goodIn_app (goodIn_of _ (by decide +kernel)) ggL_law_X1_next
theorem dL_law_0 : decode cL_law 0 = .ok (.new 7, 3) := by decide +kernel
theorem dL_law_3 : decode cL_law 3 = .ok (.dup, 1) := by decide +kernel
theorem dL_law_4 : decode cL_law 4 = .ok (.invokespecial 9, 3) := by decide +kernel
theorem dL_law_7 : decode cL_law 7 = .ok (.astore_n 1, 1) := by decide +kernel
theorem dL_law_8 : decode cL_law 8 = .ok (.new 10, 3) := by decide +kernel
theorem dL_law_11 : decode cL_law 11 = .ok (.dup, 1) := by decide +kernel
theorem dL_law_12 : decode cL_law 12 = .ok (.invokespecial 12, 3) := by decide +kernel
theorem dL_law_15 : decode cL_law 15 = .ok (.astore_n 2, 1) := by decide +kernel
theorem dL_law_16 : decode cL_law 16 = .ok (.iconst 0, 1) := by decide +kernel
theorem dL_law_17 : decode cL_law 17 = .ok (.istore_n 3, 1) := by decide +kernel
theorem dL_law_18 : decode cL_law 18 = .ok (.iload_n 3, 1) := by decide +kernel
theorem dL_law_19 : decode cL_law 19 = .ok (.aload_n 0, 1) := by decide +kernel
theorem dL_law_20 : decode cL_law 20 = .ok (.arraylength, 1) := by decide +kernel
theorem dL_law_21 : decode cL_law 21 = .ok (.iconst 5, 1) := by decide +kernel
theorem dL_law_22 : decode cL_law 22 = .ok (.isub, 1) := by decide +kernel
theorem dL_law_23 : decode cL_law 23 = .ok (.if_icmp .gt 332, 3) := by decide +kernel
theorem dL_law_26 : decode cL_law 26 = .ok (.aload_n 0, 1) := by decide +kernel
theorem dL_law_27 : decode cL_law 27 = .ok (.iload_n 3, 1) := by decide +kernel
theorem dL_law_28 : decode cL_law 28 = .ok (.iaload, 1) := by decide +kernel
theorem dL_law_29 : decode cL_law 29 = .ok (.bipush 15, 2) := by decide +kernel
theorem dL_law_31 : decode cL_law 31 = .ok (.iand, 1) := by decide +kernel
theorem dL_law_32 : decode cL_law 32 = .ok (.tableswitch 317 0 8 #[52, 105, 118, 129, 142, 165, 208, 241, 274], 52) := by decide +kernel
theorem dL_law_84 : decode cL_law 84 = .ok (.aload_n 1, 1) := by decide +kernel
theorem dL_law_85 : decode cL_law 85 = .ok (.aload_n 0, 1) := by decide +kernel
theorem dL_law_86 : decode cL_law 86 = .ok (.iload_n 3, 1) := by decide +kernel
theorem dL_law_87 : decode cL_law 87 = .ok (.iconst 1, 1) := by decide +kernel
theorem dL_law_88 : decode cL_law 88 = .ok (.iadd, 1) := by decide +kernel
theorem dL_law_89 : decode cL_law 89 = .ok (.iaload, 1) := by decide +kernel
theorem dL_law_90 : decode cL_law 90 = .ok (.aload_n 0, 1) := by decide +kernel
theorem dL_law_91 : decode cL_law 91 = .ok (.iload_n 3, 1) := by decide +kernel
theorem dL_law_92 : decode cL_law 92 = .ok (.iconst 2, 1) := by decide +kernel
theorem dL_law_93 : decode cL_law 93 = .ok (.iadd, 1) := by decide +kernel
theorem dL_law_94 : decode cL_law 94 = .ok (.iaload, 1) := by decide +kernel
theorem dL_law_95 : decode cL_law 95 = .ok (.aload_n 0, 1) := by decide +kernel
theorem dL_law_96 : decode cL_law 96 = .ok (.iload_n 3, 1) := by decide +kernel
theorem dL_law_97 : decode cL_law 97 = .ok (.iconst 3, 1) := by decide +kernel
theorem dL_law_98 : decode cL_law 98 = .ok (.iadd, 1) := by decide +kernel
theorem dL_law_99 : decode cL_law 99 = .ok (.iaload, 1) := by decide +kernel
theorem dL_law_100 : decode cL_law 100 = .ok (.aload_n 0, 1) := by decide +kernel
theorem dL_law_101 : decode cL_law 101 = .ok (.iload_n 3, 1) := by decide +kernel
theorem dL_law_102 : decode cL_law 102 = .ok (.iconst 4, 1) := by decide +kernel
theorem dL_law_103 : decode cL_law 103 = .ok (.iadd, 1) := by decide +kernel
theorem dL_law_104 : decode cL_law 104 = .ok (.iaload, 1) := by decide +kernel
theorem dL_law_105 : decode cL_law 105 = .ok (.invokevirtual 13, 3) := by decide +kernel
theorem dL_law_108 : decode cL_law 108 = .ok (.aload_n 2, 1) := by decide +kernel
theorem dL_law_109 : decode cL_law 109 = .ok (.aload_n 0, 1) := by decide +kernel
theorem dL_law_110 : decode cL_law 110 = .ok (.iload_n 3, 1) := by decide +kernel
theorem dL_law_111 : decode cL_law 111 = .ok (.iconst 1, 1) := by decide +kernel
theorem dL_law_112 : decode cL_law 112 = .ok (.iadd, 1) := by decide +kernel
theorem dL_law_113 : decode cL_law 113 = .ok (.iaload, 1) := by decide +kernel
theorem dL_law_114 : decode cL_law 114 = .ok (.aload_n 0, 1) := by decide +kernel
theorem dL_law_115 : decode cL_law 115 = .ok (.iload_n 3, 1) := by decide +kernel
theorem dL_law_116 : decode cL_law 116 = .ok (.iconst 2, 1) := by decide +kernel
theorem dL_law_117 : decode cL_law 117 = .ok (.iadd, 1) := by decide +kernel
theorem dL_law_118 : decode cL_law 118 = .ok (.iaload, 1) := by decide +kernel
theorem dL_law_119 : decode cL_law 119 = .ok (.aload_n 0, 1) := by decide +kernel
theorem dL_law_120 : decode cL_law 120 = .ok (.iload_n 3, 1) := by decide +kernel
theorem dL_law_121 : decode cL_law 121 = .ok (.iconst 3, 1) := by decide +kernel
theorem dL_law_122 : decode cL_law 122 = .ok (.iadd, 1) := by decide +kernel
theorem dL_law_123 : decode cL_law 123 = .ok (.iaload, 1) := by decide +kernel
theorem dL_law_124 : decode cL_law 124 = .ok (.aload_n 0, 1) := by decide +kernel
theorem dL_law_125 : decode cL_law 125 = .ok (.iload_n 3, 1) := by decide +kernel
theorem dL_law_126 : decode cL_law 126 = .ok (.iconst 4, 1) := by decide +kernel
theorem dL_law_127 : decode cL_law 127 = .ok (.iadd, 1) := by decide +kernel
theorem dL_law_128 : decode cL_law 128 = .ok (.iaload, 1) := by decide +kernel
theorem dL_law_129 : decode cL_law 129 = .ok (.invokevirtual 17, 3) := by decide +kernel
theorem dL_law_132 : decode cL_law 132 = .ok (.if_icmp .eq 217, 3) := by decide +kernel
theorem dL_law_135 : decode cL_law 135 = .ok (.iconst 0, 1) := by decide +kernel
theorem dL_law_136 : decode cL_law 136 = .ok (.ireturn, 1) := by decide +kernel
theorem dL_law_137 : decode cL_law 137 = .ok (.aload_n 1, 1) := by decide +kernel
theorem dL_law_138 : decode cL_law 138 = .ok (.invokevirtual 18, 3) := by decide +kernel
theorem dL_law_141 : decode cL_law 141 = .ok (.aload_n 2, 1) := by decide +kernel
theorem dL_law_142 : decode cL_law 142 = .ok (.invokevirtual 22, 3) := by decide +kernel
theorem dL_law_145 : decode cL_law 145 = .ok (.if_icmp .eq 204, 3) := by decide +kernel
theorem dL_law_148 : decode cL_law 148 = .ok (.iconst 0, 1) := by decide +kernel
theorem dL_law_149 : decode cL_law 149 = .ok (.ireturn, 1) := by decide +kernel
theorem dL_law_150 : decode cL_law 150 = .ok (.aload_n 1, 1) := by decide +kernel
theorem dL_law_151 : decode cL_law 151 = .ok (.invokevirtual 23, 3) := by decide +kernel
theorem dL_law_154 : decode cL_law 154 = .ok (.aload_n 2, 1) := by decide +kernel
theorem dL_law_155 : decode cL_law 155 = .ok (.invokevirtual 26, 3) := by decide +kernel
theorem dL_law_158 : decode cL_law 158 = .ok (.goto 191, 3) := by decide +kernel
theorem dL_law_161 : decode cL_law 161 = .ok (.aload_n 1, 1) := by decide +kernel
theorem dL_law_162 : decode cL_law 162 = .ok (.invokevirtual 27, 3) := by decide +kernel
theorem dL_law_165 : decode cL_law 165 = .ok (.aload_n 2, 1) := by decide +kernel
theorem dL_law_166 : decode cL_law 166 = .ok (.invokevirtual 30, 3) := by decide +kernel
theorem dL_law_169 : decode cL_law 169 = .ok (.if_icmp .eq 180, 3) := by decide +kernel
theorem dL_law_172 : decode cL_law 172 = .ok (.iconst 0, 1) := by decide +kernel
theorem dL_law_173 : decode cL_law 173 = .ok (.ireturn, 1) := by decide +kernel
theorem dL_law_174 : decode cL_law 174 = .ok (.aload_n 1, 1) := by decide +kernel
theorem dL_law_175 : decode cL_law 175 = .ok (.aload_n 0, 1) := by decide +kernel
theorem dL_law_176 : decode cL_law 176 = .ok (.iload_n 3, 1) := by decide +kernel
theorem dL_law_177 : decode cL_law 177 = .ok (.iconst 1, 1) := by decide +kernel
theorem dL_law_178 : decode cL_law 178 = .ok (.iadd, 1) := by decide +kernel
theorem dL_law_179 : decode cL_law 179 = .ok (.iaload, 1) := by decide +kernel
theorem dL_law_180 : decode cL_law 180 = .ok (.invokevirtual 31, 3) := by decide +kernel
theorem dL_law_183 : decode cL_law 183 = .ok (.aload_n 2, 1) := by decide +kernel
theorem dL_law_184 : decode cL_law 184 = .ok (.aload_n 0, 1) := by decide +kernel
theorem dL_law_185 : decode cL_law 185 = .ok (.iload_n 3, 1) := by decide +kernel
theorem dL_law_186 : decode cL_law 186 = .ok (.iconst 1, 1) := by decide +kernel
theorem dL_law_187 : decode cL_law 187 = .ok (.iadd, 1) := by decide +kernel
theorem dL_law_188 : decode cL_law 188 = .ok (.iaload, 1) := by decide +kernel
theorem dL_law_189 : decode cL_law 189 = .ok (.invokevirtual 35, 3) := by decide +kernel
theorem dL_law_192 : decode cL_law 192 = .ok (.if_icmp .eq 157, 3) := by decide +kernel
theorem dL_law_195 : decode cL_law 195 = .ok (.iconst 0, 1) := by decide +kernel
theorem dL_law_196 : decode cL_law 196 = .ok (.ireturn, 1) := by decide +kernel
theorem dL_law_197 : decode cL_law 197 = .ok (.aload_n 1, 1) := by decide +kernel
theorem dL_law_198 : decode cL_law 198 = .ok (.aload_n 0, 1) := by decide +kernel
theorem dL_law_199 : decode cL_law 199 = .ok (.iload_n 3, 1) := by decide +kernel
theorem dL_law_200 : decode cL_law 200 = .ok (.iconst 1, 1) := by decide +kernel
theorem dL_law_201 : decode cL_law 201 = .ok (.iadd, 1) := by decide +kernel
theorem dL_law_202 : decode cL_law 202 = .ok (.iaload, 1) := by decide +kernel
theorem dL_law_203 : decode cL_law 203 = .ok (.aload_n 0, 1) := by decide +kernel
theorem dL_law_204 : decode cL_law 204 = .ok (.iload_n 3, 1) := by decide +kernel
theorem dL_law_205 : decode cL_law 205 = .ok (.iconst 2, 1) := by decide +kernel
theorem dL_law_206 : decode cL_law 206 = .ok (.iadd, 1) := by decide +kernel
theorem dL_law_207 : decode cL_law 207 = .ok (.iaload, 1) := by decide +kernel
theorem dL_law_208 : decode cL_law 208 = .ok (.aload_n 0, 1) := by decide +kernel
theorem dL_law_209 : decode cL_law 209 = .ok (.iload_n 3, 1) := by decide +kernel
theorem dL_law_210 : decode cL_law 210 = .ok (.iconst 3, 1) := by decide +kernel
theorem dL_law_211 : decode cL_law 211 = .ok (.iadd, 1) := by decide +kernel
theorem dL_law_212 : decode cL_law 212 = .ok (.iaload, 1) := by decide +kernel
theorem dL_law_213 : decode cL_law 213 = .ok (.invokevirtual 36, 3) := by decide +kernel
theorem dL_law_216 : decode cL_law 216 = .ok (.aload_n 2, 1) := by decide +kernel
theorem dL_law_217 : decode cL_law 217 = .ok (.aload_n 0, 1) := by decide +kernel
theorem dL_law_218 : decode cL_law 218 = .ok (.iload_n 3, 1) := by decide +kernel
theorem dL_law_219 : decode cL_law 219 = .ok (.iconst 1, 1) := by decide +kernel
theorem dL_law_220 : decode cL_law 220 = .ok (.iadd, 1) := by decide +kernel
theorem dL_law_221 : decode cL_law 221 = .ok (.iaload, 1) := by decide +kernel
theorem dL_law_222 : decode cL_law 222 = .ok (.aload_n 0, 1) := by decide +kernel
theorem dL_law_223 : decode cL_law 223 = .ok (.iload_n 3, 1) := by decide +kernel
theorem dL_law_224 : decode cL_law 224 = .ok (.iconst 2, 1) := by decide +kernel
theorem dL_law_225 : decode cL_law 225 = .ok (.iadd, 1) := by decide +kernel
theorem dL_law_226 : decode cL_law 226 = .ok (.iaload, 1) := by decide +kernel
theorem dL_law_227 : decode cL_law 227 = .ok (.aload_n 0, 1) := by decide +kernel
theorem dL_law_228 : decode cL_law 228 = .ok (.iload_n 3, 1) := by decide +kernel
theorem dL_law_229 : decode cL_law 229 = .ok (.iconst 3, 1) := by decide +kernel
theorem dL_law_230 : decode cL_law 230 = .ok (.iadd, 1) := by decide +kernel
theorem dL_law_231 : decode cL_law 231 = .ok (.iaload, 1) := by decide +kernel
theorem dL_law_232 : decode cL_law 232 = .ok (.invokevirtual 40, 3) := by decide +kernel
theorem dL_law_235 : decode cL_law 235 = .ok (.if_icmp .eq 114, 3) := by decide +kernel
theorem dL_law_238 : decode cL_law 238 = .ok (.iconst 0, 1) := by decide +kernel
theorem dL_law_239 : decode cL_law 239 = .ok (.ireturn, 1) := by decide +kernel
theorem dL_law_240 : decode cL_law 240 = .ok (.aload_n 1, 1) := by decide +kernel
theorem dL_law_241 : decode cL_law 241 = .ok (.aload_n 0, 1) := by decide +kernel
theorem dL_law_242 : decode cL_law 242 = .ok (.iload_n 3, 1) := by decide +kernel
theorem dL_law_243 : decode cL_law 243 = .ok (.iconst 1, 1) := by decide +kernel
theorem dL_law_244 : decode cL_law 244 = .ok (.iadd, 1) := by decide +kernel
theorem dL_law_245 : decode cL_law 245 = .ok (.iaload, 1) := by decide +kernel
theorem dL_law_246 : decode cL_law 246 = .ok (.aload_n 0, 1) := by decide +kernel
theorem dL_law_247 : decode cL_law 247 = .ok (.iload_n 3, 1) := by decide +kernel
theorem dL_law_248 : decode cL_law 248 = .ok (.iconst 2, 1) := by decide +kernel
theorem dL_law_249 : decode cL_law 249 = .ok (.iadd, 1) := by decide +kernel
theorem dL_law_250 : decode cL_law 250 = .ok (.iaload, 1) := by decide +kernel
theorem dL_law_251 : decode cL_law 251 = .ok (.invokevirtual 41, 3) := by decide +kernel
theorem dL_law_254 : decode cL_law 254 = .ok (.aload_n 2, 1) := by decide +kernel
theorem dL_law_255 : decode cL_law 255 = .ok (.aload_n 0, 1) := by decide +kernel
theorem dL_law_256 : decode cL_law 256 = .ok (.iload_n 3, 1) := by decide +kernel
theorem dL_law_257 : decode cL_law 257 = .ok (.iconst 1, 1) := by decide +kernel
theorem dL_law_258 : decode cL_law 258 = .ok (.iadd, 1) := by decide +kernel
theorem dL_law_259 : decode cL_law 259 = .ok (.iaload, 1) := by decide +kernel
theorem dL_law_260 : decode cL_law 260 = .ok (.aload_n 0, 1) := by decide +kernel
theorem dL_law_261 : decode cL_law 261 = .ok (.iload_n 3, 1) := by decide +kernel
theorem dL_law_262 : decode cL_law 262 = .ok (.iconst 2, 1) := by decide +kernel
theorem dL_law_263 : decode cL_law 263 = .ok (.iadd, 1) := by decide +kernel
theorem dL_law_264 : decode cL_law 264 = .ok (.iaload, 1) := by decide +kernel
theorem dL_law_265 : decode cL_law 265 = .ok (.invokevirtual 45, 3) := by decide +kernel
theorem dL_law_268 : decode cL_law 268 = .ok (.if_icmp .eq 81, 3) := by decide +kernel
theorem dL_law_271 : decode cL_law 271 = .ok (.iconst 0, 1) := by decide +kernel
theorem dL_law_272 : decode cL_law 272 = .ok (.ireturn, 1) := by decide +kernel
theorem dL_law_273 : decode cL_law 273 = .ok (.aload_n 1, 1) := by decide +kernel
theorem dL_law_274 : decode cL_law 274 = .ok (.aload_n 0, 1) := by decide +kernel
theorem dL_law_275 : decode cL_law 275 = .ok (.iload_n 3, 1) := by decide +kernel
theorem dL_law_276 : decode cL_law 276 = .ok (.iconst 1, 1) := by decide +kernel
theorem dL_law_277 : decode cL_law 277 = .ok (.iadd, 1) := by decide +kernel
theorem dL_law_278 : decode cL_law 278 = .ok (.iaload, 1) := by decide +kernel
theorem dL_law_279 : decode cL_law 279 = .ok (.aload_n 0, 1) := by decide +kernel
theorem dL_law_280 : decode cL_law 280 = .ok (.iload_n 3, 1) := by decide +kernel
theorem dL_law_281 : decode cL_law 281 = .ok (.iconst 2, 1) := by decide +kernel
theorem dL_law_282 : decode cL_law 282 = .ok (.iadd, 1) := by decide +kernel
theorem dL_law_283 : decode cL_law 283 = .ok (.iaload, 1) := by decide +kernel
theorem dL_law_284 : decode cL_law 284 = .ok (.invokevirtual 46, 3) := by decide +kernel
theorem dL_law_287 : decode cL_law 287 = .ok (.aload_n 2, 1) := by decide +kernel
theorem dL_law_288 : decode cL_law 288 = .ok (.aload_n 0, 1) := by decide +kernel
theorem dL_law_289 : decode cL_law 289 = .ok (.iload_n 3, 1) := by decide +kernel
theorem dL_law_290 : decode cL_law 290 = .ok (.iconst 1, 1) := by decide +kernel
theorem dL_law_291 : decode cL_law 291 = .ok (.iadd, 1) := by decide +kernel
theorem dL_law_292 : decode cL_law 292 = .ok (.iaload, 1) := by decide +kernel
theorem dL_law_293 : decode cL_law 293 = .ok (.aload_n 0, 1) := by decide +kernel
theorem dL_law_294 : decode cL_law 294 = .ok (.iload_n 3, 1) := by decide +kernel
theorem dL_law_295 : decode cL_law 295 = .ok (.iconst 2, 1) := by decide +kernel
theorem dL_law_296 : decode cL_law 296 = .ok (.iadd, 1) := by decide +kernel
theorem dL_law_297 : decode cL_law 297 = .ok (.iaload, 1) := by decide +kernel
theorem dL_law_298 : decode cL_law 298 = .ok (.invokevirtual 49, 3) := by decide +kernel
theorem dL_law_301 : decode cL_law 301 = .ok (.if_icmp .eq 48, 3) := by decide +kernel
theorem dL_law_304 : decode cL_law 304 = .ok (.iconst 0, 1) := by decide +kernel
theorem dL_law_305 : decode cL_law 305 = .ok (.ireturn, 1) := by decide +kernel
theorem dL_law_306 : decode cL_law 306 = .ok (.aload_n 1, 1) := by decide +kernel
theorem dL_law_307 : decode cL_law 307 = .ok (.aload_n 0, 1) := by decide +kernel
theorem dL_law_308 : decode cL_law 308 = .ok (.iload_n 3, 1) := by decide +kernel
theorem dL_law_309 : decode cL_law 309 = .ok (.iconst 1, 1) := by decide +kernel
theorem dL_law_310 : decode cL_law 310 = .ok (.iadd, 1) := by decide +kernel
theorem dL_law_311 : decode cL_law 311 = .ok (.iaload, 1) := by decide +kernel
theorem dL_law_312 : decode cL_law 312 = .ok (.aload_n 0, 1) := by decide +kernel
theorem dL_law_313 : decode cL_law 313 = .ok (.iload_n 3, 1) := by decide +kernel
theorem dL_law_314 : decode cL_law 314 = .ok (.iconst 2, 1) := by decide +kernel
theorem dL_law_315 : decode cL_law 315 = .ok (.iadd, 1) := by decide +kernel
theorem dL_law_316 : decode cL_law 316 = .ok (.iaload, 1) := by decide +kernel
theorem dL_law_317 : decode cL_law 317 = .ok (.aload_n 0, 1) := by decide +kernel
theorem dL_law_318 : decode cL_law 318 = .ok (.iload_n 3, 1) := by decide +kernel
theorem dL_law_319 : decode cL_law 319 = .ok (.iconst 3, 1) := by decide +kernel
theorem dL_law_320 : decode cL_law 320 = .ok (.iadd, 1) := by decide +kernel
theorem dL_law_321 : decode cL_law 321 = .ok (.iaload, 1) := by decide +kernel
theorem dL_law_322 : decode cL_law 322 = .ok (.invokevirtual 50, 3) := by decide +kernel
theorem dL_law_325 : decode cL_law 325 = .ok (.aload_n 2, 1) := by decide +kernel
theorem dL_law_326 : decode cL_law 326 = .ok (.aload_n 0, 1) := by decide +kernel
theorem dL_law_327 : decode cL_law 327 = .ok (.iload_n 3, 1) := by decide +kernel
theorem dL_law_328 : decode cL_law 328 = .ok (.iconst 1, 1) := by decide +kernel
theorem dL_law_329 : decode cL_law 329 = .ok (.iadd, 1) := by decide +kernel
theorem dL_law_330 : decode cL_law 330 = .ok (.iaload, 1) := by decide +kernel
theorem dL_law_331 : decode cL_law 331 = .ok (.aload_n 0, 1) := by decide +kernel
theorem dL_law_332 : decode cL_law 332 = .ok (.iload_n 3, 1) := by decide +kernel
theorem dL_law_333 : decode cL_law 333 = .ok (.iconst 2, 1) := by decide +kernel
theorem dL_law_334 : decode cL_law 334 = .ok (.iadd, 1) := by decide +kernel
theorem dL_law_335 : decode cL_law 335 = .ok (.iaload, 1) := by decide +kernel
theorem dL_law_336 : decode cL_law 336 = .ok (.aload_n 0, 1) := by decide +kernel
theorem dL_law_337 : decode cL_law 337 = .ok (.iload_n 3, 1) := by decide +kernel
theorem dL_law_338 : decode cL_law 338 = .ok (.iconst 3, 1) := by decide +kernel
theorem dL_law_339 : decode cL_law 339 = .ok (.iadd, 1) := by decide +kernel
theorem dL_law_340 : decode cL_law 340 = .ok (.iaload, 1) := by decide +kernel
theorem dL_law_341 : decode cL_law 341 = .ok (.invokevirtual 53, 3) := by decide +kernel
theorem dL_law_344 : decode cL_law 344 = .ok (.if_icmp .eq 5, 3) := by decide +kernel
theorem dL_law_347 : decode cL_law 347 = .ok (.iconst 0, 1) := by decide +kernel
theorem dL_law_348 : decode cL_law 348 = .ok (.ireturn, 1) := by decide +kernel
theorem dL_law_349 : decode cL_law 349 = .ok (.iinc 3 5, 3) := by decide +kernel
theorem dL_law_352 : decode cL_law 352 = .ok (.goto (-334), 3) := by decide +kernel
theorem dL_law_355 : decode cL_law 355 = .ok (.iconst 1, 1) := by decide +kernel
theorem dL_law_356 : decode cL_law 356 = .ok (.ireturn, 1) := by decide +kernel
abbrev vwCl : List vw_C := [(RX0, TX0, 4), (RX1, TX1, 3)]
end
section
section PB
variable {p : Program} {l : Launch} {e : Env} {R : Room} {s : State} {m : MethodId} {args : Array Value} {below : List Frame} {meth : Method} {c : Code} {H : Heap} {locs : List Loc} {cells slots : Nat} {Q : State → Prop}
variable {cc : ByteArray} {pc : Nat} {ls : Array Slot} {rest st0 : List Value} {D : va_G} {cl : List vw_C} {A : Nat → Prop} {a : Nat} {tys : List (ClassId × FieldType)} {ws : va_W} {H0 : Heap}
theorem pb_eqi {x y : Int32} (h : x = y) (k : W p l e R s m args below meth c H locs cells slots Q (F0 m pc ls (.int y :: rest))) : W p l e R s m args below meth c H locs cells slots Q (F0 m pc ls (.int x :: rest)) := by
  rw [h]; exact k
theorem pb_eql {x y : Int64} (h : x = y) (k : W p l e R s m args below meth c H locs cells slots Q (F0 m pc ls (.long y :: rest))) : W p l e R s m args below meth c H locs cells slots Q (F0 m pc ls (.long x :: rest)) := by
  rw [h]; exact k
theorem pb_call {r : Value} {av : Array Value} (hr : CallRun p l e R s m args below meth c H locs cells slots 0 0 (F0 m pc ls st0) rest (k2_QcV r av) (fun _ => False)) (kk : W p l e R s m args below meth c H locs cells slots Q (F0 m (pc + 3) ls (r :: rest))) : W p l e R s m args below meth c H locs cells slots Q (F0 m pc ls st0) := W.callV hr kk
theorem pb_ald (hexec : p.tables.exec = Jvm.exec) (hb : c.code = cc) (hK : va_K D cl tys s) (hP : va_P D cl ws H) (q0 t0 : Nat) {cA : ClassId} {n : Nat} {f : Nat → Int32} (ha : ws[q0]? = some (a, .inl (cA, n, .inl f))) (ht : tys[t0]? = some (cA, .int)) {j : Nat} (hj : j < n) (hn : n < 2 ^ 31) (hdg : decode cc pc = .ok (.iaload, 1))
    (kk : W p l e R s m args below meth c H locs cells slots Q (F0 m (pc + 1) ls (.int (f j) :: rest))) : W p l e R s m args below meth c H locs cells slots Q (F0 m pc ls (.int (nI j) :: .ref a :: rest)) := by
  refine va_iald hexec hb hK hP q0 t0 ha ht (vp_in_nI hj hn) hdg ?_
  rw [nI_clamp (Nat.lt_trans hj hn)]
  exact kk
theorem pb_ast (hexec : p.tables.exec = Jvm.exec) (hb : c.code = cc) (hK : va_K D cl tys s) (hP : va_P D cl ws H) (hD : va_D A ws) (hS : va_S A H0 H locs) (q0 t0 : Nat) {cA : ClassId} {n : Nat} {f : Nat → Int32} (ha : ws[q0]? = some (a, .inl (cA, n, .inl f))) (ht : tys[t0]? = some (cA, .int)) {j : Nat} {x : Int32} (hj : j < n) (hn : n < 2 ^ 31) (hdg : decode cc pc = .ok (.iastore, 1))
    (kk : ∀ (H1 : Heap) (locs1 : List Loc), va_P D cl (ws.set q0 (a, .inl (cA, n, .inl (upd f j x)))) H1 → va_D A (ws.set q0 (a, .inl (cA, n, .inl (upd f j x)))) → va_S A H0 H1 locs1 → W p l e R s m args below meth c H1 locs1 cells slots Q (F0 m (pc + 1) ls rest)) : W p l e R s m args below meth c H locs cells slots Q (F0 m pc ls (.int x :: .int (nI j) :: .ref a :: rest)) := by
  refine va_iast hexec hb hK hP hD hS q0 t0 ha ht (vp_in_nI hj hn) hdg ?_
  rw [nI_clamp (Nat.lt_trans hj hn)]
  exact kk
theorem pb_sld (hexec : p.tables.exec = Jvm.exec) (hb : c.code = cc) {b L : Nat} {xs : Nat → Int32} (hX : va_X b L xs s H0) (hbl : b < H0.size) (hbA : ¬ A b) (hS : va_S A H0 H locs) {j : Nat} (hj : j < L) (hL : L < 2 ^ 31) (hdg : decode cc pc = .ok (.iaload, 1))
    (kk : W p l e R s m args below meth c H locs cells slots Q (F0 m (pc + 1) ls (.int (xs j) :: rest))) : W p l e R s m args below meth c H locs cells slots Q (F0 m pc ls (.int (nI j) :: .ref b :: rest)) := by
  refine va_sld hexec hb hX hbl hbA hS (vp_in_nI hj hL) hdg ?_
  rw [nI_clamp (Nat.lt_trans hj hL)]
  exact kk
end PB
theorem pb_preS {s : State} {H : Heap} {As : List Value} : PreS s H (va_Pc As (fun _ => True)) As := ⟨fun _ _ _ _ h => h, fun _ _ _ => ⟨rfl, trivial⟩⟩
def pb_b (b : Bool) : Int32 := if b = true then 1 else 0
theorem pb_b_ne {b : Bool} (h : ¬ pb_b b = 0) : b = true := by cases b with | true => rfl | false => exact absurd rfl h
theorem pb_b_eq {b : Bool} (h : pb_b b = 0) : b = false := by cases b with | false => rfl | true => exact absurd h (by decide)
def pb_grid (a : Int32) : Bool := decide (-4096 ≤ a) && decide (a ≤ 4096)
def pb_mid (a : Int32) : Int64 := 16 * a.toInt64 + 8
def pb_isP (n : Nat) (a : Int32) : Bool := decide (0 ≤ a) && decide (a < nI n)
def pb_E (X Y : Nat → Int32) (a b : Nat) (x y : Int64) : Int64 := (X b - X a).toInt64 * (y - (Y a).toInt64) - (Y b - Y a).toInt64 * (x - (X a).toInt64)
def pb_e (X Y : Nat → Int32) (sl k : Nat) (x y : Int64) : Int64 := pb_E X Y (sl * 3 + (k + 1) % 3) (sl * 3 + (k + 2) % 3) x y
def pb_own (X Y : Nat → Int32) (sl k : Nat) : Bool := decide (Y (sl * 3 + (k + 2) % 3) < Y (sl * 3 + (k + 1) % 3)) || (decide (Y (sl * 3 + (k + 2) % 3) = Y (sl * 3 + (k + 1) % 3)) && decide (X (sl * 3 + (k + 1) % 3) < X (sl * 3 + (k + 2) % 3)))
def pb_c1 (X Y : Nat → Int32) (sl k : Nat) (x y : Int64) : Bool := !(decide (pb_e X Y sl k x y < 0)) && (!(decide (pb_e X Y sl k x y = 0)) || pb_own X Y sl k)
def pb_cov (X Y : Nat → Int32) (sl : Nat) (x y : Int64) : Bool := pb_c1 X Y sl 0 x y && (pb_c1 X Y sl 1 x y && pb_c1 X Y sl 2 x y)
theorem pb_cov_t {X Y : Nat → Int32} {sl : Nat} {x y : Int64} (h : ∀ j, j < 3 → pb_c1 X Y sl j x y = true) : pb_cov X Y sl x y = true := by
  unfold pb_cov
  rw [h 0 (by decide), h 1 (by decide), h 2 (by decide)]
  rfl
theorem pb_cov_f {X Y : Nat → Int32} {sl k : Nat} {x y : Int64} (hk : k < 3) (h : pb_c1 X Y sl k x y = false) : pb_cov X Y sl x y = false := by
  unfold pb_cov
  match k, hk, h with
  | 0, _, h => rw [h]; rfl
  | 1, _, h => rw [h]; simp
  | 2, _, h => rw [h]; simp
def pb_ar (X Y : Nat → Int32) (sl : Nat) : Int64 := pb_e X Y sl 2 (X (sl * 3 + 2)).toInt64 (Y (sl * 3 + 2)).toInt64
def pb_fd (a b : Int64) : Int64 := if (a ^^^ b) < 0 ∧ ¬ (a / b * b = a) then a / b - 1 else a / b
def pb_sum (X Y Z : Nat → Int32) (sl : Nat) (x y : Int64) : Int64 := 0 + pb_e X Y sl 0 x y * (Z (sl * 3 + 0)).toInt64 + pb_e X Y sl 1 x y * (Z (sl * 3 + 1)).toInt64 + pb_e X Y sl 2 x y * (Z (sl * 3 + 2)).toInt64
def pb_nn (X Y Z : Nat → Int32) (sl : Nat) (x y : Int64) : Int32 := if 0 < pb_ar X Y sl then (pb_fd (pb_sum X Y Z sl x y) (pb_ar X Y sl)).toInt32 else -1
def pb_area (X Y : Nat → Int32) (n : Nat) (a : Int32) : Int32 := if pb_isP n a = true then (pb_ar X Y a.toNatClampNeg).toInt32 else -1
def pb_nv (X Y Z : Nat → Int32) (j : Nat) (xi yi : Int32) : Int32 := if pb_cov X Y j (pb_mid xi) (pb_mid yi) = true then pb_nn X Y Z j (pb_mid xi) (pb_mid yi) else -1
def pb_near (X Y Z : Nat → Int32) (n : Nat) (a xi yi : Int32) : Int32 := if pb_isP n a = true then pb_nv X Y Z a.toNatClampNeg xi yi else -1
def pb_ns (X Y Z : Nat → Int32) (xi yi : Int32) : Nat → Int32 × Int32
  | 0 => (-1, -1)
  | j + 1 => if (pb_ns X Y Z xi yi j).2 < pb_nv X Y Z j xi yi then (nI j, pb_nv X Y Z j xi yi) else ((pb_ns X Y Z xi yi j).1, (pb_ns X Y Z xi yi j).2)
def pb_cv (X Y : Nat → Int32) (x y : Int64) : Nat → Int32
  | 0 => 0
  | j + 1 => if pb_cov X Y j x y = true then pb_cv X Y x y j + 1 else pb_cv X Y x y j
def pb_nx (X Y : Nat → Int32) (x y : Int64) : Nat → Nat → Int32
  | 0, _ => -1
  | d + 1, j => if pb_cov X Y j x y = true then nI j else pb_nx X Y x y d (j + 1)
def pb_next (X Y : Nat → Int32) (x y : Int64) (n : Nat) (fr : Int32) : Int32 := pb_nx X Y x y (n - (if fr < 0 then (0 : Int32) else fr).toNatClampNeg) (if fr < 0 then (0 : Int32) else fr).toNatClampNeg
theorem pb_isP_t {n : Nat} {a : Int32} (hn : n ≤ 512) (h : pb_isP n a = true) : ∃ j, j < n ∧ a = nI j := by
  simp only [pb_isP, Bool.and_eq_true, decide_eq_true_eq] at h
  obtain ⟨j, hj, rfl⟩ := nI_of (x := a) (Int32.not_lt.mpr h.1)
  exact ⟨j, (nI_ltI hj (by omega)).mp h.2, rfl⟩
theorem pb_isP_n {n j : Nat} (hn : n ≤ 512) (hj : j < n) : pb_isP n (nI j) = true := by
  simp only [pb_isP, Bool.and_eq_true, decide_eq_true_eq]
  exact ⟨nI_pos' (by omega), nI_lt hj (by omega)⟩
theorem pb_area_t {X Y : Nat → Int32} {n j : Nat} (hn : n ≤ 512) (hj : j < n) : pb_area X Y n (nI j) = (pb_ar X Y j).toInt32 := by
  unfold pb_area
  rw [if_pos (pb_isP_n hn hj), nI_clamp (by omega)]
theorem pb_near_t {X Y Z : Nat → Int32} {n j : Nat} {xi yi : Int32} (hn : n ≤ 512) (hj : j < n) : pb_near X Y Z n (nI j) xi yi = pb_nv X Y Z j xi yi := by
  unfold pb_near
  rw [if_pos (pb_isP_n hn hj), nI_clamp (by omega)]
theorem pb_max (fr : Int32) : ∃ i : Nat, i < 2 ^ 31 ∧ (if fr < 0 then (0 : Int32) else fr) = nI i := by
  by_cases h : fr < 0
  · rw [if_pos h]
    exact ⟨0, by decide, nI_0.symm⟩
  · rw [if_neg h]
    exact nI_of h
theorem pb_next_of {X Y : Nat → Int32} {x y : Int64} {n i : Nat} {fr : Int32} (h : (if fr < 0 then (0 : Int32) else fr) = nI i) (hi : i < 2 ^ 31) : pb_next X Y x y n fr = pb_nx X Y x y (n - i) i := by
  unfold pb_next
  rw [h, nI_clamp hi]
def pb_ok (k x y r : Int32) : Bool := (decide (0 ≤ k) && decide (k < 3)) && ((pb_grid x && pb_grid y) && (decide (1 ≤ r) && decide (r ≤ 1048576)))
def pb_if {α : Type} (b : Bool) (x y : α) : α := if b = true then x else y
def pb_up (b : Bool) (f : Nat → Int32) (i : Nat) (v : Int32) : Nat → Int32 := if b = true then upd f i v else f
def pb_cp1 (f : Nat → Int32) (n k : Nat) : Nat → Int32 := upd f (n * 3 + k) (f (1536 + k))
def pb_cp (f : Nat → Int32) (n : Nat) : Nat → Int32 := pb_cp1 (pb_cp1 (pb_cp1 f n 0) n 1) n 2
def pb_add (X Y : Nat → Int32) (n : Nat) : Bool := decide (n < 512) && decide (0 < pb_ar X Y 512)
def pb_z : Nat → Int32 := fun _ => 0
def pb_z1 : Nat → Int32 := upd (upd (upd pb_z (1536 + 0) 1) (1536 + 1) 1) (1536 + 2) 1
end
section
theorem pb_bm {n : Int} (h1 : -9223372036854775808 ≤ n) (h2 : n < 9223372036854775808) : n.bmod (2 ^ 64) = n := by
  apply Int.bmod_eq_of_le
  · omega
  · omega
theorem pb_bm32 {n : Int} (h1 : -2147483648 ≤ n) (h2 : n < 2147483648) : n.bmod (2 ^ 32) = n := by
  apply Int.bmod_eq_of_le
  · omega
  · omega
theorem pb_mulb {u v : Int} {a b : Nat} (hu : u.natAbs ≤ a) (hv : v.natAbs ≤ b) : (u * v).natAbs ≤ a * b := by
  rw [Int.natAbs_mul]
  exact Nat.mul_le_mul hu hv
def pb_in (v : Int32) : Prop := -4096 ≤ v.toInt ∧ v.toInt ≤ 4096
theorem pb_E_int {X Y : Nat → Int32} {a b : Nat} {x y : Int64} (h1 : pb_in (X a)) (h2 : pb_in (X b)) (h3 : pb_in (Y a)) (h4 : pb_in (Y b)) (hx : x.toInt.natAbs ≤ 68719476736) (hy : y.toInt.natAbs ≤ 68719476736) :
    (pb_E X Y a b x y).toInt = ((X b).toInt - (X a).toInt) * (y.toInt - (Y a).toInt) - ((Y b).toInt - (Y a).toInt) * (x.toInt - (X a).toInt) := by
  obtain ⟨h1a, h1b⟩ := h1
  obtain ⟨h2a, h2b⟩ := h2
  obtain ⟨h3a, h3b⟩ := h3
  obtain ⟨h4a, h4b⟩ := h4
  have e1 : (X b - X a).toInt64.toInt = (X b).toInt - (X a).toInt := by
    rw [Int32.toInt_toInt64, Int32.toInt_sub, pb_bm32 (by omega) (by omega)]
  have e2 : (Y b - Y a).toInt64.toInt = (Y b).toInt - (Y a).toInt := by
    rw [Int32.toInt_toInt64, Int32.toInt_sub, pb_bm32 (by omega) (by omega)]
  have e3 : (y - (Y a).toInt64).toInt = y.toInt - (Y a).toInt := by
    rw [Int64.toInt_sub, Int32.toInt_toInt64, pb_bm (by omega) (by omega)]
  have e4 : (x - (X a).toInt64).toInt = x.toInt - (X a).toInt := by
    rw [Int64.toInt_sub, Int32.toInt_toInt64, pb_bm (by omega) (by omega)]
  have m1 := pb_mulb (u := (X b).toInt - (X a).toInt) (v := y.toInt - (Y a).toInt) (a := 8192) (b := 68719480832) (by omega) (by omega)
  have m2 := pb_mulb (u := (Y b).toInt - (Y a).toInt) (v := x.toInt - (X a).toInt) (a := 8192) (b := 68719480832) (by omega) (by omega)
  unfold pb_E
  rw [Int64.toInt_sub, Int64.toInt_mul, Int64.toInt_mul, e1, e2, e3, e4]
  generalize ((X b).toInt - (X a).toInt) * (y.toInt - (Y a).toInt) = u at m1 ⊢
  generalize ((Y b).toInt - (Y a).toInt) * (x.toInt - (X a).toInt) = v at m2 ⊢
  rw [pb_bm (n := u) (by omega) (by omega), pb_bm (n := v) (by omega) (by omega), pb_bm (by omega) (by omega)]
theorem pb_mid_int (a : Int32) : (pb_mid a).toInt = 16 * a.toInt + 8 := by
  have h1 := a.le_toInt
  have h2 := a.toInt_lt
  unfold pb_mid
  rw [Int64.toInt_add, Int64.toInt_mul, Int32.toInt_toInt64, show (16 : Int64).toInt = 16 from rfl, show (8 : Int64).toInt = 8 from rfl, pb_bm (n := 16 * a.toInt) (by omega) (by omega), pb_bm (by omega) (by omega)]
theorem pb_mid_abs (a : Int32) : (pb_mid a).toInt.natAbs ≤ 68719476736 := by
  have h1 := a.le_toInt
  have h2 := a.toInt_lt
  rw [pb_mid_int]
  omega
theorem pb_ring (x0 y0 x1 y1 x2 y2 x y : Int) : ((x2 - x1) * (y - y1) - (y2 - y1) * (x - x1)) + ((x0 - x2) * (y - y2) - (y0 - y2) * (x - x2)) + ((x1 - x0) * (y - y0) - (y1 - y0) * (x - x0)) = (x1 - x0) * (y2 - y0) - (y1 - y0) * (x2 - x0) := by
  grind
theorem pb_cp_at {f : Nat → Int32} {n k : Nat} (hn : n < 512) (hk : k < 3) : pb_cp f n (n * 3 + k) = f (1536 + k) := by
  unfold pb_cp
  match k, hk with
  | 0, _ =>
    show pb_cp1 _ n 2 (n * 3 + 0) = _
    unfold pb_cp1
    rw [pk_un (by omega), pk_un (by omega), pk_us]
  | 1, _ =>
    show pb_cp1 _ n 2 (n * 3 + 1) = _
    unfold pb_cp1
    rw [pk_un (by omega), pk_us, pk_un (by omega)]
  | 2, _ =>
    unfold pb_cp1
    rw [pk_us, pk_un (by omega), pk_un (by omega)]
theorem pb_cp_ne {f : Nat → Int32} {n j : Nat} (h : j < n * 3 ∨ n * 3 + 3 ≤ j) : pb_cp f n j = f j := by
  unfold pb_cp pb_cp1
  rw [pk_un (by omega), pk_un (by omega), pk_un (by omega)]
def pb_ins (X Y : Nat → Int32) (sl : Nat) : Prop := ∀ k, k < 3 → pb_in (X (sl * 3 + k)) ∧ pb_in (Y (sl * 3 + k))
def pb_I (xa ya xb yb x y : Int) : Int := (xb - xa) * (y - ya) - (yb - ya) * (x - xa)
theorem pb_e_int {X Y : Nat → Int32} {sl k : Nat} {x y : Int64} (hk : k < 3) (h : pb_ins X Y sl) (hx : x.toInt.natAbs ≤ 68719476736) (hy : y.toInt.natAbs ≤ 68719476736) :
    (pb_e X Y sl k x y).toInt = pb_I (X (sl * 3 + (k + 1) % 3)).toInt (Y (sl * 3 + (k + 1) % 3)).toInt (X (sl * 3 + (k + 2) % 3)).toInt (Y (sl * 3 + (k + 2) % 3)).toInt x.toInt y.toInt :=
  pb_E_int (h _ (by omega)).1 (h _ (by omega)).1 (h _ (by omega)).2 (h _ (by omega)).2 hx hy
theorem pb_in_abs {v : Int32} (h : pb_in v) : v.toInt64.toInt.natAbs ≤ 68719476736 := by
  obtain ⟨h1, h2⟩ := h
  rw [Int32.toInt_toInt64]
  omega
def pb_A (x0 y0 x1 y1 x2 y2 : Int) : Int := (x1 - x0) * (y2 - y0) - (x2 - x0) * (y1 - y0)
theorem pb_ar_int {X Y : Nat → Int32} {sl : Nat} (h : pb_ins X Y sl) : (pb_ar X Y sl).toInt = pb_A (X (sl * 3 + 0)).toInt (Y (sl * 3 + 0)).toInt (X (sl * 3 + 1)).toInt (Y (sl * 3 + 1)).toInt (X (sl * 3 + 2)).toInt (Y (sl * 3 + 2)).toInt := by
  have q := pb_e_int (k := 2) (x := (X (sl * 3 + 2)).toInt64) (y := (Y (sl * 3 + 2)).toInt64) (by decide) h (pb_in_abs (h 2 (by decide)).1) (pb_in_abs (h 2 (by decide)).2)
  rw [Int32.toInt_toInt64, Int32.toInt_toInt64] at q
  have q2 : (pb_ar X Y sl).toInt = pb_I (X (sl * 3 + 0)).toInt (Y (sl * 3 + 0)).toInt (X (sl * 3 + 1)).toInt (Y (sl * 3 + 1)).toInt (X (sl * 3 + 2)).toInt (Y (sl * 3 + 2)).toInt := q
  rw [q2, pb_I, pb_A, Int.mul_comm ((Y (sl * 3 + 1)).toInt - (Y (sl * 3 + 0)).toInt)]
theorem pb_ring2 (x0 y0 x1 y1 x2 y2 x y : Int) : pb_I x1 y1 x2 y2 x y + pb_I x2 y2 x0 y0 x y + pb_I x0 y0 x1 y1 x y = pb_A x0 y0 x1 y1 x2 y2 := by
  unfold pb_I pb_A
  grind
theorem pb_A_abs {x0 y0 x1 y1 x2 y2 : Int32} (h0 : pb_in x0) (g0 : pb_in y0) (h1 : pb_in x1) (g1 : pb_in y1) (h2 : pb_in x2) (g2 : pb_in y2) : (pb_A x0.toInt y0.toInt x1.toInt y1.toInt x2.toInt y2.toInt).natAbs ≤ 134217728 := by
  obtain ⟨a1, a2⟩ := h0
  obtain ⟨a3, a4⟩ := g0
  obtain ⟨a5, a6⟩ := h1
  obtain ⟨a7, a8⟩ := g1
  obtain ⟨b1, b2⟩ := h2
  obtain ⟨b3, b4⟩ := g2
  have m1 := pb_mulb (u := x1.toInt - x0.toInt) (v := y2.toInt - y0.toInt) (a := 8192) (b := 8192) (by omega) (by omega)
  have m2 := pb_mulb (u := x2.toInt - x0.toInt) (v := y1.toInt - y0.toInt) (a := 8192) (b := 8192) (by omega) (by omega)
  unfold pb_A
  generalize (x1.toInt - x0.toInt) * (y2.toInt - y0.toInt) = u at m1 ⊢
  generalize (x2.toInt - x0.toInt) * (y1.toInt - y0.toInt) = v at m2 ⊢
  omega
theorem pb_xor {a b : Int64} (ha : 0 ≤ a.toInt) (hb : 0 ≤ b.toInt) : ¬ (a ^^^ b) < 0 := by
  intro h
  rw [Int64.lt_iff_toInt_lt] at h
  have h0 : (a ^^^ b).toBitVec.msb = true := by
    rw [BitVec.msb_eq_toInt]
    exact decide_eq_true h
  rw [Int64.toBitVec_xor, BitVec.msb_xor, BitVec.msb_eq_toInt, BitVec.msb_eq_toInt] at h0
  have a1 : ¬ a.toBitVec.toInt < 0 := Int.not_lt.mpr ha
  have b1 : ¬ b.toBitVec.toInt < 0 := Int.not_lt.mpr hb
  rw [decide_eq_false a1, decide_eq_false b1] at h0
  exact absurd h0 (by decide)
theorem pb_fd_int {a b : Int64} (ha : 0 ≤ a.toInt) (hb : 0 < b.toInt) : (pb_fd a b).toInt = a.toInt / b.toInt := by
  unfold pb_fd
  rw [if_neg (fun h => pb_xor ha (Int.le_of_lt hb) h.1), Int64.toInt_div_of_ne_right a b (fun h => by rw [h] at hb; exact absurd hb (by decide)), Int.tdiv_eq_ediv_of_nonneg ha]
theorem pb_wr {w r A : Int} (h1 : 0 ≤ w) (h2 : w ≤ A) (h3 : 0 ≤ r) (h4 : r ≤ 1048576) : 0 ≤ w * r ∧ w * r ≤ 1048576 * w := by
  refine ⟨Int.mul_nonneg h1 h3, ?_⟩
  rw [Int.mul_comm 1048576 w]
  exact Int.mul_le_mul_of_nonneg_left h4 h1
theorem pb_nn_int {X Y Z : Nat → Int32} {sl : Nat} {x y : Int64} (h : pb_ins X Y sl) (hZ : ∀ k, k < 3 → 0 ≤ (Z (sl * 3 + k)).toInt ∧ (Z (sl * 3 + k)).toInt ≤ 1048576) (hx : x.toInt.natAbs ≤ 68719476736) (hy : y.toInt.natAbs ≤ 68719476736) (hA : 0 < pb_ar X Y sl) (hc : pb_cov X Y sl x y = true) :
    0 ≤ (pb_nn X Y Z sl x y).toInt ∧ 0 ≤ (pb_sum X Y Z sl x y).toInt ∧ (pb_nn X Y Z sl x y).toInt = ((pb_e X Y sl 0 x y).toInt * (Z (sl * 3 + 0)).toInt + (pb_e X Y sl 1 x y).toInt * (Z (sl * 3 + 1)).toInt + (pb_e X Y sl 2 x y).toInt * (Z (sl * 3 + 2)).toInt) / (pb_ar X Y sl).toInt := by
  have hA' : 0 < (pb_ar X Y sl).toInt := Int64.lt_iff_toInt_lt.mp hA
  have pos : ∀ k, pb_c1 X Y sl k x y = true → 0 ≤ (pb_e X Y sl k x y).toInt := by
    intro k hk
    simp only [pb_c1, Bool.and_eq_true, Bool.not_eq_true', decide_eq_false_iff_not] at hk
    have q := hk.1
    rw [Int64.lt_iff_toInt_lt] at q
    exact Int.not_lt.mp q
  simp only [pb_cov, Bool.and_eq_true] at hc
  have p0 := pos 0 hc.1
  have p1 := pos 1 hc.2.1
  have p2 := pos 2 hc.2.2
  have e0 := pb_e_int (k := 0) (by decide) h hx hy
  have e1 := pb_e_int (k := 1) (by decide) h hx hy
  have e2 := pb_e_int (k := 2) (by decide) h hx hy
  have ea := pb_ar_int h
  have hs : (pb_e X Y sl 0 x y).toInt + (pb_e X Y sl 1 x y).toInt + (pb_e X Y sl 2 x y).toInt = (pb_ar X Y sl).toInt := by
    rw [e0, e1, e2, ea]
    exact pb_ring2 _ _ _ _ _ _ _ _
  have hab := pb_A_abs (h 0 (by decide)).1 (h 0 (by decide)).2 (h 1 (by decide)).1 (h 1 (by decide)).2 (h 2 (by decide)).1 (h 2 (by decide)).2
  rw [← ea] at hab
  clear e0 e1 e2 ea
  have z0 := hZ 0 (by decide)
  have z1 := hZ 1 (by decide)
  have z2 := hZ 2 (by decide)
  have b0 := pb_wr (A := (pb_ar X Y sl).toInt) p0 (by omega) z0.1 z0.2
  have b1 := pb_wr (A := (pb_ar X Y sl).toInt) p1 (by omega) z1.1 z1.2
  have b2 := pb_wr (A := (pb_ar X Y sl).toInt) p2 (by omega) z2.1 z2.2
  have t0 : (pb_e X Y sl 0 x y * (Z (sl * 3 + 0)).toInt64).toInt = (pb_e X Y sl 0 x y).toInt * (Z (sl * 3 + 0)).toInt := by
    rw [Int64.toInt_mul, Int32.toInt_toInt64, pb_bm (by omega) (by omega)]
  have t1 : (pb_e X Y sl 1 x y * (Z (sl * 3 + 1)).toInt64).toInt = (pb_e X Y sl 1 x y).toInt * (Z (sl * 3 + 1)).toInt := by
    rw [Int64.toInt_mul, Int32.toInt_toInt64, pb_bm (by omega) (by omega)]
  have t2 : (pb_e X Y sl 2 x y * (Z (sl * 3 + 2)).toInt64).toInt = (pb_e X Y sl 2 x y).toInt * (Z (sl * 3 + 2)).toInt := by
    rw [Int64.toInt_mul, Int32.toInt_toInt64, pb_bm (by omega) (by omega)]
  have ts : (pb_sum X Y Z sl x y).toInt = (pb_e X Y sl 0 x y).toInt * (Z (sl * 3 + 0)).toInt + (pb_e X Y sl 1 x y).toInt * (Z (sl * 3 + 1)).toInt + (pb_e X Y sl 2 x y).toInt * (Z (sl * 3 + 2)).toInt := by
    unfold pb_sum
    rw [Int64.toInt_add, Int64.toInt_add, Int64.toInt_add, t0, t1, t2, show (0 : Int64).toInt = 0 from rfl, Int.zero_add, pb_bm (n := (pb_e X Y sl 0 x y).toInt * (Z (sl * 3 + 0)).toInt) (by omega) (by omega), pb_bm (n := (pb_e X Y sl 0 x y).toInt * (Z (sl * 3 + 0)).toInt + (pb_e X Y sl 1 x y).toInt * (Z (sl * 3 + 1)).toInt) (by omega) (by omega), pb_bm (by omega) (by omega)]
  rw [← ts]
  have tl : 0 ≤ (pb_sum X Y Z sl x y).toInt ∧ (pb_sum X Y Z sl x y).toInt ≤ 1048576 * (pb_ar X Y sl).toInt := by
    rw [ts]
    omega
  have f := pb_fd_int tl.1 hA'
  have q0 := Int.ediv_nonneg tl.1 (Int.le_of_lt hA')
  have q1 := Int.ediv_le_of_le_mul (b := 1048576) hA' tl.2
  have v : (pb_nn X Y Z sl x y).toInt = (pb_sum X Y Z sl x y).toInt / (pb_ar X Y sl).toInt := by
    unfold pb_nn
    rw [if_pos hA, Int64.toInt_toInt32, f, pb_bm32 (by omega) (by omega)]
  exact ⟨by rw [v]; exact q0, tl.1, v⟩
end
section
abbrev wC (h0 h1 h2 h3 : Nat) (k1 k2 k3 : ClassId) (X Y Z : Nat → Int32) (n : Nat) : va_W := [(h0, .inr (0, [.ref h1, .ref h2, .ref h3, .int (nI n)])), (h1, .inl (k1, 1539, .inl X)), (h2, .inl (k2, 1539, .inl Y)), (h3, .inl (k3, 1539, .inl Z))]
abbrev tC (k1 k2 k3 : ClassId) : List (ClassId × FieldType) := [(k1, .int), (k2, .int), (k3, .int)]
def preC (dC : Nat → ClassId) (dI : Nat → Nat → Nat) (h0 h1 h2 h3 : Nat) (k1 k2 k3 : ClassId) (X Y Z : Nat → Int32) (n : Nat) (U : State) : Prop := va_P (dC, dI) vwCl (wC h0 h1 h2 h3 k1 k2 k3 X Y Z n) U.heap ∧ va_K (dC, dI) vwCl (tC k1 k2 k3) U
theorem preC_V {dC : Nat → ClassId} {dI : Nat → Nat → Nat} {h0 h1 h2 h3 : Nat} {k1 k2 k3 : ClassId} {X Y Z : Nat → Int32} {n : Nat} {s : State} {H : Heap} (hP : va_P (dC, dI) vwCl (wC h0 h1 h2 h3 k1 k2 k3 X Y Z n) H) (hK : va_K (dC, dI) vwCl (tC k1 k2 k3) s) (As : List Value) : PreV s H RX0 h0 (va_Pc (.ref h0 :: As) (preC dC dI h0 h1 h2 h3 k1 k2 k3 X Y Z n)) As :=
  ⟨fun a U g mk q => by obtain ⟨q0, qP, qK⟩ := q; exact ⟨q0, qP, va_K.moved (u := U) (U := U.calling g mk a) (Vm.Alike.refl U.vm) qK⟩, va_recv hK hP (ci := 0) (q0 := 0) rfl rfl, fun U hU hW => ⟨rfl, by rw [hU]; exact hP, va_K.moved hW.alike hK⟩⟩
abbrev wR (g0 g1 : Nat) (r1 : ClassId) (M : Nat → Int32) (n : Nat) : va_W := [(g0, .inr (1, [.int (nI 0), .int (nI n), .ref g1])), (g1, .inl (r1, 4617, .inl M))]
abbrev tR (r1 : ClassId) : List (ClassId × FieldType) := [(r1, .int)]
def preR (dC : Nat → ClassId) (dI : Nat → Nat → Nat) (g0 g1 : Nat) (r1 : ClassId) (M : Nat → Int32) (n : Nat) (U : State) : Prop := va_P (dC, dI) vwCl (wR g0 g1 r1 M n) U.heap ∧ va_K (dC, dI) vwCl (tR r1) U
theorem preR_V {dC : Nat → ClassId} {dI : Nat → Nat → Nat} {g0 g1 : Nat} {r1 : ClassId} {M : Nat → Int32} {n : Nat} {s : State} {H : Heap} (hP : va_P (dC, dI) vwCl (wR g0 g1 r1 M n) H) (hK : va_K (dC, dI) vwCl (tR r1) s) (As : List Value) : PreV s H RX1 g0 (va_Pc (.ref g0 :: As) (preR dC dI g0 g1 r1 M n)) As :=
  ⟨fun a U g mk q => by obtain ⟨q0, qP, qK⟩ := q; exact ⟨q0, qP, va_K.moved (u := U) (U := U.calling g mk a) (Vm.Alike.refl U.vm) qK⟩, va_recv hK hP (ci := 1) (q0 := 0) rfl rfl, fun U hU hW => ⟨rfl, by rw [hU]; exact hP, va_K.moved hW.alike hK⟩⟩
end
section
set_option maxHeartbeats 4000000 in
set_option maxRecDepth 100000 in
/-- Math.floorDiv of longs -/
theorem cM_floorDiv (l : Launch) (a b : Int64) (hne : ¬ b = 0) : Met l yJ9_floorDiv_f86c9 wsJ9_floorDiv_f86c9 (k2_rm 0 0) (va_Pc [.long (a), .long (b)] (fun _ => True)) (k2_QcV (.long (pb_fd a b))) 0 0 (fun _ => False) := by
  refine va_MetF (cc := cJ9_floorDiv_f86c9) (maxL := 6) (ret := some .long) (by decide +kernel) rfl ?_
  intro p e s m args below meth c s₁ B hml hv
  obtain ⟨rfl, -⟩ := hv
  have hx := B.exec
  have hb := B.bytes
  have hr := B.returns
  have hlocks := B.notSynchronized
  have hl := lv_entry ([.long (a), .long (b)]) (n := 6) (Nat.le_of_ble_eq_true rfl)
  rw [lg_entry_eq]
  generalize (lg_sl ([.long (a), .long (b)]) ++ List.replicate (6 - (lg_sl ([.long (a), .long (b)])).length) Slot.unset).toArray = ls at hl ⊢
  have hl : lv_has ls 6 [(0, .long (a)), (2, .long (b))] := hl
  refine lv_lload_n hx hb dJ9_floorDiv_f86c9_0 rfl (lv_at hl 0 rfl) ?_
  refine lv_lload_n hx hb dJ9_floorDiv_f86c9_1 rfl (lv_at hl 1 rfl) ?_
  refine lv_ldiv hx hb dJ9_floorDiv_f86c9_2 hne ?_
  refine lv_lstore (lv' := [(4, .long ((a / b))), (0, .long (a)), (2, .long (b))]) hx hb dJ9_floorDiv_f86c9_3 hl (by decide) rfl (fun ls hl => ?_)
  refine lv_lload_n hx hb dJ9_floorDiv_f86c9_5 rfl (lv_at hl 1 rfl) ?_
  refine lv_lload_n hx hb dJ9_floorDiv_f86c9_6 rfl (lv_at hl 2 rfl) ?_
  refine lv_lxor hx hb dJ9_floorDiv_f86c9_7 ?_
  refine lv_lconst (v := 0) hx hb dJ9_floorDiv_f86c9_8 (by decide +kernel) ?_
  refine W.lcmp hx hb dJ9_floorDiv_f86c9_9 ?_
  refine lv_if_ge (tgt := 27) hx hb dJ9_floorDiv_f86c9_10 (by decide) (fun q1 => ?_) (fun q1 => ?_)
  · -- one sign
    have q1 := (lg_cmp_ge _ _).mp q1
    refine lv_lload hx hb dJ9_floorDiv_f86c9_27 (lv_at hl 0 rfl) ?_
    exact W.lret (v := ((a / b))) hx hb hr (fun t ht hW => ⟨by rw [show pb_fd a b = _ from if_neg (fun h => absurd h.1 (Int64.not_lt.mpr q1))], ht⟩) (fun q h => by cases h) dJ9_floorDiv_f86c9_29
  · -- two signs
    have q1 : (a ^^^ b) < 0 := Int64.not_le.mp (fun h => q1 ((lg_cmp_ge _ _).mpr h))
    refine lv_lload hx hb dJ9_floorDiv_f86c9_13 (lv_at hl 0 rfl) ?_
    refine lv_lload_n hx hb dJ9_floorDiv_f86c9_15 rfl (lv_at hl 2 rfl) ?_
    refine lv_lmul hx hb dJ9_floorDiv_f86c9_16 ?_
    refine lv_lload_n hx hb dJ9_floorDiv_f86c9_17 rfl (lv_at hl 1 rfl) ?_
    refine W.lcmp hx hb dJ9_floorDiv_f86c9_18 ?_
    refine lv_if_eq (tgt := 27) hx hb dJ9_floorDiv_f86c9_19 (by decide) (fun q2 => ?_) (fun q2 => ?_)
    · -- no rest
      have q2 := (lg_cmp_eq _ _).mp q2
      refine lv_lload hx hb dJ9_floorDiv_f86c9_27 (lv_at hl 0 rfl) ?_
      exact W.lret (v := ((a / b))) hx hb hr (fun t ht hW => ⟨by rw [show pb_fd a b = _ from if_neg (fun h => h.2 q2)], ht⟩) (fun q h => by cases h) dJ9_floorDiv_f86c9_29
    · -- a rest
      have q2 : ¬ a / b * b = a := fun h => q2 ((lg_cmp_eq _ _).mpr h)
      refine lv_lload hx hb dJ9_floorDiv_f86c9_22 (lv_at hl 0 rfl) ?_
      refine lv_lconst (v := 1) hx hb dJ9_floorDiv_f86c9_24 (by decide +kernel) ?_
      refine lv_lsub hx hb dJ9_floorDiv_f86c9_25 ?_
      exact W.lret (v := (((a / b) - 1))) hx hb hr (fun t ht hW => ⟨by rw [show pb_fd a b = _ from if_pos ⟨q1, q2⟩], ht⟩) (fun q h => by cases h) dJ9_floorDiv_f86c9_26
set_option maxHeartbeats 4000000 in
set_option maxRecDepth 100000 in
/-- a place on the grid -/
theorem cC_isOnGrid (l : Launch) (a : Int32) : Met l yX0_isOnGrid wsX0_isOnGrid (k2_rm 0 0) (va_Pc [.int (a)] (fun _ => True)) (k2_QcV (.int (pb_b (pb_grid a)))) 0 0 (fun _ => False) := by
  refine Met.ofW (cc := cX0_isOnGrid) (maxL := 1) (ret := some .boolean) (by decide) rfl ?_
  intro p e s m args below meth c s₁ B hml hv
  obtain ⟨rfl, -⟩ := hv
  have hx := B.exec
  have hb := B.bytes
  have hr := B.returns
  have hts := atoms_spec (ws := wsX0_isOnGrid) B.pre
  have hown : s.vm.findClass RX0 = some m.cls := findClass_of_methodNamed B.named
  have hlocks := B.notSynchronized
  have hl := lv_entry ([.int (a)]) (n := 1) (Nat.le_of_ble_eq_true rfl)
  rw [lg_entry_eq]
  generalize (lg_sl ([.int (a)]) ++ List.replicate (1 - (lg_sl ([.int (a)])).length) Slot.unset).toArray = ls at hl ⊢
  have hl : lv_has ls 1 [(0, .int (a))] := hl
  refine lv_iload_n hx hb dX0_isOnGrid_0 rfl (lv_at hl 0 rfl) ?_
  refine lv_sipush (v := (-4096)) hx hb dX0_isOnGrid_1 (by decide +kernel) ?_
  refine lv_icmp_lt (tgt := 18) hx hb dX0_isOnGrid_4 (by decide) (fun q1 => ?_) (fun q1 => ?_)
  · -- below
    refine lv_iconst (v := 0) hx hb dX0_isOnGrid_18 (by decide +kernel) ?_
    exact W.zret (v := (0)) hx hb hr narrow_b0 (fun t ht hW => ⟨by rw [show pb_grid a = false by simp [pb_grid, Int32.not_le.mpr q1]]; rfl, ht⟩) (fun q h => by cases h) dX0_isOnGrid_19
  · -- not below
    refine lv_iload_n hx hb dX0_isOnGrid_7 rfl (lv_at hl 0 rfl) ?_
    refine lv_sipush (v := 4096) hx hb dX0_isOnGrid_8 (by decide +kernel) ?_
    refine lv_icmp_gt (tgt := 18) hx hb dX0_isOnGrid_11 (by decide) (fun q2 => ?_) (fun q2 => ?_)
    · -- above
      refine lv_iconst (v := 0) hx hb dX0_isOnGrid_18 (by decide +kernel) ?_
      exact W.zret (v := (0)) hx hb hr narrow_b0 (fun t ht hW => ⟨by rw [show pb_grid a = false by simp [pb_grid, Int32.not_le.mpr q2]]; rfl, ht⟩) (fun q h => by cases h) dX0_isOnGrid_19
    · -- on it
      refine lv_iconst (v := 1) hx hb dX0_isOnGrid_14 (by decide +kernel) ?_
      refine lv_goto (tgt := 19) hx hb dX0_isOnGrid_15 (by decide) ?_
      exact W.zret (v := (1)) hx hb hr narrow_b1 (fun t ht hW => ⟨by rw [show pb_grid a = true by simp [pb_grid, Int32.not_lt.mp q1, Int32.not_lt.mp q2]]; rfl, ht⟩) (fun q h => by cases h) dX0_isOnGrid_19
set_option maxHeartbeats 4000000 in
set_option maxRecDepth 100000 in
/-- a pixel's middle -/
theorem cC_middle (l : Launch) (a : Int32) : Met l yX0_middle wsX0_middle (k2_rm 0 0) (va_Pc [.int (a)] (fun _ => True)) (k2_QcV (.long (pb_mid a))) 0 0 (fun _ => False) := by
  refine Met.ofW (cc := cX0_middle) (maxL := 1) (ret := some .long) (by decide) rfl ?_
  intro p e s m args below meth c s₁ B hml hv
  obtain ⟨rfl, -⟩ := hv
  have hx := B.exec
  have hb := B.bytes
  have hr := B.returns
  have hts := atoms_spec (ws := wsX0_middle) B.pre
  have hown : s.vm.findClass RX0 = some m.cls := findClass_of_methodNamed B.named
  have hlocks := B.notSynchronized
  have hl := lv_entry ([.int (a)]) (n := 1) (Nat.le_of_ble_eq_true rfl)
  rw [lg_entry_eq]
  generalize (lg_sl ([.int (a)]) ++ List.replicate (1 - (lg_sl ([.int (a)])).length) Slot.unset).toArray = ls at hl ⊢
  have hl : lv_has ls 1 [(0, .int (a))] := hl
  refine lv_ldc2 (v := 16) hx hb hown (hts (.constantLong RX0 56 16) (by decide +kernel)) dX0_middle_0 ?_
  refine lv_iload_n hx hb dX0_middle_3 rfl (lv_at hl 0 rfl) ?_
  refine lv_i2l (v := (a).toInt64) hx hb dX0_middle_4 rfl ?_
  refine lv_lmul hx hb dX0_middle_5 ?_
  refine lv_ldc2 (v := 8) hx hb hown (hts (.constantLong RX0 58 8) (by decide +kernel)) dX0_middle_6 ?_
  refine lv_ladd hx hb dX0_middle_9 ?_
  exact W.lret (v := (((16 * (a).toInt64) + 8))) hx hb hr (fun t ht hW => ⟨rfl, ht⟩) (fun q h => by cases h) dX0_middle_10
set_option maxHeartbeats 4000000 in
set_option maxRecDepth 100000 in
/-- the place of an end of an edge -/
theorem cC_edgeStart (l : Launch) (sl k : Nat) (hs : sl ≤ 512) (hk : k < 3) : Met l yX0_edgeStart wsX0_edgeStart (k2_rm 0 0) (va_Pc [.int (nI (sl)), .int (nI (k))] (fun _ => True)) (k2_QcV (.int (nI (sl * 3 + (k + 1) % 3)))) 0 0 (fun _ => False) := by
  refine Met.ofW (cc := cX0_edgeStart) (maxL := 2) (ret := some .int) (by decide) rfl ?_
  intro p e s m args below meth c s₁ B hml hv
  obtain ⟨rfl, -⟩ := hv
  have hx := B.exec
  have hb := B.bytes
  have hr := B.returns
  have hts := atoms_spec (ws := wsX0_edgeStart) B.pre
  have hown : s.vm.findClass RX0 = some m.cls := findClass_of_methodNamed B.named
  have hlocks := B.notSynchronized
  have hl := lv_entry ([.int (nI (sl)), .int (nI (k))]) (n := 2) (Nat.le_of_ble_eq_true rfl)
  rw [lg_entry_eq]
  generalize (lg_sl ([.int (nI (sl)), .int (nI (k))]) ++ List.replicate (2 - (lg_sl ([.int (nI (sl)), .int (nI (k))])).length) Slot.unset).toArray = ls at hl ⊢
  have hl : lv_has ls 2 [(0, .int (nI (sl))), (1, .int (nI (k)))] := hl
  refine lv_iload_n hx hb dX0_edgeStart_0 rfl (lv_at hl 0 rfl) ?_
  refine lv_iconst (v := nI 3) hx hb dX0_edgeStart_1 (by decide +kernel) ?_
  refine lv_imul hx hb dX0_edgeStart_2 ?_
  refine pb_eqi (pk_mul _ _) ?_
  refine lv_iload_n hx hb dX0_edgeStart_3 rfl (lv_at hl 1 rfl) ?_
  refine lv_iconst (v := nI 1) hx hb dX0_edgeStart_4 (by decide +kernel) ?_
  refine lv_iadd hx hb dX0_edgeStart_5 ?_
  refine pb_eqi (nI_add _ _) ?_
  refine lv_iconst (v := nI 3) hx hb dX0_edgeStart_6 (by decide +kernel) ?_
  refine lv_irem hx hb dX0_edgeStart_7 (by decide +kernel) ?_
  refine pb_eqi (pk_rem (by omega) (by omega) (by omega)) ?_
  refine lv_iadd hx hb dX0_edgeStart_8 ?_
  refine pb_eqi (nI_add _ _) ?_
  exact W.iret (v := (nI (sl * 3 + ((k + 1) % 3)))) hx hb hr (fun t ht hW => ⟨rfl, ht⟩) (fun q h => by cases h) dX0_edgeStart_9
set_option maxHeartbeats 4000000 in
set_option maxRecDepth 100000 in
/-- the place of an end of an edge -/
theorem cC_edgeEnd (l : Launch) (sl k : Nat) (hs : sl ≤ 512) (hk : k < 3) : Met l yX0_edgeEnd wsX0_edgeEnd (k2_rm 0 0) (va_Pc [.int (nI (sl)), .int (nI (k))] (fun _ => True)) (k2_QcV (.int (nI (sl * 3 + (k + 2) % 3)))) 0 0 (fun _ => False) := by
  refine Met.ofW (cc := cX0_edgeEnd) (maxL := 2) (ret := some .int) (by decide) rfl ?_
  intro p e s m args below meth c s₁ B hml hv
  obtain ⟨rfl, -⟩ := hv
  have hx := B.exec
  have hb := B.bytes
  have hr := B.returns
  have hts := atoms_spec (ws := wsX0_edgeEnd) B.pre
  have hown : s.vm.findClass RX0 = some m.cls := findClass_of_methodNamed B.named
  have hlocks := B.notSynchronized
  have hl := lv_entry ([.int (nI (sl)), .int (nI (k))]) (n := 2) (Nat.le_of_ble_eq_true rfl)
  rw [lg_entry_eq]
  generalize (lg_sl ([.int (nI (sl)), .int (nI (k))]) ++ List.replicate (2 - (lg_sl ([.int (nI (sl)), .int (nI (k))])).length) Slot.unset).toArray = ls at hl ⊢
  have hl : lv_has ls 2 [(0, .int (nI (sl))), (1, .int (nI (k)))] := hl
  refine lv_iload_n hx hb dX0_edgeEnd_0 rfl (lv_at hl 0 rfl) ?_
  refine lv_iconst (v := nI 3) hx hb dX0_edgeEnd_1 (by decide +kernel) ?_
  refine lv_imul hx hb dX0_edgeEnd_2 ?_
  refine pb_eqi (pk_mul _ _) ?_
  refine lv_iload_n hx hb dX0_edgeEnd_3 rfl (lv_at hl 1 rfl) ?_
  refine lv_iconst (v := nI 2) hx hb dX0_edgeEnd_4 (by decide +kernel) ?_
  refine lv_iadd hx hb dX0_edgeEnd_5 ?_
  refine pb_eqi (nI_add _ _) ?_
  refine lv_iconst (v := nI 3) hx hb dX0_edgeEnd_6 (by decide +kernel) ?_
  refine lv_irem hx hb dX0_edgeEnd_7 (by decide +kernel) ?_
  refine pb_eqi (pk_rem (by omega) (by omega) (by omega)) ?_
  refine lv_iadd hx hb dX0_edgeEnd_8 ?_
  refine pb_eqi (nI_add _ _) ?_
  exact W.iret (v := (nI (sl * 3 + ((k + 2) % 3)))) hx hb hr (fun t ht hW => ⟨rfl, ht⟩) (fun q h => by cases h) dX0_edgeEnd_9
set_option maxHeartbeats 4000000 in
set_option maxRecDepth 100000 in
/-- a number of a piece -/
theorem cC_isPiece (l : Launch) (dC : Nat → ClassId) (dI : Nat → Nat → Nat) (h0 h1 h2 h3 : Nat) (k1 k2 k3 : ClassId) (X Y Z : Nat → Int32) (n : Nat) (a : Int32) : Met l yX0_isPiece wsX0_isPiece (k2_rm 0 0) (va_Pc [.ref h0, .int (a)] (preC dC dI h0 h1 h2 h3 k1 k2 k3 X Y Z n)) (k2_QcV (.int (pb_b (pb_isP n a)))) 0 0 (fun _ => False) := by
  refine Met.ofW (cc := cX0_isPiece) (maxL := 2) (ret := some .boolean) (by decide) rfl ?_
  intro p e s m args below meth c s₁ B hml hv
  obtain ⟨rfl, hP, hK⟩ := hv
  have hx := B.exec
  have hb := B.bytes
  have hr := B.returns
  have hts := atoms_spec (ws := wsX0_isPiece) B.pre
  have hown : s.vm.findClass RX0 = some m.cls := findClass_of_methodNamed B.named
  have hlocks := B.notSynchronized
  have hin0 : ∀ w ∈ u_ws RX0 TX0 4, w ∈ wsX0_isPiece := by decide +kernel
  have hl := lv_entry ([.ref h0, .int (a)]) (n := 2) (Nat.le_of_ble_eq_true rfl)
  rw [lg_entry_eq]
  generalize (lg_sl ([.ref h0, .int (a)]) ++ List.replicate (2 - (lg_sl ([.ref h0, .int (a)])).length) Slot.unset).toArray = ls at hl ⊢
  have hl : lv_has ls 2 [(0, .ref h0), (1, .int (a))] := hl
  refine lv_iload_n hx hb dX0_isPiece_0 rfl (lv_at hl 1 rfl) ?_
  refine lv_if_lt (tgt := 16) hx hb dX0_isPiece_1 (by decide) (fun q1 => ?_) (fun q1 => ?_)
  · -- negative
    refine lv_iconst (v := 0) hx hb dX0_isPiece_16 (by decide +kernel) ?_
    exact W.zret (v := (0)) hx hb hr narrow_b0 (fun t ht hW => ⟨by rw [show pb_isP n a = false by simp [pb_isP, Int32.not_le.mpr q1]]; rfl, ht⟩) (fun q h => by cases h) dX0_isPiece_17
  · -- not negative
    refine lv_iload_n hx hb dX0_isPiece_4 rfl (lv_at hl 1 rfl) ?_
    refine lv_aload_n hx hb dX0_isPiece_5 rfl (lv_at hl 0 rfl) ?_
    refine va_get (D := (dC, dI)) (ci := 0) (v := .int (nI (n))) (C := RX0) (T := TX0) (N := 4) hx hb hts hin0 hown hK hP 0 rfl rfl 3 (by decide) (hts (.fieldLink RX0 19 "PieceBoxes" "pieces" "I") (by decide +kernel)) (fun _ h9 => h9) rfl dX0_isPiece_6 ?_
    refine lv_icmp_ge (tgt := 16) hx hb dX0_isPiece_9 (by decide) (fun q2 => ?_) (fun q2 => ?_)
    · -- too great
      refine lv_iconst (v := 0) hx hb dX0_isPiece_16 (by decide +kernel) ?_
      exact W.zret (v := (0)) hx hb hr narrow_b0 (fun t ht hW => ⟨by rw [show pb_isP n a = false by simp [pb_isP, Int32.not_lt.mpr q2]]; rfl, ht⟩) (fun q h => by cases h) dX0_isPiece_17
    · -- a piece
      refine lv_iconst (v := 1) hx hb dX0_isPiece_12 (by decide +kernel) ?_
      refine lv_goto (tgt := 17) hx hb dX0_isPiece_13 (by decide) ?_
      exact W.zret (v := (1)) hx hb hr narrow_b1 (fun t ht hW => ⟨by rw [show pb_isP n a = true by simp [pb_isP, Int32.not_lt.mp q1, Int32.not_le.mp q2]]; rfl, ht⟩) (fun q h => by cases h) dX0_isPiece_17
set_option maxHeartbeats 4000000 in
set_option maxRecDepth 100000 in
/-- how many -/
theorem cC_count (l : Launch) (dC : Nat → ClassId) (dI : Nat → Nat → Nat) (h0 h1 h2 h3 : Nat) (k1 k2 k3 : ClassId) (X Y Z : Nat → Int32) (n : Nat)  : Met l yX0_count wsX0_count (k2_rm 0 0) (va_Pc [.ref h0] (preC dC dI h0 h1 h2 h3 k1 k2 k3 X Y Z n)) (k2_QcV (.int (nI n))) 0 0 (fun _ => False) := by
  refine Met.ofW (cc := cX0_count) (maxL := 1) (ret := some .int) (by decide) rfl ?_
  intro p e s m args below meth c s₁ B hml hv
  obtain ⟨rfl, hP, hK⟩ := hv
  have hx := B.exec
  have hb := B.bytes
  have hr := B.returns
  have hts := atoms_spec (ws := wsX0_count) B.pre
  have hown : s.vm.findClass RX0 = some m.cls := findClass_of_methodNamed B.named
  have hlocks := B.notSynchronized
  have hin0 : ∀ w ∈ u_ws RX0 TX0 4, w ∈ wsX0_count := by decide +kernel
  have hl := lv_entry ([.ref h0]) (n := 1) (Nat.le_of_ble_eq_true rfl)
  rw [lg_entry_eq]
  generalize (lg_sl ([.ref h0]) ++ List.replicate (1 - (lg_sl ([.ref h0])).length) Slot.unset).toArray = ls at hl ⊢
  have hl : lv_has ls 1 [(0, .ref h0)] := hl
  refine lv_aload_n hx hb dX0_count_0 rfl (lv_at hl 0 rfl) ?_
  refine va_get (D := (dC, dI)) (ci := 0) (v := .int (nI (n))) (C := RX0) (T := TX0) (N := 4) hx hb hts hin0 hown hK hP 0 rfl rfl 3 (by decide) (hts (.fieldLink RX0 19 "PieceBoxes" "pieces" "I") (by decide +kernel)) (fun _ h9 => h9) rfl dX0_count_1 ?_
  exact W.iret (v := (nI (n))) hx hb hr (fun t ht hW => ⟨rfl, ht⟩) (fun q h => by cases h) dX0_count_4
end
section
set_option maxHeartbeats 4000000 in
set_option maxRecDepth 100000 in
/-- E of the edge against corner k -/
theorem cC_edge (l : Launch) (dC : Nat → ClassId) (dI : Nat → Nat → Nat) (h0 h1 h2 h3 : Nat) (k1 k2 k3 : ClassId) (X Y Z : Nat → Int32) (n : Nat) (sl k : Nat) (hs : sl ≤ 512) (hk : k < 3) (x y : Int64) : Met l yX0_edge wsX0_edge (k2_rm 1 21) (va_Pc [.ref h0, .int (nI (sl)), .int (nI (k)), .long (x), .long (y)] (preC dC dI h0 h1 h2 h3 k1 k2 k3 X Y Z n)) (k2_QcV (.long (pb_e X Y sl k x y))) 0 0 (fun _ => False) := by
  refine Met.ofW (cc := cX0_edge) (maxL := 13) (ret := some .long) (by decide) rfl ?_
  intro p e s m args below meth c s₁ B hml hv
  obtain ⟨rfl, hP, hK⟩ := hv
  have hx := B.exec
  have hb := B.bytes
  have hr := B.returns
  have hts := atoms_spec (ws := wsX0_edge) B.pre
  have hown : s.vm.findClass RX0 = some m.cls := findClass_of_methodNamed B.named
  have hlocks := B.notSynchronized
  have hin0 : ∀ w ∈ u_ws RX0 TX0 4, w ∈ wsX0_edge := by decide +kernel
  have hl := lv_entry ([.ref h0, .int (nI (sl)), .int (nI (k)), .long (x), .long (y)]) (n := 13) (Nat.le_of_ble_eq_true rfl)
  rw [lg_entry_eq]
  generalize (lg_sl ([.ref h0, .int (nI (sl)), .int (nI (k)), .long (x), .long (y)]) ++ List.replicate (13 - (lg_sl ([.ref h0, .int (nI (sl)), .int (nI (k)), .long (x), .long (y)])).length) Slot.unset).toArray = ls at hl ⊢
  have hl : lv_has ls 13 [(0, .ref h0), (1, .int (nI (sl))), (2, .int (nI (k))), (3, .long (x)), (5, .long (y))] := hl
  refine lv_iload_n hx hb dX0_edge_0 rfl (lv_at hl 1 rfl) ?_
  refine lv_iload_n hx hb dX0_edge_1 rfl (lv_at hl 2 rfl) ?_
  refine pb_call (W.runS (As := [.int (nI (sl)), .int (nI (k))]) (rest := []) ⟨hx, hb, hml, hown, hts⟩ (cC_edgeStart l sl k hs hk) (va_cwS 2 hts gX0_edge_X0_edgeStart rfl rfl rfl (by decide +kernel) ⟨Nat.le_of_ble_eq_true rfl, Nat.le_of_ble_eq_true rfl⟩) pb_preS rfl rfl hl.1 rfl (lv_room (Nat.le_of_ble_eq_true rfl)) dX0_edge_2 ⟨Nat.zero_le _, Nat.zero_le _⟩) ?_
  refine lv_istore (lv' := [(7, .int (nI (sl * 3 + (k + 1) % 3))), (0, .ref h0), (1, .int (nI (sl))), (2, .int (nI (k))), (3, .long (x)), (5, .long (y))]) hx hb dX0_edge_5 hl (by decide) rfl (fun ls hl => ?_)
  refine lv_iload_n hx hb dX0_edge_7 rfl (lv_at hl 2 rfl) ?_
  refine lv_iload_n hx hb dX0_edge_8 rfl (lv_at hl 3 rfl) ?_
  refine pb_call (W.runS (As := [.int (nI (sl)), .int (nI (k))]) (rest := []) ⟨hx, hb, hml, hown, hts⟩ (cC_edgeEnd l sl k hs hk) (va_cwS 2 hts gX0_edge_X0_edgeEnd rfl rfl rfl (by decide +kernel) ⟨Nat.le_of_ble_eq_true rfl, Nat.le_of_ble_eq_true rfl⟩) pb_preS rfl rfl hl.1 rfl (lv_room (Nat.le_of_ble_eq_true rfl)) dX0_edge_9 ⟨Nat.zero_le _, Nat.zero_le _⟩) ?_
  refine lv_istore (lv' := [(8, .int (nI (sl * 3 + (k + 2) % 3))), (7, .int (nI (sl * 3 + (k + 1) % 3))), (0, .ref h0), (1, .int (nI (sl))), (2, .int (nI (k))), (3, .long (x)), (5, .long (y))]) hx hb dX0_edge_12 hl (by decide) rfl (fun ls hl => ?_)
  refine lv_aload_n hx hb dX0_edge_14 rfl (lv_at hl 2 rfl) ?_
  refine va_get (D := (dC, dI)) (ci := 0) (v := .ref h1) (C := RX0) (T := TX0) (N := 4) hx hb hts hin0 hown hK hP 0 rfl rfl 0 (by decide) (hts (.fieldLink RX0 9 "PieceBoxes" "xs" "[I") (by decide +kernel)) (fun _ h9 => h9) rfl dX0_edge_15 ?_
  refine lv_iload hx hb dX0_edge_18 (lv_at hl 0 rfl) ?_
  refine pb_ald (j := sl * 3 + (k + 2) % 3) hx hb hK hP 1 0 rfl rfl (by omega) (by decide) dX0_edge_20 ?_
  refine lv_aload_n hx hb dX0_edge_21 rfl (lv_at hl 2 rfl) ?_
  refine va_get (D := (dC, dI)) (ci := 0) (v := .ref h1) (C := RX0) (T := TX0) (N := 4) hx hb hts hin0 hown hK hP 0 rfl rfl 0 (by decide) (hts (.fieldLink RX0 9 "PieceBoxes" "xs" "[I") (by decide +kernel)) (fun _ h9 => h9) rfl dX0_edge_22 ?_
  refine lv_iload hx hb dX0_edge_25 (lv_at hl 1 rfl) ?_
  refine pb_ald (j := sl * 3 + (k + 1) % 3) hx hb hK hP 1 0 rfl rfl (by omega) (by decide) dX0_edge_27 ?_
  refine lv_isub hx hb dX0_edge_28 ?_
  refine lv_i2l (v := ((X (sl * 3 + (k + 2) % 3) - X (sl * 3 + (k + 1) % 3))).toInt64) hx hb dX0_edge_29 rfl ?_
  refine lv_lstore (lv' := [(9, .long (((X (sl * 3 + (k + 2) % 3) - X (sl * 3 + (k + 1) % 3))).toInt64)), (8, .int (nI (sl * 3 + (k + 2) % 3))), (7, .int (nI (sl * 3 + (k + 1) % 3))), (0, .ref h0), (1, .int (nI (sl))), (2, .int (nI (k))), (3, .long (x)), (5, .long (y))]) hx hb dX0_edge_30 hl (by decide) rfl (fun ls hl => ?_)
  refine lv_aload_n hx hb dX0_edge_32 rfl (lv_at hl 3 rfl) ?_
  refine va_get (D := (dC, dI)) (ci := 0) (v := .ref h2) (C := RX0) (T := TX0) (N := 4) hx hb hts hin0 hown hK hP 0 rfl rfl 1 (by decide) (hts (.fieldLink RX0 13 "PieceBoxes" "ys" "[I") (by decide +kernel)) (fun _ h9 => h9) rfl dX0_edge_33 ?_
  refine lv_iload hx hb dX0_edge_36 (lv_at hl 1 rfl) ?_
  refine pb_ald (j := sl * 3 + (k + 2) % 3) hx hb hK hP 2 1 rfl rfl (by omega) (by decide) dX0_edge_38 ?_
  refine lv_aload_n hx hb dX0_edge_39 rfl (lv_at hl 3 rfl) ?_
  refine va_get (D := (dC, dI)) (ci := 0) (v := .ref h2) (C := RX0) (T := TX0) (N := 4) hx hb hts hin0 hown hK hP 0 rfl rfl 1 (by decide) (hts (.fieldLink RX0 13 "PieceBoxes" "ys" "[I") (by decide +kernel)) (fun _ h9 => h9) rfl dX0_edge_40 ?_
  refine lv_iload hx hb dX0_edge_43 (lv_at hl 2 rfl) ?_
  refine pb_ald (j := sl * 3 + (k + 1) % 3) hx hb hK hP 2 1 rfl rfl (by omega) (by decide) dX0_edge_45 ?_
  refine lv_isub hx hb dX0_edge_46 ?_
  refine lv_i2l (v := ((Y (sl * 3 + (k + 2) % 3) - Y (sl * 3 + (k + 1) % 3))).toInt64) hx hb dX0_edge_47 rfl ?_
  refine lv_lstore (lv' := [(11, .long (((Y (sl * 3 + (k + 2) % 3) - Y (sl * 3 + (k + 1) % 3))).toInt64)), (9, .long (((X (sl * 3 + (k + 2) % 3) - X (sl * 3 + (k + 1) % 3))).toInt64)), (8, .int (nI (sl * 3 + (k + 2) % 3))), (7, .int (nI (sl * 3 + (k + 1) % 3))), (0, .ref h0), (1, .int (nI (sl))), (2, .int (nI (k))), (3, .long (x)), (5, .long (y))]) hx hb dX0_edge_48 hl (by decide) rfl (fun ls hl => ?_)
  refine lv_lload hx hb dX0_edge_50 (lv_at hl 1 rfl) ?_
  refine lv_lload hx hb dX0_edge_52 (lv_at hl 8 rfl) ?_
  refine lv_aload_n hx hb dX0_edge_54 rfl (lv_at hl 4 rfl) ?_
  refine va_get (D := (dC, dI)) (ci := 0) (v := .ref h2) (C := RX0) (T := TX0) (N := 4) hx hb hts hin0 hown hK hP 0 rfl rfl 1 (by decide) (hts (.fieldLink RX0 13 "PieceBoxes" "ys" "[I") (by decide +kernel)) (fun _ h9 => h9) rfl dX0_edge_55 ?_
  refine lv_iload hx hb dX0_edge_58 (lv_at hl 3 rfl) ?_
  refine pb_ald (j := sl * 3 + (k + 1) % 3) hx hb hK hP 2 1 rfl rfl (by omega) (by decide) dX0_edge_60 ?_
  refine lv_i2l (v := (Y (sl * 3 + (k + 1) % 3)).toInt64) hx hb dX0_edge_61 rfl ?_
  refine lv_lsub hx hb dX0_edge_62 ?_
  refine lv_lmul hx hb dX0_edge_63 ?_
  refine lv_lload hx hb dX0_edge_64 (lv_at hl 0 rfl) ?_
  refine lv_lload_n hx hb dX0_edge_66 rfl (lv_at hl 7 rfl) ?_
  refine lv_aload_n hx hb dX0_edge_67 rfl (lv_at hl 4 rfl) ?_
  refine va_get (D := (dC, dI)) (ci := 0) (v := .ref h1) (C := RX0) (T := TX0) (N := 4) hx hb hts hin0 hown hK hP 0 rfl rfl 0 (by decide) (hts (.fieldLink RX0 9 "PieceBoxes" "xs" "[I") (by decide +kernel)) (fun _ h9 => h9) rfl dX0_edge_68 ?_
  refine lv_iload hx hb dX0_edge_71 (lv_at hl 3 rfl) ?_
  refine pb_ald (j := sl * 3 + (k + 1) % 3) hx hb hK hP 1 0 rfl rfl (by omega) (by decide) dX0_edge_73 ?_
  refine lv_i2l (v := (X (sl * 3 + (k + 1) % 3)).toInt64) hx hb dX0_edge_74 rfl ?_
  refine lv_lsub hx hb dX0_edge_75 ?_
  refine lv_lmul hx hb dX0_edge_76 ?_
  refine lv_lsub hx hb dX0_edge_77 ?_
  exact W.lret (v := (((((X (sl * 3 + (k + 2) % 3) - X (sl * 3 + (k + 1) % 3))).toInt64 * (y - (Y (sl * 3 + (k + 1) % 3)).toInt64)) - (((Y (sl * 3 + (k + 2) % 3) - Y (sl * 3 + (k + 1) % 3))).toInt64 * (x - (X (sl * 3 + (k + 1) % 3)).toInt64))))) hx hb hr (fun t ht hW => ⟨rfl, ht⟩) (fun q h => by cases h) dX0_edge_78
set_option maxHeartbeats 4000000 in
set_option maxRecDepth 100000 in
/-- AREA of a slot -/
theorem cC_areaOf (l : Launch) (dC : Nat → ClassId) (dI : Nat → Nat → Nat) (h0 h1 h2 h3 : Nat) (k1 k2 k3 : ClassId) (X Y Z : Nat → Int32) (n : Nat) (sl : Nat) (hs : sl ≤ 512) : Met l yX0_areaOf wsX0_areaOf (k2_rm 2 53) (va_Pc [.ref h0, .int (nI (sl))] (preC dC dI h0 h1 h2 h3 k1 k2 k3 X Y Z n)) (k2_QcV (.long (pb_ar X Y sl))) 0 0 (fun _ => False) := by
  refine Met.ofW (cc := cX0_areaOf) (maxL := 3) (ret := some .long) (by decide) rfl ?_
  intro p e s m args below meth c s₁ B hml hv
  obtain ⟨rfl, hP, hK⟩ := hv
  have hx := B.exec
  have hb := B.bytes
  have hr := B.returns
  have hts := atoms_spec (ws := wsX0_areaOf) B.pre
  have hown : s.vm.findClass RX0 = some m.cls := findClass_of_methodNamed B.named
  have hlocks := B.notSynchronized
  have hin0 : ∀ w ∈ u_ws RX0 TX0 4, w ∈ wsX0_areaOf := by decide +kernel
  have hl := lv_entry ([.ref h0, .int (nI (sl))]) (n := 3) (Nat.le_of_ble_eq_true rfl)
  rw [lg_entry_eq]
  generalize (lg_sl ([.ref h0, .int (nI (sl))]) ++ List.replicate (3 - (lg_sl ([.ref h0, .int (nI (sl))])).length) Slot.unset).toArray = ls at hl ⊢
  have hl : lv_has ls 3 [(0, .ref h0), (1, .int (nI (sl)))] := hl
  refine lv_iload_n hx hb dX0_areaOf_0 rfl (lv_at hl 1 rfl) ?_
  refine lv_iconst (v := nI 3) hx hb dX0_areaOf_1 (by decide +kernel) ?_
  refine lv_imul hx hb dX0_areaOf_2 ?_
  refine pb_eqi (pk_mul _ _) ?_
  refine lv_iconst (v := nI 2) hx hb dX0_areaOf_3 (by decide +kernel) ?_
  refine lv_iadd hx hb dX0_areaOf_4 ?_
  refine pb_eqi (nI_add _ _) ?_
  refine lv_istore_n (lv' := [(2, .int (nI (sl * 3 + 2))), (0, .ref h0), (1, .int (nI (sl)))]) hx hb dX0_areaOf_5 rfl hl (by decide) rfl (fun ls hl => ?_)
  refine lv_aload_n hx hb dX0_areaOf_6 rfl (lv_at hl 1 rfl) ?_
  refine lv_iload_n hx hb dX0_areaOf_7 rfl (lv_at hl 2 rfl) ?_
  refine lv_iconst (v := nI 2) hx hb dX0_areaOf_8 (by decide +kernel) ?_
  refine lv_aload_n hx hb dX0_areaOf_9 rfl (lv_at hl 1 rfl) ?_
  refine va_get (D := (dC, dI)) (ci := 0) (v := .ref h1) (C := RX0) (T := TX0) (N := 4) hx hb hts hin0 hown hK hP 0 rfl rfl 0 (by decide) (hts (.fieldLink RX0 9 "PieceBoxes" "xs" "[I") (by decide +kernel)) (fun _ h9 => h9) rfl dX0_areaOf_10 ?_
  refine lv_iload_n hx hb dX0_areaOf_13 rfl (lv_at hl 0 rfl) ?_
  refine pb_ald (j := sl * 3 + 2) hx hb hK hP 1 0 rfl rfl (by omega) (by decide) dX0_areaOf_14 ?_
  refine lv_i2l (v := (X (sl * 3 + 2)).toInt64) hx hb dX0_areaOf_15 rfl ?_
  refine lv_aload_n hx hb dX0_areaOf_16 rfl (lv_at hl 1 rfl) ?_
  refine va_get (D := (dC, dI)) (ci := 0) (v := .ref h2) (C := RX0) (T := TX0) (N := 4) hx hb hts hin0 hown hK hP 0 rfl rfl 1 (by decide) (hts (.fieldLink RX0 13 "PieceBoxes" "ys" "[I") (by decide +kernel)) (fun _ h9 => h9) rfl dX0_areaOf_17 ?_
  refine lv_iload_n hx hb dX0_areaOf_20 rfl (lv_at hl 0 rfl) ?_
  refine pb_ald (j := sl * 3 + 2) hx hb hK hP 2 1 rfl rfl (by omega) (by decide) dX0_areaOf_21 ?_
  refine lv_i2l (v := (Y (sl * 3 + 2)).toInt64) hx hb dX0_areaOf_22 rfl ?_
  refine pb_call (W.runV (As := [.int (nI (sl)), .int (nI (2)), .long ((X (sl * 3 + 2)).toInt64), .long ((Y (sl * 3 + 2)).toInt64)]) (rest := []) ⟨hx, hb, hml, hown, hts⟩ (cC_edge l dC dI h0 h1 h2 h3 k1 k2 k3 X Y Z n sl 2 hs (by decide) (X (sl * 3 + 2)).toInt64 (Y (sl * 3 + 2)).toInt64) (cwV 4 hts gX0_areaOf_X0_edge rfl rfl rfl (by decide +kernel) ⟨Nat.le_of_ble_eq_true rfl, Nat.le_of_ble_eq_true rfl⟩) (preC_V hP hK _) rfl rfl hl.1 rfl (lv_room (Nat.le_of_ble_eq_true rfl)) dX0_areaOf_23 ⟨Nat.zero_le _, Nat.zero_le _⟩) ?_
  exact W.lret (v := (pb_ar X Y sl)) hx hb hr (fun t ht hW => ⟨rfl, ht⟩) (fun q h => by cases h) dX0_areaOf_26
set_option maxHeartbeats 4000000 in
set_option maxRecDepth 100000 in
/-- the edge is its own -/
theorem cC_ownsEdge (l : Launch) (dC : Nat → ClassId) (dI : Nat → Nat → Nat) (h0 h1 h2 h3 : Nat) (k1 k2 k3 : ClassId) (X Y Z : Nat → Int32) (n : Nat) (sl k : Nat) (hs : sl ≤ 512) (hk : k < 3) : Met l yX0_ownsEdge wsX0_ownsEdge (k2_rm 1 21) (va_Pc [.ref h0, .int (nI (sl)), .int (nI (k))] (preC dC dI h0 h1 h2 h3 k1 k2 k3 X Y Z n)) (k2_QcV (.int (pb_b (pb_own X Y sl k)))) 0 0 (fun _ => False) := by
  refine Met.ofW (cc := cX0_ownsEdge) (maxL := 5) (ret := some .boolean) (by decide) rfl ?_
  intro p e s m args below meth c s₁ B hml hv
  obtain ⟨rfl, hP, hK⟩ := hv
  have hx := B.exec
  have hb := B.bytes
  have hr := B.returns
  have hts := atoms_spec (ws := wsX0_ownsEdge) B.pre
  have hown : s.vm.findClass RX0 = some m.cls := findClass_of_methodNamed B.named
  have hlocks := B.notSynchronized
  have hin0 : ∀ w ∈ u_ws RX0 TX0 4, w ∈ wsX0_ownsEdge := by decide +kernel
  have hl := lv_entry ([.ref h0, .int (nI (sl)), .int (nI (k))]) (n := 5) (Nat.le_of_ble_eq_true rfl)
  rw [lg_entry_eq]
  generalize (lg_sl ([.ref h0, .int (nI (sl)), .int (nI (k))]) ++ List.replicate (5 - (lg_sl ([.ref h0, .int (nI (sl)), .int (nI (k))])).length) Slot.unset).toArray = ls at hl ⊢
  have hl : lv_has ls 5 [(0, .ref h0), (1, .int (nI (sl))), (2, .int (nI (k)))] := hl
  refine lv_iload_n hx hb dX0_ownsEdge_0 rfl (lv_at hl 1 rfl) ?_
  refine lv_iload_n hx hb dX0_ownsEdge_1 rfl (lv_at hl 2 rfl) ?_
  refine pb_call (W.runS (As := [.int (nI (sl)), .int (nI (k))]) (rest := []) ⟨hx, hb, hml, hown, hts⟩ (cC_edgeStart l sl k hs hk) (va_cwS 2 hts gX0_ownsEdge_X0_edgeStart rfl rfl rfl (by decide +kernel) ⟨Nat.le_of_ble_eq_true rfl, Nat.le_of_ble_eq_true rfl⟩) pb_preS rfl rfl hl.1 rfl (lv_room (Nat.le_of_ble_eq_true rfl)) dX0_ownsEdge_2 ⟨Nat.zero_le _, Nat.zero_le _⟩) ?_
  refine lv_istore_n (lv' := [(3, .int (nI (sl * 3 + (k + 1) % 3))), (0, .ref h0), (1, .int (nI (sl))), (2, .int (nI (k)))]) hx hb dX0_ownsEdge_5 rfl hl (by decide) rfl (fun ls hl => ?_)
  refine lv_iload_n hx hb dX0_ownsEdge_6 rfl (lv_at hl 2 rfl) ?_
  refine lv_iload_n hx hb dX0_ownsEdge_7 rfl (lv_at hl 3 rfl) ?_
  refine pb_call (W.runS (As := [.int (nI (sl)), .int (nI (k))]) (rest := []) ⟨hx, hb, hml, hown, hts⟩ (cC_edgeEnd l sl k hs hk) (va_cwS 2 hts gX0_ownsEdge_X0_edgeEnd rfl rfl rfl (by decide +kernel) ⟨Nat.le_of_ble_eq_true rfl, Nat.le_of_ble_eq_true rfl⟩) pb_preS rfl rfl hl.1 rfl (lv_room (Nat.le_of_ble_eq_true rfl)) dX0_ownsEdge_8 ⟨Nat.zero_le _, Nat.zero_le _⟩) ?_
  refine lv_istore (lv' := [(4, .int (nI (sl * 3 + (k + 2) % 3))), (3, .int (nI (sl * 3 + (k + 1) % 3))), (0, .ref h0), (1, .int (nI (sl))), (2, .int (nI (k)))]) hx hb dX0_ownsEdge_11 hl (by decide) rfl (fun ls hl => ?_)
  refine lv_aload_n hx hb dX0_ownsEdge_13 rfl (lv_at hl 2 rfl) ?_
  refine va_get (D := (dC, dI)) (ci := 0) (v := .ref h2) (C := RX0) (T := TX0) (N := 4) hx hb hts hin0 hown hK hP 0 rfl rfl 1 (by decide) (hts (.fieldLink RX0 13 "PieceBoxes" "ys" "[I") (by decide +kernel)) (fun _ h9 => h9) rfl dX0_ownsEdge_14 ?_
  refine lv_iload hx hb dX0_ownsEdge_17 (lv_at hl 0 rfl) ?_
  refine pb_ald (j := sl * 3 + (k + 2) % 3) hx hb hK hP 2 1 rfl rfl (by omega) (by decide) dX0_ownsEdge_19 ?_
  refine lv_aload_n hx hb dX0_ownsEdge_20 rfl (lv_at hl 2 rfl) ?_
  refine va_get (D := (dC, dI)) (ci := 0) (v := .ref h2) (C := RX0) (T := TX0) (N := 4) hx hb hts hin0 hown hK hP 0 rfl rfl 1 (by decide) (hts (.fieldLink RX0 13 "PieceBoxes" "ys" "[I") (by decide +kernel)) (fun _ h9 => h9) rfl dX0_ownsEdge_21 ?_
  refine lv_iload_n hx hb dX0_ownsEdge_24 rfl (lv_at hl 1 rfl) ?_
  refine pb_ald (j := sl * 3 + (k + 1) % 3) hx hb hK hP 2 1 rfl rfl (by omega) (by decide) dX0_ownsEdge_25 ?_
  refine lv_icmp_lt (tgt := 61) hx hb dX0_ownsEdge_26 (by decide) (fun q1 => ?_) (fun q1 => ?_)
  · -- up
    refine lv_iconst (v := 1) hx hb dX0_ownsEdge_61 (by decide +kernel) ?_
    refine lv_goto (tgt := 66) hx hb dX0_ownsEdge_62 (by decide) ?_
    exact W.zret (v := (1)) hx hb hr narrow_b1 (fun t ht hW => ⟨by rw [show pb_own X Y sl k = true by unfold pb_own; simp [q1]]; rfl, ht⟩) (fun q h => by cases h) dX0_ownsEdge_66
  · -- not up
    refine lv_aload_n hx hb dX0_ownsEdge_29 rfl (lv_at hl 2 rfl) ?_
    refine va_get (D := (dC, dI)) (ci := 0) (v := .ref h2) (C := RX0) (T := TX0) (N := 4) hx hb hts hin0 hown hK hP 0 rfl rfl 1 (by decide) (hts (.fieldLink RX0 13 "PieceBoxes" "ys" "[I") (by decide +kernel)) (fun _ h9 => h9) rfl dX0_ownsEdge_30 ?_
    refine lv_iload hx hb dX0_ownsEdge_33 (lv_at hl 0 rfl) ?_
    refine pb_ald (j := sl * 3 + (k + 2) % 3) hx hb hK hP 2 1 rfl rfl (by omega) (by decide) dX0_ownsEdge_35 ?_
    refine lv_aload_n hx hb dX0_ownsEdge_36 rfl (lv_at hl 2 rfl) ?_
    refine va_get (D := (dC, dI)) (ci := 0) (v := .ref h2) (C := RX0) (T := TX0) (N := 4) hx hb hts hin0 hown hK hP 0 rfl rfl 1 (by decide) (hts (.fieldLink RX0 13 "PieceBoxes" "ys" "[I") (by decide +kernel)) (fun _ h9 => h9) rfl dX0_ownsEdge_37 ?_
    refine lv_iload_n hx hb dX0_ownsEdge_40 rfl (lv_at hl 1 rfl) ?_
    refine pb_ald (j := sl * 3 + (k + 1) % 3) hx hb hK hP 2 1 rfl rfl (by omega) (by decide) dX0_ownsEdge_41 ?_
    refine lv_icmp_ne (tgt := 65) hx hb dX0_ownsEdge_42 (by decide) (fun q2 => ?_) (fun q2 => ?_)
    · -- down
      refine lv_iconst (v := 0) hx hb dX0_ownsEdge_65 (by decide +kernel) ?_
      exact W.zret (v := (0)) hx hb hr narrow_b0 (fun t ht hW => ⟨by rw [show pb_own X Y sl k = false by unfold pb_own; simp [q1, q2]]; rfl, ht⟩) (fun q h => by cases h) dX0_ownsEdge_66
    · -- level
      refine lv_aload_n hx hb dX0_ownsEdge_45 rfl (lv_at hl 2 rfl) ?_
      refine va_get (D := (dC, dI)) (ci := 0) (v := .ref h1) (C := RX0) (T := TX0) (N := 4) hx hb hts hin0 hown hK hP 0 rfl rfl 0 (by decide) (hts (.fieldLink RX0 9 "PieceBoxes" "xs" "[I") (by decide +kernel)) (fun _ h9 => h9) rfl dX0_ownsEdge_46 ?_
      refine lv_iload hx hb dX0_ownsEdge_49 (lv_at hl 0 rfl) ?_
      refine pb_ald (j := sl * 3 + (k + 2) % 3) hx hb hK hP 1 0 rfl rfl (by omega) (by decide) dX0_ownsEdge_51 ?_
      refine lv_aload_n hx hb dX0_ownsEdge_52 rfl (lv_at hl 2 rfl) ?_
      refine va_get (D := (dC, dI)) (ci := 0) (v := .ref h1) (C := RX0) (T := TX0) (N := 4) hx hb hts hin0 hown hK hP 0 rfl rfl 0 (by decide) (hts (.fieldLink RX0 9 "PieceBoxes" "xs" "[I") (by decide +kernel)) (fun _ h9 => h9) rfl dX0_ownsEdge_53 ?_
      refine lv_iload_n hx hb dX0_ownsEdge_56 rfl (lv_at hl 1 rfl) ?_
      refine pb_ald (j := sl * 3 + (k + 1) % 3) hx hb hK hP 1 0 rfl rfl (by omega) (by decide) dX0_ownsEdge_57 ?_
      refine lv_icmp_le (tgt := 65) hx hb dX0_ownsEdge_58 (by decide) (fun q3 => ?_) (fun q3 => ?_)
      · -- to the left
        have q3 := Int32.not_lt.mpr q3
        refine lv_iconst (v := 0) hx hb dX0_ownsEdge_65 (by decide +kernel) ?_
        exact W.zret (v := (0)) hx hb hr narrow_b0 (fun t ht hW => ⟨by rw [show pb_own X Y sl k = false by unfold pb_own; simp [q1, q2, q3]]; rfl, ht⟩) (fun q h => by cases h) dX0_ownsEdge_66
      · -- to the right
        have q3 := Int32.not_le.mp q3
        refine lv_iconst (v := 1) hx hb dX0_ownsEdge_61 (by decide +kernel) ?_
        refine lv_goto (tgt := 66) hx hb dX0_ownsEdge_62 (by decide) ?_
        exact W.zret (v := (1)) hx hb hr narrow_b1 (fun t ht hW => ⟨by rw [show pb_own X Y sl k = true by unfold pb_own; simp [q1, q2, q3]]; rfl, ht⟩) (fun q h => by cases h) dX0_ownsEdge_66
end
section
set_option maxHeartbeats 4000000 in
set_option maxRecDepth 100000 in
/-- a piece covers a middle -/
theorem cC_covers (l : Launch) (dC : Nat → ClassId) (dI : Nat → Nat → Nat) (h0 h1 h2 h3 : Nat) (k1 k2 k3 : ClassId) (X Y Z : Nat → Int32) (n : Nat) (sl : Nat) (hs : sl ≤ 512) (x y : Int64) : Met l yX0_covers wsX0_covers (k2_rm 2 53) (va_Pc [.ref h0, .int (nI (sl)), .long (x), .long (y)] (preC dC dI h0 h1 h2 h3 k1 k2 k3 X Y Z n)) (k2_QcV (.int (pb_b (pb_cov X Y sl x y)))) 0 0 (fun _ => False) := by
  refine Met.ofW (cc := cX0_covers) (maxL := 9) (ret := some .boolean) (by decide) rfl ?_
  intro p e s m args below meth c s₁ B hml hv
  obtain ⟨rfl, hP, hK⟩ := hv
  have hx := B.exec
  have hb := B.bytes
  have hr := B.returns
  have hts := atoms_spec (ws := wsX0_covers) B.pre
  have hown : s.vm.findClass RX0 = some m.cls := findClass_of_methodNamed B.named
  have hlocks := B.notSynchronized
  have hin0 : ∀ w ∈ u_ws RX0 TX0 4, w ∈ wsX0_covers := by decide +kernel
  have hl := lv_entry ([.ref h0, .int (nI (sl)), .long (x), .long (y)]) (n := 9) (Nat.le_of_ble_eq_true rfl)
  rw [lg_entry_eq]
  generalize (lg_sl ([.ref h0, .int (nI (sl)), .long (x), .long (y)]) ++ List.replicate (9 - (lg_sl ([.ref h0, .int (nI (sl)), .long (x), .long (y)])).length) Slot.unset).toArray = ls at hl ⊢
  have hl : lv_has ls 9 [(0, .ref h0), (1, .int (nI (sl))), (2, .long (x)), (4, .long (y))] := hl
  refine lv_iconst (v := nI 0) hx hb dX0_covers_0 (by decide +kernel) ?_
  refine lv_istore (lv' := [(6, .int (nI (0))), (0, .ref h0), (1, .int (nI (sl))), (2, .long (x)), (4, .long (y))]) hx hb dX0_covers_1 hl (by decide) rfl (fun ls hl => ?_)
  suffices loop : ∀ (d k : Nat), k + d = 3 → (∀ j, j < k → pb_c1 X Y sl j x y = true) → ∀ ls : Array Slot, lv_has ls 9 [(6, .int (nI (k))), (0, .ref h0), (1, .int (nI (sl))), (2, .long (x)), (4, .long (y))] → W p l e (headSpec wsX0_covers (k2_rm 2 53)).room s m ([.ref h0, .int (nI (sl)), .long (x), .long (y)] : List Value).toArray below meth c s.heap [] 0 0 (MQ below (k2_QcV (.int (pb_b (pb_cov X Y sl x y)))) ([.ref h0, .int (nI (sl)), .long (x), .long (y)] : List Value).toArray s 0 0 (fun _ => False)) (F0 m 3 ls []) by
    exact loop 3 0 rfl (fun j h => absurd h (Nat.not_lt_zero j)) ls hl
  clear hl ls
  intro d
  induction d with
  | zero =>
    intro k hk hc ls hl
    have hk3 : k = 3 := by omega
    refine lv_iload hx hb dX0_covers_3 (lv_at hl 0 rfl) ?_
    refine lv_iconst (v := nI 3) hx hb dX0_covers_5 (by decide +kernel) ?_
    refine lv_icmp_ge (tgt := 53) hx hb dX0_covers_6 (by decide) (fun q1 => ?_) (fun q1 => ?_)
    · -- all three
      refine lv_iconst (v := 1) hx hb dX0_covers_53 (by decide +kernel) ?_
      exact W.zret (v := (1)) hx hb hr narrow_b1 (fun t ht hW => ⟨by rw [pb_cov_t (by rw [← hk3]; exact hc)]; rfl, ht⟩) (fun q h => by cases h) dX0_covers_54
    · exact absurd (nI_le (by omega) (by omega)) q1
  | succ d ih =>
    intro k hk hc ls hl
    refine lv_iload hx hb dX0_covers_3 (lv_at hl 0 rfl) ?_
    refine lv_iconst (v := nI 3) hx hb dX0_covers_5 (by decide +kernel) ?_
    refine lv_icmp_ge (tgt := 53) hx hb dX0_covers_6 (by decide) (fun q1 => ?_) (fun q1 => ?_)
    · exact absurd q1 (nI_ge (by omega) (by decide))
    · -- edge k
      refine lv_aload_n hx hb dX0_covers_9 rfl (lv_at hl 1 rfl) ?_
      refine lv_iload_n hx hb dX0_covers_10 rfl (lv_at hl 2 rfl) ?_
      refine lv_iload hx hb dX0_covers_11 (lv_at hl 0 rfl) ?_
      refine lv_lload_n hx hb dX0_covers_13 rfl (lv_at hl 3 rfl) ?_
      refine lv_lload hx hb dX0_covers_14 (lv_at hl 4 rfl) ?_
      refine pb_call (W.runV (As := [.int (nI (sl)), .int (nI (k)), .long (x), .long (y)]) (rest := []) ⟨hx, hb, hml, hown, hts⟩ (cC_edge l dC dI h0 h1 h2 h3 k1 k2 k3 X Y Z n sl k hs (by omega) x y) (cwV 4 hts gX0_covers_X0_edge rfl rfl rfl (by decide +kernel) ⟨Nat.le_of_ble_eq_true rfl, Nat.le_of_ble_eq_true rfl⟩) (preC_V hP hK _) rfl rfl hl.1 rfl (lv_room (Nat.le_of_ble_eq_true rfl)) dX0_covers_16 ⟨Nat.zero_le _, Nat.zero_le _⟩) ?_
      refine lv_lstore (lv' := [(7, .long (pb_e X Y sl k x y)), (6, .int (nI (k))), (0, .ref h0), (1, .int (nI (sl))), (2, .long (x)), (4, .long (y))]) hx hb dX0_covers_19 hl (by decide) rfl (fun ls hl => ?_)
      refine lv_lload hx hb dX0_covers_21 (lv_at hl 0 rfl) ?_
      refine lv_lconst (v := 0) hx hb dX0_covers_23 (by decide +kernel) ?_
      refine W.lcmp hx hb dX0_covers_24 ?_
      refine lv_if_lt (tgt := 45) hx hb dX0_covers_25 (by decide) (fun q2 => ?_) (fun q2 => ?_)
      · -- outside
        have q2 := (lg_cmp_lt _ _).mp q2
        refine lv_iconst (v := 0) hx hb dX0_covers_45 (by decide +kernel) ?_
        exact W.zret (v := (0)) hx hb hr narrow_b0 (fun t ht hW => ⟨by rw [pb_cov_f (k := k) (by omega) (by simp [pb_c1, q2])]; rfl, ht⟩) (fun q h => by cases h) dX0_covers_46
      · -- not outside
        have q2 : ¬ pb_e X Y sl k x y < 0 := fun h => q2 ((lg_cmp_lt _ _).mpr h)
        refine lv_lload hx hb dX0_covers_28 (lv_at hl 0 rfl) ?_
        refine lv_lconst (v := 0) hx hb dX0_covers_30 (by decide +kernel) ?_
        refine W.lcmp hx hb dX0_covers_31 ?_
        refine lv_if_ne (tgt := 47) hx hb dX0_covers_32 (by decide) (fun q3 => ?_) (fun q3 => ?_)
        · -- inside
          have q3 : ¬ pb_e X Y sl k x y = 0 := fun h => q3 ((lg_cmp_eq _ _).mpr h)
          refine lv_iinc (v := (nI (k + 1))) (lv' := [(6, .int (nI (k + 1))), (7, .long (pb_e X Y sl k x y)), (0, .ref h0), (1, .int (nI (sl))), (2, .long (x)), (4, .long (y))]) hx hb dX0_covers_47 hl (k := 1) rfl (by exact (nI_1 (k))) (by decide) rfl (fun ls hl => ?_)
          refine lv_goto (tgt := 3) hx hb dX0_covers_50 (by decide) ?_
          exact ih (k + 1) (by omega) (lt_s hc (by simp [pb_c1, q2, q3])) ls (lv_sub hl [0, 2, 3, 4, 5] rfl)
        · -- on the edge
          have q3 : pb_e X Y sl k x y = 0 := (lg_cmp_eq _ _).mp q3
          refine lv_aload_n hx hb dX0_covers_35 rfl (lv_at hl 2 rfl) ?_
          refine lv_iload_n hx hb dX0_covers_36 rfl (lv_at hl 3 rfl) ?_
          refine lv_iload hx hb dX0_covers_37 (lv_at hl 1 rfl) ?_
          refine pb_call (W.runV (As := [.int (nI (sl)), .int (nI (k))]) (rest := []) ⟨hx, hb, hml, hown, hts⟩ (cC_ownsEdge l dC dI h0 h1 h2 h3 k1 k2 k3 X Y Z n sl k hs (by omega)) (cwV 2 hts gX0_covers_X0_ownsEdge rfl rfl rfl (by decide +kernel) ⟨Nat.le_of_ble_eq_true rfl, Nat.le_of_ble_eq_true rfl⟩) (preC_V hP hK _) rfl rfl hl.1 rfl (lv_room (Nat.le_of_ble_eq_true rfl)) dX0_covers_39 ⟨Nat.zero_le _, Nat.zero_le _⟩) ?_
          refine lv_if_ne (tgt := 47) hx hb dX0_covers_42 (by decide) (fun q4 => ?_) (fun q4 => ?_)
          · -- its own
            have q4 := pb_b_ne q4
            refine lv_iinc (v := (nI (k + 1))) (lv' := [(6, .int (nI (k + 1))), (7, .long (pb_e X Y sl k x y)), (0, .ref h0), (1, .int (nI (sl))), (2, .long (x)), (4, .long (y))]) hx hb dX0_covers_47 hl (k := 1) rfl (by exact (nI_1 (k))) (by decide) rfl (fun ls hl => ?_)
            refine lv_goto (tgt := 3) hx hb dX0_covers_50 (by decide) ?_
            exact ih (k + 1) (by omega) (lt_s hc (by simp [pb_c1, q2, q4])) ls (lv_sub hl [0, 2, 3, 4, 5] rfl)
          · -- not its own
            have q4 := pb_b_eq q4
            refine lv_iconst (v := 0) hx hb dX0_covers_45 (by decide +kernel) ?_
            exact W.zret (v := (0)) hx hb hr narrow_b0 (fun t ht hW => ⟨by rw [pb_cov_f (k := k) (by omega) (by simp [pb_c1, q3, q4])]; rfl, ht⟩) (fun q h => by cases h) dX0_covers_46
set_option maxHeartbeats 4000000 in
set_option maxRecDepth 100000 in
/-- the nearness of a piece -/
theorem cC_nearnessOf (l : Launch) (dC : Nat → ClassId) (dI : Nat → Nat → Nat) (h0 h1 h2 h3 : Nat) (k1 k2 k3 : ClassId) (X Y Z : Nat → Int32) (n : Nat) (sl : Nat) (hs : sl ≤ 512) (x y : Int64) : Met l yX0_nearnessOf wsX0_nearnessOf (k2_rm 3 75) (va_Pc [.ref h0, .int (nI (sl)), .long (x), .long (y)] (preC dC dI h0 h1 h2 h3 k1 k2 k3 X Y Z n)) (k2_QcV (.int (pb_nn X Y Z sl x y))) 0 0 (fun _ => False) := by
  refine Met.ofW (cc := cX0_nearnessOf) (maxL := 10) (ret := some .int) (by decide) rfl ?_
  intro p e s m args below meth c s₁ B hml hv
  obtain ⟨rfl, hP, hK⟩ := hv
  have hx := B.exec
  have hb := B.bytes
  have hr := B.returns
  have hts := atoms_spec (ws := wsX0_nearnessOf) B.pre
  have hown : s.vm.findClass RX0 = some m.cls := findClass_of_methodNamed B.named
  have hlocks := B.notSynchronized
  have hin0 : ∀ w ∈ u_ws RX0 TX0 4, w ∈ wsX0_nearnessOf := by decide +kernel
  have hl := lv_entry ([.ref h0, .int (nI (sl)), .long (x), .long (y)]) (n := 10) (Nat.le_of_ble_eq_true rfl)
  rw [lg_entry_eq]
  generalize (lg_sl ([.ref h0, .int (nI (sl)), .long (x), .long (y)]) ++ List.replicate (10 - (lg_sl ([.ref h0, .int (nI (sl)), .long (x), .long (y)])).length) Slot.unset).toArray = ls at hl ⊢
  have hl : lv_has ls 10 [(0, .ref h0), (1, .int (nI (sl))), (2, .long (x)), (4, .long (y))] := hl
  refine lv_lconst (v := 0) hx hb dX0_nearnessOf_0 (by decide +kernel) ?_
  refine lv_lstore (lv' := [(6, .long (0)), (0, .ref h0), (1, .int (nI (sl))), (2, .long (x)), (4, .long (y))]) hx hb dX0_nearnessOf_1 hl (by decide) rfl (fun ls hl => ?_)
  refine lv_iconst (v := nI 0) hx hb dX0_nearnessOf_3 (by decide +kernel) ?_
  refine lv_istore (lv' := [(8, .int (nI (0))), (6, .long (0)), (0, .ref h0), (1, .int (nI (sl))), (2, .long (x)), (4, .long (y))]) hx hb dX0_nearnessOf_4 hl (by decide) rfl (fun ls hl => ?_)
  refine lv_iload hx hb dX0_nearnessOf_6 (lv_at hl 0 rfl) ?_
  refine lv_iconst (v := nI 3) hx hb dX0_nearnessOf_8 (by decide +kernel) ?_
  refine lv_icmp_ge (tgt := 46) hx hb dX0_nearnessOf_9 (by decide) (fun q0 => ?_) (fun q0 => ?_)
  · exact absurd q0 (nI_ge (by decide) (by decide))
  clear q0
  have hl : lv_has ls 10 [(8, .int (nI (0))), (6, .long (0)), (0, .ref h0), (1, .int (nI (sl))), (2, .long (x)), (4, .long (y))] := hl
  refine lv_lload hx hb dX0_nearnessOf_12 (lv_at hl 1 rfl) ?_
  refine lv_aload_n hx hb dX0_nearnessOf_14 rfl (lv_at hl 2 rfl) ?_
  refine lv_iload_n hx hb dX0_nearnessOf_15 rfl (lv_at hl 3 rfl) ?_
  refine lv_iload hx hb dX0_nearnessOf_16 (lv_at hl 0 rfl) ?_
  refine lv_lload_n hx hb dX0_nearnessOf_18 rfl (lv_at hl 4 rfl) ?_
  refine lv_lload hx hb dX0_nearnessOf_19 (lv_at hl 5 rfl) ?_
  refine pb_call (W.runV (As := [.int (nI (sl)), .int (nI (0)), .long (x), .long (y)]) (rest := [.long (0)]) ⟨hx, hb, hml, hown, hts⟩ (cC_edge l dC dI h0 h1 h2 h3 k1 k2 k3 X Y Z n sl 0 hs (by decide) x y) (cwV 4 hts gX0_nearnessOf_X0_edge rfl rfl rfl (by decide +kernel) ⟨Nat.le_of_ble_eq_true rfl, Nat.le_of_ble_eq_true rfl⟩) (preC_V hP hK _) rfl rfl hl.1 rfl (lv_room (Nat.le_of_ble_eq_true rfl)) dX0_nearnessOf_21 ⟨Nat.zero_le _, Nat.zero_le _⟩) ?_
  refine lv_aload_n hx hb dX0_nearnessOf_24 rfl (lv_at hl 2 rfl) ?_
  refine va_get (D := (dC, dI)) (ci := 0) (v := .ref h3) (C := RX0) (T := TX0) (N := 4) hx hb hts hin0 hown hK hP 0 rfl rfl 2 (by decide) (hts (.fieldLink RX0 16 "PieceBoxes" "rs" "[I") (by decide +kernel)) (fun _ h9 => h9) rfl dX0_nearnessOf_25 ?_
  refine lv_iload_n hx hb dX0_nearnessOf_28 rfl (lv_at hl 3 rfl) ?_
  refine lv_iconst (v := nI 3) hx hb dX0_nearnessOf_29 (by decide +kernel) ?_
  refine lv_imul hx hb dX0_nearnessOf_30 ?_
  refine pb_eqi (pk_mul _ _) ?_
  refine lv_iload hx hb dX0_nearnessOf_31 (lv_at hl 0 rfl) ?_
  refine lv_iadd hx hb dX0_nearnessOf_33 ?_
  refine pb_eqi (nI_add _ _) ?_
  refine pb_ald (j := sl * 3 + 0) hx hb hK hP 3 2 rfl rfl (by omega) (by decide) dX0_nearnessOf_34 ?_
  refine lv_i2l (v := (Z (sl * 3 + 0)).toInt64) hx hb dX0_nearnessOf_35 rfl ?_
  refine lv_lmul hx hb dX0_nearnessOf_36 ?_
  refine lv_ladd hx hb dX0_nearnessOf_37 ?_
  refine lv_lstore (lv' := [(6, .long ((0 + (pb_e X Y sl 0 x y * (Z (sl * 3 + 0)).toInt64)))), (8, .int (nI (0))), (0, .ref h0), (1, .int (nI (sl))), (2, .long (x)), (4, .long (y))]) hx hb dX0_nearnessOf_38 hl (by decide) rfl (fun ls hl => ?_)
  refine lv_iinc (v := (nI (0 + 1))) (lv' := [(8, .int (nI (0 + 1))), (6, .long ((0 + (pb_e X Y sl 0 x y * (Z (sl * 3 + 0)).toInt64)))), (0, .ref h0), (1, .int (nI (sl))), (2, .long (x)), (4, .long (y))]) hx hb dX0_nearnessOf_40 hl (k := 1) rfl (by exact (nI_1 (0))) (by decide) rfl (fun ls hl => ?_)
  refine lv_goto (tgt := 6) hx hb dX0_nearnessOf_43 (by decide) ?_
  refine lv_iload hx hb dX0_nearnessOf_6 (lv_at hl 0 rfl) ?_
  refine lv_iconst (v := nI 3) hx hb dX0_nearnessOf_8 (by decide +kernel) ?_
  refine lv_icmp_ge (tgt := 46) hx hb dX0_nearnessOf_9 (by decide) (fun q1 => ?_) (fun q1 => ?_)
  · exact absurd q1 (nI_ge (by decide) (by decide))
  clear q1
  have hl : lv_has ls 10 [(8, .int (nI (1))), (6, .long ((0 + (pb_e X Y sl 0 x y * (Z (sl * 3 + 0)).toInt64)))), (0, .ref h0), (1, .int (nI (sl))), (2, .long (x)), (4, .long (y))] := hl
  refine lv_lload hx hb dX0_nearnessOf_12 (lv_at hl 1 rfl) ?_
  refine lv_aload_n hx hb dX0_nearnessOf_14 rfl (lv_at hl 2 rfl) ?_
  refine lv_iload_n hx hb dX0_nearnessOf_15 rfl (lv_at hl 3 rfl) ?_
  refine lv_iload hx hb dX0_nearnessOf_16 (lv_at hl 0 rfl) ?_
  refine lv_lload_n hx hb dX0_nearnessOf_18 rfl (lv_at hl 4 rfl) ?_
  refine lv_lload hx hb dX0_nearnessOf_19 (lv_at hl 5 rfl) ?_
  refine pb_call (W.runV (As := [.int (nI (sl)), .int (nI (1)), .long (x), .long (y)]) (rest := [.long ((0 + (pb_e X Y sl 0 x y * (Z (sl * 3 + 0)).toInt64)))]) ⟨hx, hb, hml, hown, hts⟩ (cC_edge l dC dI h0 h1 h2 h3 k1 k2 k3 X Y Z n sl 1 hs (by decide) x y) (cwV 4 hts gX0_nearnessOf_X0_edge rfl rfl rfl (by decide +kernel) ⟨Nat.le_of_ble_eq_true rfl, Nat.le_of_ble_eq_true rfl⟩) (preC_V hP hK _) rfl rfl hl.1 rfl (lv_room (Nat.le_of_ble_eq_true rfl)) dX0_nearnessOf_21 ⟨Nat.zero_le _, Nat.zero_le _⟩) ?_
  refine lv_aload_n hx hb dX0_nearnessOf_24 rfl (lv_at hl 2 rfl) ?_
  refine va_get (D := (dC, dI)) (ci := 0) (v := .ref h3) (C := RX0) (T := TX0) (N := 4) hx hb hts hin0 hown hK hP 0 rfl rfl 2 (by decide) (hts (.fieldLink RX0 16 "PieceBoxes" "rs" "[I") (by decide +kernel)) (fun _ h9 => h9) rfl dX0_nearnessOf_25 ?_
  refine lv_iload_n hx hb dX0_nearnessOf_28 rfl (lv_at hl 3 rfl) ?_
  refine lv_iconst (v := nI 3) hx hb dX0_nearnessOf_29 (by decide +kernel) ?_
  refine lv_imul hx hb dX0_nearnessOf_30 ?_
  refine pb_eqi (pk_mul _ _) ?_
  refine lv_iload hx hb dX0_nearnessOf_31 (lv_at hl 0 rfl) ?_
  refine lv_iadd hx hb dX0_nearnessOf_33 ?_
  refine pb_eqi (nI_add _ _) ?_
  refine pb_ald (j := sl * 3 + 1) hx hb hK hP 3 2 rfl rfl (by omega) (by decide) dX0_nearnessOf_34 ?_
  refine lv_i2l (v := (Z (sl * 3 + 1)).toInt64) hx hb dX0_nearnessOf_35 rfl ?_
  refine lv_lmul hx hb dX0_nearnessOf_36 ?_
  refine lv_ladd hx hb dX0_nearnessOf_37 ?_
  refine lv_lstore (lv' := [(6, .long (((0 + (pb_e X Y sl 0 x y * (Z (sl * 3 + 0)).toInt64)) + (pb_e X Y sl 1 x y * (Z (sl * 3 + 1)).toInt64)))), (8, .int (nI (1))), (0, .ref h0), (1, .int (nI (sl))), (2, .long (x)), (4, .long (y))]) hx hb dX0_nearnessOf_38 hl (by decide) rfl (fun ls hl => ?_)
  refine lv_iinc (v := (nI (1 + 1))) (lv' := [(8, .int (nI (1 + 1))), (6, .long (((0 + (pb_e X Y sl 0 x y * (Z (sl * 3 + 0)).toInt64)) + (pb_e X Y sl 1 x y * (Z (sl * 3 + 1)).toInt64)))), (0, .ref h0), (1, .int (nI (sl))), (2, .long (x)), (4, .long (y))]) hx hb dX0_nearnessOf_40 hl (k := 1) rfl (by exact (nI_1 (1))) (by decide) rfl (fun ls hl => ?_)
  refine lv_goto (tgt := 6) hx hb dX0_nearnessOf_43 (by decide) ?_
  refine lv_iload hx hb dX0_nearnessOf_6 (lv_at hl 0 rfl) ?_
  refine lv_iconst (v := nI 3) hx hb dX0_nearnessOf_8 (by decide +kernel) ?_
  refine lv_icmp_ge (tgt := 46) hx hb dX0_nearnessOf_9 (by decide) (fun q2 => ?_) (fun q2 => ?_)
  · exact absurd q2 (nI_ge (by decide) (by decide))
  clear q2
  have hl : lv_has ls 10 [(8, .int (nI (2))), (6, .long (((0 + (pb_e X Y sl 0 x y * (Z (sl * 3 + 0)).toInt64)) + (pb_e X Y sl 1 x y * (Z (sl * 3 + 1)).toInt64)))), (0, .ref h0), (1, .int (nI (sl))), (2, .long (x)), (4, .long (y))] := hl
  refine lv_lload hx hb dX0_nearnessOf_12 (lv_at hl 1 rfl) ?_
  refine lv_aload_n hx hb dX0_nearnessOf_14 rfl (lv_at hl 2 rfl) ?_
  refine lv_iload_n hx hb dX0_nearnessOf_15 rfl (lv_at hl 3 rfl) ?_
  refine lv_iload hx hb dX0_nearnessOf_16 (lv_at hl 0 rfl) ?_
  refine lv_lload_n hx hb dX0_nearnessOf_18 rfl (lv_at hl 4 rfl) ?_
  refine lv_lload hx hb dX0_nearnessOf_19 (lv_at hl 5 rfl) ?_
  refine pb_call (W.runV (As := [.int (nI (sl)), .int (nI (2)), .long (x), .long (y)]) (rest := [.long (((0 + (pb_e X Y sl 0 x y * (Z (sl * 3 + 0)).toInt64)) + (pb_e X Y sl 1 x y * (Z (sl * 3 + 1)).toInt64)))]) ⟨hx, hb, hml, hown, hts⟩ (cC_edge l dC dI h0 h1 h2 h3 k1 k2 k3 X Y Z n sl 2 hs (by decide) x y) (cwV 4 hts gX0_nearnessOf_X0_edge rfl rfl rfl (by decide +kernel) ⟨Nat.le_of_ble_eq_true rfl, Nat.le_of_ble_eq_true rfl⟩) (preC_V hP hK _) rfl rfl hl.1 rfl (lv_room (Nat.le_of_ble_eq_true rfl)) dX0_nearnessOf_21 ⟨Nat.zero_le _, Nat.zero_le _⟩) ?_
  refine lv_aload_n hx hb dX0_nearnessOf_24 rfl (lv_at hl 2 rfl) ?_
  refine va_get (D := (dC, dI)) (ci := 0) (v := .ref h3) (C := RX0) (T := TX0) (N := 4) hx hb hts hin0 hown hK hP 0 rfl rfl 2 (by decide) (hts (.fieldLink RX0 16 "PieceBoxes" "rs" "[I") (by decide +kernel)) (fun _ h9 => h9) rfl dX0_nearnessOf_25 ?_
  refine lv_iload_n hx hb dX0_nearnessOf_28 rfl (lv_at hl 3 rfl) ?_
  refine lv_iconst (v := nI 3) hx hb dX0_nearnessOf_29 (by decide +kernel) ?_
  refine lv_imul hx hb dX0_nearnessOf_30 ?_
  refine pb_eqi (pk_mul _ _) ?_
  refine lv_iload hx hb dX0_nearnessOf_31 (lv_at hl 0 rfl) ?_
  refine lv_iadd hx hb dX0_nearnessOf_33 ?_
  refine pb_eqi (nI_add _ _) ?_
  refine pb_ald (j := sl * 3 + 2) hx hb hK hP 3 2 rfl rfl (by omega) (by decide) dX0_nearnessOf_34 ?_
  refine lv_i2l (v := (Z (sl * 3 + 2)).toInt64) hx hb dX0_nearnessOf_35 rfl ?_
  refine lv_lmul hx hb dX0_nearnessOf_36 ?_
  refine lv_ladd hx hb dX0_nearnessOf_37 ?_
  refine lv_lstore (lv' := [(6, .long ((((0 + (pb_e X Y sl 0 x y * (Z (sl * 3 + 0)).toInt64)) + (pb_e X Y sl 1 x y * (Z (sl * 3 + 1)).toInt64)) + (pb_e X Y sl 2 x y * (Z (sl * 3 + 2)).toInt64)))), (8, .int (nI (2))), (0, .ref h0), (1, .int (nI (sl))), (2, .long (x)), (4, .long (y))]) hx hb dX0_nearnessOf_38 hl (by decide) rfl (fun ls hl => ?_)
  refine lv_iinc (v := (nI (2 + 1))) (lv' := [(8, .int (nI (2 + 1))), (6, .long ((((0 + (pb_e X Y sl 0 x y * (Z (sl * 3 + 0)).toInt64)) + (pb_e X Y sl 1 x y * (Z (sl * 3 + 1)).toInt64)) + (pb_e X Y sl 2 x y * (Z (sl * 3 + 2)).toInt64)))), (0, .ref h0), (1, .int (nI (sl))), (2, .long (x)), (4, .long (y))]) hx hb dX0_nearnessOf_40 hl (k := 1) rfl (by exact (nI_1 (2))) (by decide) rfl (fun ls hl => ?_)
  refine lv_goto (tgt := 6) hx hb dX0_nearnessOf_43 (by decide) ?_
  refine lv_iload hx hb dX0_nearnessOf_6 (lv_at hl 0 rfl) ?_
  refine lv_iconst (v := nI 3) hx hb dX0_nearnessOf_8 (by decide +kernel) ?_
  refine lv_icmp_ge (tgt := 46) hx hb dX0_nearnessOf_9 (by decide) (fun q3 => ?_) (fun q3 => ?_)
  · -- all three are added
    have hl : lv_has ls 10 [(8, .int (nI (2 + 1))), (6, .long (pb_sum X Y Z sl x y)), (0, .ref h0), (1, .int (nI (sl))), (2, .long (x)), (4, .long (y))] := hl
    refine lv_aload_n hx hb dX0_nearnessOf_46 rfl (lv_at hl 2 rfl) ?_
    refine lv_iload_n hx hb dX0_nearnessOf_47 rfl (lv_at hl 3 rfl) ?_
    refine pb_call (W.runV (As := [.int (nI (sl))]) (rest := []) ⟨hx, hb, hml, hown, hts⟩ (cC_areaOf l dC dI h0 h1 h2 h3 k1 k2 k3 X Y Z n sl hs) (cwV 1 hts gX0_nearnessOf_X0_areaOf rfl rfl rfl (by decide +kernel) ⟨Nat.le_of_ble_eq_true rfl, Nat.le_of_ble_eq_true rfl⟩) (preC_V hP hK _) rfl rfl hl.1 rfl (lv_room (Nat.le_of_ble_eq_true rfl)) dX0_nearnessOf_48 ⟨Nat.zero_le _, Nat.zero_le _⟩) ?_
    refine lv_lstore (lv' := [(8, .long (pb_ar X Y sl)), (6, .long (pb_sum X Y Z sl x y)), (0, .ref h0), (1, .int (nI (sl))), (2, .long (x)), (4, .long (y))]) hx hb dX0_nearnessOf_51 hl (by decide) rfl (fun ls hl => ?_)
    refine lv_lload hx hb dX0_nearnessOf_53 (lv_at hl 0 rfl) ?_
    refine lv_lconst (v := 0) hx hb dX0_nearnessOf_55 (by decide +kernel) ?_
    refine W.lcmp hx hb dX0_nearnessOf_56 ?_
    refine lv_if_gt (tgt := 62) hx hb dX0_nearnessOf_57 (by decide) (fun q4 => ?_) (fun q4 => ?_)
    · -- it has an area
      have q4 : 0 < pb_ar X Y sl := (lg_cmp_gt _ _).mp q4
      have hne : ¬ pb_ar X Y sl = 0 := fun h => by rw [h] at q4; exact absurd q4 (by decide)
      refine lv_lload hx hb dX0_nearnessOf_62 (lv_at hl 1 rfl) ?_
      refine lv_lload hx hb dX0_nearnessOf_64 (lv_at hl 0 rfl) ?_
      refine pb_call (W.runS (As := [.long (pb_sum X Y Z sl x y), .long (pb_ar X Y sl)]) (rest := []) ⟨hx, hb, hml, hown, hts⟩ (cM_floorDiv l (pb_sum X Y Z sl x y) (pb_ar X Y sl) hne) (va_cwS 2 hts gX0_nearnessOf_J9_floorDiv_f86c9 rfl rfl rfl (by decide +kernel) ⟨Nat.le_of_ble_eq_true rfl, Nat.le_of_ble_eq_true rfl⟩) pb_preS rfl rfl hl.1 rfl (lv_room (Nat.le_of_ble_eq_true rfl)) dX0_nearnessOf_66 ⟨Nat.zero_le _, Nat.zero_le _⟩) ?_
      refine lv_l2i (v := (pb_fd (pb_sum X Y Z sl x y) (pb_ar X Y sl)).toInt32) hx hb dX0_nearnessOf_69 rfl ?_
      exact W.iret (v := ((pb_fd (pb_sum X Y Z sl x y) (pb_ar X Y sl)).toInt32)) hx hb hr (fun t ht hW => ⟨by rw [show pb_nn X Y Z sl x y = _ from if_pos q4], ht⟩) (fun q h => by cases h) dX0_nearnessOf_70
    · -- none
      have q4 : ¬ 0 < pb_ar X Y sl := fun h => q4 ((lg_cmp_gt _ _).mpr h)
      refine lv_iconst (v := (-1)) hx hb dX0_nearnessOf_60 (by decide +kernel) ?_
      exact W.iret (v := (-1)) hx hb hr (fun t ht hW => ⟨by rw [show pb_nn X Y Z sl x y = _ from if_neg q4], ht⟩) (fun q h => by cases h) dX0_nearnessOf_61
  · exact absurd (nI_le (Nat.le_refl 3) (by decide)) q3
end
section
set_option maxHeartbeats 4000000 in
set_option maxRecDepth 100000 in
/-- AREA of a piece -/
theorem cC_area (l : Launch) (dC : Nat → ClassId) (dI : Nat → Nat → Nat) (h0 h1 h2 h3 : Nat) (k1 k2 k3 : ClassId) (X Y Z : Nat → Int32) (n : Nat) (hn : n ≤ 512) (a : Int32) : Met l yX0_area wsX0_area (k2_rm 3 75) (va_Pc [.ref h0, .int (a)] (preC dC dI h0 h1 h2 h3 k1 k2 k3 X Y Z n)) (k2_QcV (.int (pb_area X Y n a))) 0 0 (fun _ => False) := by
  refine Met.ofW (cc := cX0_area) (maxL := 2) (ret := some .int) (by decide) rfl ?_
  intro p e s m args below meth c s₁ B hml hv
  obtain ⟨rfl, hP, hK⟩ := hv
  have hx := B.exec
  have hb := B.bytes
  have hr := B.returns
  have hts := atoms_spec (ws := wsX0_area) B.pre
  have hown : s.vm.findClass RX0 = some m.cls := findClass_of_methodNamed B.named
  have hlocks := B.notSynchronized
  have hin0 : ∀ w ∈ u_ws RX0 TX0 4, w ∈ wsX0_area := by decide +kernel
  have hl := lv_entry ([.ref h0, .int (a)]) (n := 2) (Nat.le_of_ble_eq_true rfl)
  rw [lg_entry_eq]
  generalize (lg_sl ([.ref h0, .int (a)]) ++ List.replicate (2 - (lg_sl ([.ref h0, .int (a)])).length) Slot.unset).toArray = ls at hl ⊢
  have hl : lv_has ls 2 [(0, .ref h0), (1, .int (a))] := hl
  refine lv_aload_n hx hb dX0_area_0 rfl (lv_at hl 0 rfl) ?_
  refine lv_iload_n hx hb dX0_area_1 rfl (lv_at hl 1 rfl) ?_
  refine pb_call (W.runV (As := [.int (a)]) (rest := []) ⟨hx, hb, hml, hown, hts⟩ (cC_isPiece l dC dI h0 h1 h2 h3 k1 k2 k3 X Y Z n a) (cwV 1 hts gX0_area_X0_isPiece rfl rfl rfl (by decide +kernel) ⟨Nat.le_of_ble_eq_true rfl, Nat.le_of_ble_eq_true rfl⟩) (preC_V hP hK _) rfl rfl hl.1 rfl (lv_room (Nat.le_of_ble_eq_true rfl)) dX0_area_2 ⟨Nat.zero_le _, Nat.zero_le _⟩) ?_
  refine lv_if_ne (tgt := 10) hx hb dX0_area_5 (by decide) (fun q1 => ?_) (fun q1 => ?_)
  · -- a piece
    have q1 := pb_b_ne q1
    obtain ⟨j, hj, rfl⟩ := pb_isP_t hn q1
    refine lv_aload_n hx hb dX0_area_10 rfl (lv_at hl 0 rfl) ?_
    refine lv_iload_n hx hb dX0_area_11 rfl (lv_at hl 1 rfl) ?_
    refine pb_call (W.runV (As := [.int (nI (j))]) (rest := []) ⟨hx, hb, hml, hown, hts⟩ (cC_areaOf l dC dI h0 h1 h2 h3 k1 k2 k3 X Y Z n j (by omega)) (cwV 1 hts gX0_area_X0_areaOf rfl rfl rfl (by decide +kernel) ⟨Nat.le_of_ble_eq_true rfl, Nat.le_of_ble_eq_true rfl⟩) (preC_V hP hK _) rfl rfl hl.1 rfl (lv_room (Nat.le_of_ble_eq_true rfl)) dX0_area_12 ⟨Nat.zero_le _, Nat.zero_le _⟩) ?_
    refine lv_l2i (v := (pb_ar X Y j).toInt32) hx hb dX0_area_15 rfl ?_
    exact W.iret (v := ((pb_ar X Y j).toInt32)) hx hb hr (fun t ht hW => ⟨by rw [pb_area_t hn hj], ht⟩) (fun q h => by cases h) dX0_area_16
  · -- none
    have q1 := pb_b_eq q1
    refine lv_iconst (v := (-1)) hx hb dX0_area_8 (by decide +kernel) ?_
    exact W.iret (v := (-1)) hx hb hr (fun t ht hW => ⟨by rw [show pb_area X Y n a = _ from if_neg (by rw [q1]; decide)], ht⟩) (fun q h => by cases h) dX0_area_9
set_option maxHeartbeats 4000000 in
set_option maxRecDepth 100000 in
/-- the nearness at a pixel -/
theorem cC_near (l : Launch) (dC : Nat → ClassId) (dI : Nat → Nat → Nat) (h0 h1 h2 h3 : Nat) (k1 k2 k3 : ClassId) (X Y Z : Nat → Int32) (n : Nat) (hn : n ≤ 512) (a xi yi : Int32) : Met l yX0_near wsX0_near (k2_rm 4 104) (va_Pc [.ref h0, .int (a), .int (xi), .int (yi)] (preC dC dI h0 h1 h2 h3 k1 k2 k3 X Y Z n)) (k2_QcV (.int (pb_near X Y Z n a xi yi))) 0 0 (fun _ => False) := by
  refine Met.ofW (cc := cX0_near) (maxL := 4) (ret := some .int) (by decide) rfl ?_
  intro p e s m args below meth c s₁ B hml hv
  obtain ⟨rfl, hP, hK⟩ := hv
  have hx := B.exec
  have hb := B.bytes
  have hr := B.returns
  have hts := atoms_spec (ws := wsX0_near) B.pre
  have hown : s.vm.findClass RX0 = some m.cls := findClass_of_methodNamed B.named
  have hlocks := B.notSynchronized
  have hin0 : ∀ w ∈ u_ws RX0 TX0 4, w ∈ wsX0_near := by decide +kernel
  have hl := lv_entry ([.ref h0, .int (a), .int (xi), .int (yi)]) (n := 4) (Nat.le_of_ble_eq_true rfl)
  rw [lg_entry_eq]
  generalize (lg_sl ([.ref h0, .int (a), .int (xi), .int (yi)]) ++ List.replicate (4 - (lg_sl ([.ref h0, .int (a), .int (xi), .int (yi)])).length) Slot.unset).toArray = ls at hl ⊢
  have hl : lv_has ls 4 [(0, .ref h0), (1, .int (a)), (2, .int (xi)), (3, .int (yi))] := hl
  refine lv_aload_n hx hb dX0_near_0 rfl (lv_at hl 0 rfl) ?_
  refine lv_iload_n hx hb dX0_near_1 rfl (lv_at hl 1 rfl) ?_
  refine pb_call (W.runV (As := [.int (a)]) (rest := []) ⟨hx, hb, hml, hown, hts⟩ (cC_isPiece l dC dI h0 h1 h2 h3 k1 k2 k3 X Y Z n a) (cwV 1 hts gX0_near_X0_isPiece rfl rfl rfl (by decide +kernel) ⟨Nat.le_of_ble_eq_true rfl, Nat.le_of_ble_eq_true rfl⟩) (preC_V hP hK _) rfl rfl hl.1 rfl (lv_room (Nat.le_of_ble_eq_true rfl)) dX0_near_2 ⟨Nat.zero_le _, Nat.zero_le _⟩) ?_
  refine lv_if_eq (tgt := 24) hx hb dX0_near_5 (by decide) (fun q1 => ?_) (fun q1 => ?_)
  · -- no piece
    have q1 := pb_b_eq q1
    refine lv_iconst (v := (-1)) hx hb dX0_near_24 (by decide +kernel) ?_
    exact W.iret (v := (-1)) hx hb hr (fun t ht hW => ⟨by rw [show pb_near X Y Z n a xi yi = _ from if_neg (by rw [q1]; decide)], ht⟩) (fun q h => by cases h) dX0_near_25
  · -- a piece
    have q1 := pb_b_ne q1
    obtain ⟨j, hj, rfl⟩ := pb_isP_t hn q1
    refine lv_aload_n hx hb dX0_near_8 rfl (lv_at hl 0 rfl) ?_
    refine lv_iload_n hx hb dX0_near_9 rfl (lv_at hl 1 rfl) ?_
    refine lv_iload_n hx hb dX0_near_10 rfl (lv_at hl 2 rfl) ?_
    refine pb_call (W.runS (As := [.int (xi)]) (rest := [.int (nI (j)), .ref h0]) ⟨hx, hb, hml, hown, hts⟩ (cC_middle l xi) (va_cwS 1 hts gX0_near_X0_middle rfl rfl rfl (by decide +kernel) ⟨Nat.le_of_ble_eq_true rfl, Nat.le_of_ble_eq_true rfl⟩) pb_preS rfl rfl hl.1 rfl (lv_room (Nat.le_of_ble_eq_true rfl)) dX0_near_11 ⟨Nat.zero_le _, Nat.zero_le _⟩) ?_
    refine lv_iload_n hx hb dX0_near_14 rfl (lv_at hl 3 rfl) ?_
    refine pb_call (W.runS (As := [.int (yi)]) (rest := [.long (pb_mid xi), .int (nI (j)), .ref h0]) ⟨hx, hb, hml, hown, hts⟩ (cC_middle l yi) (va_cwS 1 hts gX0_near_X0_middle rfl rfl rfl (by decide +kernel) ⟨Nat.le_of_ble_eq_true rfl, Nat.le_of_ble_eq_true rfl⟩) pb_preS rfl rfl hl.1 rfl (lv_room (Nat.le_of_ble_eq_true rfl)) dX0_near_15 ⟨Nat.zero_le _, Nat.zero_le _⟩) ?_
    refine pb_call (W.runV (As := [.int (nI (j)), .long (pb_mid xi), .long (pb_mid yi)]) (rest := []) ⟨hx, hb, hml, hown, hts⟩ (cC_covers l dC dI h0 h1 h2 h3 k1 k2 k3 X Y Z n j (by omega) (pb_mid xi) (pb_mid yi)) (cwV 3 hts gX0_near_X0_covers rfl rfl rfl (by decide +kernel) ⟨Nat.le_of_ble_eq_true rfl, Nat.le_of_ble_eq_true rfl⟩) (preC_V hP hK _) rfl rfl hl.1 rfl (lv_room (Nat.le_of_ble_eq_true rfl)) dX0_near_18 ⟨Nat.zero_le _, Nat.zero_le _⟩) ?_
    refine lv_if_ne (tgt := 26) hx hb dX0_near_21 (by decide) (fun q2 => ?_) (fun q2 => ?_)
    · -- covered
      have q2 := pb_b_ne q2
      refine lv_aload_n hx hb dX0_near_26 rfl (lv_at hl 0 rfl) ?_
      refine lv_iload_n hx hb dX0_near_27 rfl (lv_at hl 1 rfl) ?_
      refine lv_iload_n hx hb dX0_near_28 rfl (lv_at hl 2 rfl) ?_
      refine pb_call (W.runS (As := [.int (xi)]) (rest := [.int (nI (j)), .ref h0]) ⟨hx, hb, hml, hown, hts⟩ (cC_middle l xi) (va_cwS 1 hts gX0_near_X0_middle rfl rfl rfl (by decide +kernel) ⟨Nat.le_of_ble_eq_true rfl, Nat.le_of_ble_eq_true rfl⟩) pb_preS rfl rfl hl.1 rfl (lv_room (Nat.le_of_ble_eq_true rfl)) dX0_near_29 ⟨Nat.zero_le _, Nat.zero_le _⟩) ?_
      refine lv_iload_n hx hb dX0_near_32 rfl (lv_at hl 3 rfl) ?_
      refine pb_call (W.runS (As := [.int (yi)]) (rest := [.long (pb_mid xi), .int (nI (j)), .ref h0]) ⟨hx, hb, hml, hown, hts⟩ (cC_middle l yi) (va_cwS 1 hts gX0_near_X0_middle rfl rfl rfl (by decide +kernel) ⟨Nat.le_of_ble_eq_true rfl, Nat.le_of_ble_eq_true rfl⟩) pb_preS rfl rfl hl.1 rfl (lv_room (Nat.le_of_ble_eq_true rfl)) dX0_near_33 ⟨Nat.zero_le _, Nat.zero_le _⟩) ?_
      refine pb_call (W.runV (As := [.int (nI (j)), .long (pb_mid xi), .long (pb_mid yi)]) (rest := []) ⟨hx, hb, hml, hown, hts⟩ (cC_nearnessOf l dC dI h0 h1 h2 h3 k1 k2 k3 X Y Z n j (by omega) (pb_mid xi) (pb_mid yi)) (cwV 3 hts gX0_near_X0_nearnessOf rfl rfl rfl (by decide +kernel) ⟨Nat.le_of_ble_eq_true rfl, Nat.le_of_ble_eq_true rfl⟩) (preC_V hP hK _) rfl rfl hl.1 rfl (lv_room (Nat.le_of_ble_eq_true rfl)) dX0_near_36 ⟨Nat.zero_le _, Nat.zero_le _⟩) ?_
      exact W.iret (v := (pb_nn X Y Z j (pb_mid xi) (pb_mid yi))) hx hb hr (fun t ht hW => ⟨by rw [pb_near_t hn hj, pb_nv, if_pos q2], ht⟩) (fun q h => by cases h) dX0_near_39
    · -- not covered
      have q2 := pb_b_eq q2
      refine lv_iconst (v := (-1)) hx hb dX0_near_24 (by decide +kernel) ?_
      exact W.iret (v := (-1)) hx hb hr (fun t ht hW => ⟨by rw [pb_near_t hn hj, pb_nv, if_neg (by rw [q2]; decide)], ht⟩) (fun q h => by cases h) dX0_near_25
set_option maxHeartbeats 4000000 in
set_option maxRecDepth 100000 in
/-- the nearest piece -/
theorem cC_nearest (l : Launch) (dC : Nat → ClassId) (dI : Nat → Nat → Nat) (h0 h1 h2 h3 : Nat) (k1 k2 k3 : ClassId) (X Y Z : Nat → Int32) (n : Nat) (hn : n ≤ 512) (xi yi : Int32) : Met l yX0_nearest wsX0_nearest (k2_rm 5 127) (va_Pc [.ref h0, .int (xi), .int (yi)] (preC dC dI h0 h1 h2 h3 k1 k2 k3 X Y Z n)) (k2_QcV (.int (pb_ns X Y Z xi yi n).1)) 0 0 (fun _ => False) := by
  refine Met.ofW (cc := cX0_nearest) (maxL := 7) (ret := some .int) (by decide) rfl ?_
  intro p e s m args below meth c s₁ B hml hv
  obtain ⟨rfl, hP, hK⟩ := hv
  have hx := B.exec
  have hb := B.bytes
  have hr := B.returns
  have hts := atoms_spec (ws := wsX0_nearest) B.pre
  have hown : s.vm.findClass RX0 = some m.cls := findClass_of_methodNamed B.named
  have hlocks := B.notSynchronized
  have hin0 : ∀ w ∈ u_ws RX0 TX0 4, w ∈ wsX0_nearest := by decide +kernel
  have hl := lv_entry ([.ref h0, .int (xi), .int (yi)]) (n := 7) (Nat.le_of_ble_eq_true rfl)
  rw [lg_entry_eq]
  generalize (lg_sl ([.ref h0, .int (xi), .int (yi)]) ++ List.replicate (7 - (lg_sl ([.ref h0, .int (xi), .int (yi)])).length) Slot.unset).toArray = ls at hl ⊢
  have hl : lv_has ls 7 [(0, .ref h0), (1, .int (xi)), (2, .int (yi))] := hl
  refine lv_iconst (v := (-1)) hx hb dX0_nearest_0 (by decide +kernel) ?_
  refine lv_istore_n (lv' := [(3, .int (-1)), (0, .ref h0), (1, .int (xi)), (2, .int (yi))]) hx hb dX0_nearest_1 rfl hl (by decide) rfl (fun ls hl => ?_)
  refine lv_iconst (v := (-1)) hx hb dX0_nearest_2 (by decide +kernel) ?_
  refine lv_istore (lv' := [(4, .int (-1)), (3, .int (-1)), (0, .ref h0), (1, .int (xi)), (2, .int (yi))]) hx hb dX0_nearest_3 hl (by decide) rfl (fun ls hl => ?_)
  refine lv_iconst (v := nI 0) hx hb dX0_nearest_5 (by decide +kernel) ?_
  refine lv_istore (lv' := [(5, .int (nI (0))), (4, .int (-1)), (3, .int (-1)), (0, .ref h0), (1, .int (xi)), (2, .int (yi))]) hx hb dX0_nearest_6 hl (by decide) rfl (fun ls hl => ?_)
  suffices loop : ∀ (d j : Nat), j + d = n → ∀ ls : Array Slot, lv_has ls 7 [(5, .int (nI (j))), (3, .int ((pb_ns X Y Z xi yi j).1)), (4, .int ((pb_ns X Y Z xi yi j).2)), (0, .ref h0), (1, .int (xi)), (2, .int (yi))] → W p l e (headSpec wsX0_nearest (k2_rm 5 127)).room s m ([.ref h0, .int (xi), .int (yi)] : List Value).toArray below meth c s.heap [] 0 0 (MQ below (k2_QcV (.int (pb_ns X Y Z xi yi n).1)) ([.ref h0, .int (xi), .int (yi)] : List Value).toArray s 0 0 (fun _ => False)) (F0 m 8 ls []) by
    exact loop n 0 (Nat.zero_add n) ls (lv_sub hl [0, 2, 1, 3, 4, 5] rfl)
  clear hl ls
  intro d
  induction d with
  | zero =>
    intro j hj ls hl
    have hj : j = n := by omega
    refine lv_iload hx hb dX0_nearest_8 (lv_at hl 0 rfl) ?_
    refine lv_aload_n hx hb dX0_nearest_10 rfl (lv_at hl 3 rfl) ?_
    refine va_get (D := (dC, dI)) (ci := 0) (v := .int (nI (n))) (C := RX0) (T := TX0) (N := 4) hx hb hts hin0 hown hK hP 0 rfl rfl 3 (by decide) (hts (.fieldLink RX0 19 "PieceBoxes" "pieces" "I") (by decide +kernel)) (fun _ h9 => h9) rfl dX0_nearest_11 ?_
    refine lv_icmp_ge (tgt := 47) hx hb dX0_nearest_14 (by decide) (fun q1 => ?_) (fun q1 => ?_)
    · -- the end
      refine lv_iload_n hx hb dX0_nearest_47 rfl (lv_at hl 1 rfl) ?_
      exact W.iret (v := ((pb_ns X Y Z xi yi j).1)) hx hb hr (fun t ht hW => ⟨by rw [hj], ht⟩) (fun q h => by cases h) dX0_nearest_48
    · exact absurd (nI_le (by omega) (by omega)) q1
  | succ d ih =>
    intro j hj ls hl
    refine lv_iload hx hb dX0_nearest_8 (lv_at hl 0 rfl) ?_
    refine lv_aload_n hx hb dX0_nearest_10 rfl (lv_at hl 3 rfl) ?_
    refine va_get (D := (dC, dI)) (ci := 0) (v := .int (nI (n))) (C := RX0) (T := TX0) (N := 4) hx hb hts hin0 hown hK hP 0 rfl rfl 3 (by decide) (hts (.fieldLink RX0 19 "PieceBoxes" "pieces" "I") (by decide +kernel)) (fun _ h9 => h9) rfl dX0_nearest_11 ?_
    refine lv_icmp_ge (tgt := 47) hx hb dX0_nearest_14 (by decide) (fun q1 => ?_) (fun q1 => ?_)
    · exact absurd q1 (nI_ge (by omega) (by omega))
    · -- piece j
      refine lv_aload_n hx hb dX0_nearest_17 rfl (lv_at hl 3 rfl) ?_
      refine lv_iload hx hb dX0_nearest_18 (lv_at hl 0 rfl) ?_
      refine lv_iload_n hx hb dX0_nearest_20 rfl (lv_at hl 4 rfl) ?_
      refine lv_iload_n hx hb dX0_nearest_21 rfl (lv_at hl 5 rfl) ?_
      refine pb_call (W.runV (As := [.int (nI (j)), .int (xi), .int (yi)]) (rest := []) ⟨hx, hb, hml, hown, hts⟩ (cC_near l dC dI h0 h1 h2 h3 k1 k2 k3 X Y Z n hn (nI j) xi yi) (cwV 3 hts gX0_nearest_X0_near rfl rfl rfl (by decide +kernel) ⟨Nat.le_of_ble_eq_true rfl, Nat.le_of_ble_eq_true rfl⟩) (preC_V hP hK _) rfl rfl hl.1 rfl (lv_room (Nat.le_of_ble_eq_true rfl)) dX0_nearest_22 ⟨Nat.zero_le _, Nat.zero_le _⟩) ?_
      refine pb_eqi (pb_near_t hn (by omega)) ?_
      refine lv_istore (lv' := [(6, .int (pb_nv X Y Z j xi yi)), (5, .int (nI (j))), (3, .int ((pb_ns X Y Z xi yi j).1)), (4, .int ((pb_ns X Y Z xi yi j).2)), (0, .ref h0), (1, .int (xi)), (2, .int (yi))]) hx hb dX0_nearest_25 hl (by decide) rfl (fun ls hl => ?_)
      refine lv_iload hx hb dX0_nearest_27 (lv_at hl 0 rfl) ?_
      refine lv_iload hx hb dX0_nearest_29 (lv_at hl 3 rfl) ?_
      refine lv_icmp_le (tgt := 41) hx hb dX0_nearest_31 (by decide) (fun q2 => ?_) (fun q2 => ?_)
      · -- not nearer
        refine lv_iinc (v := (nI (j + 1))) (lv' := [(5, .int (nI (j + 1))), (6, .int (pb_nv X Y Z j xi yi)), (3, .int ((pb_ns X Y Z xi yi j).1)), (4, .int ((pb_ns X Y Z xi yi j).2)), (0, .ref h0), (1, .int (xi)), (2, .int (yi))]) hx hb dX0_nearest_41 hl (k := 1) rfl (by exact (nI_1 (j))) (by decide) rfl (fun ls hl => ?_)
        refine lv_goto (tgt := 8) hx hb dX0_nearest_44 (by decide) ?_
        have hst : pb_ns X Y Z xi yi (j + 1) = _ := if_neg (Int32.not_lt.mpr q2)
        exact ih (j + 1) (by omega) ls (by rw [hst]; exact lv_sub hl [0, 2, 3, 4, 5, 6] rfl)
      · -- nearer
        refine lv_iload hx hb dX0_nearest_34 (lv_at hl 1 rfl) ?_
        refine lv_istore_n (lv' := [(3, .int (nI (j))), (6, .int (pb_nv X Y Z j xi yi)), (5, .int (nI (j))), (4, .int ((pb_ns X Y Z xi yi j).2)), (0, .ref h0), (1, .int (xi)), (2, .int (yi))]) hx hb dX0_nearest_36 rfl hl (by decide) rfl (fun ls hl => ?_)
        refine lv_iload hx hb dX0_nearest_37 (lv_at hl 1 rfl) ?_
        refine lv_istore (lv' := [(4, .int (pb_nv X Y Z j xi yi)), (3, .int (nI (j))), (6, .int (pb_nv X Y Z j xi yi)), (5, .int (nI (j))), (0, .ref h0), (1, .int (xi)), (2, .int (yi))]) hx hb dX0_nearest_39 hl (by decide) rfl (fun ls hl => ?_)
        refine lv_iinc (v := (nI (j + 1))) (lv' := [(5, .int (nI (j + 1))), (4, .int (pb_nv X Y Z j xi yi)), (3, .int (nI (j))), (6, .int (pb_nv X Y Z j xi yi)), (0, .ref h0), (1, .int (xi)), (2, .int (yi))]) hx hb dX0_nearest_41 hl (k := 3) rfl (by exact (nI_1 (j))) (by decide) rfl (fun ls hl => ?_)
        refine lv_goto (tgt := 8) hx hb dX0_nearest_44 (by decide) ?_
        have hst : pb_ns X Y Z xi yi (j + 1) = _ := if_pos (Int32.not_le.mp q2)
        exact ih (j + 1) (by omega) ls (by rw [hst]; exact lv_sub hl [0, 2, 1, 4, 5, 6] rfl)
set_option maxHeartbeats 4000000 in
set_option maxRecDepth 100000 in
/-- how many cover it -/
theorem cC_covering (l : Launch) (dC : Nat → ClassId) (dI : Nat → Nat → Nat) (h0 h1 h2 h3 : Nat) (k1 k2 k3 : ClassId) (X Y Z : Nat → Int32) (n : Nat) (hn : n ≤ 512) (xi yi : Int32) : Met l yX0_covering wsX0_covering (k2_rm 3 81) (va_Pc [.ref h0, .int (xi), .int (yi)] (preC dC dI h0 h1 h2 h3 k1 k2 k3 X Y Z n)) (k2_QcV (.int (pb_cv X Y (pb_mid xi) (pb_mid yi) n))) 0 0 (fun _ => False) := by
  refine Met.ofW (cc := cX0_covering) (maxL := 5) (ret := some .int) (by decide) rfl ?_
  intro p e s m args below meth c s₁ B hml hv
  obtain ⟨rfl, hP, hK⟩ := hv
  have hx := B.exec
  have hb := B.bytes
  have hr := B.returns
  have hts := atoms_spec (ws := wsX0_covering) B.pre
  have hown : s.vm.findClass RX0 = some m.cls := findClass_of_methodNamed B.named
  have hlocks := B.notSynchronized
  have hin0 : ∀ w ∈ u_ws RX0 TX0 4, w ∈ wsX0_covering := by decide +kernel
  have hl := lv_entry ([.ref h0, .int (xi), .int (yi)]) (n := 5) (Nat.le_of_ble_eq_true rfl)
  rw [lg_entry_eq]
  generalize (lg_sl ([.ref h0, .int (xi), .int (yi)]) ++ List.replicate (5 - (lg_sl ([.ref h0, .int (xi), .int (yi)])).length) Slot.unset).toArray = ls at hl ⊢
  have hl : lv_has ls 5 [(0, .ref h0), (1, .int (xi)), (2, .int (yi))] := hl
  refine lv_iconst (v := 0) hx hb dX0_covering_0 (by decide +kernel) ?_
  refine lv_istore_n (lv' := [(3, .int (0)), (0, .ref h0), (1, .int (xi)), (2, .int (yi))]) hx hb dX0_covering_1 rfl hl (by decide) rfl (fun ls hl => ?_)
  refine lv_iconst (v := nI 0) hx hb dX0_covering_2 (by decide +kernel) ?_
  refine lv_istore (lv' := [(4, .int (nI (0))), (3, .int (0)), (0, .ref h0), (1, .int (xi)), (2, .int (yi))]) hx hb dX0_covering_3 hl (by decide) rfl (fun ls hl => ?_)
  suffices loop : ∀ (d j : Nat), j + d = n → ∀ ls : Array Slot, lv_has ls 5 [(4, .int (nI (j))), (3, .int (pb_cv X Y (pb_mid xi) (pb_mid yi) j)), (0, .ref h0), (1, .int (xi)), (2, .int (yi))] → W p l e (headSpec wsX0_covering (k2_rm 3 81)).room s m ([.ref h0, .int (xi), .int (yi)] : List Value).toArray below meth c s.heap [] 0 0 (MQ below (k2_QcV (.int (pb_cv X Y (pb_mid xi) (pb_mid yi) n))) ([.ref h0, .int (xi), .int (yi)] : List Value).toArray s 0 0 (fun _ => False)) (F0 m 5 ls []) by
    exact loop n 0 (Nat.zero_add n) ls (lv_sub hl [0, 1, 2, 3, 4] rfl)
  clear hl ls
  intro d
  induction d with
  | zero =>
    intro j hj ls hl
    have hj : j = n := by omega
    refine lv_iload hx hb dX0_covering_5 (lv_at hl 0 rfl) ?_
    refine lv_aload_n hx hb dX0_covering_7 rfl (lv_at hl 2 rfl) ?_
    refine va_get (D := (dC, dI)) (ci := 0) (v := .int (nI (n))) (C := RX0) (T := TX0) (N := 4) hx hb hts hin0 hown hK hP 0 rfl rfl 3 (by decide) (hts (.fieldLink RX0 19 "PieceBoxes" "pieces" "I") (by decide +kernel)) (fun _ h9 => h9) rfl dX0_covering_8 ?_
    refine lv_icmp_ge (tgt := 40) hx hb dX0_covering_11 (by decide) (fun q1 => ?_) (fun q1 => ?_)
    · -- the end
      refine lv_iload_n hx hb dX0_covering_40 rfl (lv_at hl 1 rfl) ?_
      exact W.iret (v := (pb_cv X Y (pb_mid xi) (pb_mid yi) j)) hx hb hr (fun t ht hW => ⟨by rw [hj], ht⟩) (fun q h => by cases h) dX0_covering_41
    · exact absurd (nI_le (by omega) (by omega)) q1
  | succ d ih =>
    intro j hj ls hl
    refine lv_iload hx hb dX0_covering_5 (lv_at hl 0 rfl) ?_
    refine lv_aload_n hx hb dX0_covering_7 rfl (lv_at hl 2 rfl) ?_
    refine va_get (D := (dC, dI)) (ci := 0) (v := .int (nI (n))) (C := RX0) (T := TX0) (N := 4) hx hb hts hin0 hown hK hP 0 rfl rfl 3 (by decide) (hts (.fieldLink RX0 19 "PieceBoxes" "pieces" "I") (by decide +kernel)) (fun _ h9 => h9) rfl dX0_covering_8 ?_
    refine lv_icmp_ge (tgt := 40) hx hb dX0_covering_11 (by decide) (fun q1 => ?_) (fun q1 => ?_)
    · exact absurd q1 (nI_ge (by omega) (by omega))
    · -- piece j
      refine lv_aload_n hx hb dX0_covering_14 rfl (lv_at hl 2 rfl) ?_
      refine lv_iload hx hb dX0_covering_15 (lv_at hl 0 rfl) ?_
      refine lv_iload_n hx hb dX0_covering_17 rfl (lv_at hl 3 rfl) ?_
      refine pb_call (W.runS (As := [.int (xi)]) (rest := [.int (nI (j)), .ref h0]) ⟨hx, hb, hml, hown, hts⟩ (cC_middle l xi) (va_cwS 1 hts gX0_covering_X0_middle rfl rfl rfl (by decide +kernel) ⟨Nat.le_of_ble_eq_true rfl, Nat.le_of_ble_eq_true rfl⟩) pb_preS rfl rfl hl.1 rfl (lv_room (Nat.le_of_ble_eq_true rfl)) dX0_covering_18 ⟨Nat.zero_le _, Nat.zero_le _⟩) ?_
      refine lv_iload_n hx hb dX0_covering_21 rfl (lv_at hl 4 rfl) ?_
      refine pb_call (W.runS (As := [.int (yi)]) (rest := [.long (pb_mid xi), .int (nI (j)), .ref h0]) ⟨hx, hb, hml, hown, hts⟩ (cC_middle l yi) (va_cwS 1 hts gX0_covering_X0_middle rfl rfl rfl (by decide +kernel) ⟨Nat.le_of_ble_eq_true rfl, Nat.le_of_ble_eq_true rfl⟩) pb_preS rfl rfl hl.1 rfl (lv_room (Nat.le_of_ble_eq_true rfl)) dX0_covering_22 ⟨Nat.zero_le _, Nat.zero_le _⟩) ?_
      refine pb_call (W.runV (As := [.int (nI (j)), .long (pb_mid xi), .long (pb_mid yi)]) (rest := []) ⟨hx, hb, hml, hown, hts⟩ (cC_covers l dC dI h0 h1 h2 h3 k1 k2 k3 X Y Z n j (by omega) (pb_mid xi) (pb_mid yi)) (cwV 3 hts gX0_covering_X0_covers rfl rfl rfl (by decide +kernel) ⟨Nat.le_of_ble_eq_true rfl, Nat.le_of_ble_eq_true rfl⟩) (preC_V hP hK _) rfl rfl hl.1 rfl (lv_room (Nat.le_of_ble_eq_true rfl)) dX0_covering_25 ⟨Nat.zero_le _, Nat.zero_le _⟩) ?_
      refine lv_if_eq (tgt := 34) hx hb dX0_covering_28 (by decide) (fun q2 => ?_) (fun q2 => ?_)
      · -- not covered
        have q2 := pb_b_eq q2
        refine lv_iinc (v := (nI (j + 1))) (lv' := [(4, .int (nI (j + 1))), (3, .int (pb_cv X Y (pb_mid xi) (pb_mid yi) j)), (0, .ref h0), (1, .int (xi)), (2, .int (yi))]) hx hb dX0_covering_34 hl (k := 0) rfl (by exact (nI_1 (j))) (by decide) rfl (fun ls hl => ?_)
        refine lv_goto (tgt := 5) hx hb dX0_covering_37 (by decide) ?_
        have hst : pb_cv X Y (pb_mid xi) (pb_mid yi) (j + 1) = _ := if_neg (by rw [q2]; decide)
        exact ih (j + 1) (by omega) ls (by rw [hst]; exact lv_sub hl [0, 1, 2, 3, 4] rfl)
      · -- covered
        have q2 := pb_b_ne q2
        refine lv_iinc (v := (pb_cv X Y (pb_mid xi) (pb_mid yi) j + 1)) (lv' := [(3, .int (pb_cv X Y (pb_mid xi) (pb_mid yi) j + 1)), (4, .int (nI (j))), (0, .ref h0), (1, .int (xi)), (2, .int (yi))]) hx hb dX0_covering_31 hl (k := 1) rfl (by exact rfl) (by decide) rfl (fun ls hl => ?_)
        refine lv_iinc (v := (nI (j + 1))) (lv' := [(4, .int (nI (j + 1))), (3, .int (pb_cv X Y (pb_mid xi) (pb_mid yi) j + 1)), (0, .ref h0), (1, .int (xi)), (2, .int (yi))]) hx hb dX0_covering_34 hl (k := 1) rfl (by exact (nI_1 (j))) (by decide) rfl (fun ls hl => ?_)
        refine lv_goto (tgt := 5) hx hb dX0_covering_37 (by decide) ?_
        have hst : pb_cv X Y (pb_mid xi) (pb_mid yi) (j + 1) = _ := if_pos q2
        exact ih (j + 1) (by omega) ls (by rw [hst]; exact lv_sub hl [0, 1, 2, 3, 4] rfl)
set_option maxHeartbeats 4000000 in
set_option maxRecDepth 100000 in
/-- the next that covers it -/
theorem cC_next (l : Launch) (dC : Nat → ClassId) (dI : Nat → Nat → Nat) (h0 h1 h2 h3 : Nat) (k1 k2 k3 : ClassId) (X Y Z : Nat → Int32) (n : Nat) (hn : n ≤ 512) (xi yi fr : Int32) : Met l yX0_next wsX0_next (k2_rm 3 81) (va_Pc [.ref h0, .int (xi), .int (yi), .int (fr)] (preC dC dI h0 h1 h2 h3 k1 k2 k3 X Y Z n)) (k2_QcV (.int (pb_next X Y (pb_mid xi) (pb_mid yi) n fr))) 0 0 (fun _ => False) := by
  refine Met.ofW (cc := cX0_next) (maxL := 5) (ret := some .int) (by decide) rfl ?_
  intro p e s m args below meth c s₁ B hml hv
  obtain ⟨rfl, hP, hK⟩ := hv
  have hx := B.exec
  have hb := B.bytes
  have hr := B.returns
  have hts := atoms_spec (ws := wsX0_next) B.pre
  have hown : s.vm.findClass RX0 = some m.cls := findClass_of_methodNamed B.named
  have hlocks := B.notSynchronized
  have hin0 : ∀ w ∈ u_ws RX0 TX0 4, w ∈ wsX0_next := by decide +kernel
  have hl := lv_entry ([.ref h0, .int (xi), .int (yi), .int (fr)]) (n := 5) (Nat.le_of_ble_eq_true rfl)
  rw [lg_entry_eq]
  generalize (lg_sl ([.ref h0, .int (xi), .int (yi), .int (fr)]) ++ List.replicate (5 - (lg_sl ([.ref h0, .int (xi), .int (yi), .int (fr)])).length) Slot.unset).toArray = ls at hl ⊢
  have hl : lv_has ls 5 [(0, .ref h0), (1, .int (xi)), (2, .int (yi)), (3, .int (fr))] := hl
  refine lv_iload_n hx hb dX0_next_0 rfl (lv_at hl 3 rfl) ?_
  refine lv_iconst (v := 0) hx hb dX0_next_1 (by decide +kernel) ?_
  refine va_mmax hx hb (hml.trans hl.1.symm) hown (hts (.methodLink RX0 50 Lib.Math.max.name) (by decide +kernel)) (hts (.static Lib.Math.max.name) (by decide +kernel)) (hts (.initialized "java/lang/Math") (by decide +kernel)) (hts (.code Lib.Math.max.name Lib.Math.max.code 2 (some .int)) (List.mem_cons_of_mem _ (List.mem_append_left _ (List.mem_append_left _ (List.mem_of_getElem? (i := 3) rfl))))) (Nat.le_of_ble_eq_true rfl) (Nat.le_of_ble_eq_true rfl) (Nat.zero_le _) (Nat.zero_le _) dX0_next_2 ?_
  obtain ⟨i0, hi0, ei0⟩ := pb_max fr
  refine pb_eqi ei0 ?_
  refine lv_istore (lv' := [(4, .int (nI (i0))), (0, .ref h0), (1, .int (xi)), (2, .int (yi)), (3, .int (fr))]) hx hb dX0_next_5 hl (by decide) rfl (fun ls hl => ?_)
  suffices loop : ∀ (d j : Nat), j < 2 ^ 31 → n - j = d → pb_next X Y (pb_mid xi) (pb_mid yi) n fr = pb_nx X Y (pb_mid xi) (pb_mid yi) d j → ∀ ls : Array Slot, lv_has ls 5 [(4, .int (nI (j))), (0, .ref h0), (1, .int (xi)), (2, .int (yi))] → W p l e (headSpec wsX0_next (k2_rm 3 81)).room s m ([.ref h0, .int (xi), .int (yi), .int (fr)] : List Value).toArray below meth c s.heap [] 0 0 (MQ below (k2_QcV (.int (pb_next X Y (pb_mid xi) (pb_mid yi) n fr))) ([.ref h0, .int (xi), .int (yi), .int (fr)] : List Value).toArray s 0 0 (fun _ => False)) (F0 m 7 ls []) by
    exact loop _ i0 hi0 rfl (pb_next_of ei0 hi0) ls (lv_sub hl [0, 1, 2, 3] rfl)
  clear hl ls ei0 hi0
  intro d
  induction d with
  | zero =>
    intro j hj hd hv ls hl
    refine lv_iload hx hb dX0_next_7 (lv_at hl 0 rfl) ?_
    refine lv_aload_n hx hb dX0_next_9 rfl (lv_at hl 1 rfl) ?_
    refine va_get (D := (dC, dI)) (ci := 0) (v := .int (nI (n))) (C := RX0) (T := TX0) (N := 4) hx hb hts hin0 hown hK hP 0 rfl rfl 3 (by decide) (hts (.fieldLink RX0 19 "PieceBoxes" "pieces" "I") (by decide +kernel)) (fun _ h9 => h9) rfl dX0_next_10 ?_
    refine lv_icmp_ge (tgt := 42) hx hb dX0_next_13 (by decide) (fun q1 => ?_) (fun q1 => ?_)
    · -- the end
      refine lv_iconst (v := (-1)) hx hb dX0_next_42 (by decide +kernel) ?_
      exact W.iret (v := (-1)) hx hb hr (fun t ht hW => ⟨by rw [hv]; rfl, ht⟩) (fun q h => by cases h) dX0_next_43
    · exact absurd (nI_le (by omega) hj) q1
  | succ d ih =>
    intro j hj hd hv ls hl
    refine lv_iload hx hb dX0_next_7 (lv_at hl 0 rfl) ?_
    refine lv_aload_n hx hb dX0_next_9 rfl (lv_at hl 1 rfl) ?_
    refine va_get (D := (dC, dI)) (ci := 0) (v := .int (nI (n))) (C := RX0) (T := TX0) (N := 4) hx hb hts hin0 hown hK hP 0 rfl rfl 3 (by decide) (hts (.fieldLink RX0 19 "PieceBoxes" "pieces" "I") (by decide +kernel)) (fun _ h9 => h9) rfl dX0_next_10 ?_
    refine lv_icmp_ge (tgt := 42) hx hb dX0_next_13 (by decide) (fun q1 => ?_) (fun q1 => ?_)
    · exact absurd q1 (nI_ge (by omega) (by omega))
    · -- piece j
      refine lv_aload_n hx hb dX0_next_16 rfl (lv_at hl 1 rfl) ?_
      refine lv_iload hx hb dX0_next_17 (lv_at hl 0 rfl) ?_
      refine lv_iload_n hx hb dX0_next_19 rfl (lv_at hl 2 rfl) ?_
      refine pb_call (W.runS (As := [.int (xi)]) (rest := [.int (nI (j)), .ref h0]) ⟨hx, hb, hml, hown, hts⟩ (cC_middle l xi) (va_cwS 1 hts gX0_next_X0_middle rfl rfl rfl (by decide +kernel) ⟨Nat.le_of_ble_eq_true rfl, Nat.le_of_ble_eq_true rfl⟩) pb_preS rfl rfl hl.1 rfl (lv_room (Nat.le_of_ble_eq_true rfl)) dX0_next_20 ⟨Nat.zero_le _, Nat.zero_le _⟩) ?_
      refine lv_iload_n hx hb dX0_next_23 rfl (lv_at hl 3 rfl) ?_
      refine pb_call (W.runS (As := [.int (yi)]) (rest := [.long (pb_mid xi), .int (nI (j)), .ref h0]) ⟨hx, hb, hml, hown, hts⟩ (cC_middle l yi) (va_cwS 1 hts gX0_next_X0_middle rfl rfl rfl (by decide +kernel) ⟨Nat.le_of_ble_eq_true rfl, Nat.le_of_ble_eq_true rfl⟩) pb_preS rfl rfl hl.1 rfl (lv_room (Nat.le_of_ble_eq_true rfl)) dX0_next_24 ⟨Nat.zero_le _, Nat.zero_le _⟩) ?_
      refine pb_call (W.runV (As := [.int (nI (j)), .long (pb_mid xi), .long (pb_mid yi)]) (rest := []) ⟨hx, hb, hml, hown, hts⟩ (cC_covers l dC dI h0 h1 h2 h3 k1 k2 k3 X Y Z n j (by omega) (pb_mid xi) (pb_mid yi)) (cwV 3 hts gX0_next_X0_covers rfl rfl rfl (by decide +kernel) ⟨Nat.le_of_ble_eq_true rfl, Nat.le_of_ble_eq_true rfl⟩) (preC_V hP hK _) rfl rfl hl.1 rfl (lv_room (Nat.le_of_ble_eq_true rfl)) dX0_next_27 ⟨Nat.zero_le _, Nat.zero_le _⟩) ?_
      refine lv_if_eq (tgt := 36) hx hb dX0_next_30 (by decide) (fun q2 => ?_) (fun q2 => ?_)
      · -- not covered
        have q2 := pb_b_eq q2
        refine lv_iinc (v := (nI (j + 1))) (lv' := [(4, .int (nI (j + 1))), (0, .ref h0), (1, .int (xi)), (2, .int (yi))]) hx hb dX0_next_36 hl (k := 0) rfl (by exact (nI_1 (j))) (by decide) rfl (fun ls hl => ?_)
        refine lv_goto (tgt := 7) hx hb dX0_next_39 (by decide) ?_
        exact ih (j + 1) (by omega) (by omega) (by rw [hv]; exact if_neg (by rw [q2]; decide)) ls (lv_sub hl [0, 1, 2, 3] rfl)
      · -- covered
        have q2 := pb_b_ne q2
        refine lv_iload hx hb dX0_next_33 (lv_at hl 0 rfl) ?_
        exact W.iret (v := (nI (j))) hx hb hr (fun t ht hW => ⟨by rw [hv, show pb_nx X Y (pb_mid xi) (pb_mid yi) (d + 1) j = _ from if_pos q2], ht⟩) (fun q h => by cases h) dX0_next_35
end
section
set_option maxHeartbeats 4000000 in
set_option maxRecDepth 100000 in
/-- no pieces -/
theorem cC_clear (l : Launch) (dC : Nat → ClassId) (dI : Nat → Nat → Nat) (h0 h1 h2 h3 : Nat) (k1 k2 k3 : ClassId) (X Y Z : Nat → Int32) (n : Nat) (sz : Nat)  : Met l yX0_clear wsX0_clear ({ frames := 0, cells := 0, slots := 0, locals := 0 }) (va_Pc [.ref h0] (fun U => U.heap.size = sz ∧ va_P (dC, dI) vwCl (wC h0 h1 h2 h3 k1 k2 k3 X Y Z n) U.heap ∧ va_K (dC, dI) vwCl (tC k1 k2 k3) U ∧ va_D (fun _ => True) (wC h0 h1 h2 h3 k1 k2 k3 X Y Z n))) (va_Qv (fun (_ : Unit) => True) (fun (_ : Unit) (t : State) => va_P (dC, dI) vwCl (wC h0 h1 h2 h3 k1 k2 k3 X Y Z 0) t.heap ∧ va_D (va_A (wC h0 h1 h2 h3 k1 k2 k3 X Y Z n) sz) (wC h0 h1 h2 h3 k1 k2 k3 X Y Z 0)) (va_A (wC h0 h1 h2 h3 k1 k2 k3 X Y Z n) sz)) 0 0 (va_A (wC h0 h1 h2 h3 k1 k2 k3 X Y Z n) sz) := by
  refine Met.ofW (cc := cX0_clear) (maxL := 1) (ret := none) (by decide) rfl ?_
  intro p e s m args below meth c s₁ B hml hv
  obtain ⟨rfl, hsz, hP, hK, hD0⟩ := hv
  have hx := B.exec
  have hb := B.bytes
  have hr := B.returns
  have hts := atoms_spec (ws := wsX0_clear) B.pre
  have hown : s.vm.findClass RX0 = some m.cls := findClass_of_methodNamed B.named
  have hlocks := B.notSynchronized
  have hin0 : ∀ w ∈ u_ws RX0 TX0 4, w ∈ wsX0_clear := by decide +kernel
  subst hsz
  have hD := hD0.self (sz := s.heap.size)
  generalize hAe : va_A (wC h0 h1 h2 h3 k1 k2 k3 X Y Z n) s.heap.size = A at hD ⊢
  have hA : ∀ q : Nat, s.heap.size ≤ q → A q := fun q h => by rw [← hAe]; exact Or.inr h
  have hS : va_S A s.heap s.heap [] := va_S.rf
  have hl := lv_entry ([.ref h0]) (n := 1) (Nat.le_of_ble_eq_true rfl)
  rw [lg_entry_eq]
  generalize (lg_sl ([.ref h0]) ++ List.replicate (1 - (lg_sl ([.ref h0])).length) Slot.unset).toArray = ls at hl ⊢
  have hl : lv_has ls 1 [(0, .ref h0)] := hl
  refine lv_aload_n hx hb dX0_clear_0 rfl (lv_at hl 0 rfl) ?_
  refine lv_iconst (v := nI 0) hx hb dX0_clear_1 (by decide +kernel) ?_
  refine va_put (D := (dC, dI)) (ci := 0) (v := .int (nI (0))) (ty := .int) (C := RX0) (T := TX0) (N := 4) hx hb hts hin0 tyX0 tyX0_ok nmX0 hown hK hP hD hS 0 rfl rfl 3 (by decide) (hts (.fieldLink RX0 19 "PieceBoxes" "pieces" "I") (by decide +kernel)) (fun _ h9 => h9) rfl (by decide +kernel) rfl rfl (Nat.le_of_ble_eq_true rfl) dX0_clear_2 (fun H locs hP hD hS => ?_)
  have hP : va_P (dC, dI) vwCl [(h0, .inr (0, [.ref h1, .ref h2, .ref h3, .int (nI (0))])), (h1, .inl (k1, 1539, .inl (X))), (h2, .inl (k2, 1539, .inl (Y))), (h3, .inl (k3, 1539, .inl (Z)))] H := hP
  have hD : va_D A [(h0, .inr (0, [.ref h1, .ref h2, .ref h3, .int (nI (0))])), (h1, .inl (k1, 1539, .inl (X))), (h2, .inl (k2, 1539, .inl (Y))), (h3, .inl (k3, 1539, .inl (Z)))] := hD
  exact W.vret hx hb hr (fun t ht hW => ⟨⟨(), rfl, trivial, by rw [ht]; exact hP, hD⟩, hS.F ht⟩) hS.2.2 dX0_clear_5
set_option maxHeartbeats 4000000 in
set_option maxRecDepth 100000 in
/-- a corner of the text -/
theorem cC_corner (l : Launch) (dC : Nat → ClassId) (dI : Nat → Nat → Nat) (h0 h1 h2 h3 : Nat) (k1 k2 k3 : ClassId) (X Y Z : Nat → Int32) (n : Nat) (sz : Nat) (ck cx cy cr : Int32) : Met l yX0_corner wsX0_corner ({ frames := 1, cells := 0, slots := 0, locals := 20 }) (va_Pc [.ref h0, .int (ck), .int (cx), .int (cy), .int (cr)] (fun U => U.heap.size = sz ∧ va_P (dC, dI) vwCl (wC h0 h1 h2 h3 k1 k2 k3 X Y Z n) U.heap ∧ va_K (dC, dI) vwCl (tC k1 k2 k3) U ∧ va_D (fun _ => True) (wC h0 h1 h2 h3 k1 k2 k3 X Y Z n))) (va_Qi (fun (r0 : Int32) (_ : Unit) => r0 = pb_b (pb_ok ck cx cy cr)) (fun (_ : Unit) (t : State) => va_P (dC, dI) vwCl (wC h0 h1 h2 h3 k1 k2 k3 (pb_up (pb_ok ck cx cy cr) X (1536 + ck.toNatClampNeg) cx) (pb_up (pb_ok ck cx cy cr) Y (1536 + ck.toNatClampNeg) cy) (pb_up (pb_ok ck cx cy cr) Z (1536 + ck.toNatClampNeg) cr) n) t.heap ∧ va_D (va_A (wC h0 h1 h2 h3 k1 k2 k3 X Y Z n) sz) (wC h0 h1 h2 h3 k1 k2 k3 (pb_up (pb_ok ck cx cy cr) X (1536 + ck.toNatClampNeg) cx) (pb_up (pb_ok ck cx cy cr) Y (1536 + ck.toNatClampNeg) cy) (pb_up (pb_ok ck cx cy cr) Z (1536 + ck.toNatClampNeg) cr) n)) (va_A (wC h0 h1 h2 h3 k1 k2 k3 X Y Z n) sz)) 0 0 (va_A (wC h0 h1 h2 h3 k1 k2 k3 X Y Z n) sz) := by
  refine Met.ofW (cc := cX0_corner) (maxL := 6) (ret := some .boolean) (by decide) rfl ?_
  intro p e s m args below meth c s₁ B hml hv
  obtain ⟨rfl, hsz, hP, hK, hD0⟩ := hv
  have hx := B.exec
  have hb := B.bytes
  have hr := B.returns
  have hts := atoms_spec (ws := wsX0_corner) B.pre
  have hown : s.vm.findClass RX0 = some m.cls := findClass_of_methodNamed B.named
  have hlocks := B.notSynchronized
  have hin0 : ∀ w ∈ u_ws RX0 TX0 4, w ∈ wsX0_corner := by decide +kernel
  subst hsz
  have hD := hD0.self (sz := s.heap.size)
  generalize hAe : va_A (wC h0 h1 h2 h3 k1 k2 k3 X Y Z n) s.heap.size = A at hD ⊢
  have hA : ∀ q : Nat, s.heap.size ≤ q → A q := fun q h => by rw [← hAe]; exact Or.inr h
  have hS : va_S A s.heap s.heap [] := va_S.rf
  have hl := lv_entry ([.ref h0, .int (ck), .int (cx), .int (cy), .int (cr)]) (n := 6) (Nat.le_of_ble_eq_true rfl)
  rw [lg_entry_eq]
  generalize (lg_sl ([.ref h0, .int (ck), .int (cx), .int (cy), .int (cr)]) ++ List.replicate (6 - (lg_sl ([.ref h0, .int (ck), .int (cx), .int (cy), .int (cr)])).length) Slot.unset).toArray = ls at hl ⊢
  have hl : lv_has ls 6 [(0, .ref h0), (1, .int (ck)), (2, .int (cx)), (3, .int (cy)), (4, .int (cr))] := hl
  refine lv_iload_n hx hb dX0_corner_0 rfl (lv_at hl 1 rfl) ?_
  refine lv_if_lt (tgt := 9) hx hb dX0_corner_1 (by decide) (fun q1 => ?_) (fun q1 => ?_)
  · -- k below 0
    have hok : (pb_ok ck cx cy cr) = false := by simp [pb_ok, Int32.not_le.mpr q1]
    refine lv_iconst (v := 0) hx hb dX0_corner_9 (by decide +kernel) ?_
    exact W.zret (v := (0)) hx hb hr narrow_b0 (fun t ht hW => ⟨⟨(0), (), rfl, by rw [hok]; rfl, by rw [hok]; rw [ht]; exact hP, by rw [hok]; exact hD⟩, hS.F ht⟩) hS.2.2 dX0_corner_10
  · -- k not below 0
    refine lv_iload_n hx hb dX0_corner_4 rfl (lv_at hl 1 rfl) ?_
    refine lv_iconst (v := nI 3) hx hb dX0_corner_5 (by decide +kernel) ?_
    refine lv_icmp_lt (tgt := 11) hx hb dX0_corner_6 (by decide) (fun q2 => ?_) (fun q2 => ?_)
    · -- k is 0 .. 2
      obtain ⟨kn, hkn, rfl⟩ := nI_of q1
      have hk3 : kn < 3 := (nI_ltI hkn (by decide)).mp q2
      refine lv_iload_n hx hb dX0_corner_11 rfl (lv_at hl 2 rfl) ?_
      refine pb_call (W.runS (As := [.int (cx)]) (rest := []) ⟨hx, hb, hml, hown, hts⟩ (cC_isOnGrid l cx) (va_cwS 1 hts gX0_corner_X0_isOnGrid rfl rfl rfl (by decide +kernel) ⟨Nat.le_of_ble_eq_true rfl, Nat.le_of_ble_eq_true rfl⟩) pb_preS rfl rfl hl.1 rfl (lv_room (Nat.le_of_ble_eq_true rfl)) dX0_corner_12 ⟨Nat.zero_le _, Nat.zero_le _⟩) ?_
      refine lv_if_eq (tgt := 38) hx hb dX0_corner_15 (by decide) (fun q3 => ?_) (fun q3 => ?_)
      · -- cx is off the grid
        have q3 := pb_b_eq q3
        have hok : (pb_ok (nI kn) cx cy cr) = false := by simp [pb_ok, q3]
        refine lv_iconst (v := 0) hx hb dX0_corner_38 (by decide +kernel) ?_
        exact W.zret (v := (0)) hx hb hr narrow_b0 (fun t ht hW => ⟨⟨(0), (), rfl, by rw [hok]; rfl, by rw [hok]; rw [ht]; exact hP, by rw [hok]; exact hD⟩, hS.F ht⟩) hS.2.2 dX0_corner_39
      · -- cx is on it
        have q3 := pb_b_ne q3
        refine lv_iload_n hx hb dX0_corner_18 rfl (lv_at hl 3 rfl) ?_
        refine pb_call (W.runS (As := [.int (cy)]) (rest := []) ⟨hx, hb, hml, hown, hts⟩ (cC_isOnGrid l cy) (va_cwS 1 hts gX0_corner_X0_isOnGrid rfl rfl rfl (by decide +kernel) ⟨Nat.le_of_ble_eq_true rfl, Nat.le_of_ble_eq_true rfl⟩) pb_preS rfl rfl hl.1 rfl (lv_room (Nat.le_of_ble_eq_true rfl)) dX0_corner_19 ⟨Nat.zero_le _, Nat.zero_le _⟩) ?_
        refine lv_if_eq (tgt := 38) hx hb dX0_corner_22 (by decide) (fun q4 => ?_) (fun q4 => ?_)
        · -- cy is off the grid
          have q4 := pb_b_eq q4
          have hok : (pb_ok (nI kn) cx cy cr) = false := by simp [pb_ok, q4]
          refine lv_iconst (v := 0) hx hb dX0_corner_38 (by decide +kernel) ?_
          exact W.zret (v := (0)) hx hb hr narrow_b0 (fun t ht hW => ⟨⟨(0), (), rfl, by rw [hok]; rfl, by rw [hok]; rw [ht]; exact hP, by rw [hok]; exact hD⟩, hS.F ht⟩) hS.2.2 dX0_corner_39
        · -- cy is on it
          have q4 := pb_b_ne q4
          refine lv_iload hx hb dX0_corner_25 (lv_at hl 4 rfl) ?_
          refine lv_iconst (v := 1) hx hb dX0_corner_27 (by decide +kernel) ?_
          refine lv_icmp_lt (tgt := 38) hx hb dX0_corner_28 (by decide) (fun q5 => ?_) (fun q5 => ?_)
          · -- r below 1
            have hok : (pb_ok (nI kn) cx cy cr) = false := by simp [pb_ok, Int32.not_le.mpr q5]
            refine lv_iconst (v := 0) hx hb dX0_corner_38 (by decide +kernel) ?_
            exact W.zret (v := (0)) hx hb hr narrow_b0 (fun t ht hW => ⟨⟨(0), (), rfl, by rw [hok]; rfl, by rw [hok]; rw [ht]; exact hP, by rw [hok]; exact hD⟩, hS.F ht⟩) hS.2.2 dX0_corner_39
          · -- r from 1 on
            refine lv_iload hx hb dX0_corner_31 (lv_at hl 4 rfl) ?_
            refine lv_ldc (v := 1048576) hx hb hown (hts (.constant RX0 27 1048576) (by decide +kernel)) dX0_corner_33 ?_
            refine lv_icmp_le (tgt := 40) hx hb dX0_corner_35 (by decide) (fun q6 => ?_) (fun q6 => ?_)
            · -- r is right
              have hok : (pb_ok (nI kn) cx cy cr) = true := by simp [pb_ok, q3, q4, Int32.not_lt.mp q5, q6, nI_pos' (show kn < 2 ^ 31 by omega), (nI_ltI (show kn < 2 ^ 31 by omega) (show 3 < 2 ^ 31 by decide)).mpr hk3, show (3 : Int32) = nI 3 from rfl]
              refine lv_sipush (v := nI 1536) hx hb dX0_corner_40 (by decide +kernel) ?_
              refine lv_iload_n hx hb dX0_corner_43 rfl (lv_at hl 1 rfl) ?_
              refine lv_iadd hx hb dX0_corner_44 ?_
              refine pb_eqi (nI_add _ _) ?_
              refine lv_istore (lv' := [(5, .int (nI (1536 + kn))), (0, .ref h0), (1, .int (nI (kn))), (2, .int (cx)), (3, .int (cy)), (4, .int (cr))]) hx hb dX0_corner_45 hl (by decide) rfl (fun ls hl => ?_)
              refine lv_aload_n hx hb dX0_corner_47 rfl (lv_at hl 1 rfl) ?_
              refine va_get (D := (dC, dI)) (ci := 0) (v := .ref h1) (C := RX0) (T := TX0) (N := 4) hx hb hts hin0 hown hK hP 0 rfl rfl 0 (by decide) (hts (.fieldLink RX0 9 "PieceBoxes" "xs" "[I") (by decide +kernel)) (fun _ h9 => h9) rfl dX0_corner_48 ?_
              refine lv_iload hx hb dX0_corner_51 (lv_at hl 0 rfl) ?_
              refine lv_iload_n hx hb dX0_corner_53 rfl (lv_at hl 3 rfl) ?_
              refine pb_ast (j := 1536 + kn) hx hb hK hP hD hS 1 0 rfl rfl (by omega) (by decide) dX0_corner_54 (fun H locs hP hD hS => ?_)
              have hP : va_P (dC, dI) vwCl [(h0, .inr (0, [.ref h1, .ref h2, .ref h3, .int (nI (n))])), (h1, .inl (k1, 1539, .inl (upd X (1536 + kn) (cx)))), (h2, .inl (k2, 1539, .inl (Y))), (h3, .inl (k3, 1539, .inl (Z)))] H := hP
              have hD : va_D A [(h0, .inr (0, [.ref h1, .ref h2, .ref h3, .int (nI (n))])), (h1, .inl (k1, 1539, .inl (upd X (1536 + kn) (cx)))), (h2, .inl (k2, 1539, .inl (Y))), (h3, .inl (k3, 1539, .inl (Z)))] := hD
              refine lv_aload_n hx hb dX0_corner_55 rfl (lv_at hl 1 rfl) ?_
              refine va_get (D := (dC, dI)) (ci := 0) (v := .ref h2) (C := RX0) (T := TX0) (N := 4) hx hb hts hin0 hown hK hP 0 rfl rfl 1 (by decide) (hts (.fieldLink RX0 13 "PieceBoxes" "ys" "[I") (by decide +kernel)) (fun _ h9 => h9) rfl dX0_corner_56 ?_
              refine lv_iload hx hb dX0_corner_59 (lv_at hl 0 rfl) ?_
              refine lv_iload_n hx hb dX0_corner_61 rfl (lv_at hl 4 rfl) ?_
              refine pb_ast (j := 1536 + kn) hx hb hK hP hD hS 2 1 rfl rfl (by omega) (by decide) dX0_corner_62 (fun H locs hP hD hS => ?_)
              have hP : va_P (dC, dI) vwCl [(h0, .inr (0, [.ref h1, .ref h2, .ref h3, .int (nI (n))])), (h1, .inl (k1, 1539, .inl (upd X (1536 + kn) (cx)))), (h2, .inl (k2, 1539, .inl (upd Y (1536 + kn) (cy)))), (h3, .inl (k3, 1539, .inl (Z)))] H := hP
              have hD : va_D A [(h0, .inr (0, [.ref h1, .ref h2, .ref h3, .int (nI (n))])), (h1, .inl (k1, 1539, .inl (upd X (1536 + kn) (cx)))), (h2, .inl (k2, 1539, .inl (upd Y (1536 + kn) (cy)))), (h3, .inl (k3, 1539, .inl (Z)))] := hD
              refine lv_aload_n hx hb dX0_corner_63 rfl (lv_at hl 1 rfl) ?_
              refine va_get (D := (dC, dI)) (ci := 0) (v := .ref h3) (C := RX0) (T := TX0) (N := 4) hx hb hts hin0 hown hK hP 0 rfl rfl 2 (by decide) (hts (.fieldLink RX0 16 "PieceBoxes" "rs" "[I") (by decide +kernel)) (fun _ h9 => h9) rfl dX0_corner_64 ?_
              refine lv_iload hx hb dX0_corner_67 (lv_at hl 0 rfl) ?_
              refine lv_iload hx hb dX0_corner_69 (lv_at hl 5 rfl) ?_
              refine pb_ast (j := 1536 + kn) hx hb hK hP hD hS 3 2 rfl rfl (by omega) (by decide) dX0_corner_71 (fun H locs hP hD hS => ?_)
              have hP : va_P (dC, dI) vwCl [(h0, .inr (0, [.ref h1, .ref h2, .ref h3, .int (nI (n))])), (h1, .inl (k1, 1539, .inl (upd X (1536 + kn) (cx)))), (h2, .inl (k2, 1539, .inl (upd Y (1536 + kn) (cy)))), (h3, .inl (k3, 1539, .inl (upd Z (1536 + kn) (cr))))] H := hP
              have hD : va_D A [(h0, .inr (0, [.ref h1, .ref h2, .ref h3, .int (nI (n))])), (h1, .inl (k1, 1539, .inl (upd X (1536 + kn) (cx)))), (h2, .inl (k2, 1539, .inl (upd Y (1536 + kn) (cy)))), (h3, .inl (k3, 1539, .inl (upd Z (1536 + kn) (cr))))] := hD
              refine lv_iconst (v := 1) hx hb dX0_corner_72 (by decide +kernel) ?_
              exact W.zret (v := (1)) hx hb hr narrow_b1 (fun t ht hW => ⟨⟨(1), (), rfl, by rw [hok]; rfl, by rw [hok, nI_clamp (show kn < 2 ^ 31 by omega)]; rw [ht]; exact hP, by rw [hok, nI_clamp (show kn < 2 ^ 31 by omega)]; exact hD⟩, hS.F ht⟩) hS.2.2 dX0_corner_73
            · -- r above
              have hok : (pb_ok (nI kn) cx cy cr) = false := by simp [pb_ok, q6]
              refine lv_iconst (v := 0) hx hb dX0_corner_38 (by decide +kernel) ?_
              exact W.zret (v := (0)) hx hb hr narrow_b0 (fun t ht hW => ⟨⟨(0), (), rfl, by rw [hok]; rfl, by rw [hok]; rw [ht]; exact hP, by rw [hok]; exact hD⟩, hS.F ht⟩) hS.2.2 dX0_corner_39
    · -- k from 3 on
      have q2 : ¬ ck < 3 := q2
      have hok : (pb_ok ck cx cy cr) = false := by simp [pb_ok, q2]
      refine lv_iconst (v := 0) hx hb dX0_corner_9 (by decide +kernel) ?_
      exact W.zret (v := (0)) hx hb hr narrow_b0 (fun t ht hW => ⟨⟨(0), (), rfl, by rw [hok]; rfl, by rw [hok]; rw [ht]; exact hP, by rw [hok]; exact hD⟩, hS.F ht⟩) hS.2.2 dX0_corner_10
set_option maxHeartbeats 4000000 in
set_option maxRecDepth 100000 in
/-- a piece more -/
theorem cC_add (l : Launch) (dC : Nat → ClassId) (dI : Nat → Nat → Nat) (h0 h1 h2 h3 : Nat) (k1 k2 k3 : ClassId) (X Y Z : Nat → Int32) (n : Nat) (sz : Nat) (hn : n ≤ 512) : Met l yX0_add wsX0_add ({ frames := 3, cells := 0, slots := 0, locals := 75 }) (va_Pc [.ref h0] (fun U => U.heap.size = sz ∧ va_P (dC, dI) vwCl (wC h0 h1 h2 h3 k1 k2 k3 X Y Z n) U.heap ∧ va_K (dC, dI) vwCl (tC k1 k2 k3) U ∧ va_D (fun _ => True) (wC h0 h1 h2 h3 k1 k2 k3 X Y Z n))) (va_Qi (fun (r0 : Int32) (_ : Unit) => r0 = pb_if (pb_add X Y n) (nI n) (-1)) (fun (_ : Unit) (t : State) => va_P (dC, dI) vwCl (wC h0 h1 h2 h3 k1 k2 k3 (pb_if (pb_add X Y n) (pb_cp X n) X) (pb_if (pb_add X Y n) (pb_cp Y n) Y) (pb_if (pb_add X Y n) (pb_cp Z n) Z) (pb_if (pb_add X Y n) (n + 1) n)) t.heap ∧ va_D (va_A (wC h0 h1 h2 h3 k1 k2 k3 X Y Z n) sz) (wC h0 h1 h2 h3 k1 k2 k3 (pb_if (pb_add X Y n) (pb_cp X n) X) (pb_if (pb_add X Y n) (pb_cp Y n) Y) (pb_if (pb_add X Y n) (pb_cp Z n) Z) (pb_if (pb_add X Y n) (n + 1) n))) (va_A (wC h0 h1 h2 h3 k1 k2 k3 X Y Z n) sz)) 0 0 (va_A (wC h0 h1 h2 h3 k1 k2 k3 X Y Z n) sz) := by
  refine Met.ofW (cc := cX0_add) (maxL := 5) (ret := some .int) (by decide) rfl ?_
  intro p e s m args below meth c s₁ B hml hv
  obtain ⟨rfl, hsz, hP, hK, hD0⟩ := hv
  have hx := B.exec
  have hb := B.bytes
  have hr := B.returns
  have hts := atoms_spec (ws := wsX0_add) B.pre
  have hown : s.vm.findClass RX0 = some m.cls := findClass_of_methodNamed B.named
  have hlocks := B.notSynchronized
  have hin0 : ∀ w ∈ u_ws RX0 TX0 4, w ∈ wsX0_add := by decide +kernel
  subst hsz
  have hD := hD0.self (sz := s.heap.size)
  generalize hAe : va_A (wC h0 h1 h2 h3 k1 k2 k3 X Y Z n) s.heap.size = A at hD ⊢
  have hA : ∀ q : Nat, s.heap.size ≤ q → A q := fun q h => by rw [← hAe]; exact Or.inr h
  have hS : va_S A s.heap s.heap [] := va_S.rf
  have hl := lv_entry ([.ref h0]) (n := 5) (Nat.le_of_ble_eq_true rfl)
  rw [lg_entry_eq]
  generalize (lg_sl ([.ref h0]) ++ List.replicate (5 - (lg_sl ([.ref h0])).length) Slot.unset).toArray = ls at hl ⊢
  have hl : lv_has ls 5 [(0, .ref h0)] := hl
  refine lv_aload_n hx hb dX0_add_0 rfl (lv_at hl 0 rfl) ?_
  refine va_get (D := (dC, dI)) (ci := 0) (v := .int (nI (n))) (C := RX0) (T := TX0) (N := 4) hx hb hts hin0 hown hK hP 0 rfl rfl 3 (by decide) (hts (.fieldLink RX0 19 "PieceBoxes" "pieces" "I") (by decide +kernel)) (fun _ h9 => h9) rfl dX0_add_1 ?_
  refine lv_sipush (v := nI 512) hx hb dX0_add_4 (by decide +kernel) ?_
  refine lv_icmp_ge (tgt := 22) hx hb dX0_add_7 (by decide) (fun q1 => ?_) (fun q1 => ?_)
  · -- full
    have hok : (pb_add X Y n) = false := by simp [pb_add, Nat.not_lt.mpr ((nI_leI (by decide) (by omega)).mp q1)]
    refine lv_iconst (v := (-1)) hx hb dX0_add_22 (by decide +kernel) ?_
    exact W.iret (v := (-1)) hx hb hr (fun t ht hW => ⟨⟨(-1), (), rfl, by rw [hok]; rfl, by rw [hok]; rw [ht]; exact hP, by rw [hok]; exact hD⟩, hS.F ht⟩) hS.2.2 dX0_add_23
  · -- room is left
    have q1 : n < 512 := Nat.not_le.mp (fun h => q1 (nI_le h (by omega)))
    refine lv_aload_n hx hb dX0_add_10 rfl (lv_at hl 0 rfl) ?_
    refine lv_sipush (v := nI 512) hx hb dX0_add_11 (by decide +kernel) ?_
    refine pb_call (W.runV (As := [.int (nI (512))]) (rest := []) ⟨hx, hb, hml, hown, hts⟩ (cC_areaOf l dC dI h0 h1 h2 h3 k1 k2 k3 X Y Z n 512 (by decide)) (cwV 1 hts gX0_add_X0_areaOf rfl rfl rfl (by decide +kernel) ⟨Nat.le_of_ble_eq_true rfl, Nat.le_of_ble_eq_true rfl⟩) (preC_V hP hK _) rfl rfl hl.1 rfl (lv_room (Nat.le_of_ble_eq_true rfl)) dX0_add_14 ⟨Nat.zero_le _, Nat.zero_le _⟩) ?_
    refine lv_lconst (v := 0) hx hb dX0_add_17 (by decide +kernel) ?_
    refine W.lcmp hx hb dX0_add_18 ?_
    refine lv_if_gt (tgt := 24) hx hb dX0_add_19 (by decide) (fun q2 => ?_) (fun q2 => ?_)
    · -- an area
      have q2 := (lg_cmp_gt _ _).mp q2
      have hok : (pb_add X Y n) = true := by simp [pb_add, q1, q2]
      refine lv_aload_n hx hb dX0_add_24 rfl (lv_at hl 0 rfl) ?_
      refine va_get (D := (dC, dI)) (ci := 0) (v := .int (nI (n))) (C := RX0) (T := TX0) (N := 4) hx hb hts hin0 hown hK hP 0 rfl rfl 3 (by decide) (hts (.fieldLink RX0 19 "PieceBoxes" "pieces" "I") (by decide +kernel)) (fun _ h9 => h9) rfl dX0_add_25 ?_
      refine lv_istore_n (lv' := [(1, .int (nI (n))), (0, .ref h0)]) hx hb dX0_add_28 rfl hl (by decide) rfl (fun ls hl => ?_)
      refine lv_iconst (v := nI 0) hx hb dX0_add_29 (by decide +kernel) ?_
      refine lv_istore_n (lv' := [(2, .int (nI (0))), (1, .int (nI (n))), (0, .ref h0)]) hx hb dX0_add_30 rfl hl (by decide) rfl (fun ls hl => ?_)
      refine lv_iload_n hx hb dX0_add_31 rfl (lv_at hl 0 rfl) ?_
      refine lv_iconst (v := nI 3) hx hb dX0_add_32 (by decide +kernel) ?_
      refine lv_icmp_ge (tgt := 94) hx hb dX0_add_33 (by decide) (fun q3 => ?_) (fun q3 => ?_)
      · exact absurd q3 (nI_ge (by decide) (by decide))
      clear q3
      refine lv_sipush (v := nI 1536) hx hb dX0_add_36 (by decide +kernel) ?_
      refine lv_iload_n hx hb dX0_add_39 rfl (lv_at hl 0 rfl) ?_
      refine lv_iadd hx hb dX0_add_40 ?_
      refine pb_eqi (nI_add _ _) ?_
      refine lv_istore_n (lv' := [(3, .int (nI (1536 + 0))), (2, .int (nI (0))), (1, .int (nI (n))), (0, .ref h0)]) hx hb dX0_add_41 rfl hl (by decide) rfl (fun ls hl => ?_)
      refine lv_iload_n hx hb dX0_add_42 rfl (lv_at hl 2 rfl) ?_
      refine lv_iconst (v := nI 3) hx hb dX0_add_43 (by decide +kernel) ?_
      refine lv_imul hx hb dX0_add_44 ?_
      refine pb_eqi (pk_mul _ _) ?_
      refine lv_iload_n hx hb dX0_add_45 rfl (lv_at hl 1 rfl) ?_
      refine lv_iadd hx hb dX0_add_46 ?_
      refine pb_eqi (nI_add _ _) ?_
      refine lv_istore (lv' := [(4, .int (nI (n * 3 + 0))), (3, .int (nI (1536 + 0))), (2, .int (nI (0))), (1, .int (nI (n))), (0, .ref h0)]) hx hb dX0_add_47 hl (by decide) rfl (fun ls hl => ?_)
      refine lv_aload_n hx hb dX0_add_49 rfl (lv_at hl 4 rfl) ?_
      refine va_get (D := (dC, dI)) (ci := 0) (v := .ref h1) (C := RX0) (T := TX0) (N := 4) hx hb hts hin0 hown hK hP 0 rfl rfl 0 (by decide) (hts (.fieldLink RX0 9 "PieceBoxes" "xs" "[I") (by decide +kernel)) (fun _ h9 => h9) rfl dX0_add_50 ?_
      refine lv_iload hx hb dX0_add_53 (lv_at hl 0 rfl) ?_
      refine lv_aload_n hx hb dX0_add_55 rfl (lv_at hl 4 rfl) ?_
      refine va_get (D := (dC, dI)) (ci := 0) (v := .ref h1) (C := RX0) (T := TX0) (N := 4) hx hb hts hin0 hown hK hP 0 rfl rfl 0 (by decide) (hts (.fieldLink RX0 9 "PieceBoxes" "xs" "[I") (by decide +kernel)) (fun _ h9 => h9) rfl dX0_add_56 ?_
      refine lv_iload_n hx hb dX0_add_59 rfl (lv_at hl 1 rfl) ?_
      refine pb_ald (j := 1536 + 0) hx hb hK hP 1 0 rfl rfl (by omega) (by decide) dX0_add_60 ?_
      refine pb_ast (j := n * 3 + 0) hx hb hK hP hD hS 1 0 rfl rfl (by omega) (by decide) dX0_add_61 (fun H locs hP hD hS => ?_)
      have hP : va_P (dC, dI) vwCl [(h0, .inr (0, [.ref h1, .ref h2, .ref h3, .int (nI (n))])), (h1, .inl (k1, 1539, .inl (pb_cp1 X n 0))), (h2, .inl (k2, 1539, .inl (Y))), (h3, .inl (k3, 1539, .inl (Z)))] H := hP
      have hD : va_D A [(h0, .inr (0, [.ref h1, .ref h2, .ref h3, .int (nI (n))])), (h1, .inl (k1, 1539, .inl (pb_cp1 X n 0))), (h2, .inl (k2, 1539, .inl (Y))), (h3, .inl (k3, 1539, .inl (Z)))] := hD
      refine lv_aload_n hx hb dX0_add_62 rfl (lv_at hl 4 rfl) ?_
      refine va_get (D := (dC, dI)) (ci := 0) (v := .ref h2) (C := RX0) (T := TX0) (N := 4) hx hb hts hin0 hown hK hP 0 rfl rfl 1 (by decide) (hts (.fieldLink RX0 13 "PieceBoxes" "ys" "[I") (by decide +kernel)) (fun _ h9 => h9) rfl dX0_add_63 ?_
      refine lv_iload hx hb dX0_add_66 (lv_at hl 0 rfl) ?_
      refine lv_aload_n hx hb dX0_add_68 rfl (lv_at hl 4 rfl) ?_
      refine va_get (D := (dC, dI)) (ci := 0) (v := .ref h2) (C := RX0) (T := TX0) (N := 4) hx hb hts hin0 hown hK hP 0 rfl rfl 1 (by decide) (hts (.fieldLink RX0 13 "PieceBoxes" "ys" "[I") (by decide +kernel)) (fun _ h9 => h9) rfl dX0_add_69 ?_
      refine lv_iload_n hx hb dX0_add_72 rfl (lv_at hl 1 rfl) ?_
      refine pb_ald (j := 1536 + 0) hx hb hK hP 2 1 rfl rfl (by omega) (by decide) dX0_add_73 ?_
      refine pb_ast (j := n * 3 + 0) hx hb hK hP hD hS 2 1 rfl rfl (by omega) (by decide) dX0_add_74 (fun H locs hP hD hS => ?_)
      have hP : va_P (dC, dI) vwCl [(h0, .inr (0, [.ref h1, .ref h2, .ref h3, .int (nI (n))])), (h1, .inl (k1, 1539, .inl (pb_cp1 X n 0))), (h2, .inl (k2, 1539, .inl (pb_cp1 Y n 0))), (h3, .inl (k3, 1539, .inl (Z)))] H := hP
      have hD : va_D A [(h0, .inr (0, [.ref h1, .ref h2, .ref h3, .int (nI (n))])), (h1, .inl (k1, 1539, .inl (pb_cp1 X n 0))), (h2, .inl (k2, 1539, .inl (pb_cp1 Y n 0))), (h3, .inl (k3, 1539, .inl (Z)))] := hD
      refine lv_aload_n hx hb dX0_add_75 rfl (lv_at hl 4 rfl) ?_
      refine va_get (D := (dC, dI)) (ci := 0) (v := .ref h3) (C := RX0) (T := TX0) (N := 4) hx hb hts hin0 hown hK hP 0 rfl rfl 2 (by decide) (hts (.fieldLink RX0 16 "PieceBoxes" "rs" "[I") (by decide +kernel)) (fun _ h9 => h9) rfl dX0_add_76 ?_
      refine lv_iload hx hb dX0_add_79 (lv_at hl 0 rfl) ?_
      refine lv_aload_n hx hb dX0_add_81 rfl (lv_at hl 4 rfl) ?_
      refine va_get (D := (dC, dI)) (ci := 0) (v := .ref h3) (C := RX0) (T := TX0) (N := 4) hx hb hts hin0 hown hK hP 0 rfl rfl 2 (by decide) (hts (.fieldLink RX0 16 "PieceBoxes" "rs" "[I") (by decide +kernel)) (fun _ h9 => h9) rfl dX0_add_82 ?_
      refine lv_iload_n hx hb dX0_add_85 rfl (lv_at hl 1 rfl) ?_
      refine pb_ald (j := 1536 + 0) hx hb hK hP 3 2 rfl rfl (by omega) (by decide) dX0_add_86 ?_
      refine pb_ast (j := n * 3 + 0) hx hb hK hP hD hS 3 2 rfl rfl (by omega) (by decide) dX0_add_87 (fun H locs hP hD hS => ?_)
      have hP : va_P (dC, dI) vwCl [(h0, .inr (0, [.ref h1, .ref h2, .ref h3, .int (nI (n))])), (h1, .inl (k1, 1539, .inl (pb_cp1 X n 0))), (h2, .inl (k2, 1539, .inl (pb_cp1 Y n 0))), (h3, .inl (k3, 1539, .inl (pb_cp1 Z n 0)))] H := hP
      have hD : va_D A [(h0, .inr (0, [.ref h1, .ref h2, .ref h3, .int (nI (n))])), (h1, .inl (k1, 1539, .inl (pb_cp1 X n 0))), (h2, .inl (k2, 1539, .inl (pb_cp1 Y n 0))), (h3, .inl (k3, 1539, .inl (pb_cp1 Z n 0)))] := hD
      refine lv_iinc (v := (nI (0 + 1))) (lv' := [(2, .int (nI (0 + 1))), (4, .int (nI (n * 3 + 0))), (3, .int (nI (1536 + 0))), (1, .int (nI (n))), (0, .ref h0)]) hx hb dX0_add_88 hl (k := 2) rfl (by exact (nI_1 (0))) (by decide) rfl (fun ls hl => ?_)
      refine lv_goto (tgt := 31) hx hb dX0_add_91 (by decide) ?_
      have hl : lv_has ls 5 [(2, .int (nI (1))), (4, .int (nI (n * 3 + 0))), (3, .int (nI (1536 + 0))), (1, .int (nI (n))), (0, .ref h0)] := hl
      refine lv_iload_n hx hb dX0_add_31 rfl (lv_at hl 0 rfl) ?_
      refine lv_iconst (v := nI 3) hx hb dX0_add_32 (by decide +kernel) ?_
      refine lv_icmp_ge (tgt := 94) hx hb dX0_add_33 (by decide) (fun q3 => ?_) (fun q3 => ?_)
      · exact absurd q3 (nI_ge (by decide) (by decide))
      clear q3
      refine lv_sipush (v := nI 1536) hx hb dX0_add_36 (by decide +kernel) ?_
      refine lv_iload_n hx hb dX0_add_39 rfl (lv_at hl 0 rfl) ?_
      refine lv_iadd hx hb dX0_add_40 ?_
      refine pb_eqi (nI_add _ _) ?_
      refine lv_istore_n (lv' := [(3, .int (nI (1536 + 1))), (2, .int (nI (1))), (4, .int (nI (n * 3 + 0))), (1, .int (nI (n))), (0, .ref h0)]) hx hb dX0_add_41 rfl hl (by decide) rfl (fun ls hl => ?_)
      refine lv_iload_n hx hb dX0_add_42 rfl (lv_at hl 3 rfl) ?_
      refine lv_iconst (v := nI 3) hx hb dX0_add_43 (by decide +kernel) ?_
      refine lv_imul hx hb dX0_add_44 ?_
      refine pb_eqi (pk_mul _ _) ?_
      refine lv_iload_n hx hb dX0_add_45 rfl (lv_at hl 1 rfl) ?_
      refine lv_iadd hx hb dX0_add_46 ?_
      refine pb_eqi (nI_add _ _) ?_
      refine lv_istore (lv' := [(4, .int (nI (n * 3 + 1))), (3, .int (nI (1536 + 1))), (2, .int (nI (1))), (1, .int (nI (n))), (0, .ref h0)]) hx hb dX0_add_47 hl (by decide) rfl (fun ls hl => ?_)
      refine lv_aload_n hx hb dX0_add_49 rfl (lv_at hl 4 rfl) ?_
      refine va_get (D := (dC, dI)) (ci := 0) (v := .ref h1) (C := RX0) (T := TX0) (N := 4) hx hb hts hin0 hown hK hP 0 rfl rfl 0 (by decide) (hts (.fieldLink RX0 9 "PieceBoxes" "xs" "[I") (by decide +kernel)) (fun _ h9 => h9) rfl dX0_add_50 ?_
      refine lv_iload hx hb dX0_add_53 (lv_at hl 0 rfl) ?_
      refine lv_aload_n hx hb dX0_add_55 rfl (lv_at hl 4 rfl) ?_
      refine va_get (D := (dC, dI)) (ci := 0) (v := .ref h1) (C := RX0) (T := TX0) (N := 4) hx hb hts hin0 hown hK hP 0 rfl rfl 0 (by decide) (hts (.fieldLink RX0 9 "PieceBoxes" "xs" "[I") (by decide +kernel)) (fun _ h9 => h9) rfl dX0_add_56 ?_
      refine lv_iload_n hx hb dX0_add_59 rfl (lv_at hl 1 rfl) ?_
      refine pb_ald (j := 1536 + 1) hx hb hK hP 1 0 rfl rfl (by omega) (by decide) dX0_add_60 ?_
      refine pb_ast (j := n * 3 + 1) hx hb hK hP hD hS 1 0 rfl rfl (by omega) (by decide) dX0_add_61 (fun H locs hP hD hS => ?_)
      have hP : va_P (dC, dI) vwCl [(h0, .inr (0, [.ref h1, .ref h2, .ref h3, .int (nI (n))])), (h1, .inl (k1, 1539, .inl (pb_cp1 (pb_cp1 X n 0) n 1))), (h2, .inl (k2, 1539, .inl (pb_cp1 Y n 0))), (h3, .inl (k3, 1539, .inl (pb_cp1 Z n 0)))] H := hP
      have hD : va_D A [(h0, .inr (0, [.ref h1, .ref h2, .ref h3, .int (nI (n))])), (h1, .inl (k1, 1539, .inl (pb_cp1 (pb_cp1 X n 0) n 1))), (h2, .inl (k2, 1539, .inl (pb_cp1 Y n 0))), (h3, .inl (k3, 1539, .inl (pb_cp1 Z n 0)))] := hD
      refine lv_aload_n hx hb dX0_add_62 rfl (lv_at hl 4 rfl) ?_
      refine va_get (D := (dC, dI)) (ci := 0) (v := .ref h2) (C := RX0) (T := TX0) (N := 4) hx hb hts hin0 hown hK hP 0 rfl rfl 1 (by decide) (hts (.fieldLink RX0 13 "PieceBoxes" "ys" "[I") (by decide +kernel)) (fun _ h9 => h9) rfl dX0_add_63 ?_
      refine lv_iload hx hb dX0_add_66 (lv_at hl 0 rfl) ?_
      refine lv_aload_n hx hb dX0_add_68 rfl (lv_at hl 4 rfl) ?_
      refine va_get (D := (dC, dI)) (ci := 0) (v := .ref h2) (C := RX0) (T := TX0) (N := 4) hx hb hts hin0 hown hK hP 0 rfl rfl 1 (by decide) (hts (.fieldLink RX0 13 "PieceBoxes" "ys" "[I") (by decide +kernel)) (fun _ h9 => h9) rfl dX0_add_69 ?_
      refine lv_iload_n hx hb dX0_add_72 rfl (lv_at hl 1 rfl) ?_
      refine pb_ald (j := 1536 + 1) hx hb hK hP 2 1 rfl rfl (by omega) (by decide) dX0_add_73 ?_
      refine pb_ast (j := n * 3 + 1) hx hb hK hP hD hS 2 1 rfl rfl (by omega) (by decide) dX0_add_74 (fun H locs hP hD hS => ?_)
      have hP : va_P (dC, dI) vwCl [(h0, .inr (0, [.ref h1, .ref h2, .ref h3, .int (nI (n))])), (h1, .inl (k1, 1539, .inl (pb_cp1 (pb_cp1 X n 0) n 1))), (h2, .inl (k2, 1539, .inl (pb_cp1 (pb_cp1 Y n 0) n 1))), (h3, .inl (k3, 1539, .inl (pb_cp1 Z n 0)))] H := hP
      have hD : va_D A [(h0, .inr (0, [.ref h1, .ref h2, .ref h3, .int (nI (n))])), (h1, .inl (k1, 1539, .inl (pb_cp1 (pb_cp1 X n 0) n 1))), (h2, .inl (k2, 1539, .inl (pb_cp1 (pb_cp1 Y n 0) n 1))), (h3, .inl (k3, 1539, .inl (pb_cp1 Z n 0)))] := hD
      refine lv_aload_n hx hb dX0_add_75 rfl (lv_at hl 4 rfl) ?_
      refine va_get (D := (dC, dI)) (ci := 0) (v := .ref h3) (C := RX0) (T := TX0) (N := 4) hx hb hts hin0 hown hK hP 0 rfl rfl 2 (by decide) (hts (.fieldLink RX0 16 "PieceBoxes" "rs" "[I") (by decide +kernel)) (fun _ h9 => h9) rfl dX0_add_76 ?_
      refine lv_iload hx hb dX0_add_79 (lv_at hl 0 rfl) ?_
      refine lv_aload_n hx hb dX0_add_81 rfl (lv_at hl 4 rfl) ?_
      refine va_get (D := (dC, dI)) (ci := 0) (v := .ref h3) (C := RX0) (T := TX0) (N := 4) hx hb hts hin0 hown hK hP 0 rfl rfl 2 (by decide) (hts (.fieldLink RX0 16 "PieceBoxes" "rs" "[I") (by decide +kernel)) (fun _ h9 => h9) rfl dX0_add_82 ?_
      refine lv_iload_n hx hb dX0_add_85 rfl (lv_at hl 1 rfl) ?_
      refine pb_ald (j := 1536 + 1) hx hb hK hP 3 2 rfl rfl (by omega) (by decide) dX0_add_86 ?_
      refine pb_ast (j := n * 3 + 1) hx hb hK hP hD hS 3 2 rfl rfl (by omega) (by decide) dX0_add_87 (fun H locs hP hD hS => ?_)
      have hP : va_P (dC, dI) vwCl [(h0, .inr (0, [.ref h1, .ref h2, .ref h3, .int (nI (n))])), (h1, .inl (k1, 1539, .inl (pb_cp1 (pb_cp1 X n 0) n 1))), (h2, .inl (k2, 1539, .inl (pb_cp1 (pb_cp1 Y n 0) n 1))), (h3, .inl (k3, 1539, .inl (pb_cp1 (pb_cp1 Z n 0) n 1)))] H := hP
      have hD : va_D A [(h0, .inr (0, [.ref h1, .ref h2, .ref h3, .int (nI (n))])), (h1, .inl (k1, 1539, .inl (pb_cp1 (pb_cp1 X n 0) n 1))), (h2, .inl (k2, 1539, .inl (pb_cp1 (pb_cp1 Y n 0) n 1))), (h3, .inl (k3, 1539, .inl (pb_cp1 (pb_cp1 Z n 0) n 1)))] := hD
      refine lv_iinc (v := (nI (1 + 1))) (lv' := [(2, .int (nI (1 + 1))), (4, .int (nI (n * 3 + 1))), (3, .int (nI (1536 + 1))), (1, .int (nI (n))), (0, .ref h0)]) hx hb dX0_add_88 hl (k := 2) rfl (by exact (nI_1 (1))) (by decide) rfl (fun ls hl => ?_)
      refine lv_goto (tgt := 31) hx hb dX0_add_91 (by decide) ?_
      have hl : lv_has ls 5 [(2, .int (nI (2))), (4, .int (nI (n * 3 + 1))), (3, .int (nI (1536 + 1))), (1, .int (nI (n))), (0, .ref h0)] := hl
      refine lv_iload_n hx hb dX0_add_31 rfl (lv_at hl 0 rfl) ?_
      refine lv_iconst (v := nI 3) hx hb dX0_add_32 (by decide +kernel) ?_
      refine lv_icmp_ge (tgt := 94) hx hb dX0_add_33 (by decide) (fun q3 => ?_) (fun q3 => ?_)
      · exact absurd q3 (nI_ge (by decide) (by decide))
      clear q3
      refine lv_sipush (v := nI 1536) hx hb dX0_add_36 (by decide +kernel) ?_
      refine lv_iload_n hx hb dX0_add_39 rfl (lv_at hl 0 rfl) ?_
      refine lv_iadd hx hb dX0_add_40 ?_
      refine pb_eqi (nI_add _ _) ?_
      refine lv_istore_n (lv' := [(3, .int (nI (1536 + 2))), (2, .int (nI (2))), (4, .int (nI (n * 3 + 1))), (1, .int (nI (n))), (0, .ref h0)]) hx hb dX0_add_41 rfl hl (by decide) rfl (fun ls hl => ?_)
      refine lv_iload_n hx hb dX0_add_42 rfl (lv_at hl 3 rfl) ?_
      refine lv_iconst (v := nI 3) hx hb dX0_add_43 (by decide +kernel) ?_
      refine lv_imul hx hb dX0_add_44 ?_
      refine pb_eqi (pk_mul _ _) ?_
      refine lv_iload_n hx hb dX0_add_45 rfl (lv_at hl 1 rfl) ?_
      refine lv_iadd hx hb dX0_add_46 ?_
      refine pb_eqi (nI_add _ _) ?_
      refine lv_istore (lv' := [(4, .int (nI (n * 3 + 2))), (3, .int (nI (1536 + 2))), (2, .int (nI (2))), (1, .int (nI (n))), (0, .ref h0)]) hx hb dX0_add_47 hl (by decide) rfl (fun ls hl => ?_)
      refine lv_aload_n hx hb dX0_add_49 rfl (lv_at hl 4 rfl) ?_
      refine va_get (D := (dC, dI)) (ci := 0) (v := .ref h1) (C := RX0) (T := TX0) (N := 4) hx hb hts hin0 hown hK hP 0 rfl rfl 0 (by decide) (hts (.fieldLink RX0 9 "PieceBoxes" "xs" "[I") (by decide +kernel)) (fun _ h9 => h9) rfl dX0_add_50 ?_
      refine lv_iload hx hb dX0_add_53 (lv_at hl 0 rfl) ?_
      refine lv_aload_n hx hb dX0_add_55 rfl (lv_at hl 4 rfl) ?_
      refine va_get (D := (dC, dI)) (ci := 0) (v := .ref h1) (C := RX0) (T := TX0) (N := 4) hx hb hts hin0 hown hK hP 0 rfl rfl 0 (by decide) (hts (.fieldLink RX0 9 "PieceBoxes" "xs" "[I") (by decide +kernel)) (fun _ h9 => h9) rfl dX0_add_56 ?_
      refine lv_iload_n hx hb dX0_add_59 rfl (lv_at hl 1 rfl) ?_
      refine pb_ald (j := 1536 + 2) hx hb hK hP 1 0 rfl rfl (by omega) (by decide) dX0_add_60 ?_
      refine pb_ast (j := n * 3 + 2) hx hb hK hP hD hS 1 0 rfl rfl (by omega) (by decide) dX0_add_61 (fun H locs hP hD hS => ?_)
      have hP : va_P (dC, dI) vwCl [(h0, .inr (0, [.ref h1, .ref h2, .ref h3, .int (nI (n))])), (h1, .inl (k1, 1539, .inl (pb_cp1 (pb_cp1 (pb_cp1 X n 0) n 1) n 2))), (h2, .inl (k2, 1539, .inl (pb_cp1 (pb_cp1 Y n 0) n 1))), (h3, .inl (k3, 1539, .inl (pb_cp1 (pb_cp1 Z n 0) n 1)))] H := hP
      have hD : va_D A [(h0, .inr (0, [.ref h1, .ref h2, .ref h3, .int (nI (n))])), (h1, .inl (k1, 1539, .inl (pb_cp1 (pb_cp1 (pb_cp1 X n 0) n 1) n 2))), (h2, .inl (k2, 1539, .inl (pb_cp1 (pb_cp1 Y n 0) n 1))), (h3, .inl (k3, 1539, .inl (pb_cp1 (pb_cp1 Z n 0) n 1)))] := hD
      refine lv_aload_n hx hb dX0_add_62 rfl (lv_at hl 4 rfl) ?_
      refine va_get (D := (dC, dI)) (ci := 0) (v := .ref h2) (C := RX0) (T := TX0) (N := 4) hx hb hts hin0 hown hK hP 0 rfl rfl 1 (by decide) (hts (.fieldLink RX0 13 "PieceBoxes" "ys" "[I") (by decide +kernel)) (fun _ h9 => h9) rfl dX0_add_63 ?_
      refine lv_iload hx hb dX0_add_66 (lv_at hl 0 rfl) ?_
      refine lv_aload_n hx hb dX0_add_68 rfl (lv_at hl 4 rfl) ?_
      refine va_get (D := (dC, dI)) (ci := 0) (v := .ref h2) (C := RX0) (T := TX0) (N := 4) hx hb hts hin0 hown hK hP 0 rfl rfl 1 (by decide) (hts (.fieldLink RX0 13 "PieceBoxes" "ys" "[I") (by decide +kernel)) (fun _ h9 => h9) rfl dX0_add_69 ?_
      refine lv_iload_n hx hb dX0_add_72 rfl (lv_at hl 1 rfl) ?_
      refine pb_ald (j := 1536 + 2) hx hb hK hP 2 1 rfl rfl (by omega) (by decide) dX0_add_73 ?_
      refine pb_ast (j := n * 3 + 2) hx hb hK hP hD hS 2 1 rfl rfl (by omega) (by decide) dX0_add_74 (fun H locs hP hD hS => ?_)
      have hP : va_P (dC, dI) vwCl [(h0, .inr (0, [.ref h1, .ref h2, .ref h3, .int (nI (n))])), (h1, .inl (k1, 1539, .inl (pb_cp1 (pb_cp1 (pb_cp1 X n 0) n 1) n 2))), (h2, .inl (k2, 1539, .inl (pb_cp1 (pb_cp1 (pb_cp1 Y n 0) n 1) n 2))), (h3, .inl (k3, 1539, .inl (pb_cp1 (pb_cp1 Z n 0) n 1)))] H := hP
      have hD : va_D A [(h0, .inr (0, [.ref h1, .ref h2, .ref h3, .int (nI (n))])), (h1, .inl (k1, 1539, .inl (pb_cp1 (pb_cp1 (pb_cp1 X n 0) n 1) n 2))), (h2, .inl (k2, 1539, .inl (pb_cp1 (pb_cp1 (pb_cp1 Y n 0) n 1) n 2))), (h3, .inl (k3, 1539, .inl (pb_cp1 (pb_cp1 Z n 0) n 1)))] := hD
      refine lv_aload_n hx hb dX0_add_75 rfl (lv_at hl 4 rfl) ?_
      refine va_get (D := (dC, dI)) (ci := 0) (v := .ref h3) (C := RX0) (T := TX0) (N := 4) hx hb hts hin0 hown hK hP 0 rfl rfl 2 (by decide) (hts (.fieldLink RX0 16 "PieceBoxes" "rs" "[I") (by decide +kernel)) (fun _ h9 => h9) rfl dX0_add_76 ?_
      refine lv_iload hx hb dX0_add_79 (lv_at hl 0 rfl) ?_
      refine lv_aload_n hx hb dX0_add_81 rfl (lv_at hl 4 rfl) ?_
      refine va_get (D := (dC, dI)) (ci := 0) (v := .ref h3) (C := RX0) (T := TX0) (N := 4) hx hb hts hin0 hown hK hP 0 rfl rfl 2 (by decide) (hts (.fieldLink RX0 16 "PieceBoxes" "rs" "[I") (by decide +kernel)) (fun _ h9 => h9) rfl dX0_add_82 ?_
      refine lv_iload_n hx hb dX0_add_85 rfl (lv_at hl 1 rfl) ?_
      refine pb_ald (j := 1536 + 2) hx hb hK hP 3 2 rfl rfl (by omega) (by decide) dX0_add_86 ?_
      refine pb_ast (j := n * 3 + 2) hx hb hK hP hD hS 3 2 rfl rfl (by omega) (by decide) dX0_add_87 (fun H locs hP hD hS => ?_)
      have hP : va_P (dC, dI) vwCl [(h0, .inr (0, [.ref h1, .ref h2, .ref h3, .int (nI (n))])), (h1, .inl (k1, 1539, .inl (pb_cp1 (pb_cp1 (pb_cp1 X n 0) n 1) n 2))), (h2, .inl (k2, 1539, .inl (pb_cp1 (pb_cp1 (pb_cp1 Y n 0) n 1) n 2))), (h3, .inl (k3, 1539, .inl (pb_cp1 (pb_cp1 (pb_cp1 Z n 0) n 1) n 2)))] H := hP
      have hD : va_D A [(h0, .inr (0, [.ref h1, .ref h2, .ref h3, .int (nI (n))])), (h1, .inl (k1, 1539, .inl (pb_cp1 (pb_cp1 (pb_cp1 X n 0) n 1) n 2))), (h2, .inl (k2, 1539, .inl (pb_cp1 (pb_cp1 (pb_cp1 Y n 0) n 1) n 2))), (h3, .inl (k3, 1539, .inl (pb_cp1 (pb_cp1 (pb_cp1 Z n 0) n 1) n 2)))] := hD
      refine lv_iinc (v := (nI (2 + 1))) (lv' := [(2, .int (nI (2 + 1))), (4, .int (nI (n * 3 + 2))), (3, .int (nI (1536 + 2))), (1, .int (nI (n))), (0, .ref h0)]) hx hb dX0_add_88 hl (k := 2) rfl (by exact (nI_1 (2))) (by decide) rfl (fun ls hl => ?_)
      refine lv_goto (tgt := 31) hx hb dX0_add_91 (by decide) ?_
      have hl : lv_has ls 5 [(2, .int (nI (3))), (4, .int (nI (n * 3 + 2))), (3, .int (nI (1536 + 2))), (1, .int (nI (n))), (0, .ref h0)] := hl
      refine lv_iload_n hx hb dX0_add_31 rfl (lv_at hl 0 rfl) ?_
      refine lv_iconst (v := nI 3) hx hb dX0_add_32 (by decide +kernel) ?_
      refine lv_icmp_ge (tgt := 94) hx hb dX0_add_33 (by decide) (fun q4 => ?_) (fun q4 => ?_)
      · -- all three are copied
        refine lv_aload_n hx hb dX0_add_94 rfl (lv_at hl 4 rfl) ?_
        refine lv_iload_n hx hb dX0_add_95 rfl (lv_at hl 3 rfl) ?_
        refine lv_iconst (v := nI 1) hx hb dX0_add_96 (by decide +kernel) ?_
        refine lv_iadd hx hb dX0_add_97 ?_
        refine pb_eqi (nI_add _ _) ?_
        refine va_put (D := (dC, dI)) (ci := 0) (v := .int (nI (n + 1))) (ty := .int) (C := RX0) (T := TX0) (N := 4) hx hb hts hin0 tyX0 tyX0_ok nmX0 hown hK hP hD hS 0 rfl rfl 3 (by decide) (hts (.fieldLink RX0 19 "PieceBoxes" "pieces" "I") (by decide +kernel)) (fun _ h9 => h9) rfl (by decide +kernel) rfl rfl (Nat.le_of_ble_eq_true rfl) dX0_add_98 (fun H locs hP hD hS => ?_)
        have hP : va_P (dC, dI) vwCl [(h0, .inr (0, [.ref h1, .ref h2, .ref h3, .int (nI (n + 1))])), (h1, .inl (k1, 1539, .inl (pb_cp1 (pb_cp1 (pb_cp1 X n 0) n 1) n 2))), (h2, .inl (k2, 1539, .inl (pb_cp1 (pb_cp1 (pb_cp1 Y n 0) n 1) n 2))), (h3, .inl (k3, 1539, .inl (pb_cp1 (pb_cp1 (pb_cp1 Z n 0) n 1) n 2)))] H := hP
        have hD : va_D A [(h0, .inr (0, [.ref h1, .ref h2, .ref h3, .int (nI (n + 1))])), (h1, .inl (k1, 1539, .inl (pb_cp1 (pb_cp1 (pb_cp1 X n 0) n 1) n 2))), (h2, .inl (k2, 1539, .inl (pb_cp1 (pb_cp1 (pb_cp1 Y n 0) n 1) n 2))), (h3, .inl (k3, 1539, .inl (pb_cp1 (pb_cp1 (pb_cp1 Z n 0) n 1) n 2)))] := hD
        refine lv_iload_n hx hb dX0_add_101 rfl (lv_at hl 3 rfl) ?_
        exact W.iret (v := (nI (n))) hx hb hr (fun t ht hW => ⟨⟨(nI (n)), (), rfl, by rw [hok]; rfl, by rw [hok]; rw [ht]; exact hP, by rw [hok]; exact hD⟩, hS.F ht⟩) hS.2.2 dX0_add_102
      · exact absurd (nI_le (Nat.le_refl 3) (by decide)) q4
    · -- no area
      have q2 : ¬ 0 < pb_ar X Y 512 := fun h => q2 ((lg_cmp_gt _ _).mpr h)
      have hok : (pb_add X Y n) = false := by simp [pb_add, q2]
      refine lv_iconst (v := (-1)) hx hb dX0_add_22 (by decide +kernel) ?_
      exact W.iret (v := (-1)) hx hb hr (fun t ht hW => ⟨⟨(-1), (), rfl, by rw [hok]; rfl, by rw [hok]; rw [ht]; exact hP, by rw [hok]; exact hD⟩, hS.F ht⟩) hS.2.2 dX0_add_23
end
section
theorem pb_cell0 (N : Nat) (cA : ClassId) : vp_cell cA (N, .inl (fun _ => 0)) = arrV cA N (fun _ => defaultValue .int) := rfl
set_option maxHeartbeats 4000000 in
set_option maxRecDepth 100000 in
/-- a new box -/
theorem cC_init (l : Launch) (dC : Nat → ClassId) (dI : Nat → Nat → Nat) (h0 : Nat) (sz : Nat)  : Met l yX0_init wsX0_init ({ frames := 1, cells := 3, slots := 4617, locals := 12 }) (va_Pc [.ref h0] (fun U => U.heap.size = sz ∧ va_P (dC, dI) vwCl [(h0, .inr (0, [.null, .null, .null, .int 0]))] U.heap ∧ va_K (dC, dI) vwCl [] U ∧ va_D (fun _ => True) [(h0, .inr (0, [.null, .null, .null, .int 0]))])) (va_Qv (fun (_ : Unit) => True) (fun (_ : Unit) (t : State) => ∃ (h1 h2 h3 : Nat) (k1 k2 k3 : ClassId), va_P (dC, dI) vwCl (wC h0 h1 h2 h3 k1 k2 k3 pb_z pb_z pb_z1 0) t.heap ∧ va_K (dC, dI) vwCl (tC k1 k2 k3) t ∧ va_D (va_A [(h0, .inr (0, [.null, .null, .null, .int 0]))] sz) (wC h0 h1 h2 h3 k1 k2 k3 pb_z pb_z pb_z1 0)) (va_A [(h0, .inr (0, [.null, .null, .null, .int 0]))] sz)) 3 4617 (va_A [(h0, .inr (0, [.null, .null, .null, .int 0]))] sz) := by
  refine Met.ofW (cc := cX0_init) (maxL := 3) (ret := none) (by decide) rfl ?_
  intro p e s m args below meth c s₁ B hml hv
  obtain ⟨rfl, hsz, hP, hK, hD0⟩ := hv
  have hx := B.exec
  have hb := B.bytes
  have hr := B.returns
  have hts := atoms_spec (ws := wsX0_init) B.pre
  have hown : s.vm.findClass RX0 = some m.cls := findClass_of_methodNamed B.named
  have hlocks := B.notSynchronized
  have hin : meth.name = "<init>" := (name_of_methodNamed B.named B.method).1
  have hin0 : ∀ w ∈ u_ws RX0 TX0 4, w ∈ wsX0_init := by decide +kernel
  subst hsz
  have hD := hD0.self (sz := s.heap.size)
  generalize hAe : va_A [(h0, .inr (0, [.null, .null, .null, .int 0]))] s.heap.size = A at hD ⊢
  have hA : ∀ q : Nat, s.heap.size ≤ q → A q := fun q h => by rw [← hAe]; exact Or.inr h
  have hS : va_S A s.heap s.heap [] := va_S.rf
  have hl := lv_entry ([.ref h0]) (n := 3) (Nat.le_of_ble_eq_true rfl)
  rw [lg_entry_eq]
  generalize (lg_sl ([.ref h0]) ++ List.replicate (3 - (lg_sl ([.ref h0])).length) Slot.unset).toArray = ls at hl ⊢
  have hl : lv_has ls 3 [(0, .ref h0)] := hl
  refine lv_aload_n hx hb dX0_init_0 rfl (lv_at hl 0 rfl) ?_
  refine W.objInit hx hb hown (hts (.methodLink RX0 3 objectInit) (by decide +kernel)) (hts (.instanceMethod objectInit) (by decide +kernel)) (hts _ (List.mem_cons_of_mem _ (List.mem_append_left _ (List.mem_of_getElem? (i := 2) rfl)))) rfl (by rw [hml]; exact hl.1) rfl dX0_init_1 (Nat.le_of_ble_eq_true rfl) (Nat.le_of_ble_eq_true rfl) ?_
  refine W.eq (g2 := F0 m 4 ls []) rfl ?_
  refine lv_sipush (v := nI 1539) hx hb dX0_init_4 (by decide +kernel) ?_
  refine lv_istore_n (lv' := [(1, .int (nI (1539))), (0, .ref h0)]) hx hb dX0_init_7 rfl hl (by decide) rfl (fun ls hl => ?_)
  refine lv_aload_n hx hb dX0_init_8 rfl (lv_at hl 1 rfl) ?_
  refine lv_iload_n hx hb dX0_init_9 rfl (lv_at hl 0 rfl) ?_
  refine va_newa (atype := .int) (ty := .int) (n := nI 1539) (N' := 1539) (a0 := (1539, .inl (fun _ => 0))) hx hb (hts (.arrayClass .int) (by decide +kernel)) rfl hK hP hD hS hA (pb_cell0 1539) (by decide +kernel) (by decide +kernel) (by decide +kernel) (show 1 ≤ 3 by decide) (show 1539 ≤ 4617 by decide) dX0_init_10 (fun h1 k1 H hK hP hD hS => ?_)
  have hP : va_P (dC, dI) vwCl [(h0, .inr (0, [.null, .null, .null, .int (0)])), (h1, .inl (k1, 1539, .inl ((fun _ => 0))))] H := hP
  have hD : va_D A [(h0, .inr (0, [.null, .null, .null, .int (0)])), (h1, .inl (k1, 1539, .inl ((fun _ => 0))))] := hD
  have hK : va_K (dC, dI) vwCl [(k1, .int)] s := hK
  refine W.widen (k := 1) (n := 1539) (by omega) (by omega) ?_
  refine va_putF (D := (dC, dI)) (ci := 0) (v := .ref h1) (ty := (.array .int)) (C := RX0) (T := TX0) (N := 4) hx hb hts hin0 tyX0 tyX0_ok nmX0 hown hK hP hD hS 0 rfl rfl 0 (by decide) (hts (.fieldLink RX0 9 "PieceBoxes" "xs" "[I") (by decide +kernel)) (fun _ h9 => h9) rfl hin rfl (by decide +kernel) rfl rfl (Nat.le_of_ble_eq_true rfl) dX0_init_12 (fun H locs hP hD hS => ?_)
  have hP : va_P (dC, dI) vwCl [(h0, .inr (0, [.ref h1, .null, .null, .int (0)])), (h1, .inl (k1, 1539, .inl ((fun _ => 0))))] H := hP
  have hD : va_D A [(h0, .inr (0, [.ref h1, .null, .null, .int (0)])), (h1, .inl (k1, 1539, .inl ((fun _ => 0))))] := hD
  refine lv_aload_n hx hb dX0_init_15 rfl (lv_at hl 1 rfl) ?_
  refine lv_iload_n hx hb dX0_init_16 rfl (lv_at hl 0 rfl) ?_
  refine va_newa (atype := .int) (ty := .int) (n := nI 1539) (N' := 1539) (a0 := (1539, .inl (fun _ => 0))) hx hb (hts (.arrayClass .int) (by decide +kernel)) rfl hK hP hD hS hA (pb_cell0 1539) (by decide +kernel) (by decide +kernel) (by decide +kernel) (show 2 ≤ 3 by decide) (show 3078 ≤ 4617 by decide) dX0_init_17 (fun h2 k2 H hK hP hD hS => ?_)
  have hP : va_P (dC, dI) vwCl [(h0, .inr (0, [.ref h1, .null, .null, .int (0)])), (h1, .inl (k1, 1539, .inl ((fun _ => 0)))), (h2, .inl (k2, 1539, .inl ((fun _ => 0))))] H := hP
  have hD : va_D A [(h0, .inr (0, [.ref h1, .null, .null, .int (0)])), (h1, .inl (k1, 1539, .inl ((fun _ => 0)))), (h2, .inl (k2, 1539, .inl ((fun _ => 0))))] := hD
  have hK : va_K (dC, dI) vwCl [(k1, .int), (k2, .int)] s := hK
  refine W.widen (k := 2) (n := 3078) (by omega) (by omega) ?_
  refine va_putF (D := (dC, dI)) (ci := 0) (v := .ref h2) (ty := (.array .int)) (C := RX0) (T := TX0) (N := 4) hx hb hts hin0 tyX0 tyX0_ok nmX0 hown hK hP hD hS 0 rfl rfl 1 (by decide) (hts (.fieldLink RX0 13 "PieceBoxes" "ys" "[I") (by decide +kernel)) (fun _ h9 => h9) rfl hin rfl (by decide +kernel) rfl rfl (Nat.le_of_ble_eq_true rfl) dX0_init_19 (fun H locs hP hD hS => ?_)
  have hP : va_P (dC, dI) vwCl [(h0, .inr (0, [.ref h1, .ref h2, .null, .int (0)])), (h1, .inl (k1, 1539, .inl ((fun _ => 0)))), (h2, .inl (k2, 1539, .inl ((fun _ => 0))))] H := hP
  have hD : va_D A [(h0, .inr (0, [.ref h1, .ref h2, .null, .int (0)])), (h1, .inl (k1, 1539, .inl ((fun _ => 0)))), (h2, .inl (k2, 1539, .inl ((fun _ => 0))))] := hD
  refine lv_aload_n hx hb dX0_init_22 rfl (lv_at hl 1 rfl) ?_
  refine lv_iload_n hx hb dX0_init_23 rfl (lv_at hl 0 rfl) ?_
  refine va_newa (atype := .int) (ty := .int) (n := nI 1539) (N' := 1539) (a0 := (1539, .inl (fun _ => 0))) hx hb (hts (.arrayClass .int) (by decide +kernel)) rfl hK hP hD hS hA (pb_cell0 1539) (by decide +kernel) (by decide +kernel) (by decide +kernel) (show 3 ≤ 3 by decide) (show 4617 ≤ 4617 by decide) dX0_init_24 (fun h3 k3 H hK hP hD hS => ?_)
  have hP : va_P (dC, dI) vwCl [(h0, .inr (0, [.ref h1, .ref h2, .null, .int (0)])), (h1, .inl (k1, 1539, .inl ((fun _ => 0)))), (h2, .inl (k2, 1539, .inl ((fun _ => 0)))), (h3, .inl (k3, 1539, .inl ((fun _ => 0))))] H := hP
  have hD : va_D A [(h0, .inr (0, [.ref h1, .ref h2, .null, .int (0)])), (h1, .inl (k1, 1539, .inl ((fun _ => 0)))), (h2, .inl (k2, 1539, .inl ((fun _ => 0)))), (h3, .inl (k3, 1539, .inl ((fun _ => 0))))] := hD
  have hK : va_K (dC, dI) vwCl [(k1, .int), (k2, .int), (k3, .int)] s := hK
  refine W.widen (k := 3) (n := 4617) (by omega) (by omega) ?_
  refine va_putF (D := (dC, dI)) (ci := 0) (v := .ref h3) (ty := (.array .int)) (C := RX0) (T := TX0) (N := 4) hx hb hts hin0 tyX0 tyX0_ok nmX0 hown hK hP hD hS 0 rfl rfl 2 (by decide) (hts (.fieldLink RX0 16 "PieceBoxes" "rs" "[I") (by decide +kernel)) (fun _ h9 => h9) rfl hin rfl (by decide +kernel) rfl rfl (Nat.le_of_ble_eq_true rfl) dX0_init_26 (fun H locs hP hD hS => ?_)
  have hP : va_P (dC, dI) vwCl [(h0, .inr (0, [.ref h1, .ref h2, .ref h3, .int (0)])), (h1, .inl (k1, 1539, .inl ((fun _ => 0)))), (h2, .inl (k2, 1539, .inl ((fun _ => 0)))), (h3, .inl (k3, 1539, .inl ((fun _ => 0))))] H := hP
  have hD : va_D A [(h0, .inr (0, [.ref h1, .ref h2, .ref h3, .int (0)])), (h1, .inl (k1, 1539, .inl ((fun _ => 0)))), (h2, .inl (k2, 1539, .inl ((fun _ => 0)))), (h3, .inl (k3, 1539, .inl ((fun _ => 0))))] := hD
  refine lv_iconst (v := nI 0) hx hb dX0_init_29 (by decide +kernel) ?_
  refine lv_istore_n (lv' := [(2, .int (nI (0))), (1, .int (nI (1539))), (0, .ref h0)]) hx hb dX0_init_30 rfl hl (by decide) rfl (fun ls hl => ?_)
  refine lv_iload_n hx hb dX0_init_31 rfl (lv_at hl 0 rfl) ?_
  refine lv_iconst (v := nI 3) hx hb dX0_init_32 (by decide +kernel) ?_
  refine lv_icmp_ge (tgt := 53) hx hb dX0_init_33 (by decide) (fun q1 => ?_) (fun q1 => ?_)
  · exact absurd q1 (nI_ge (by decide) (by decide))
  clear q1
  refine lv_aload_n hx hb dX0_init_36 rfl (lv_at hl 2 rfl) ?_
  refine va_get (D := (dC, dI)) (ci := 0) (v := .ref h3) (C := RX0) (T := TX0) (N := 4) hx hb hts hin0 hown hK hP 0 rfl rfl 2 (by decide) (hts (.fieldLink RX0 16 "PieceBoxes" "rs" "[I") (by decide +kernel)) (fun _ h9 => h9) rfl dX0_init_37 ?_
  refine lv_sipush (v := nI 1536) hx hb dX0_init_40 (by decide +kernel) ?_
  refine lv_iload_n hx hb dX0_init_43 rfl (lv_at hl 0 rfl) ?_
  refine lv_iadd hx hb dX0_init_44 ?_
  refine pb_eqi (nI_add _ _) ?_
  refine lv_iconst (v := 1) hx hb dX0_init_45 (by decide +kernel) ?_
  refine pb_ast (j := 1536 + 0) hx hb hK hP hD hS 3 2 rfl rfl (by omega) (by decide) dX0_init_46 (fun H locs hP hD hS => ?_)
  have hP : va_P (dC, dI) vwCl [(h0, .inr (0, [.ref h1, .ref h2, .ref h3, .int (0)])), (h1, .inl (k1, 1539, .inl ((fun _ => 0)))), (h2, .inl (k2, 1539, .inl ((fun _ => 0)))), (h3, .inl (k3, 1539, .inl (upd ((fun _ => 0)) (1536 + 0) (1))))] H := hP
  have hD : va_D A [(h0, .inr (0, [.ref h1, .ref h2, .ref h3, .int (0)])), (h1, .inl (k1, 1539, .inl ((fun _ => 0)))), (h2, .inl (k2, 1539, .inl ((fun _ => 0)))), (h3, .inl (k3, 1539, .inl (upd ((fun _ => 0)) (1536 + 0) (1))))] := hD
  refine lv_iinc (v := (nI (0 + 1))) (lv' := [(2, .int (nI (0 + 1))), (1, .int (nI (1539))), (0, .ref h0)]) hx hb dX0_init_47 hl (k := 0) rfl (by exact (nI_1 (0))) (by decide) rfl (fun ls hl => ?_)
  refine lv_goto (tgt := 31) hx hb dX0_init_50 (by decide) ?_
  have hl : lv_has ls 3 [(2, .int (nI (1))), (1, .int (nI (1539))), (0, .ref h0)] := hl
  refine lv_iload_n hx hb dX0_init_31 rfl (lv_at hl 0 rfl) ?_
  refine lv_iconst (v := nI 3) hx hb dX0_init_32 (by decide +kernel) ?_
  refine lv_icmp_ge (tgt := 53) hx hb dX0_init_33 (by decide) (fun q1 => ?_) (fun q1 => ?_)
  · exact absurd q1 (nI_ge (by decide) (by decide))
  clear q1
  refine lv_aload_n hx hb dX0_init_36 rfl (lv_at hl 2 rfl) ?_
  refine va_get (D := (dC, dI)) (ci := 0) (v := .ref h3) (C := RX0) (T := TX0) (N := 4) hx hb hts hin0 hown hK hP 0 rfl rfl 2 (by decide) (hts (.fieldLink RX0 16 "PieceBoxes" "rs" "[I") (by decide +kernel)) (fun _ h9 => h9) rfl dX0_init_37 ?_
  refine lv_sipush (v := nI 1536) hx hb dX0_init_40 (by decide +kernel) ?_
  refine lv_iload_n hx hb dX0_init_43 rfl (lv_at hl 0 rfl) ?_
  refine lv_iadd hx hb dX0_init_44 ?_
  refine pb_eqi (nI_add _ _) ?_
  refine lv_iconst (v := 1) hx hb dX0_init_45 (by decide +kernel) ?_
  refine pb_ast (j := 1536 + 1) hx hb hK hP hD hS 3 2 rfl rfl (by omega) (by decide) dX0_init_46 (fun H locs hP hD hS => ?_)
  have hP : va_P (dC, dI) vwCl [(h0, .inr (0, [.ref h1, .ref h2, .ref h3, .int (0)])), (h1, .inl (k1, 1539, .inl ((fun _ => 0)))), (h2, .inl (k2, 1539, .inl ((fun _ => 0)))), (h3, .inl (k3, 1539, .inl (upd (upd ((fun _ => 0)) (1536 + 0) (1)) (1536 + 1) (1))))] H := hP
  have hD : va_D A [(h0, .inr (0, [.ref h1, .ref h2, .ref h3, .int (0)])), (h1, .inl (k1, 1539, .inl ((fun _ => 0)))), (h2, .inl (k2, 1539, .inl ((fun _ => 0)))), (h3, .inl (k3, 1539, .inl (upd (upd ((fun _ => 0)) (1536 + 0) (1)) (1536 + 1) (1))))] := hD
  refine lv_iinc (v := (nI (1 + 1))) (lv' := [(2, .int (nI (1 + 1))), (1, .int (nI (1539))), (0, .ref h0)]) hx hb dX0_init_47 hl (k := 0) rfl (by exact (nI_1 (1))) (by decide) rfl (fun ls hl => ?_)
  refine lv_goto (tgt := 31) hx hb dX0_init_50 (by decide) ?_
  have hl : lv_has ls 3 [(2, .int (nI (2))), (1, .int (nI (1539))), (0, .ref h0)] := hl
  refine lv_iload_n hx hb dX0_init_31 rfl (lv_at hl 0 rfl) ?_
  refine lv_iconst (v := nI 3) hx hb dX0_init_32 (by decide +kernel) ?_
  refine lv_icmp_ge (tgt := 53) hx hb dX0_init_33 (by decide) (fun q1 => ?_) (fun q1 => ?_)
  · exact absurd q1 (nI_ge (by decide) (by decide))
  clear q1
  refine lv_aload_n hx hb dX0_init_36 rfl (lv_at hl 2 rfl) ?_
  refine va_get (D := (dC, dI)) (ci := 0) (v := .ref h3) (C := RX0) (T := TX0) (N := 4) hx hb hts hin0 hown hK hP 0 rfl rfl 2 (by decide) (hts (.fieldLink RX0 16 "PieceBoxes" "rs" "[I") (by decide +kernel)) (fun _ h9 => h9) rfl dX0_init_37 ?_
  refine lv_sipush (v := nI 1536) hx hb dX0_init_40 (by decide +kernel) ?_
  refine lv_iload_n hx hb dX0_init_43 rfl (lv_at hl 0 rfl) ?_
  refine lv_iadd hx hb dX0_init_44 ?_
  refine pb_eqi (nI_add _ _) ?_
  refine lv_iconst (v := 1) hx hb dX0_init_45 (by decide +kernel) ?_
  refine pb_ast (j := 1536 + 2) hx hb hK hP hD hS 3 2 rfl rfl (by omega) (by decide) dX0_init_46 (fun H locs hP hD hS => ?_)
  have hP : va_P (dC, dI) vwCl [(h0, .inr (0, [.ref h1, .ref h2, .ref h3, .int (0)])), (h1, .inl (k1, 1539, .inl ((fun _ => 0)))), (h2, .inl (k2, 1539, .inl ((fun _ => 0)))), (h3, .inl (k3, 1539, .inl (upd (upd (upd ((fun _ => 0)) (1536 + 0) (1)) (1536 + 1) (1)) (1536 + 2) (1))))] H := hP
  have hD : va_D A [(h0, .inr (0, [.ref h1, .ref h2, .ref h3, .int (0)])), (h1, .inl (k1, 1539, .inl ((fun _ => 0)))), (h2, .inl (k2, 1539, .inl ((fun _ => 0)))), (h3, .inl (k3, 1539, .inl (upd (upd (upd ((fun _ => 0)) (1536 + 0) (1)) (1536 + 1) (1)) (1536 + 2) (1))))] := hD
  refine lv_iinc (v := (nI (2 + 1))) (lv' := [(2, .int (nI (2 + 1))), (1, .int (nI (1539))), (0, .ref h0)]) hx hb dX0_init_47 hl (k := 0) rfl (by exact (nI_1 (2))) (by decide) rfl (fun ls hl => ?_)
  refine lv_goto (tgt := 31) hx hb dX0_init_50 (by decide) ?_
  have hl : lv_has ls 3 [(2, .int (nI (3))), (1, .int (nI (1539))), (0, .ref h0)] := hl
  refine lv_iload_n hx hb dX0_init_31 rfl (lv_at hl 0 rfl) ?_
  refine lv_iconst (v := nI 3) hx hb dX0_init_32 (by decide +kernel) ?_
  refine lv_icmp_ge (tgt := 53) hx hb dX0_init_33 (by decide) (fun q2 => ?_) (fun q2 => ?_)
  · -- the end
    refine lv_aload_n hx hb dX0_init_53 rfl (lv_at hl 2 rfl) ?_
    refine lv_iconst (v := nI 0) hx hb dX0_init_54 (by decide +kernel) ?_
    refine va_put (D := (dC, dI)) (ci := 0) (v := .int (nI (0))) (ty := .int) (C := RX0) (T := TX0) (N := 4) hx hb hts hin0 tyX0 tyX0_ok nmX0 hown hK hP hD hS 0 rfl rfl 3 (by decide) (hts (.fieldLink RX0 19 "PieceBoxes" "pieces" "I") (by decide +kernel)) (fun _ h9 => h9) rfl (by decide +kernel) rfl rfl (Nat.le_of_ble_eq_true rfl) dX0_init_55 (fun H locs hP hD hS => ?_)
    have hP : va_P (dC, dI) vwCl [(h0, .inr (0, [.ref h1, .ref h2, .ref h3, .int (nI (0))])), (h1, .inl (k1, 1539, .inl ((fun _ => 0)))), (h2, .inl (k2, 1539, .inl ((fun _ => 0)))), (h3, .inl (k3, 1539, .inl (upd (upd (upd ((fun _ => 0)) (1536 + 0) (1)) (1536 + 1) (1)) (1536 + 2) (1))))] H := hP
    have hD : va_D A [(h0, .inr (0, [.ref h1, .ref h2, .ref h3, .int (nI (0))])), (h1, .inl (k1, 1539, .inl ((fun _ => 0)))), (h2, .inl (k2, 1539, .inl ((fun _ => 0)))), (h3, .inl (k3, 1539, .inl (upd (upd (upd ((fun _ => 0)) (1536 + 0) (1)) (1536 + 1) (1)) (1536 + 2) (1))))] := hD
    exact W.vret hx hb hr (fun t ht hW => ⟨⟨(), rfl, trivial, h1, h2, h3, k1, k2, k3, by rw [ht]; exact hP, va_K.moved hW.alike hK, hD⟩, hS.F ht⟩) hS.2.2 dX0_init_58
  · exact absurd (nI_le (Nat.le_refl 3) (by decide)) q2
end
section
def pr0 (M : Nat → Int32) : Nat → Int32 := fun j => M (3 * j)
def pr1 (M : Nat → Int32) : Nat → Int32 := fun j => M (3 * j + 1)
def pr2 (M : Nat → Int32) : Nat → Int32 := fun j => M (3 * j + 2)
def pb_ow (X Y : Nat → Int32) (i j : Nat) : Bool := decide (Y j < Y i) || (decide (Y j = Y i) && decide (X i < X j))
def pb_h (X Y : Nat → Int32) (i j : Nat) (x y : Int64) : Bool := decide (0 < pb_E X Y i j x y) || (decide (pb_E X Y i j x y = 0) && pb_ow X Y i j)
theorem pb_ans {a b : Int32} (h : a = b) : Outcome.returned (some (.int a)) = Outcome.returned (some (.int b)) := by rw [h]
theorem pb_sgn (e : Int64) (o : Bool) : (!(decide (e < 0)) && (!(decide (e = 0)) || o)) = (decide (0 < e) || (decide (e = 0) && o)) := by
  have h1 : e < 0 ↔ e.toInt < 0 := Int64.lt_iff_toInt_lt
  have h2 : 0 < e ↔ 0 < e.toInt := Int64.lt_iff_toInt_lt
  have h3 : e = 0 ↔ e.toInt = 0 := Int64.toInt_inj.symm
  by_cases a : e.toInt < 0
  · rw [decide_eq_true (h1.mpr a), decide_eq_false (fun h => absurd (h2.mp h) (by omega)), decide_eq_false (fun h => absurd (h3.mp h) (by omega))]
    rfl
  · by_cases b : e.toInt = 0
    · rw [decide_eq_false (fun h => a (h1.mp h)), decide_eq_true (h3.mpr b), decide_eq_false (fun h => absurd (h2.mp h) (by omega))]
      cases o <;> rfl
    · rw [decide_eq_false (fun h => a (h1.mp h)), decide_eq_false (fun h => b (h3.mp h)), decide_eq_true (h2.mpr (by omega))]
      rfl
theorem pb_c1_h (X Y : Nat → Int32) (sl k : Nat) (x y : Int64) : pb_c1 X Y sl k x y = pb_h X Y (sl * 3 + (k + 1) % 3) (sl * 3 + (k + 2) % 3) x y := pb_sgn _ _
theorem pb_cov_h (X Y : Nat → Int32) (sl : Nat) (x y : Int64) : pb_cov X Y sl x y = (pb_h X Y (sl * 3 + 1) (sl * 3 + 2) x y && (pb_h X Y (sl * 3 + 2) (sl * 3) x y && pb_h X Y (sl * 3) (sl * 3 + 1) x y)) := by
  unfold pb_cov
  rw [pb_c1_h, pb_c1_h, pb_c1_h]
  rfl
def pb_I1 (M : Nat → Int32) (sl : Nat) : Prop := pb_ins (pr0 M) (pr1 M) sl ∧ (∀ k, k < 3 → 0 ≤ (pr2 M (sl * 3 + k)).toInt ∧ (pr2 M (sl * 3 + k)).toInt ≤ 1048576) ∧ 0 < pb_ar (pr0 M) (pr1 M) sl
theorem pb_I1_ne {M : Nat → Int32} {sl : Nat} (h : pb_I1 M sl) : ¬ pb_ar (pr0 M) (pr1 M) sl = 0 := fun q => by
  have h3 := h.2.2
  rw [q] at h3
  exact absurd h3 (by decide)
theorem pb_nv_no {X Y Z : Nat → Int32} {sl : Nat} {xi yi : Int32} (h : pb_cov X Y sl (pb_mid xi) (pb_mid yi) = false) : pb_nv X Y Z sl xi yi = -1 := if_neg (by rw [h]; decide)
theorem pb_nv_n1 {X Y Z : Nat → Int32} {sl : Nat} {xi yi : Int32} (h : pb_h X Y (sl * 3 + 1) (sl * 3 + 2) (pb_mid xi) (pb_mid yi) = false) : pb_nv X Y Z sl xi yi = -1 := pb_nv_no (by rw [pb_cov_h, h]; rfl)
theorem pb_nv_n2 {X Y Z : Nat → Int32} {sl : Nat} {xi yi : Int32} (h : pb_h X Y (sl * 3 + 2) (sl * 3) (pb_mid xi) (pb_mid yi) = false) : pb_nv X Y Z sl xi yi = -1 := pb_nv_no (by rw [pb_cov_h, h]; simp)
theorem pb_nv_n3 {X Y Z : Nat → Int32} {sl : Nat} {xi yi : Int32} (h : pb_h X Y (sl * 3) (sl * 3 + 1) (pb_mid xi) (pb_mid yi) = false) : pb_nv X Y Z sl xi yi = -1 := pb_nv_no (by rw [pb_cov_h, h]; simp)
theorem pb_nv_m {M : Nat → Int32} {sl : Nat} {xi yi : Int32} (hI : pb_I1 M sl) (q1 : pb_h (pr0 M) (pr1 M) (sl * 3 + 1) (sl * 3 + 2) (pb_mid xi) (pb_mid yi) = true) (q2 : pb_h (pr0 M) (pr1 M) (sl * 3 + 2) (sl * 3) (pb_mid xi) (pb_mid yi) = true) (q3 : pb_h (pr0 M) (pr1 M) (sl * 3) (sl * 3 + 1) (pb_mid xi) (pb_mid yi) = true) :
    pb_nv (pr0 M) (pr1 M) (pr2 M) sl xi yi = ((pb_e (pr0 M) (pr1 M) sl 0 (pb_mid xi) (pb_mid yi) * (pr2 M (sl * 3 + 0)).toInt64 + pb_e (pr0 M) (pr1 M) sl 1 (pb_mid xi) (pb_mid yi) * (pr2 M (sl * 3 + 1)).toInt64 + pb_e (pr0 M) (pr1 M) sl 2 (pb_mid xi) (pb_mid yi) * (pr2 M (sl * 3 + 2)).toInt64) / pb_ar (pr0 M) (pr1 M) sl).toInt32 := by
  have hc : pb_cov (pr0 M) (pr1 M) sl (pb_mid xi) (pb_mid yi) = true := by rw [pb_cov_h, q1, q2, q3]; rfl
  have hn := pb_nn_int hI.1 hI.2.1 (pb_mid_abs xi) (pb_mid_abs yi) hI.2.2 hc
  have hA : 0 < (pb_ar (pr0 M) (pr1 M) sl).toInt := Int64.lt_iff_toInt_lt.mp hI.2.2
  unfold pb_nv
  rw [if_pos hc]
  unfold pb_nn
  rw [if_pos hI.2.2]
  have hf : pb_fd (pb_sum (pr0 M) (pr1 M) (pr2 M) sl (pb_mid xi) (pb_mid yi)) (pb_ar (pr0 M) (pr1 M) sl) = pb_sum (pr0 M) (pr1 M) (pr2 M) sl (pb_mid xi) (pb_mid yi) / pb_ar (pr0 M) (pr1 M) sl := if_neg (fun h => pb_xor hn.2.1 (Int.le_of_lt hA) h.1)
  rw [hf]
  unfold pb_sum
  rw [Int64.zero_add]
theorem pb_nv_c {M : Nat → Int32} {sl : Nat} {xi yi : Int32} (_ : pb_I1 M sl) (q : ¬ pb_nv (pr0 M) (pr1 M) (pr2 M) sl xi yi = -1) : pb_cov (pr0 M) (pr1 M) sl (pb_mid xi) (pb_mid yi) = true := by
  cases h : pb_cov (pr0 M) (pr1 M) sl (pb_mid xi) (pb_mid yi) with
  | true => rfl
  | false => exact absurd (pb_nv_no h) q
theorem pb_nv_nc {M : Nat → Int32} {sl : Nat} {xi yi : Int32} (hI : pb_I1 M sl) (q : pb_nv (pr0 M) (pr1 M) (pr2 M) sl xi yi = -1) : ¬ pb_cov (pr0 M) (pr1 M) sl (pb_mid xi) (pb_mid yi) = true := by
  intro hc
  have hn := (pb_nn_int hI.1 hI.2.1 (pb_mid_abs xi) (pb_mid_abs yi) hI.2.2 hc).1
  have q2 : pb_nn (pr0 M) (pr1 M) (pr2 M) sl (pb_mid xi) (pb_mid yi) = -1 := by
    rw [← q]
    exact (if_pos hc).symm
  rw [q2] at hn
  exact absurd hn (by decide)
def pb_mk (b : Bool) (M : Nat → Int32) (i : Nat) (x y r : Int32) : Nat → Int32 := if b = true then upd (upd (upd M i x) (i + 1) y) (i + 2) r else M
def pb_cq (M : Nat → Int32) (n : Nat) : Nat → Nat → Int32
  | 0 => M
  | k + 1 => upd (pb_cq M n k) (9 * n + k) (pb_cq M n k (4608 + k))
def pb_m0 : Nat → Int32 := upd (upd (upd (fun _ => 0) (4608 + 3 * 0 + 2) 1) (4608 + 3 * 1 + 2) 1) (4608 + 3 * 2 + 2) 1
end
section
set_option maxHeartbeats 4000000 in
set_option maxRecDepth 100000 in
theorem cR_edge (l : Launch) (dC : Nat → ClassId) (dI : Nat → Nat → Nat) (g0 g1 : Nat) (r1 : ClassId) (M : Nat → Int32) (n : Nat) (i j : Nat) (hi : i < 1539) (hj : j < 1539) (x y : Int64) : Met l yX1_edge wsX1_edge (k2_rm 0 0) (va_Pc [.ref g0, .int (nI (3 * i)), .int (nI (3 * j)), .long (x), .long (y)] (preR dC dI g0 g1 r1 M n)) (k2_QcV (.long (pb_E (pr0 M) (pr1 M) i j x y))) 0 0 (fun _ => False) := by
  refine Met.ofW (cc := cX1_edge) (maxL := 7) (ret := some .long) (by decide) rfl ?_
  intro p e s m args below meth c s₁ B hml hv
  obtain ⟨rfl, hP, hK⟩ := hv
  have hx := B.exec
  have hb := B.bytes
  have hr := B.returns
  have hts := atoms_spec (ws := wsX1_edge) B.pre
  have hown : s.vm.findClass RX1 = some m.cls := findClass_of_methodNamed B.named
  have hlocks := B.notSynchronized
  have hin1 : ∀ w ∈ u_ws RX1 TX1 3, w ∈ wsX1_edge := by decide +kernel
  have hl := lv_entry ([.ref g0, .int (nI (3 * i)), .int (nI (3 * j)), .long (x), .long (y)]) (n := 7) (Nat.le_of_ble_eq_true rfl)
  rw [lg_entry_eq]
  generalize (lg_sl ([.ref g0, .int (nI (3 * i)), .int (nI (3 * j)), .long (x), .long (y)]) ++ List.replicate (7 - (lg_sl ([.ref g0, .int (nI (3 * i)), .int (nI (3 * j)), .long (x), .long (y)])).length) Slot.unset).toArray = ls at hl ⊢
  have hl : lv_has ls 7 [(0, .ref g0), (1, .int (nI (3 * i))), (2, .int (nI (3 * j))), (3, .long (x)), (5, .long (y))] := hl
  refine lv_aload_n hx hb dX1_edge_0 rfl (lv_at hl 0 rfl) ?_
  refine va_get (D := (dC, dI)) (ci := 1) (v := .ref g1) (C := RX1) (T := TX1) (N := 3) hx hb hts hin1 hown hK hP 0 rfl rfl 2 (by decide) (hts (.fieldLink RX1 7 "PieceBoxesModel" "corners" "[I") (by decide +kernel)) (fun _ h9 => h9) rfl dX1_edge_1 ?_
  refine lv_iload_n hx hb dX1_edge_4 rfl (lv_at hl 2 rfl) ?_
  refine pb_ald (j := 3 * j) hx hb hK hP 1 0 rfl rfl (by omega) (by decide) dX1_edge_5 ?_
  refine lv_aload_n hx hb dX1_edge_6 rfl (lv_at hl 0 rfl) ?_
  refine va_get (D := (dC, dI)) (ci := 1) (v := .ref g1) (C := RX1) (T := TX1) (N := 3) hx hb hts hin1 hown hK hP 0 rfl rfl 2 (by decide) (hts (.fieldLink RX1 7 "PieceBoxesModel" "corners" "[I") (by decide +kernel)) (fun _ h9 => h9) rfl dX1_edge_7 ?_
  refine lv_iload_n hx hb dX1_edge_10 rfl (lv_at hl 1 rfl) ?_
  refine pb_ald (j := 3 * i) hx hb hK hP 1 0 rfl rfl (by omega) (by decide) dX1_edge_11 ?_
  refine lv_isub hx hb dX1_edge_12 ?_
  refine lv_i2l (v := ((M (3 * j) - M (3 * i))).toInt64) hx hb dX1_edge_13 rfl ?_
  refine lv_lload hx hb dX1_edge_14 (lv_at hl 4 rfl) ?_
  refine lv_aload_n hx hb dX1_edge_16 rfl (lv_at hl 0 rfl) ?_
  refine va_get (D := (dC, dI)) (ci := 1) (v := .ref g1) (C := RX1) (T := TX1) (N := 3) hx hb hts hin1 hown hK hP 0 rfl rfl 2 (by decide) (hts (.fieldLink RX1 7 "PieceBoxesModel" "corners" "[I") (by decide +kernel)) (fun _ h9 => h9) rfl dX1_edge_17 ?_
  refine lv_iload_n hx hb dX1_edge_20 rfl (lv_at hl 1 rfl) ?_
  refine lv_iconst (v := nI 1) hx hb dX1_edge_21 (by decide +kernel) ?_
  refine lv_iadd hx hb dX1_edge_22 ?_
  refine pb_eqi (nI_add _ _) ?_
  refine pb_ald (j := 3 * i + 1) hx hb hK hP 1 0 rfl rfl (by omega) (by decide) dX1_edge_23 ?_
  refine lv_i2l (v := (M (3 * i + 1)).toInt64) hx hb dX1_edge_24 rfl ?_
  refine lv_lsub hx hb dX1_edge_25 ?_
  refine lv_lmul hx hb dX1_edge_26 ?_
  refine lv_aload_n hx hb dX1_edge_27 rfl (lv_at hl 0 rfl) ?_
  refine va_get (D := (dC, dI)) (ci := 1) (v := .ref g1) (C := RX1) (T := TX1) (N := 3) hx hb hts hin1 hown hK hP 0 rfl rfl 2 (by decide) (hts (.fieldLink RX1 7 "PieceBoxesModel" "corners" "[I") (by decide +kernel)) (fun _ h9 => h9) rfl dX1_edge_28 ?_
  refine lv_iload_n hx hb dX1_edge_31 rfl (lv_at hl 2 rfl) ?_
  refine lv_iconst (v := nI 1) hx hb dX1_edge_32 (by decide +kernel) ?_
  refine lv_iadd hx hb dX1_edge_33 ?_
  refine pb_eqi (nI_add _ _) ?_
  refine pb_ald (j := 3 * j + 1) hx hb hK hP 1 0 rfl rfl (by omega) (by decide) dX1_edge_34 ?_
  refine lv_aload_n hx hb dX1_edge_35 rfl (lv_at hl 0 rfl) ?_
  refine va_get (D := (dC, dI)) (ci := 1) (v := .ref g1) (C := RX1) (T := TX1) (N := 3) hx hb hts hin1 hown hK hP 0 rfl rfl 2 (by decide) (hts (.fieldLink RX1 7 "PieceBoxesModel" "corners" "[I") (by decide +kernel)) (fun _ h9 => h9) rfl dX1_edge_36 ?_
  refine lv_iload_n hx hb dX1_edge_39 rfl (lv_at hl 1 rfl) ?_
  refine lv_iconst (v := nI 1) hx hb dX1_edge_40 (by decide +kernel) ?_
  refine lv_iadd hx hb dX1_edge_41 ?_
  refine pb_eqi (nI_add _ _) ?_
  refine pb_ald (j := 3 * i + 1) hx hb hK hP 1 0 rfl rfl (by omega) (by decide) dX1_edge_42 ?_
  refine lv_isub hx hb dX1_edge_43 ?_
  refine lv_i2l (v := ((M (3 * j + 1) - M (3 * i + 1))).toInt64) hx hb dX1_edge_44 rfl ?_
  refine lv_lload_n hx hb dX1_edge_45 rfl (lv_at hl 3 rfl) ?_
  refine lv_aload_n hx hb dX1_edge_46 rfl (lv_at hl 0 rfl) ?_
  refine va_get (D := (dC, dI)) (ci := 1) (v := .ref g1) (C := RX1) (T := TX1) (N := 3) hx hb hts hin1 hown hK hP 0 rfl rfl 2 (by decide) (hts (.fieldLink RX1 7 "PieceBoxesModel" "corners" "[I") (by decide +kernel)) (fun _ h9 => h9) rfl dX1_edge_47 ?_
  refine lv_iload_n hx hb dX1_edge_50 rfl (lv_at hl 1 rfl) ?_
  refine pb_ald (j := 3 * i) hx hb hK hP 1 0 rfl rfl (by omega) (by decide) dX1_edge_51 ?_
  refine lv_i2l (v := (M (3 * i)).toInt64) hx hb dX1_edge_52 rfl ?_
  refine lv_lsub hx hb dX1_edge_53 ?_
  refine lv_lmul hx hb dX1_edge_54 ?_
  refine lv_lsub hx hb dX1_edge_55 ?_
  exact W.lret (v := (((((M (3 * j) - M (3 * i))).toInt64 * (y - (M (3 * i + 1)).toInt64)) - (((M (3 * j + 1) - M (3 * i + 1))).toInt64 * (x - (M (3 * i)).toInt64))))) hx hb hr (fun t ht hW => ⟨rfl, ht⟩) (fun q h => by cases h) dX1_edge_56
set_option maxHeartbeats 4000000 in
set_option maxRecDepth 100000 in
theorem cR_areaAt (l : Launch) (dC : Nat → ClassId) (dI : Nat → Nat → Nat) (g0 g1 : Nat) (r1 : ClassId) (M : Nat → Int32) (n : Nat) (sl : Nat) (hs : sl ≤ 512) : Met l yX1_areaAt wsX1_areaAt (k2_rm 1 26) (va_Pc [.ref g0, .int (nI (3 * (sl * 3)))] (preR dC dI g0 g1 r1 M n)) (k2_QcV (.long (pb_ar (pr0 M) (pr1 M) sl))) 0 0 (fun _ => False) := by
  refine Met.ofW (cc := cX1_areaAt) (maxL := 2) (ret := some .long) (by decide) rfl ?_
  intro p e s m args below meth c s₁ B hml hv
  obtain ⟨rfl, hP, hK⟩ := hv
  have hx := B.exec
  have hb := B.bytes
  have hr := B.returns
  have hts := atoms_spec (ws := wsX1_areaAt) B.pre
  have hown : s.vm.findClass RX1 = some m.cls := findClass_of_methodNamed B.named
  have hlocks := B.notSynchronized
  have hin1 : ∀ w ∈ u_ws RX1 TX1 3, w ∈ wsX1_areaAt := by decide +kernel
  have hl := lv_entry ([.ref g0, .int (nI (3 * (sl * 3)))]) (n := 2) (Nat.le_of_ble_eq_true rfl)
  rw [lg_entry_eq]
  generalize (lg_sl ([.ref g0, .int (nI (3 * (sl * 3)))]) ++ List.replicate (2 - (lg_sl ([.ref g0, .int (nI (3 * (sl * 3)))])).length) Slot.unset).toArray = ls at hl ⊢
  have hl : lv_has ls 2 [(0, .ref g0), (1, .int (nI (3 * (sl * 3))))] := hl
  refine lv_aload_n hx hb dX1_areaAt_0 rfl (lv_at hl 0 rfl) ?_
  refine lv_iload_n hx hb dX1_areaAt_1 rfl (lv_at hl 1 rfl) ?_
  refine lv_iload_n hx hb dX1_areaAt_2 rfl (lv_at hl 1 rfl) ?_
  refine lv_iconst (v := nI 3) hx hb dX1_areaAt_3 (by decide +kernel) ?_
  refine lv_iadd hx hb dX1_areaAt_4 ?_
  refine pb_eqi (nI_add _ _) ?_
  refine pb_eqi (congrArg nI (show 3 * (sl * 3) + 3 = 3 * (sl * 3 + 1) by omega)) ?_
  refine lv_aload_n hx hb dX1_areaAt_5 rfl (lv_at hl 0 rfl) ?_
  refine va_get (D := (dC, dI)) (ci := 1) (v := .ref g1) (C := RX1) (T := TX1) (N := 3) hx hb hts hin1 hown hK hP 0 rfl rfl 2 (by decide) (hts (.fieldLink RX1 7 "PieceBoxesModel" "corners" "[I") (by decide +kernel)) (fun _ h9 => h9) rfl dX1_areaAt_6 ?_
  refine lv_iload_n hx hb dX1_areaAt_9 rfl (lv_at hl 1 rfl) ?_
  refine lv_bipush (v := nI 6) hx hb dX1_areaAt_10 (by decide +kernel) ?_
  refine lv_iadd hx hb dX1_areaAt_12 ?_
  refine pb_eqi (nI_add _ _) ?_
  refine pb_eqi (congrArg nI (show 3 * (sl * 3) + 6 = 3 * (sl * 3 + 2) by omega)) ?_
  refine pb_ald (j := 3 * (sl * 3 + 2)) hx hb hK hP 1 0 rfl rfl (by omega) (by decide) dX1_areaAt_13 ?_
  refine lv_i2l (v := (M (3 * (sl * 3 + 2))).toInt64) hx hb dX1_areaAt_14 rfl ?_
  refine lv_aload_n hx hb dX1_areaAt_15 rfl (lv_at hl 0 rfl) ?_
  refine va_get (D := (dC, dI)) (ci := 1) (v := .ref g1) (C := RX1) (T := TX1) (N := 3) hx hb hts hin1 hown hK hP 0 rfl rfl 2 (by decide) (hts (.fieldLink RX1 7 "PieceBoxesModel" "corners" "[I") (by decide +kernel)) (fun _ h9 => h9) rfl dX1_areaAt_16 ?_
  refine lv_iload_n hx hb dX1_areaAt_19 rfl (lv_at hl 1 rfl) ?_
  refine lv_bipush (v := nI 7) hx hb dX1_areaAt_20 (by decide +kernel) ?_
  refine lv_iadd hx hb dX1_areaAt_22 ?_
  refine pb_eqi (nI_add _ _) ?_
  refine pb_eqi (congrArg nI (show 3 * (sl * 3) + 7 = 3 * (sl * 3 + 2) + 1 by omega)) ?_
  refine pb_ald (j := 3 * (sl * 3 + 2) + 1) hx hb hK hP 1 0 rfl rfl (by omega) (by decide) dX1_areaAt_23 ?_
  refine lv_i2l (v := (M (3 * (sl * 3 + 2) + 1)).toInt64) hx hb dX1_areaAt_24 rfl ?_
  refine pb_call (W.runV (As := [.int (nI (3 * (sl * 3))), .int (nI (3 * (sl * 3 + 1))), .long ((M (3 * (sl * 3 + 2))).toInt64), .long ((M (3 * (sl * 3 + 2) + 1)).toInt64)]) (rest := []) ⟨hx, hb, hml, hown, hts⟩ (cR_edge l dC dI g0 g1 r1 M n (sl * 3) (sl * 3 + 1) (by omega) (by omega) (M (3 * (sl * 3 + 2))).toInt64 (M (3 * (sl * 3 + 2) + 1)).toInt64) (cwV 4 hts gX1_areaAt_X1_edge rfl rfl rfl (by decide +kernel) ⟨Nat.le_of_ble_eq_true rfl, Nat.le_of_ble_eq_true rfl⟩) (preR_V hP hK _) rfl rfl hl.1 rfl (lv_room (Nat.le_of_ble_eq_true rfl)) dX1_areaAt_25 ⟨Nat.zero_le _, Nat.zero_le _⟩) ?_
  exact W.lret (v := (pb_E (pr0 M) (pr1 M) (sl * 3) (sl * 3 + 1) (M (3 * (sl * 3 + 2))).toInt64 (M (3 * (sl * 3 + 2) + 1)).toInt64)) hx hb hr (fun t ht hW => ⟨rfl, ht⟩) (fun q h => by cases h) dX1_areaAt_28
set_option maxHeartbeats 4000000 in
set_option maxRecDepth 100000 in
theorem cR_holds (l : Launch) (dC : Nat → ClassId) (dI : Nat → Nat → Nat) (g0 g1 : Nat) (r1 : ClassId) (M : Nat → Int32) (n : Nat) (i j : Nat) (hi : i < 1539) (hj : j < 1539) (x y : Int64) : Met l yX1_holds wsX1_holds (k2_rm 1 26) (va_Pc [.ref g0, .int (nI (3 * i)), .int (nI (3 * j)), .long (x), .long (y)] (preR dC dI g0 g1 r1 M n)) (k2_QcV (.int (pb_b (pb_h (pr0 M) (pr1 M) i j x y)))) 0 0 (fun _ => False) := by
  refine Met.ofW (cc := cX1_holds) (maxL := 10) (ret := some .boolean) (by decide) rfl ?_
  intro p e s m args below meth c s₁ B hml hv
  obtain ⟨rfl, hP, hK⟩ := hv
  have hx := B.exec
  have hb := B.bytes
  have hr := B.returns
  have hts := atoms_spec (ws := wsX1_holds) B.pre
  have hown : s.vm.findClass RX1 = some m.cls := findClass_of_methodNamed B.named
  have hlocks := B.notSynchronized
  have hin1 : ∀ w ∈ u_ws RX1 TX1 3, w ∈ wsX1_holds := by decide +kernel
  have hl := lv_entry ([.ref g0, .int (nI (3 * i)), .int (nI (3 * j)), .long (x), .long (y)]) (n := 10) (Nat.le_of_ble_eq_true rfl)
  rw [lg_entry_eq]
  generalize (lg_sl ([.ref g0, .int (nI (3 * i)), .int (nI (3 * j)), .long (x), .long (y)]) ++ List.replicate (10 - (lg_sl ([.ref g0, .int (nI (3 * i)), .int (nI (3 * j)), .long (x), .long (y)])).length) Slot.unset).toArray = ls at hl ⊢
  have hl : lv_has ls 10 [(0, .ref g0), (1, .int (nI (3 * i))), (2, .int (nI (3 * j))), (3, .long (x)), (5, .long (y))] := hl
  refine lv_aload_n hx hb dX1_holds_0 rfl (lv_at hl 0 rfl) ?_
  refine lv_iload_n hx hb dX1_holds_1 rfl (lv_at hl 1 rfl) ?_
  refine lv_iload_n hx hb dX1_holds_2 rfl (lv_at hl 2 rfl) ?_
  refine lv_lload_n hx hb dX1_holds_3 rfl (lv_at hl 3 rfl) ?_
  refine lv_lload hx hb dX1_holds_4 (lv_at hl 4 rfl) ?_
  refine pb_call (W.runV (As := [.int (nI (3 * i)), .int (nI (3 * j)), .long (x), .long (y)]) (rest := []) ⟨hx, hb, hml, hown, hts⟩ (cR_edge l dC dI g0 g1 r1 M n i j hi hj x y) (cwV 4 hts gX1_holds_X1_edge rfl rfl rfl (by decide +kernel) ⟨Nat.le_of_ble_eq_true rfl, Nat.le_of_ble_eq_true rfl⟩) (preR_V hP hK _) rfl rfl hl.1 rfl (lv_room (Nat.le_of_ble_eq_true rfl)) dX1_holds_6 ⟨Nat.zero_le _, Nat.zero_le _⟩) ?_
  refine lv_lstore (lv' := [(7, .long (pb_E (pr0 M) (pr1 M) i j x y)), (0, .ref g0), (1, .int (nI (3 * i))), (2, .int (nI (3 * j))), (3, .long (x)), (5, .long (y))]) hx hb dX1_holds_9 hl (by decide) rfl (fun ls hl => ?_)
  have tail : ∀ ls : Array Slot, lv_has ls 10 [(9, .int (pb_b (pb_ow (pr0 M) (pr1 M) i j))), (7, .long (pb_E (pr0 M) (pr1 M) i j x y)), (0, .ref g0), (1, .int (nI (3 * i))), (2, .int (nI (3 * j)))] → W p l e (headSpec wsX1_holds (k2_rm 1 26)).room s m ([.ref g0, .int (nI (3 * i)), .int (nI (3 * j)), .long (x), .long (y)] : List Value).toArray below meth c s.heap [] 0 0 (MQ below (k2_QcV (.int (pb_b (pb_h (pr0 M) (pr1 M) i j x y)))) ([.ref g0, .int (nI (3 * i)), .int (nI (3 * j)), .long (x), .long (y)] : List Value).toArray s 0 0 (fun _ => False)) (F0 m 71 ls []) := by
    intro ls hl
    refine lv_lload hx hb dX1_holds_71 (lv_at hl 1 rfl) ?_
    refine lv_lconst (v := 0) hx hb dX1_holds_73 (by decide +kernel) ?_
    refine W.lcmp hx hb dX1_holds_74 ?_
    refine lv_if_gt (tgt := 90) hx hb dX1_holds_75 (by decide) (fun q1 => ?_) (fun q1 => ?_)
    · -- above
      have q1 := (lg_cmp_gt _ _).mp q1
      refine lv_iconst (v := 1) hx hb dX1_holds_90 (by decide +kernel) ?_
      refine lv_goto (tgt := 95) hx hb dX1_holds_91 (by decide) ?_
      exact W.zret (v := (1)) hx hb hr narrow_b1 (fun t ht hW => ⟨by rw [show pb_h (pr0 M) (pr1 M) i j x y = true by simp [pb_h, q1]]; rfl, ht⟩) (fun q h => by cases h) dX1_holds_95
    · -- not above
      have q1 : ¬ 0 < pb_E (pr0 M) (pr1 M) i j x y := fun h => q1 ((lg_cmp_gt _ _).mpr h)
      refine lv_lload hx hb dX1_holds_78 (lv_at hl 1 rfl) ?_
      refine lv_lconst (v := 0) hx hb dX1_holds_80 (by decide +kernel) ?_
      refine W.lcmp hx hb dX1_holds_81 ?_
      refine lv_if_ne (tgt := 94) hx hb dX1_holds_82 (by decide) (fun q2 => ?_) (fun q2 => ?_)
      · -- below
        have q2 : ¬ pb_E (pr0 M) (pr1 M) i j x y = 0 := fun h => q2 ((lg_cmp_eq _ _).mpr h)
        refine lv_iconst (v := 0) hx hb dX1_holds_94 (by decide +kernel) ?_
        exact W.zret (v := (0)) hx hb hr narrow_b0 (fun t ht hW => ⟨by rw [show pb_h (pr0 M) (pr1 M) i j x y = false by simp [pb_h, q1, q2]]; rfl, ht⟩) (fun q h => by cases h) dX1_holds_95
      · -- on it
        have q2 : pb_E (pr0 M) (pr1 M) i j x y = 0 := (lg_cmp_eq _ _).mp q2
        refine lv_iload hx hb dX1_holds_85 (lv_at hl 0 rfl) ?_
        refine lv_if_eq (tgt := 94) hx hb dX1_holds_87 (by decide) (fun q3 => ?_) (fun q3 => ?_)
        · -- not its own
          have q3 := pb_b_eq q3
          refine lv_iconst (v := 0) hx hb dX1_holds_94 (by decide +kernel) ?_
          exact W.zret (v := (0)) hx hb hr narrow_b0 (fun t ht hW => ⟨by rw [show pb_h (pr0 M) (pr1 M) i j x y = false by simp [pb_h, q1, q3]]; rfl, ht⟩) (fun q h => by cases h) dX1_holds_95
        · -- its own
          have q3 := pb_b_ne q3
          refine lv_iconst (v := 1) hx hb dX1_holds_90 (by decide +kernel) ?_
          refine lv_goto (tgt := 95) hx hb dX1_holds_91 (by decide) ?_
          exact W.zret (v := (1)) hx hb hr narrow_b1 (fun t ht hW => ⟨by rw [show pb_h (pr0 M) (pr1 M) i j x y = true by simp [pb_h, q2, q3]]; rfl, ht⟩) (fun q h => by cases h) dX1_holds_95
  refine lv_aload_n hx hb dX1_holds_11 rfl (lv_at hl 1 rfl) ?_
  refine va_get (D := (dC, dI)) (ci := 1) (v := .ref g1) (C := RX1) (T := TX1) (N := 3) hx hb hts hin1 hown hK hP 0 rfl rfl 2 (by decide) (hts (.fieldLink RX1 7 "PieceBoxesModel" "corners" "[I") (by decide +kernel)) (fun _ h9 => h9) rfl dX1_holds_12 ?_
  refine lv_iload_n hx hb dX1_holds_15 rfl (lv_at hl 3 rfl) ?_
  refine lv_iconst (v := nI 1) hx hb dX1_holds_16 (by decide +kernel) ?_
  refine lv_iadd hx hb dX1_holds_17 ?_
  refine pb_eqi (nI_add _ _) ?_
  refine pb_ald (j := 3 * j + 1) hx hb hK hP 1 0 rfl rfl (by omega) (by decide) dX1_holds_18 ?_
  refine lv_aload_n hx hb dX1_holds_19 rfl (lv_at hl 1 rfl) ?_
  refine va_get (D := (dC, dI)) (ci := 1) (v := .ref g1) (C := RX1) (T := TX1) (N := 3) hx hb hts hin1 hown hK hP 0 rfl rfl 2 (by decide) (hts (.fieldLink RX1 7 "PieceBoxesModel" "corners" "[I") (by decide +kernel)) (fun _ h9 => h9) rfl dX1_holds_20 ?_
  refine lv_iload_n hx hb dX1_holds_23 rfl (lv_at hl 2 rfl) ?_
  refine lv_iconst (v := nI 1) hx hb dX1_holds_24 (by decide +kernel) ?_
  refine lv_iadd hx hb dX1_holds_25 ?_
  refine pb_eqi (nI_add _ _) ?_
  refine pb_ald (j := 3 * i + 1) hx hb hK hP 1 0 rfl rfl (by omega) (by decide) dX1_holds_26 ?_
  refine lv_icmp_lt (tgt := 64) hx hb dX1_holds_27 (by decide) (fun q1 => ?_) (fun q1 => ?_)
  · -- up
    refine lv_iconst (v := 1) hx hb dX1_holds_64 (by decide +kernel) ?_
    refine lv_goto (tgt := 69) hx hb dX1_holds_65 (by decide) ?_
    refine lv_istore (lv' := [(9, .int (1)), (7, .long (pb_E (pr0 M) (pr1 M) i j x y)), (0, .ref g0), (1, .int (nI (3 * i))), (2, .int (nI (3 * j))), (3, .long (x)), (5, .long (y))]) hx hb dX1_holds_69 hl (by decide) rfl (fun ls hl => ?_)
    have ho : pb_ow (pr0 M) (pr1 M) i j = true := by unfold pb_ow; simp [pr0, pr1, q1]
    exact tail ls (by rw [ho]; exact lv_sub hl [0, 1, 2, 3, 4] rfl)
  · -- not up
    refine lv_aload_n hx hb dX1_holds_30 rfl (lv_at hl 1 rfl) ?_
    refine va_get (D := (dC, dI)) (ci := 1) (v := .ref g1) (C := RX1) (T := TX1) (N := 3) hx hb hts hin1 hown hK hP 0 rfl rfl 2 (by decide) (hts (.fieldLink RX1 7 "PieceBoxesModel" "corners" "[I") (by decide +kernel)) (fun _ h9 => h9) rfl dX1_holds_31 ?_
    refine lv_iload_n hx hb dX1_holds_34 rfl (lv_at hl 3 rfl) ?_
    refine lv_iconst (v := nI 1) hx hb dX1_holds_35 (by decide +kernel) ?_
    refine lv_iadd hx hb dX1_holds_36 ?_
    refine pb_eqi (nI_add _ _) ?_
    refine pb_ald (j := 3 * j + 1) hx hb hK hP 1 0 rfl rfl (by omega) (by decide) dX1_holds_37 ?_
    refine lv_aload_n hx hb dX1_holds_38 rfl (lv_at hl 1 rfl) ?_
    refine va_get (D := (dC, dI)) (ci := 1) (v := .ref g1) (C := RX1) (T := TX1) (N := 3) hx hb hts hin1 hown hK hP 0 rfl rfl 2 (by decide) (hts (.fieldLink RX1 7 "PieceBoxesModel" "corners" "[I") (by decide +kernel)) (fun _ h9 => h9) rfl dX1_holds_39 ?_
    refine lv_iload_n hx hb dX1_holds_42 rfl (lv_at hl 2 rfl) ?_
    refine lv_iconst (v := nI 1) hx hb dX1_holds_43 (by decide +kernel) ?_
    refine lv_iadd hx hb dX1_holds_44 ?_
    refine pb_eqi (nI_add _ _) ?_
    refine pb_ald (j := 3 * i + 1) hx hb hK hP 1 0 rfl rfl (by omega) (by decide) dX1_holds_45 ?_
    refine lv_icmp_ne (tgt := 68) hx hb dX1_holds_46 (by decide) (fun q2 => ?_) (fun q2 => ?_)
    · -- down
      refine lv_iconst (v := 0) hx hb dX1_holds_68 (by decide +kernel) ?_
      refine lv_istore (lv' := [(9, .int (0)), (7, .long (pb_E (pr0 M) (pr1 M) i j x y)), (0, .ref g0), (1, .int (nI (3 * i))), (2, .int (nI (3 * j))), (3, .long (x)), (5, .long (y))]) hx hb dX1_holds_69 hl (by decide) rfl (fun ls hl => ?_)
      have ho : pb_ow (pr0 M) (pr1 M) i j = false := by unfold pb_ow; simp [pr0, pr1, q1, q2]
      exact tail ls (by rw [ho]; exact lv_sub hl [0, 1, 2, 3, 4] rfl)
    · -- level
      refine lv_aload_n hx hb dX1_holds_49 rfl (lv_at hl 1 rfl) ?_
      refine va_get (D := (dC, dI)) (ci := 1) (v := .ref g1) (C := RX1) (T := TX1) (N := 3) hx hb hts hin1 hown hK hP 0 rfl rfl 2 (by decide) (hts (.fieldLink RX1 7 "PieceBoxesModel" "corners" "[I") (by decide +kernel)) (fun _ h9 => h9) rfl dX1_holds_50 ?_
      refine lv_iload_n hx hb dX1_holds_53 rfl (lv_at hl 3 rfl) ?_
      refine pb_ald (j := 3 * j) hx hb hK hP 1 0 rfl rfl (by omega) (by decide) dX1_holds_54 ?_
      refine lv_aload_n hx hb dX1_holds_55 rfl (lv_at hl 1 rfl) ?_
      refine va_get (D := (dC, dI)) (ci := 1) (v := .ref g1) (C := RX1) (T := TX1) (N := 3) hx hb hts hin1 hown hK hP 0 rfl rfl 2 (by decide) (hts (.fieldLink RX1 7 "PieceBoxesModel" "corners" "[I") (by decide +kernel)) (fun _ h9 => h9) rfl dX1_holds_56 ?_
      refine lv_iload_n hx hb dX1_holds_59 rfl (lv_at hl 2 rfl) ?_
      refine pb_ald (j := 3 * i) hx hb hK hP 1 0 rfl rfl (by omega) (by decide) dX1_holds_60 ?_
      refine lv_icmp_le (tgt := 68) hx hb dX1_holds_61 (by decide) (fun q3 => ?_) (fun q3 => ?_)
      · -- to the left
        have q3 := Int32.not_lt.mpr q3
        refine lv_iconst (v := 0) hx hb dX1_holds_68 (by decide +kernel) ?_
        refine lv_istore (lv' := [(9, .int (0)), (7, .long (pb_E (pr0 M) (pr1 M) i j x y)), (0, .ref g0), (1, .int (nI (3 * i))), (2, .int (nI (3 * j))), (3, .long (x)), (5, .long (y))]) hx hb dX1_holds_69 hl (by decide) rfl (fun ls hl => ?_)
        have ho : pb_ow (pr0 M) (pr1 M) i j = false := by unfold pb_ow; simp [pr0, pr1, q2, q3]
        exact tail ls (by rw [ho]; exact lv_sub hl [0, 1, 2, 3, 4] rfl)
      · -- to the right
        have q3 := Int32.not_le.mp q3
        refine lv_iconst (v := 1) hx hb dX1_holds_64 (by decide +kernel) ?_
        refine lv_goto (tgt := 69) hx hb dX1_holds_65 (by decide) ?_
        refine lv_istore (lv' := [(9, .int (1)), (7, .long (pb_E (pr0 M) (pr1 M) i j x y)), (0, .ref g0), (1, .int (nI (3 * i))), (2, .int (nI (3 * j))), (3, .long (x)), (5, .long (y))]) hx hb dX1_holds_69 hl (by decide) rfl (fun ls hl => ?_)
        have ho : pb_ow (pr0 M) (pr1 M) i j = true := by unfold pb_ow; simp [pr0, pr1, q2, q3]
        exact tail ls (by rw [ho]; exact lv_sub hl [0, 1, 2, 3, 4] rfl)
end
section
set_option maxHeartbeats 4000000 in
set_option maxRecDepth 100000 in
theorem cR_nearAt (l : Launch) (dC : Nat → ClassId) (dI : Nat → Nat → Nat) (g0 g1 : Nat) (r1 : ClassId) (M : Nat → Int32) (n : Nat) (sl : Nat) (hs : sl < 512) (xi yi : Int32) (hI : pb_I1 M sl) : Met l yX1_nearAt wsX1_nearAt (k2_rm 2 55) (va_Pc [.ref g0, .int (nI (sl)), .int (xi), .int (yi)] (preR dC dI g0 g1 r1 M n)) (k2_QcV (.int (pb_nv (pr0 M) (pr1 M) (pr2 M) sl xi yi))) 0 0 (fun _ => False) := by
  refine Met.ofW (cc := cX1_nearAt) (maxL := 11) (ret := some .int) (by decide) rfl ?_
  intro p e s m args below meth c s₁ B hml hv
  obtain ⟨rfl, hP, hK⟩ := hv
  have hx := B.exec
  have hb := B.bytes
  have hr := B.returns
  have hts := atoms_spec (ws := wsX1_nearAt) B.pre
  have hown : s.vm.findClass RX1 = some m.cls := findClass_of_methodNamed B.named
  have hlocks := B.notSynchronized
  have hin1 : ∀ w ∈ u_ws RX1 TX1 3, w ∈ wsX1_nearAt := by decide +kernel
  have hl := lv_entry ([.ref g0, .int (nI (sl)), .int (xi), .int (yi)]) (n := 11) (Nat.le_of_ble_eq_true rfl)
  rw [lg_entry_eq]
  generalize (lg_sl ([.ref g0, .int (nI (sl)), .int (xi), .int (yi)]) ++ List.replicate (11 - (lg_sl ([.ref g0, .int (nI (sl)), .int (xi), .int (yi)])).length) Slot.unset).toArray = ls at hl ⊢
  have hl : lv_has ls 11 [(0, .ref g0), (1, .int (nI (sl))), (2, .int (xi)), (3, .int (yi))] := hl
  refine lv_bipush (v := nI 9) hx hb dX1_nearAt_0 (by decide +kernel) ?_
  refine lv_iload_n hx hb dX1_nearAt_2 rfl (lv_at hl 1 rfl) ?_
  refine lv_imul hx hb dX1_nearAt_3 ?_
  refine pb_eqi (pk_mul _ _) ?_
  refine pb_eqi (congrArg nI (show 9 * sl = 3 * (sl * 3) by omega)) ?_
  refine lv_istore (lv' := [(4, .int (nI (3 * (sl * 3)))), (0, .ref g0), (1, .int (nI (sl))), (2, .int (xi)), (3, .int (yi))]) hx hb dX1_nearAt_4 hl (by decide) rfl (fun ls hl => ?_)
  refine lv_ldc2 (v := 16) hx hb hown (hts (.constantLong RX1 29 16) (by decide +kernel)) dX1_nearAt_6 ?_
  refine lv_iload_n hx hb dX1_nearAt_9 rfl (lv_at hl 3 rfl) ?_
  refine lv_i2l (v := (xi).toInt64) hx hb dX1_nearAt_10 rfl ?_
  refine lv_lmul hx hb dX1_nearAt_11 ?_
  refine lv_ldc2 (v := 8) hx hb hown (hts (.constantLong RX1 31 8) (by decide +kernel)) dX1_nearAt_12 ?_
  refine lv_ladd hx hb dX1_nearAt_15 ?_
  refine lv_lstore (lv' := [(5, .long (((16 * (xi).toInt64) + 8))), (4, .int (nI (3 * (sl * 3)))), (0, .ref g0), (1, .int (nI (sl))), (2, .int (xi)), (3, .int (yi))]) hx hb dX1_nearAt_16 hl (by decide) rfl (fun ls hl => ?_)
  have hl : lv_has ls 11 [(5, .long (pb_mid xi)), (4, .int (nI (3 * (sl * 3)))), (0, .ref g0), (1, .int (nI (sl))), (2, .int (xi)), (3, .int (yi))] := hl
  refine lv_ldc2 (v := 16) hx hb hown (hts (.constantLong RX1 29 16) (by decide +kernel)) dX1_nearAt_18 ?_
  refine lv_iload_n hx hb dX1_nearAt_21 rfl (lv_at hl 5 rfl) ?_
  refine lv_i2l (v := (yi).toInt64) hx hb dX1_nearAt_22 rfl ?_
  refine lv_lmul hx hb dX1_nearAt_23 ?_
  refine lv_ldc2 (v := 8) hx hb hown (hts (.constantLong RX1 31 8) (by decide +kernel)) dX1_nearAt_24 ?_
  refine lv_ladd hx hb dX1_nearAt_27 ?_
  refine lv_lstore (lv' := [(7, .long (((16 * (yi).toInt64) + 8))), (5, .long (pb_mid xi)), (4, .int (nI (3 * (sl * 3)))), (0, .ref g0), (1, .int (nI (sl))), (2, .int (xi)), (3, .int (yi))]) hx hb dX1_nearAt_28 hl (by decide) rfl (fun ls hl => ?_)
  have hl : lv_has ls 11 [(7, .long (pb_mid yi)), (5, .long (pb_mid xi)), (4, .int (nI (3 * (sl * 3)))), (0, .ref g0), (1, .int (nI (sl))), (2, .int (xi)), (3, .int (yi))] := hl
  refine lv_aload_n hx hb dX1_nearAt_30 rfl (lv_at hl 3 rfl) ?_
  refine lv_iload hx hb dX1_nearAt_31 (lv_at hl 2 rfl) ?_
  refine lv_iconst (v := nI 3) hx hb dX1_nearAt_33 (by decide +kernel) ?_
  refine lv_iadd hx hb dX1_nearAt_34 ?_
  refine pb_eqi (nI_add _ _) ?_
  refine pb_eqi (congrArg nI (show 3 * (sl * 3) + 3 = 3 * (sl * 3 + 1) by omega)) ?_
  refine lv_iload hx hb dX1_nearAt_35 (lv_at hl 2 rfl) ?_
  refine lv_bipush (v := nI 6) hx hb dX1_nearAt_37 (by decide +kernel) ?_
  refine lv_iadd hx hb dX1_nearAt_39 ?_
  refine pb_eqi (nI_add _ _) ?_
  refine pb_eqi (congrArg nI (show 3 * (sl * 3) + 6 = 3 * (sl * 3 + 2) by omega)) ?_
  refine lv_lload hx hb dX1_nearAt_40 (lv_at hl 1 rfl) ?_
  refine lv_lload hx hb dX1_nearAt_42 (lv_at hl 0 rfl) ?_
  refine pb_call (W.runV (As := [.int (nI (3 * (sl * 3 + 1))), .int (nI (3 * (sl * 3 + 2))), .long (pb_mid xi), .long (pb_mid yi)]) (rest := []) ⟨hx, hb, hml, hown, hts⟩ (cR_holds l dC dI g0 g1 r1 M n (sl * 3 + 1) (sl * 3 + 2) (by omega) (by omega) (pb_mid xi) (pb_mid yi)) (cwV 4 hts gX1_nearAt_X1_holds rfl rfl rfl (by decide +kernel) ⟨Nat.le_of_ble_eq_true rfl, Nat.le_of_ble_eq_true rfl⟩) (preR_V hP hK _) rfl rfl hl.1 rfl (lv_room (Nat.le_of_ble_eq_true rfl)) dX1_nearAt_44 ⟨Nat.zero_le _, Nat.zero_le _⟩) ?_
  refine lv_if_eq (tgt := 85) hx hb dX1_nearAt_47 (by decide) (fun q1 => ?_) (fun q1 => ?_)
  · -- outside
    have q1 := pb_b_eq q1
    refine lv_iconst (v := (-1)) hx hb dX1_nearAt_85 (by decide +kernel) ?_
    exact W.iret (v := (-1)) hx hb hr (fun t ht hW => ⟨by rw [pb_nv_n1 q1], ht⟩) (fun q h => by cases h) dX1_nearAt_86
  · -- on
    have q1 := pb_b_ne q1
    refine lv_aload_n hx hb dX1_nearAt_50 rfl (lv_at hl 3 rfl) ?_
    refine lv_iload hx hb dX1_nearAt_51 (lv_at hl 2 rfl) ?_
    refine lv_bipush (v := nI 6) hx hb dX1_nearAt_53 (by decide +kernel) ?_
    refine lv_iadd hx hb dX1_nearAt_55 ?_
    refine pb_eqi (nI_add _ _) ?_
    refine pb_eqi (congrArg nI (show 3 * (sl * 3) + 6 = 3 * (sl * 3 + 2) by omega)) ?_
    refine lv_iload hx hb dX1_nearAt_56 (lv_at hl 2 rfl) ?_
    refine lv_lload hx hb dX1_nearAt_58 (lv_at hl 1 rfl) ?_
    refine lv_lload hx hb dX1_nearAt_60 (lv_at hl 0 rfl) ?_
    refine pb_call (W.runV (As := [.int (nI (3 * (sl * 3 + 2))), .int (nI (3 * (sl * 3))), .long (pb_mid xi), .long (pb_mid yi)]) (rest := []) ⟨hx, hb, hml, hown, hts⟩ (cR_holds l dC dI g0 g1 r1 M n (sl * 3 + 2) (sl * 3) (by omega) (by omega) (pb_mid xi) (pb_mid yi)) (cwV 4 hts gX1_nearAt_X1_holds rfl rfl rfl (by decide +kernel) ⟨Nat.le_of_ble_eq_true rfl, Nat.le_of_ble_eq_true rfl⟩) (preR_V hP hK _) rfl rfl hl.1 rfl (lv_room (Nat.le_of_ble_eq_true rfl)) dX1_nearAt_62 ⟨Nat.zero_le _, Nat.zero_le _⟩) ?_
    refine lv_if_eq (tgt := 85) hx hb dX1_nearAt_65 (by decide) (fun q2 => ?_) (fun q2 => ?_)
    · -- outside
      have q2 := pb_b_eq q2
      refine lv_iconst (v := (-1)) hx hb dX1_nearAt_85 (by decide +kernel) ?_
      exact W.iret (v := (-1)) hx hb hr (fun t ht hW => ⟨by rw [pb_nv_n2 q2], ht⟩) (fun q h => by cases h) dX1_nearAt_86
    · -- on
      have q2 := pb_b_ne q2
      refine lv_aload_n hx hb dX1_nearAt_68 rfl (lv_at hl 3 rfl) ?_
      refine lv_iload hx hb dX1_nearAt_69 (lv_at hl 2 rfl) ?_
      refine lv_iload hx hb dX1_nearAt_71 (lv_at hl 2 rfl) ?_
      refine lv_iconst (v := nI 3) hx hb dX1_nearAt_73 (by decide +kernel) ?_
      refine lv_iadd hx hb dX1_nearAt_74 ?_
      refine pb_eqi (nI_add _ _) ?_
      refine pb_eqi (congrArg nI (show 3 * (sl * 3) + 3 = 3 * (sl * 3 + 1) by omega)) ?_
      refine lv_lload hx hb dX1_nearAt_75 (lv_at hl 1 rfl) ?_
      refine lv_lload hx hb dX1_nearAt_77 (lv_at hl 0 rfl) ?_
      refine pb_call (W.runV (As := [.int (nI (3 * (sl * 3))), .int (nI (3 * (sl * 3 + 1))), .long (pb_mid xi), .long (pb_mid yi)]) (rest := []) ⟨hx, hb, hml, hown, hts⟩ (cR_holds l dC dI g0 g1 r1 M n (sl * 3) (sl * 3 + 1) (by omega) (by omega) (pb_mid xi) (pb_mid yi)) (cwV 4 hts gX1_nearAt_X1_holds rfl rfl rfl (by decide +kernel) ⟨Nat.le_of_ble_eq_true rfl, Nat.le_of_ble_eq_true rfl⟩) (preR_V hP hK _) rfl rfl hl.1 rfl (lv_room (Nat.le_of_ble_eq_true rfl)) dX1_nearAt_79 ⟨Nat.zero_le _, Nat.zero_le _⟩) ?_
      refine lv_if_ne (tgt := 87) hx hb dX1_nearAt_82 (by decide) (fun q3 => ?_) (fun q3 => ?_)
      · -- inside
        have q3 := pb_b_ne q3
        refine lv_aload_n hx hb dX1_nearAt_87 rfl (lv_at hl 3 rfl) ?_
        refine lv_iload hx hb dX1_nearAt_88 (lv_at hl 2 rfl) ?_
        refine lv_iconst (v := nI 3) hx hb dX1_nearAt_90 (by decide +kernel) ?_
        refine lv_iadd hx hb dX1_nearAt_91 ?_
        refine pb_eqi (nI_add _ _) ?_
        refine pb_eqi (congrArg nI (show 3 * (sl * 3) + 3 = 3 * (sl * 3 + 1) by omega)) ?_
        refine lv_iload hx hb dX1_nearAt_92 (lv_at hl 2 rfl) ?_
        refine lv_bipush (v := nI 6) hx hb dX1_nearAt_94 (by decide +kernel) ?_
        refine lv_iadd hx hb dX1_nearAt_96 ?_
        refine pb_eqi (nI_add _ _) ?_
        refine pb_eqi (congrArg nI (show 3 * (sl * 3) + 6 = 3 * (sl * 3 + 2) by omega)) ?_
        refine lv_lload hx hb dX1_nearAt_97 (lv_at hl 1 rfl) ?_
        refine lv_lload hx hb dX1_nearAt_99 (lv_at hl 0 rfl) ?_
        refine pb_call (W.runV (As := [.int (nI (3 * (sl * 3 + 1))), .int (nI (3 * (sl * 3 + 2))), .long (pb_mid xi), .long (pb_mid yi)]) (rest := []) ⟨hx, hb, hml, hown, hts⟩ (cR_edge l dC dI g0 g1 r1 M n (sl * 3 + 1) (sl * 3 + 2) (by omega) (by omega) (pb_mid xi) (pb_mid yi)) (cwV 4 hts gX1_nearAt_X1_edge rfl rfl rfl (by decide +kernel) ⟨Nat.le_of_ble_eq_true rfl, Nat.le_of_ble_eq_true rfl⟩) (preR_V hP hK _) rfl rfl hl.1 rfl (lv_room (Nat.le_of_ble_eq_true rfl)) dX1_nearAt_101 ⟨Nat.zero_le _, Nat.zero_le _⟩) ?_
        refine lv_aload_n hx hb dX1_nearAt_104 rfl (lv_at hl 3 rfl) ?_
        refine va_get (D := (dC, dI)) (ci := 1) (v := .ref g1) (C := RX1) (T := TX1) (N := 3) hx hb hts hin1 hown hK hP 0 rfl rfl 2 (by decide) (hts (.fieldLink RX1 7 "PieceBoxesModel" "corners" "[I") (by decide +kernel)) (fun _ h9 => h9) rfl dX1_nearAt_105 ?_
        refine lv_iload hx hb dX1_nearAt_108 (lv_at hl 2 rfl) ?_
        refine lv_iconst (v := nI 2) hx hb dX1_nearAt_110 (by decide +kernel) ?_
        refine lv_iadd hx hb dX1_nearAt_111 ?_
        refine pb_eqi (nI_add _ _) ?_
        refine pb_eqi (congrArg nI (show 3 * (sl * 3) + 2 = 3 * (sl * 3 + 0) + 2 by omega)) ?_
        refine pb_ald (j := 3 * (sl * 3 + 0) + 2) hx hb hK hP 1 0 rfl rfl (by omega) (by decide) dX1_nearAt_112 ?_
        refine lv_i2l (v := (M (3 * (sl * 3 + 0) + 2)).toInt64) hx hb dX1_nearAt_113 rfl ?_
        refine lv_lmul hx hb dX1_nearAt_114 ?_
        refine lv_aload_n hx hb dX1_nearAt_115 rfl (lv_at hl 3 rfl) ?_
        refine lv_iload hx hb dX1_nearAt_116 (lv_at hl 2 rfl) ?_
        refine lv_bipush (v := nI 6) hx hb dX1_nearAt_118 (by decide +kernel) ?_
        refine lv_iadd hx hb dX1_nearAt_120 ?_
        refine pb_eqi (nI_add _ _) ?_
        refine pb_eqi (congrArg nI (show 3 * (sl * 3) + 6 = 3 * (sl * 3 + 2) by omega)) ?_
        refine lv_iload hx hb dX1_nearAt_121 (lv_at hl 2 rfl) ?_
        refine lv_lload hx hb dX1_nearAt_123 (lv_at hl 1 rfl) ?_
        refine lv_lload hx hb dX1_nearAt_125 (lv_at hl 0 rfl) ?_
        refine pb_call (W.runV (As := [.int (nI (3 * (sl * 3 + 2))), .int (nI (3 * (sl * 3))), .long (pb_mid xi), .long (pb_mid yi)]) (rest := [.long ((pb_e (pr0 M) (pr1 M) sl 0 (pb_mid xi) (pb_mid yi) * (M (3 * (sl * 3 + 0) + 2)).toInt64))]) ⟨hx, hb, hml, hown, hts⟩ (cR_edge l dC dI g0 g1 r1 M n (sl * 3 + 2) (sl * 3) (by omega) (by omega) (pb_mid xi) (pb_mid yi)) (cwV 4 hts gX1_nearAt_X1_edge rfl rfl rfl (by decide +kernel) ⟨Nat.le_of_ble_eq_true rfl, Nat.le_of_ble_eq_true rfl⟩) (preR_V hP hK _) rfl rfl hl.1 rfl (lv_room (Nat.le_of_ble_eq_true rfl)) dX1_nearAt_127 ⟨Nat.zero_le _, Nat.zero_le _⟩) ?_
        refine lv_aload_n hx hb dX1_nearAt_130 rfl (lv_at hl 3 rfl) ?_
        refine va_get (D := (dC, dI)) (ci := 1) (v := .ref g1) (C := RX1) (T := TX1) (N := 3) hx hb hts hin1 hown hK hP 0 rfl rfl 2 (by decide) (hts (.fieldLink RX1 7 "PieceBoxesModel" "corners" "[I") (by decide +kernel)) (fun _ h9 => h9) rfl dX1_nearAt_131 ?_
        refine lv_iload hx hb dX1_nearAt_134 (lv_at hl 2 rfl) ?_
        refine lv_iconst (v := nI 5) hx hb dX1_nearAt_136 (by decide +kernel) ?_
        refine lv_iadd hx hb dX1_nearAt_137 ?_
        refine pb_eqi (nI_add _ _) ?_
        refine pb_eqi (congrArg nI (show 3 * (sl * 3) + 5 = 3 * (sl * 3 + 1) + 2 by omega)) ?_
        refine pb_ald (j := 3 * (sl * 3 + 1) + 2) hx hb hK hP 1 0 rfl rfl (by omega) (by decide) dX1_nearAt_138 ?_
        refine lv_i2l (v := (M (3 * (sl * 3 + 1) + 2)).toInt64) hx hb dX1_nearAt_139 rfl ?_
        refine lv_lmul hx hb dX1_nearAt_140 ?_
        refine lv_ladd hx hb dX1_nearAt_141 ?_
        refine lv_aload_n hx hb dX1_nearAt_142 rfl (lv_at hl 3 rfl) ?_
        refine lv_iload hx hb dX1_nearAt_143 (lv_at hl 2 rfl) ?_
        refine lv_iload hx hb dX1_nearAt_145 (lv_at hl 2 rfl) ?_
        refine lv_iconst (v := nI 3) hx hb dX1_nearAt_147 (by decide +kernel) ?_
        refine lv_iadd hx hb dX1_nearAt_148 ?_
        refine pb_eqi (nI_add _ _) ?_
        refine pb_eqi (congrArg nI (show 3 * (sl * 3) + 3 = 3 * (sl * 3 + 1) by omega)) ?_
        refine lv_lload hx hb dX1_nearAt_149 (lv_at hl 1 rfl) ?_
        refine lv_lload hx hb dX1_nearAt_151 (lv_at hl 0 rfl) ?_
        refine pb_call (W.runV (As := [.int (nI (3 * (sl * 3))), .int (nI (3 * (sl * 3 + 1))), .long (pb_mid xi), .long (pb_mid yi)]) (rest := [.long (((pb_e (pr0 M) (pr1 M) sl 0 (pb_mid xi) (pb_mid yi) * (M (3 * (sl * 3 + 0) + 2)).toInt64) + (pb_e (pr0 M) (pr1 M) sl 1 (pb_mid xi) (pb_mid yi) * (M (3 * (sl * 3 + 1) + 2)).toInt64)))]) ⟨hx, hb, hml, hown, hts⟩ (cR_edge l dC dI g0 g1 r1 M n (sl * 3) (sl * 3 + 1) (by omega) (by omega) (pb_mid xi) (pb_mid yi)) (cwV 4 hts gX1_nearAt_X1_edge rfl rfl rfl (by decide +kernel) ⟨Nat.le_of_ble_eq_true rfl, Nat.le_of_ble_eq_true rfl⟩) (preR_V hP hK _) rfl rfl hl.1 rfl (lv_room (Nat.le_of_ble_eq_true rfl)) dX1_nearAt_153 ⟨Nat.zero_le _, Nat.zero_le _⟩) ?_
        refine lv_aload_n hx hb dX1_nearAt_156 rfl (lv_at hl 3 rfl) ?_
        refine va_get (D := (dC, dI)) (ci := 1) (v := .ref g1) (C := RX1) (T := TX1) (N := 3) hx hb hts hin1 hown hK hP 0 rfl rfl 2 (by decide) (hts (.fieldLink RX1 7 "PieceBoxesModel" "corners" "[I") (by decide +kernel)) (fun _ h9 => h9) rfl dX1_nearAt_157 ?_
        refine lv_iload hx hb dX1_nearAt_160 (lv_at hl 2 rfl) ?_
        refine lv_bipush (v := nI 8) hx hb dX1_nearAt_162 (by decide +kernel) ?_
        refine lv_iadd hx hb dX1_nearAt_164 ?_
        refine pb_eqi (nI_add _ _) ?_
        refine pb_eqi (congrArg nI (show 3 * (sl * 3) + 8 = 3 * (sl * 3 + 2) + 2 by omega)) ?_
        refine pb_ald (j := 3 * (sl * 3 + 2) + 2) hx hb hK hP 1 0 rfl rfl (by omega) (by decide) dX1_nearAt_165 ?_
        refine lv_i2l (v := (M (3 * (sl * 3 + 2) + 2)).toInt64) hx hb dX1_nearAt_166 rfl ?_
        refine lv_lmul hx hb dX1_nearAt_167 ?_
        refine lv_ladd hx hb dX1_nearAt_168 ?_
        refine lv_lstore (lv' := [(9, .long ((((pb_e (pr0 M) (pr1 M) sl 0 (pb_mid xi) (pb_mid yi) * (M (3 * (sl * 3 + 0) + 2)).toInt64) + (pb_e (pr0 M) (pr1 M) sl 1 (pb_mid xi) (pb_mid yi) * (M (3 * (sl * 3 + 1) + 2)).toInt64)) + (pb_e (pr0 M) (pr1 M) sl 2 (pb_mid xi) (pb_mid yi) * (M (3 * (sl * 3 + 2) + 2)).toInt64)))), (7, .long (pb_mid yi)), (5, .long (pb_mid xi)), (4, .int (nI (3 * (sl * 3)))), (0, .ref g0), (1, .int (nI (sl))), (2, .int (xi)), (3, .int (yi))]) hx hb dX1_nearAt_169 hl (by decide) rfl (fun ls hl => ?_)
        refine lv_lload hx hb dX1_nearAt_171 (lv_at hl 0 rfl) ?_
        refine lv_aload_n hx hb dX1_nearAt_173 rfl (lv_at hl 4 rfl) ?_
        refine lv_iload hx hb dX1_nearAt_174 (lv_at hl 3 rfl) ?_
        refine pb_call (W.runV (As := [.int (nI (3 * (sl * 3)))]) (rest := [.long ((((pb_e (pr0 M) (pr1 M) sl 0 (pb_mid xi) (pb_mid yi) * (M (3 * (sl * 3 + 0) + 2)).toInt64) + (pb_e (pr0 M) (pr1 M) sl 1 (pb_mid xi) (pb_mid yi) * (M (3 * (sl * 3 + 1) + 2)).toInt64)) + (pb_e (pr0 M) (pr1 M) sl 2 (pb_mid xi) (pb_mid yi) * (M (3 * (sl * 3 + 2) + 2)).toInt64)))]) ⟨hx, hb, hml, hown, hts⟩ (cR_areaAt l dC dI g0 g1 r1 M n sl (by omega)) (cwV 1 hts gX1_nearAt_X1_areaAt rfl rfl rfl (by decide +kernel) ⟨Nat.le_of_ble_eq_true rfl, Nat.le_of_ble_eq_true rfl⟩) (preR_V hP hK _) rfl rfl hl.1 rfl (lv_room (Nat.le_of_ble_eq_true rfl)) dX1_nearAt_176 ⟨Nat.zero_le _, Nat.zero_le _⟩) ?_
        have hne : ¬ pb_ar (pr0 M) (pr1 M) sl = 0 := pb_I1_ne hI
        refine lv_ldiv hx hb dX1_nearAt_179 hne ?_
        refine lv_l2i (v := (((((pb_e (pr0 M) (pr1 M) sl 0 (pb_mid xi) (pb_mid yi) * (M (3 * (sl * 3 + 0) + 2)).toInt64) + (pb_e (pr0 M) (pr1 M) sl 1 (pb_mid xi) (pb_mid yi) * (M (3 * (sl * 3 + 1) + 2)).toInt64)) + (pb_e (pr0 M) (pr1 M) sl 2 (pb_mid xi) (pb_mid yi) * (M (3 * (sl * 3 + 2) + 2)).toInt64)) / pb_ar (pr0 M) (pr1 M) sl)).toInt32) hx hb dX1_nearAt_180 rfl ?_
        exact W.iret (v := ((((((pb_e (pr0 M) (pr1 M) sl 0 (pb_mid xi) (pb_mid yi) * (M (3 * (sl * 3 + 0) + 2)).toInt64) + (pb_e (pr0 M) (pr1 M) sl 1 (pb_mid xi) (pb_mid yi) * (M (3 * (sl * 3 + 1) + 2)).toInt64)) + (pb_e (pr0 M) (pr1 M) sl 2 (pb_mid xi) (pb_mid yi) * (M (3 * (sl * 3 + 2) + 2)).toInt64)) / pb_ar (pr0 M) (pr1 M) sl)).toInt32)) hx hb hr (fun t ht hW => ⟨pb_ans (pb_nv_m hI q1 q2 q3).symm, ht⟩) (fun q h => by cases h) dX1_nearAt_181
      · -- outside
        have q3 := pb_b_eq q3
        refine lv_iconst (v := (-1)) hx hb dX1_nearAt_85 (by decide +kernel) ?_
        exact W.iret (v := (-1)) hx hb hr (fun t ht hW => ⟨by rw [pb_nv_n3 q3], ht⟩) (fun q h => by cases h) dX1_nearAt_86
end
section
set_option maxHeartbeats 4000000 in
set_option maxRecDepth 100000 in
theorem cR_clear (l : Launch) (dC : Nat → ClassId) (dI : Nat → Nat → Nat) (g0 g1 : Nat) (r1 : ClassId) (M : Nat → Int32) (n : Nat) (sz : Nat)  : Met l yX1_clear wsX1_clear ({ frames := 0, cells := 0, slots := 0, locals := 0 }) (va_Pc [.ref g0] (fun U => U.heap.size = sz ∧ va_P (dC, dI) vwCl (wR g0 g1 r1 M n) U.heap ∧ va_K (dC, dI) vwCl (tR r1) U ∧ va_D (fun _ => True) (wR g0 g1 r1 M n))) (va_Qv (fun (_ : Unit) => True) (fun (_ : Unit) (t : State) => va_P (dC, dI) vwCl (wR g0 g1 r1 M 0) t.heap ∧ va_D (va_A (wR g0 g1 r1 M n) sz) (wR g0 g1 r1 M 0)) (va_A (wR g0 g1 r1 M n) sz)) 0 0 (va_A (wR g0 g1 r1 M n) sz) := by
  refine Met.ofW (cc := cX1_clear) (maxL := 1) (ret := none) (by decide) rfl ?_
  intro p e s m args below meth c s₁ B hml hv
  obtain ⟨rfl, hsz, hP, hK, hD0⟩ := hv
  have hx := B.exec
  have hb := B.bytes
  have hr := B.returns
  have hts := atoms_spec (ws := wsX1_clear) B.pre
  have hown : s.vm.findClass RX1 = some m.cls := findClass_of_methodNamed B.named
  have hlocks := B.notSynchronized
  have hin1 : ∀ w ∈ u_ws RX1 TX1 3, w ∈ wsX1_clear := by decide +kernel
  subst hsz
  have hD := hD0.self (sz := s.heap.size)
  generalize hAe : va_A (wR g0 g1 r1 M n) s.heap.size = A at hD ⊢
  have hA : ∀ q : Nat, s.heap.size ≤ q → A q := fun q h => by rw [← hAe]; exact Or.inr h
  have hS : va_S A s.heap s.heap [] := va_S.rf
  have hl := lv_entry ([.ref g0]) (n := 1) (Nat.le_of_ble_eq_true rfl)
  rw [lg_entry_eq]
  generalize (lg_sl ([.ref g0]) ++ List.replicate (1 - (lg_sl ([.ref g0])).length) Slot.unset).toArray = ls at hl ⊢
  have hl : lv_has ls 1 [(0, .ref g0)] := hl
  refine lv_aload_n hx hb dX1_clear_0 rfl (lv_at hl 0 rfl) ?_
  refine lv_iconst (v := nI 0) hx hb dX1_clear_1 (by decide +kernel) ?_
  refine va_put (D := (dC, dI)) (ci := 1) (v := .int (nI (0))) (ty := .int) (C := RX1) (T := TX1) (N := 3) hx hb hts hin1 tyX1 tyX1_ok nmX1 hown hK hP hD hS 0 rfl rfl 0 (by decide) (hts (.fieldLink RX1 13 "PieceBoxesModel" "thrown" "I") (by decide +kernel)) (fun _ h9 => h9) rfl (by decide +kernel) rfl rfl (Nat.le_of_ble_eq_true rfl) dX1_clear_2 (fun H locs hP hD hS => ?_)
  have hP : va_P (dC, dI) vwCl [(g0, .inr (1, [.int (nI (0)), .int (nI (n)), .ref g1])), (g1, .inl (r1, 4617, .inl (M)))] H := hP
  have hD : va_D A [(g0, .inr (1, [.int (nI (0)), .int (nI (n)), .ref g1])), (g1, .inl (r1, 4617, .inl (M)))] := hD
  refine lv_aload_n hx hb dX1_clear_5 rfl (lv_at hl 0 rfl) ?_
  refine lv_iconst (v := nI 0) hx hb dX1_clear_6 (by decide +kernel) ?_
  refine va_put (D := (dC, dI)) (ci := 1) (v := .int (nI (0))) (ty := .int) (C := RX1) (T := TX1) (N := 3) hx hb hts hin1 tyX1 tyX1_ok nmX1 hown hK hP hD hS 0 rfl rfl 1 (by decide) (hts (.fieldLink RX1 22 "PieceBoxesModel" "many" "I") (by decide +kernel)) (fun _ h9 => h9) rfl (by decide +kernel) rfl rfl (Nat.le_of_ble_eq_true rfl) dX1_clear_7 (fun H locs hP hD hS => ?_)
  have hP : va_P (dC, dI) vwCl [(g0, .inr (1, [.int (nI (0)), .int (nI (0)), .ref g1])), (g1, .inl (r1, 4617, .inl (M)))] H := hP
  have hD : va_D A [(g0, .inr (1, [.int (nI (0)), .int (nI (0)), .ref g1])), (g1, .inl (r1, 4617, .inl (M)))] := hD
  exact W.vret hx hb hr (fun t ht hW => ⟨⟨(), rfl, trivial, by rw [ht]; exact hP, hD⟩, hS.F ht⟩) hS.2.2 dX1_clear_10
set_option maxHeartbeats 4000000 in
set_option maxRecDepth 100000 in
theorem cR_count (l : Launch) (dC : Nat → ClassId) (dI : Nat → Nat → Nat) (g0 g1 : Nat) (r1 : ClassId) (M : Nat → Int32) (n : Nat) (sz : Nat)  : Met l yX1_count wsX1_count ({ frames := 0, cells := 0, slots := 0, locals := 0 }) (va_Pc [.ref g0] (fun U => U.heap.size = sz ∧ va_P (dC, dI) vwCl (wR g0 g1 r1 M n) U.heap ∧ va_K (dC, dI) vwCl (tR r1) U ∧ va_D (fun _ => True) (wR g0 g1 r1 M n))) (va_Qi (fun (r0 : Int32) (_ : Unit) => r0 = nI n) (fun (_ : Unit) (t : State) => va_P (dC, dI) vwCl (wR g0 g1 r1 M n) t.heap ∧ va_D (va_A (wR g0 g1 r1 M n) sz) (wR g0 g1 r1 M n)) (va_A (wR g0 g1 r1 M n) sz)) 0 0 (va_A (wR g0 g1 r1 M n) sz) := by
  refine Met.ofW (cc := cX1_count) (maxL := 1) (ret := some .int) (by decide) rfl ?_
  intro p e s m args below meth c s₁ B hml hv
  obtain ⟨rfl, hsz, hP, hK, hD0⟩ := hv
  have hx := B.exec
  have hb := B.bytes
  have hr := B.returns
  have hts := atoms_spec (ws := wsX1_count) B.pre
  have hown : s.vm.findClass RX1 = some m.cls := findClass_of_methodNamed B.named
  have hlocks := B.notSynchronized
  have hin1 : ∀ w ∈ u_ws RX1 TX1 3, w ∈ wsX1_count := by decide +kernel
  subst hsz
  have hD := hD0.self (sz := s.heap.size)
  generalize hAe : va_A (wR g0 g1 r1 M n) s.heap.size = A at hD ⊢
  have hA : ∀ q : Nat, s.heap.size ≤ q → A q := fun q h => by rw [← hAe]; exact Or.inr h
  have hS : va_S A s.heap s.heap [] := va_S.rf
  have hl := lv_entry ([.ref g0]) (n := 1) (Nat.le_of_ble_eq_true rfl)
  rw [lg_entry_eq]
  generalize (lg_sl ([.ref g0]) ++ List.replicate (1 - (lg_sl ([.ref g0])).length) Slot.unset).toArray = ls at hl ⊢
  have hl : lv_has ls 1 [(0, .ref g0)] := hl
  refine lv_aload_n hx hb dX1_count_0 rfl (lv_at hl 0 rfl) ?_
  refine lv_iconst (v := nI 0) hx hb dX1_count_1 (by decide +kernel) ?_
  refine va_put (D := (dC, dI)) (ci := 1) (v := .int (nI (0))) (ty := .int) (C := RX1) (T := TX1) (N := 3) hx hb hts hin1 tyX1 tyX1_ok nmX1 hown hK hP hD hS 0 rfl rfl 0 (by decide) (hts (.fieldLink RX1 13 "PieceBoxesModel" "thrown" "I") (by decide +kernel)) (fun _ h9 => h9) rfl (by decide +kernel) rfl rfl (Nat.le_of_ble_eq_true rfl) dX1_count_2 (fun H locs hP hD hS => ?_)
  have hP : va_P (dC, dI) vwCl [(g0, .inr (1, [.int (nI (0)), .int (nI (n)), .ref g1])), (g1, .inl (r1, 4617, .inl (M)))] H := hP
  have hD : va_D A [(g0, .inr (1, [.int (nI (0)), .int (nI (n)), .ref g1])), (g1, .inl (r1, 4617, .inl (M)))] := hD
  refine lv_aload_n hx hb dX1_count_5 rfl (lv_at hl 0 rfl) ?_
  refine va_get (D := (dC, dI)) (ci := 1) (v := .int (nI (n))) (C := RX1) (T := TX1) (N := 3) hx hb hts hin1 hown hK hP 0 rfl rfl 1 (by decide) (hts (.fieldLink RX1 22 "PieceBoxesModel" "many" "I") (by decide +kernel)) (fun _ h9 => h9) rfl dX1_count_6 ?_
  exact W.iret (v := (nI (n))) hx hb hr (fun t ht hW => ⟨⟨(nI (n)), (), rfl, rfl, by rw [ht]; exact hP, by exact hD⟩, hS.F ht⟩) hS.2.2 dX1_count_9
set_option maxHeartbeats 4000000 in
set_option maxRecDepth 100000 in
theorem cR_area (l : Launch) (dC : Nat → ClassId) (dI : Nat → Nat → Nat) (g0 g1 : Nat) (r1 : ClassId) (M : Nat → Int32) (n : Nat) (sz : Nat) (hn : n ≤ 512) (a : Int32) : Met l yX1_area wsX1_area ({ frames := 2, cells := 0, slots := 0, locals := 47 }) (va_Pc [.ref g0, .int (a)] (fun U => U.heap.size = sz ∧ va_P (dC, dI) vwCl (wR g0 g1 r1 M n) U.heap ∧ va_K (dC, dI) vwCl (tR r1) U ∧ va_D (fun _ => True) (wR g0 g1 r1 M n))) (va_Qi (fun (r0 : Int32) (_ : Unit) => r0 = pb_area (pr0 M) (pr1 M) n a) (fun (_ : Unit) (t : State) => va_P (dC, dI) vwCl (wR g0 g1 r1 M n) t.heap ∧ va_D (va_A (wR g0 g1 r1 M n) sz) (wR g0 g1 r1 M n)) (va_A (wR g0 g1 r1 M n) sz)) 0 0 (va_A (wR g0 g1 r1 M n) sz) := by
  refine Met.ofW (cc := cX1_area) (maxL := 2) (ret := some .int) (by decide) rfl ?_
  intro p e s m args below meth c s₁ B hml hv
  obtain ⟨rfl, hsz, hP, hK, hD0⟩ := hv
  have hx := B.exec
  have hb := B.bytes
  have hr := B.returns
  have hts := atoms_spec (ws := wsX1_area) B.pre
  have hown : s.vm.findClass RX1 = some m.cls := findClass_of_methodNamed B.named
  have hlocks := B.notSynchronized
  have hin1 : ∀ w ∈ u_ws RX1 TX1 3, w ∈ wsX1_area := by decide +kernel
  subst hsz
  have hD := hD0.self (sz := s.heap.size)
  generalize hAe : va_A (wR g0 g1 r1 M n) s.heap.size = A at hD ⊢
  have hA : ∀ q : Nat, s.heap.size ≤ q → A q := fun q h => by rw [← hAe]; exact Or.inr h
  have hS : va_S A s.heap s.heap [] := va_S.rf
  have hl := lv_entry ([.ref g0, .int (a)]) (n := 2) (Nat.le_of_ble_eq_true rfl)
  rw [lg_entry_eq]
  generalize (lg_sl ([.ref g0, .int (a)]) ++ List.replicate (2 - (lg_sl ([.ref g0, .int (a)])).length) Slot.unset).toArray = ls at hl ⊢
  have hl : lv_has ls 2 [(0, .ref g0), (1, .int (a))] := hl
  refine lv_aload_n hx hb dX1_area_0 rfl (lv_at hl 0 rfl) ?_
  refine lv_iconst (v := nI 0) hx hb dX1_area_1 (by decide +kernel) ?_
  refine va_put (D := (dC, dI)) (ci := 1) (v := .int (nI (0))) (ty := .int) (C := RX1) (T := TX1) (N := 3) hx hb hts hin1 tyX1 tyX1_ok nmX1 hown hK hP hD hS 0 rfl rfl 0 (by decide) (hts (.fieldLink RX1 13 "PieceBoxesModel" "thrown" "I") (by decide +kernel)) (fun _ h9 => h9) rfl (by decide +kernel) rfl rfl (Nat.le_of_ble_eq_true rfl) dX1_area_2 (fun H locs hP hD hS => ?_)
  have hP : va_P (dC, dI) vwCl [(g0, .inr (1, [.int (nI (0)), .int (nI (n)), .ref g1])), (g1, .inl (r1, 4617, .inl (M)))] H := hP
  have hD : va_D A [(g0, .inr (1, [.int (nI (0)), .int (nI (n)), .ref g1])), (g1, .inl (r1, 4617, .inl (M)))] := hD
  refine lv_iload_n hx hb dX1_area_5 rfl (lv_at hl 1 rfl) ?_
  refine lv_if_lt (tgt := 29) hx hb dX1_area_6 (by decide) (fun q1 => ?_) (fun q1 => ?_)
  · -- negative
    refine lv_iconst (v := (-1)) hx hb dX1_area_29 (by decide +kernel) ?_
    exact W.iret (v := (-1)) hx hb hr (fun t ht hW => ⟨⟨(-1), (), rfl, by rw [show pb_area (pr0 M) (pr1 M) n a = _ from if_neg (by simp [pb_isP, Int32.not_le.mpr q1])], by rw [ht]; exact hP, by exact hD⟩, hS.F ht⟩) hS.2.2 dX1_area_30
  · -- not negative
    refine lv_iload_n hx hb dX1_area_9 rfl (lv_at hl 1 rfl) ?_
    refine lv_aload_n hx hb dX1_area_10 rfl (lv_at hl 0 rfl) ?_
    refine va_get (D := (dC, dI)) (ci := 1) (v := .int (nI (n))) (C := RX1) (T := TX1) (N := 3) hx hb hts hin1 hown hK hP 0 rfl rfl 1 (by decide) (hts (.fieldLink RX1 22 "PieceBoxesModel" "many" "I") (by decide +kernel)) (fun _ h9 => h9) rfl dX1_area_11 ?_
    refine lv_icmp_ge (tgt := 29) hx hb dX1_area_14 (by decide) (fun q2 => ?_) (fun q2 => ?_)
    · -- too great
      refine lv_iconst (v := (-1)) hx hb dX1_area_29 (by decide +kernel) ?_
      exact W.iret (v := (-1)) hx hb hr (fun t ht hW => ⟨⟨(-1), (), rfl, by rw [show pb_area (pr0 M) (pr1 M) n a = _ from if_neg (by simp [pb_isP, Int32.not_lt.mpr q2])], by rw [ht]; exact hP, by exact hD⟩, hS.F ht⟩) hS.2.2 dX1_area_30
    · -- a piece
      obtain ⟨j, hj31, rfl⟩ := nI_of q1
      have hj : j < n := Nat.not_le.mp (fun h => q2 (nI_le h hj31))
      refine lv_aload_n hx hb dX1_area_17 rfl (lv_at hl 0 rfl) ?_
      refine lv_bipush (v := nI 9) hx hb dX1_area_18 (by decide +kernel) ?_
      refine lv_iload_n hx hb dX1_area_20 rfl (lv_at hl 1 rfl) ?_
      refine lv_imul hx hb dX1_area_21 ?_
      refine pb_eqi (pk_mul _ _) ?_
      refine pb_eqi (congrArg nI (show 9 * j = 3 * (j * 3) by omega)) ?_
      refine pb_call (W.runV (As := [.int (nI (3 * (j * 3)))]) (rest := []) ⟨hx, hb, hml, hown, hts⟩ (cR_areaAt l dC dI g0 g1 r1 M n j (by omega)) (cwV 1 hts gX1_area_X1_areaAt rfl rfl rfl (by decide +kernel) ⟨Nat.le_of_ble_eq_true rfl, Nat.le_of_ble_eq_true rfl⟩) (preR_V hP hK _) rfl rfl hl.1 rfl (lv_room (Nat.le_of_ble_eq_true rfl)) dX1_area_22 ⟨Nat.zero_le _, Nat.zero_le _⟩) ?_
      refine lv_l2i (v := (pb_ar (pr0 M) (pr1 M) j).toInt32) hx hb dX1_area_25 rfl ?_
      refine lv_goto (tgt := 30) hx hb dX1_area_26 (by decide) ?_
      exact W.iret (v := ((pb_ar (pr0 M) (pr1 M) j).toInt32)) hx hb hr (fun t ht hW => ⟨⟨((pb_ar (pr0 M) (pr1 M) j).toInt32), (), rfl, by rw [pb_area_t hn hj], by rw [ht]; exact hP, by exact hD⟩, hS.F ht⟩) hS.2.2 dX1_area_30
set_option maxHeartbeats 4000000 in
set_option maxRecDepth 100000 in
theorem cR_near (l : Launch) (dC : Nat → ClassId) (dI : Nat → Nat → Nat) (g0 g1 : Nat) (r1 : ClassId) (M : Nat → Int32) (n : Nat) (sz : Nat) (hn : n ≤ 512) (hI : ∀ j, j < n → pb_I1 M j) (a xi yi : Int32) : Met l yX1_near wsX1_near ({ frames := 3, cells := 0, slots := 0, locals := 85 }) (va_Pc [.ref g0, .int (a), .int (xi), .int (yi)] (fun U => U.heap.size = sz ∧ va_P (dC, dI) vwCl (wR g0 g1 r1 M n) U.heap ∧ va_K (dC, dI) vwCl (tR r1) U ∧ va_D (fun _ => True) (wR g0 g1 r1 M n))) (va_Qi (fun (r0 : Int32) (_ : Unit) => r0 = pb_near (pr0 M) (pr1 M) (pr2 M) n a xi yi) (fun (_ : Unit) (t : State) => va_P (dC, dI) vwCl (wR g0 g1 r1 M n) t.heap ∧ va_D (va_A (wR g0 g1 r1 M n) sz) (wR g0 g1 r1 M n)) (va_A (wR g0 g1 r1 M n) sz)) 0 0 (va_A (wR g0 g1 r1 M n) sz) := by
  refine Met.ofW (cc := cX1_near) (maxL := 4) (ret := some .int) (by decide) rfl ?_
  intro p e s m args below meth c s₁ B hml hv
  obtain ⟨rfl, hsz, hP, hK, hD0⟩ := hv
  have hx := B.exec
  have hb := B.bytes
  have hr := B.returns
  have hts := atoms_spec (ws := wsX1_near) B.pre
  have hown : s.vm.findClass RX1 = some m.cls := findClass_of_methodNamed B.named
  have hlocks := B.notSynchronized
  have hin1 : ∀ w ∈ u_ws RX1 TX1 3, w ∈ wsX1_near := by decide +kernel
  subst hsz
  have hD := hD0.self (sz := s.heap.size)
  generalize hAe : va_A (wR g0 g1 r1 M n) s.heap.size = A at hD ⊢
  have hA : ∀ q : Nat, s.heap.size ≤ q → A q := fun q h => by rw [← hAe]; exact Or.inr h
  have hS : va_S A s.heap s.heap [] := va_S.rf
  have hl := lv_entry ([.ref g0, .int (a), .int (xi), .int (yi)]) (n := 4) (Nat.le_of_ble_eq_true rfl)
  rw [lg_entry_eq]
  generalize (lg_sl ([.ref g0, .int (a), .int (xi), .int (yi)]) ++ List.replicate (4 - (lg_sl ([.ref g0, .int (a), .int (xi), .int (yi)])).length) Slot.unset).toArray = ls at hl ⊢
  have hl : lv_has ls 4 [(0, .ref g0), (1, .int (a)), (2, .int (xi)), (3, .int (yi))] := hl
  refine lv_aload_n hx hb dX1_near_0 rfl (lv_at hl 0 rfl) ?_
  refine lv_iconst (v := nI 0) hx hb dX1_near_1 (by decide +kernel) ?_
  refine va_put (D := (dC, dI)) (ci := 1) (v := .int (nI (0))) (ty := .int) (C := RX1) (T := TX1) (N := 3) hx hb hts hin1 tyX1 tyX1_ok nmX1 hown hK hP hD hS 0 rfl rfl 0 (by decide) (hts (.fieldLink RX1 13 "PieceBoxesModel" "thrown" "I") (by decide +kernel)) (fun _ h9 => h9) rfl (by decide +kernel) rfl rfl (Nat.le_of_ble_eq_true rfl) dX1_near_2 (fun H locs hP hD hS => ?_)
  have hP : va_P (dC, dI) vwCl [(g0, .inr (1, [.int (nI (0)), .int (nI (n)), .ref g1])), (g1, .inl (r1, 4617, .inl (M)))] H := hP
  have hD : va_D A [(g0, .inr (1, [.int (nI (0)), .int (nI (n)), .ref g1])), (g1, .inl (r1, 4617, .inl (M)))] := hD
  refine lv_iload_n hx hb dX1_near_5 rfl (lv_at hl 1 rfl) ?_
  refine lv_if_lt (tgt := 27) hx hb dX1_near_6 (by decide) (fun q1 => ?_) (fun q1 => ?_)
  · -- negative
    refine lv_iconst (v := (-1)) hx hb dX1_near_27 (by decide +kernel) ?_
    exact W.iret (v := (-1)) hx hb hr (fun t ht hW => ⟨⟨(-1), (), rfl, by rw [show pb_near (pr0 M) (pr1 M) (pr2 M) n a xi yi = _ from if_neg (by simp [pb_isP, Int32.not_le.mpr q1])], by rw [ht]; exact hP, by exact hD⟩, hS.F ht⟩) hS.2.2 dX1_near_28
  · -- not negative
    refine lv_iload_n hx hb dX1_near_9 rfl (lv_at hl 1 rfl) ?_
    refine lv_aload_n hx hb dX1_near_10 rfl (lv_at hl 0 rfl) ?_
    refine va_get (D := (dC, dI)) (ci := 1) (v := .int (nI (n))) (C := RX1) (T := TX1) (N := 3) hx hb hts hin1 hown hK hP 0 rfl rfl 1 (by decide) (hts (.fieldLink RX1 22 "PieceBoxesModel" "many" "I") (by decide +kernel)) (fun _ h9 => h9) rfl dX1_near_11 ?_
    refine lv_icmp_ge (tgt := 27) hx hb dX1_near_14 (by decide) (fun q2 => ?_) (fun q2 => ?_)
    · -- too great
      refine lv_iconst (v := (-1)) hx hb dX1_near_27 (by decide +kernel) ?_
      exact W.iret (v := (-1)) hx hb hr (fun t ht hW => ⟨⟨(-1), (), rfl, by rw [show pb_near (pr0 M) (pr1 M) (pr2 M) n a xi yi = _ from if_neg (by simp [pb_isP, Int32.not_lt.mpr q2])], by rw [ht]; exact hP, by exact hD⟩, hS.F ht⟩) hS.2.2 dX1_near_28
    · -- a piece
      obtain ⟨j, hj31, rfl⟩ := nI_of q1
      have hj : j < n := Nat.not_le.mp (fun h => q2 (nI_le h hj31))
      refine lv_aload_n hx hb dX1_near_17 rfl (lv_at hl 0 rfl) ?_
      refine lv_iload_n hx hb dX1_near_18 rfl (lv_at hl 1 rfl) ?_
      refine lv_iload_n hx hb dX1_near_19 rfl (lv_at hl 2 rfl) ?_
      refine lv_iload_n hx hb dX1_near_20 rfl (lv_at hl 3 rfl) ?_
      refine pb_call (W.runV (As := [.int (nI (j)), .int (xi), .int (yi)]) (rest := []) ⟨hx, hb, hml, hown, hts⟩ (cR_nearAt l dC dI g0 g1 r1 M n j (by omega) xi yi (hI j hj)) (cwV 3 hts gX1_near_X1_nearAt rfl rfl rfl (by decide +kernel) ⟨Nat.le_of_ble_eq_true rfl, Nat.le_of_ble_eq_true rfl⟩) (preR_V hP hK _) rfl rfl hl.1 rfl (lv_room (Nat.le_of_ble_eq_true rfl)) dX1_near_21 ⟨Nat.zero_le _, Nat.zero_le _⟩) ?_
      refine lv_goto (tgt := 28) hx hb dX1_near_24 (by decide) ?_
      exact W.iret (v := (pb_nv (pr0 M) (pr1 M) (pr2 M) j xi yi)) hx hb hr (fun t ht hW => ⟨⟨(pb_nv (pr0 M) (pr1 M) (pr2 M) j xi yi), (), rfl, by rw [pb_near_t hn hj], by rw [ht]; exact hP, by exact hD⟩, hS.F ht⟩) hS.2.2 dX1_near_28
set_option maxHeartbeats 4000000 in
set_option maxRecDepth 100000 in
theorem cR_corner (l : Launch) (dC : Nat → ClassId) (dI : Nat → Nat → Nat) (g0 g1 : Nat) (r1 : ClassId) (M : Nat → Int32) (n : Nat) (sz : Nat) (ck cx cy cr : Int32) : Met l yX1_corner wsX1_corner ({ frames := 0, cells := 0, slots := 0, locals := 0 }) (va_Pc [.ref g0, .int (ck), .int (cx), .int (cy), .int (cr)] (fun U => U.heap.size = sz ∧ va_P (dC, dI) vwCl (wR g0 g1 r1 M n) U.heap ∧ va_K (dC, dI) vwCl (tR r1) U ∧ va_D (fun _ => True) (wR g0 g1 r1 M n))) (va_Qi (fun (r0 : Int32) (_ : Unit) => r0 = pb_b (pb_ok ck cx cy cr)) (fun (_ : Unit) (t : State) => va_P (dC, dI) vwCl (wR g0 g1 r1 (pb_mk (pb_ok ck cx cy cr) M (4608 + 3 * ck.toNatClampNeg) cx cy cr) n) t.heap ∧ va_D (va_A (wR g0 g1 r1 M n) sz) (wR g0 g1 r1 (pb_mk (pb_ok ck cx cy cr) M (4608 + 3 * ck.toNatClampNeg) cx cy cr) n)) (va_A (wR g0 g1 r1 M n) sz)) 0 0 (va_A (wR g0 g1 r1 M n) sz) := by
  refine Met.ofW (cc := cX1_corner) (maxL := 6) (ret := some .boolean) (by decide) rfl ?_
  intro p e s m args below meth c s₁ B hml hv
  obtain ⟨rfl, hsz, hP, hK, hD0⟩ := hv
  have hx := B.exec
  have hb := B.bytes
  have hr := B.returns
  have hts := atoms_spec (ws := wsX1_corner) B.pre
  have hown : s.vm.findClass RX1 = some m.cls := findClass_of_methodNamed B.named
  have hlocks := B.notSynchronized
  have hin1 : ∀ w ∈ u_ws RX1 TX1 3, w ∈ wsX1_corner := by decide +kernel
  subst hsz
  have hD := hD0.self (sz := s.heap.size)
  generalize hAe : va_A (wR g0 g1 r1 M n) s.heap.size = A at hD ⊢
  have hA : ∀ q : Nat, s.heap.size ≤ q → A q := fun q h => by rw [← hAe]; exact Or.inr h
  have hS : va_S A s.heap s.heap [] := va_S.rf
  have hl := lv_entry ([.ref g0, .int (ck), .int (cx), .int (cy), .int (cr)]) (n := 6) (Nat.le_of_ble_eq_true rfl)
  rw [lg_entry_eq]
  generalize (lg_sl ([.ref g0, .int (ck), .int (cx), .int (cy), .int (cr)]) ++ List.replicate (6 - (lg_sl ([.ref g0, .int (ck), .int (cx), .int (cy), .int (cr)])).length) Slot.unset).toArray = ls at hl ⊢
  have hl : lv_has ls 6 [(0, .ref g0), (1, .int (ck)), (2, .int (cx)), (3, .int (cy)), (4, .int (cr))] := hl
  refine lv_aload_n hx hb dX1_corner_0 rfl (lv_at hl 0 rfl) ?_
  refine lv_iconst (v := nI 0) hx hb dX1_corner_1 (by decide +kernel) ?_
  refine va_put (D := (dC, dI)) (ci := 1) (v := .int (nI (0))) (ty := .int) (C := RX1) (T := TX1) (N := 3) hx hb hts hin1 tyX1 tyX1_ok nmX1 hown hK hP hD hS 0 rfl rfl 0 (by decide) (hts (.fieldLink RX1 13 "PieceBoxesModel" "thrown" "I") (by decide +kernel)) (fun _ h9 => h9) rfl (by decide +kernel) rfl rfl (Nat.le_of_ble_eq_true rfl) dX1_corner_2 (fun H locs hP hD hS => ?_)
  have hP : va_P (dC, dI) vwCl [(g0, .inr (1, [.int (nI (0)), .int (nI (n)), .ref g1])), (g1, .inl (r1, 4617, .inl (M)))] H := hP
  have hD : va_D A [(g0, .inr (1, [.int (nI (0)), .int (nI (n)), .ref g1])), (g1, .inl (r1, 4617, .inl (M)))] := hD
  refine lv_iload_n hx hb dX1_corner_5 rfl (lv_at hl 1 rfl) ?_
  refine lv_if_lt (tgt := 59) hx hb dX1_corner_6 (by decide) (fun q1 => ?_) (fun q1 => ?_)
  · -- bad
    have hok : (pb_ok ck cx cy cr) = false := by simp [pb_ok, pb_grid, Int32.not_le.mpr q1]
    refine lv_iconst (v := 0) hx hb dX1_corner_59 (by decide +kernel) ?_
    refine lv_istore (lv' := [(5, .int (0)), (0, .ref g0), (1, .int (ck)), (2, .int (cx)), (3, .int (cy)), (4, .int (cr))]) hx hb dX1_corner_60 hl (by decide) rfl (fun ls hl => ?_)
    refine lv_iload hx hb dX1_corner_62 (lv_at hl 0 rfl) ?_
    refine lv_if_eq (tgt := 111) hx hb dX1_corner_64 (by decide) (fun q9 => ?_) (fun q9 => ?_)
    · -- no
      refine lv_iload hx hb dX1_corner_111 (lv_at hl 0 rfl) ?_
      exact W.zret (v := (0)) hx hb hr narrow_b0 (fun t ht hW => ⟨⟨(0), (), rfl, by rw [hok]; rfl, by rw [hok]; rw [ht]; exact hP, by rw [hok]; exact hD⟩, hS.F ht⟩) hS.2.2 dX1_corner_113
    · exact absurd rfl q9
  · -- good
    refine lv_iload_n hx hb dX1_corner_9 rfl (lv_at hl 1 rfl) ?_
    refine lv_iconst (v := nI 3) hx hb dX1_corner_10 (by decide +kernel) ?_
    refine lv_icmp_ge (tgt := 59) hx hb dX1_corner_11 (by decide) (fun q2 => ?_) (fun q2 => ?_)
    · -- bad
      have q2 : (3 : Int32) ≤ ck := q2
      have hok : (pb_ok ck cx cy cr) = false := by simp [pb_ok, pb_grid, Int32.not_lt.mpr q2]
      refine lv_iconst (v := 0) hx hb dX1_corner_59 (by decide +kernel) ?_
      refine lv_istore (lv' := [(5, .int (0)), (0, .ref g0), (1, .int (ck)), (2, .int (cx)), (3, .int (cy)), (4, .int (cr))]) hx hb dX1_corner_60 hl (by decide) rfl (fun ls hl => ?_)
      refine lv_iload hx hb dX1_corner_62 (lv_at hl 0 rfl) ?_
      refine lv_if_eq (tgt := 111) hx hb dX1_corner_64 (by decide) (fun q9 => ?_) (fun q9 => ?_)
      · -- no
        refine lv_iload hx hb dX1_corner_111 (lv_at hl 0 rfl) ?_
        exact W.zret (v := (0)) hx hb hr narrow_b0 (fun t ht hW => ⟨⟨(0), (), rfl, by rw [hok]; rfl, by rw [hok]; rw [ht]; exact hP, by rw [hok]; exact hD⟩, hS.F ht⟩) hS.2.2 dX1_corner_113
      · exact absurd rfl q9
    · -- good
      refine lv_iload_n hx hb dX1_corner_14 rfl (lv_at hl 2 rfl) ?_
      refine lv_sipush (v := (-4096)) hx hb dX1_corner_15 (by decide +kernel) ?_
      refine lv_icmp_lt (tgt := 59) hx hb dX1_corner_18 (by decide) (fun q3 => ?_) (fun q3 => ?_)
      · -- bad
        have hok : (pb_ok ck cx cy cr) = false := by simp [pb_ok, pb_grid, Int32.not_le.mpr q3]
        refine lv_iconst (v := 0) hx hb dX1_corner_59 (by decide +kernel) ?_
        refine lv_istore (lv' := [(5, .int (0)), (0, .ref g0), (1, .int (ck)), (2, .int (cx)), (3, .int (cy)), (4, .int (cr))]) hx hb dX1_corner_60 hl (by decide) rfl (fun ls hl => ?_)
        refine lv_iload hx hb dX1_corner_62 (lv_at hl 0 rfl) ?_
        refine lv_if_eq (tgt := 111) hx hb dX1_corner_64 (by decide) (fun q9 => ?_) (fun q9 => ?_)
        · -- no
          refine lv_iload hx hb dX1_corner_111 (lv_at hl 0 rfl) ?_
          exact W.zret (v := (0)) hx hb hr narrow_b0 (fun t ht hW => ⟨⟨(0), (), rfl, by rw [hok]; rfl, by rw [hok]; rw [ht]; exact hP, by rw [hok]; exact hD⟩, hS.F ht⟩) hS.2.2 dX1_corner_113
        · exact absurd rfl q9
      · -- good
        refine lv_iload_n hx hb dX1_corner_21 rfl (lv_at hl 2 rfl) ?_
        refine lv_sipush (v := 4096) hx hb dX1_corner_22 (by decide +kernel) ?_
        refine lv_icmp_gt (tgt := 59) hx hb dX1_corner_25 (by decide) (fun q4 => ?_) (fun q4 => ?_)
        · -- bad
          have hok : (pb_ok ck cx cy cr) = false := by simp [pb_ok, pb_grid, Int32.not_le.mpr q4]
          refine lv_iconst (v := 0) hx hb dX1_corner_59 (by decide +kernel) ?_
          refine lv_istore (lv' := [(5, .int (0)), (0, .ref g0), (1, .int (ck)), (2, .int (cx)), (3, .int (cy)), (4, .int (cr))]) hx hb dX1_corner_60 hl (by decide) rfl (fun ls hl => ?_)
          refine lv_iload hx hb dX1_corner_62 (lv_at hl 0 rfl) ?_
          refine lv_if_eq (tgt := 111) hx hb dX1_corner_64 (by decide) (fun q9 => ?_) (fun q9 => ?_)
          · -- no
            refine lv_iload hx hb dX1_corner_111 (lv_at hl 0 rfl) ?_
            exact W.zret (v := (0)) hx hb hr narrow_b0 (fun t ht hW => ⟨⟨(0), (), rfl, by rw [hok]; rfl, by rw [hok]; rw [ht]; exact hP, by rw [hok]; exact hD⟩, hS.F ht⟩) hS.2.2 dX1_corner_113
          · exact absurd rfl q9
        · -- good
          refine lv_iload_n hx hb dX1_corner_28 rfl (lv_at hl 3 rfl) ?_
          refine lv_sipush (v := (-4096)) hx hb dX1_corner_29 (by decide +kernel) ?_
          refine lv_icmp_lt (tgt := 59) hx hb dX1_corner_32 (by decide) (fun q5 => ?_) (fun q5 => ?_)
          · -- bad
            have hok : (pb_ok ck cx cy cr) = false := by simp [pb_ok, pb_grid, Int32.not_le.mpr q5]
            refine lv_iconst (v := 0) hx hb dX1_corner_59 (by decide +kernel) ?_
            refine lv_istore (lv' := [(5, .int (0)), (0, .ref g0), (1, .int (ck)), (2, .int (cx)), (3, .int (cy)), (4, .int (cr))]) hx hb dX1_corner_60 hl (by decide) rfl (fun ls hl => ?_)
            refine lv_iload hx hb dX1_corner_62 (lv_at hl 0 rfl) ?_
            refine lv_if_eq (tgt := 111) hx hb dX1_corner_64 (by decide) (fun q9 => ?_) (fun q9 => ?_)
            · -- no
              refine lv_iload hx hb dX1_corner_111 (lv_at hl 0 rfl) ?_
              exact W.zret (v := (0)) hx hb hr narrow_b0 (fun t ht hW => ⟨⟨(0), (), rfl, by rw [hok]; rfl, by rw [hok]; rw [ht]; exact hP, by rw [hok]; exact hD⟩, hS.F ht⟩) hS.2.2 dX1_corner_113
            · exact absurd rfl q9
          · -- good
            refine lv_iload_n hx hb dX1_corner_35 rfl (lv_at hl 3 rfl) ?_
            refine lv_sipush (v := 4096) hx hb dX1_corner_36 (by decide +kernel) ?_
            refine lv_icmp_gt (tgt := 59) hx hb dX1_corner_39 (by decide) (fun q6 => ?_) (fun q6 => ?_)
            · -- bad
              have hok : (pb_ok ck cx cy cr) = false := by simp [pb_ok, pb_grid, Int32.not_le.mpr q6]
              refine lv_iconst (v := 0) hx hb dX1_corner_59 (by decide +kernel) ?_
              refine lv_istore (lv' := [(5, .int (0)), (0, .ref g0), (1, .int (ck)), (2, .int (cx)), (3, .int (cy)), (4, .int (cr))]) hx hb dX1_corner_60 hl (by decide) rfl (fun ls hl => ?_)
              refine lv_iload hx hb dX1_corner_62 (lv_at hl 0 rfl) ?_
              refine lv_if_eq (tgt := 111) hx hb dX1_corner_64 (by decide) (fun q9 => ?_) (fun q9 => ?_)
              · -- no
                refine lv_iload hx hb dX1_corner_111 (lv_at hl 0 rfl) ?_
                exact W.zret (v := (0)) hx hb hr narrow_b0 (fun t ht hW => ⟨⟨(0), (), rfl, by rw [hok]; rfl, by rw [hok]; rw [ht]; exact hP, by rw [hok]; exact hD⟩, hS.F ht⟩) hS.2.2 dX1_corner_113
              · exact absurd rfl q9
            · -- good
              refine lv_iload hx hb dX1_corner_42 (lv_at hl 4 rfl) ?_
              refine lv_iconst (v := 1) hx hb dX1_corner_44 (by decide +kernel) ?_
              refine lv_icmp_lt (tgt := 59) hx hb dX1_corner_45 (by decide) (fun q7 => ?_) (fun q7 => ?_)
              · -- bad
                have hok : (pb_ok ck cx cy cr) = false := by simp [pb_ok, pb_grid, Int32.not_le.mpr q7]
                refine lv_iconst (v := 0) hx hb dX1_corner_59 (by decide +kernel) ?_
                refine lv_istore (lv' := [(5, .int (0)), (0, .ref g0), (1, .int (ck)), (2, .int (cx)), (3, .int (cy)), (4, .int (cr))]) hx hb dX1_corner_60 hl (by decide) rfl (fun ls hl => ?_)
                refine lv_iload hx hb dX1_corner_62 (lv_at hl 0 rfl) ?_
                refine lv_if_eq (tgt := 111) hx hb dX1_corner_64 (by decide) (fun q9 => ?_) (fun q9 => ?_)
                · -- no
                  refine lv_iload hx hb dX1_corner_111 (lv_at hl 0 rfl) ?_
                  exact W.zret (v := (0)) hx hb hr narrow_b0 (fun t ht hW => ⟨⟨(0), (), rfl, by rw [hok]; rfl, by rw [hok]; rw [ht]; exact hP, by rw [hok]; exact hD⟩, hS.F ht⟩) hS.2.2 dX1_corner_113
                · exact absurd rfl q9
              · -- good
                refine lv_iload hx hb dX1_corner_48 (lv_at hl 4 rfl) ?_
                refine lv_ldc (v := 1048576) hx hb hown (hts (.constant RX1 17 1048576) (by decide +kernel)) dX1_corner_50 ?_
                refine lv_icmp_gt (tgt := 59) hx hb dX1_corner_52 (by decide) (fun q8 => ?_) (fun q8 => ?_)
                · -- bad
                  have hok : (pb_ok ck cx cy cr) = false := by simp [pb_ok, pb_grid, Int32.not_le.mpr q8]
                  refine lv_iconst (v := 0) hx hb dX1_corner_59 (by decide +kernel) ?_
                  refine lv_istore (lv' := [(5, .int (0)), (0, .ref g0), (1, .int (ck)), (2, .int (cx)), (3, .int (cy)), (4, .int (cr))]) hx hb dX1_corner_60 hl (by decide) rfl (fun ls hl => ?_)
                  refine lv_iload hx hb dX1_corner_62 (lv_at hl 0 rfl) ?_
                  refine lv_if_eq (tgt := 111) hx hb dX1_corner_64 (by decide) (fun q9 => ?_) (fun q9 => ?_)
                  · -- no
                    refine lv_iload hx hb dX1_corner_111 (lv_at hl 0 rfl) ?_
                    exact W.zret (v := (0)) hx hb hr narrow_b0 (fun t ht hW => ⟨⟨(0), (), rfl, by rw [hok]; rfl, by rw [hok]; rw [ht]; exact hP, by rw [hok]; exact hD⟩, hS.F ht⟩) hS.2.2 dX1_corner_113
                  · exact absurd rfl q9
                · -- good
                  have q2 : ¬ (3 : Int32) ≤ ck := q2
                  have hok : (pb_ok ck cx cy cr) = true := by simp [pb_ok, pb_grid, Int32.not_lt.mp q1, Int32.not_le.mp q2, Int32.not_lt.mp q3, Int32.not_lt.mp q4, Int32.not_lt.mp q5, Int32.not_lt.mp q6, Int32.not_lt.mp q7, Int32.not_lt.mp q8]
                  obtain ⟨kn, hkn, ekn⟩ := nI_of q1
                  have hk3 : kn < 3 := Nat.not_le.mp (fun h => q2 (by rw [ekn]; exact nI_le h hkn))
                  have ecl : ck.toNatClampNeg = kn := by rw [ekn]; exact nI_clamp hkn
                  refine lv_iconst (v := 1) hx hb dX1_corner_55 (by decide +kernel) ?_
                  refine lv_goto (tgt := 60) hx hb dX1_corner_56 (by decide) ?_
                  refine lv_istore (lv' := [(5, .int (1)), (0, .ref g0), (1, .int (ck)), (2, .int (cx)), (3, .int (cy)), (4, .int (cr))]) hx hb dX1_corner_60 hl (by decide) rfl (fun ls hl => ?_)
                  refine lv_iload hx hb dX1_corner_62 (lv_at hl 0 rfl) ?_
                  refine lv_if_eq (tgt := 111) hx hb dX1_corner_64 (by decide) (fun q9 => ?_) (fun q9 => ?_)
                  · exact absurd q9 (by decide)
                  · -- it is set
                    rw [ekn] at hl
                    have hl : lv_has ls 6 [(5, .int (1)), (0, .ref g0), (1, .int (nI (kn))), (2, .int (cx)), (3, .int (cy)), (4, .int (cr))] := hl
                    refine lv_aload_n hx hb dX1_corner_67 rfl (lv_at hl 1 rfl) ?_
                    refine va_get (D := (dC, dI)) (ci := 1) (v := .ref g1) (C := RX1) (T := TX1) (N := 3) hx hb hts hin1 hown hK hP 0 rfl rfl 2 (by decide) (hts (.fieldLink RX1 7 "PieceBoxesModel" "corners" "[I") (by decide +kernel)) (fun _ h9 => h9) rfl dX1_corner_68 ?_
                    refine lv_sipush (v := nI 4608) hx hb dX1_corner_71 (by decide +kernel) ?_
                    refine lv_iconst (v := nI 3) hx hb dX1_corner_74 (by decide +kernel) ?_
                    refine lv_iload_n hx hb dX1_corner_75 rfl (lv_at hl 2 rfl) ?_
                    refine lv_imul hx hb dX1_corner_76 ?_
                    refine pb_eqi (pk_mul _ _) ?_
                    refine lv_iadd hx hb dX1_corner_77 ?_
                    refine pb_eqi (nI_add _ _) ?_
                    refine lv_iload_n hx hb dX1_corner_78 rfl (lv_at hl 3 rfl) ?_
                    refine pb_ast (j := 4608 + (3 * kn)) hx hb hK hP hD hS 1 0 rfl rfl (by omega) (by decide) dX1_corner_79 (fun H locs hP hD hS => ?_)
                    have hP : va_P (dC, dI) vwCl [(g0, .inr (1, [.int (nI (0)), .int (nI (n)), .ref g1])), (g1, .inl (r1, 4617, .inl (upd M (4608 + (3 * kn)) (cx))))] H := hP
                    have hD : va_D A [(g0, .inr (1, [.int (nI (0)), .int (nI (n)), .ref g1])), (g1, .inl (r1, 4617, .inl (upd M (4608 + (3 * kn)) (cx))))] := hD
                    refine lv_aload_n hx hb dX1_corner_80 rfl (lv_at hl 1 rfl) ?_
                    refine va_get (D := (dC, dI)) (ci := 1) (v := .ref g1) (C := RX1) (T := TX1) (N := 3) hx hb hts hin1 hown hK hP 0 rfl rfl 2 (by decide) (hts (.fieldLink RX1 7 "PieceBoxesModel" "corners" "[I") (by decide +kernel)) (fun _ h9 => h9) rfl dX1_corner_81 ?_
                    refine lv_sipush (v := nI 4608) hx hb dX1_corner_84 (by decide +kernel) ?_
                    refine lv_iconst (v := nI 3) hx hb dX1_corner_87 (by decide +kernel) ?_
                    refine lv_iload_n hx hb dX1_corner_88 rfl (lv_at hl 2 rfl) ?_
                    refine lv_imul hx hb dX1_corner_89 ?_
                    refine pb_eqi (pk_mul _ _) ?_
                    refine lv_iadd hx hb dX1_corner_90 ?_
                    refine pb_eqi (nI_add _ _) ?_
                    refine lv_iconst (v := nI 1) hx hb dX1_corner_91 (by decide +kernel) ?_
                    refine lv_iadd hx hb dX1_corner_92 ?_
                    refine pb_eqi (nI_add _ _) ?_
                    refine lv_iload_n hx hb dX1_corner_93 rfl (lv_at hl 4 rfl) ?_
                    refine pb_ast (j := 4608 + (3 * kn) + 1) hx hb hK hP hD hS 1 0 rfl rfl (by omega) (by decide) dX1_corner_94 (fun H locs hP hD hS => ?_)
                    have hP : va_P (dC, dI) vwCl [(g0, .inr (1, [.int (nI (0)), .int (nI (n)), .ref g1])), (g1, .inl (r1, 4617, .inl (upd (upd M (4608 + (3 * kn)) (cx)) (4608 + (3 * kn) + 1) (cy))))] H := hP
                    have hD : va_D A [(g0, .inr (1, [.int (nI (0)), .int (nI (n)), .ref g1])), (g1, .inl (r1, 4617, .inl (upd (upd M (4608 + (3 * kn)) (cx)) (4608 + (3 * kn) + 1) (cy))))] := hD
                    refine lv_aload_n hx hb dX1_corner_95 rfl (lv_at hl 1 rfl) ?_
                    refine va_get (D := (dC, dI)) (ci := 1) (v := .ref g1) (C := RX1) (T := TX1) (N := 3) hx hb hts hin1 hown hK hP 0 rfl rfl 2 (by decide) (hts (.fieldLink RX1 7 "PieceBoxesModel" "corners" "[I") (by decide +kernel)) (fun _ h9 => h9) rfl dX1_corner_96 ?_
                    refine lv_sipush (v := nI 4608) hx hb dX1_corner_99 (by decide +kernel) ?_
                    refine lv_iconst (v := nI 3) hx hb dX1_corner_102 (by decide +kernel) ?_
                    refine lv_iload_n hx hb dX1_corner_103 rfl (lv_at hl 2 rfl) ?_
                    refine lv_imul hx hb dX1_corner_104 ?_
                    refine pb_eqi (pk_mul _ _) ?_
                    refine lv_iadd hx hb dX1_corner_105 ?_
                    refine pb_eqi (nI_add _ _) ?_
                    refine lv_iconst (v := nI 2) hx hb dX1_corner_106 (by decide +kernel) ?_
                    refine lv_iadd hx hb dX1_corner_107 ?_
                    refine pb_eqi (nI_add _ _) ?_
                    refine lv_iload hx hb dX1_corner_108 (lv_at hl 5 rfl) ?_
                    refine pb_ast (j := 4608 + (3 * kn) + 2) hx hb hK hP hD hS 1 0 rfl rfl (by omega) (by decide) dX1_corner_110 (fun H locs hP hD hS => ?_)
                    have hP : va_P (dC, dI) vwCl [(g0, .inr (1, [.int (nI (0)), .int (nI (n)), .ref g1])), (g1, .inl (r1, 4617, .inl (upd (upd (upd M (4608 + (3 * kn)) (cx)) (4608 + (3 * kn) + 1) (cy)) (4608 + (3 * kn) + 2) (cr))))] H := hP
                    have hD : va_D A [(g0, .inr (1, [.int (nI (0)), .int (nI (n)), .ref g1])), (g1, .inl (r1, 4617, .inl (upd (upd (upd M (4608 + (3 * kn)) (cx)) (4608 + (3 * kn) + 1) (cy)) (4608 + (3 * kn) + 2) (cr))))] := hD
                    refine lv_iload hx hb dX1_corner_111 (lv_at hl 0 rfl) ?_
                    exact W.zret (v := (1)) hx hb hr narrow_b1 (fun t ht hW => ⟨⟨(1), (), rfl, by rw [hok]; rfl, by rw [hok, ecl]; rw [ht]; exact hP, by rw [hok, ecl]; exact hD⟩, hS.F ht⟩) hS.2.2 dX1_corner_113
end
section
set_option maxHeartbeats 4000000 in
set_option maxRecDepth 100000 in
theorem cR_nearest (l : Launch) (dC : Nat → ClassId) (dI : Nat → Nat → Nat) (g0 g1 : Nat) (r1 : ClassId) (M : Nat → Int32) (n : Nat) (sz : Nat) (hn : n ≤ 512) (hI : ∀ j, j < n → pb_I1 M j) (xi yi : Int32) : Met l yX1_nearest wsX1_nearest ({ frames := 3, cells := 0, slots := 0, locals := 85 }) (va_Pc [.ref g0, .int (xi), .int (yi)] (fun U => U.heap.size = sz ∧ va_P (dC, dI) vwCl (wR g0 g1 r1 M n) U.heap ∧ va_K (dC, dI) vwCl (tR r1) U ∧ va_D (fun _ => True) (wR g0 g1 r1 M n))) (va_Qi (fun (r0 : Int32) (_ : Unit) => r0 = (pb_ns (pr0 M) (pr1 M) (pr2 M) xi yi n).1) (fun (_ : Unit) (t : State) => va_P (dC, dI) vwCl (wR g0 g1 r1 M n) t.heap ∧ va_D (va_A (wR g0 g1 r1 M n) sz) (wR g0 g1 r1 M n)) (va_A (wR g0 g1 r1 M n) sz)) 0 0 (va_A (wR g0 g1 r1 M n) sz) := by
  refine Met.ofW (cc := cX1_nearest) (maxL := 7) (ret := some .int) (by decide) rfl ?_
  intro p e s m args below meth c s₁ B hml hv
  obtain ⟨rfl, hsz, hP, hK, hD0⟩ := hv
  have hx := B.exec
  have hb := B.bytes
  have hr := B.returns
  have hts := atoms_spec (ws := wsX1_nearest) B.pre
  have hown : s.vm.findClass RX1 = some m.cls := findClass_of_methodNamed B.named
  have hlocks := B.notSynchronized
  have hin1 : ∀ w ∈ u_ws RX1 TX1 3, w ∈ wsX1_nearest := by decide +kernel
  subst hsz
  have hD := hD0.self (sz := s.heap.size)
  generalize hAe : va_A (wR g0 g1 r1 M n) s.heap.size = A at hD ⊢
  have hA : ∀ q : Nat, s.heap.size ≤ q → A q := fun q h => by rw [← hAe]; exact Or.inr h
  have hS : va_S A s.heap s.heap [] := va_S.rf
  have hl := lv_entry ([.ref g0, .int (xi), .int (yi)]) (n := 7) (Nat.le_of_ble_eq_true rfl)
  rw [lg_entry_eq]
  generalize (lg_sl ([.ref g0, .int (xi), .int (yi)]) ++ List.replicate (7 - (lg_sl ([.ref g0, .int (xi), .int (yi)])).length) Slot.unset).toArray = ls at hl ⊢
  have hl : lv_has ls 7 [(0, .ref g0), (1, .int (xi)), (2, .int (yi))] := hl
  refine lv_aload_n hx hb dX1_nearest_0 rfl (lv_at hl 0 rfl) ?_
  refine lv_iconst (v := nI 0) hx hb dX1_nearest_1 (by decide +kernel) ?_
  refine va_put (D := (dC, dI)) (ci := 1) (v := .int (nI (0))) (ty := .int) (C := RX1) (T := TX1) (N := 3) hx hb hts hin1 tyX1 tyX1_ok nmX1 hown hK hP hD hS 0 rfl rfl 0 (by decide) (hts (.fieldLink RX1 13 "PieceBoxesModel" "thrown" "I") (by decide +kernel)) (fun _ h9 => h9) rfl (by decide +kernel) rfl rfl (Nat.le_of_ble_eq_true rfl) dX1_nearest_2 (fun H locs hP hD hS => ?_)
  have hP : va_P (dC, dI) vwCl [(g0, .inr (1, [.int (nI (0)), .int (nI (n)), .ref g1])), (g1, .inl (r1, 4617, .inl (M)))] H := hP
  have hD : va_D A [(g0, .inr (1, [.int (nI (0)), .int (nI (n)), .ref g1])), (g1, .inl (r1, 4617, .inl (M)))] := hD
  refine lv_iconst (v := (-1)) hx hb dX1_nearest_5 (by decide +kernel) ?_
  refine lv_istore_n (lv' := [(3, .int (-1)), (0, .ref g0), (1, .int (xi)), (2, .int (yi))]) hx hb dX1_nearest_6 rfl hl (by decide) rfl (fun ls hl => ?_)
  refine lv_iconst (v := (-1)) hx hb dX1_nearest_7 (by decide +kernel) ?_
  refine lv_istore (lv' := [(4, .int (-1)), (3, .int (-1)), (0, .ref g0), (1, .int (xi)), (2, .int (yi))]) hx hb dX1_nearest_8 hl (by decide) rfl (fun ls hl => ?_)
  refine lv_iconst (v := nI 0) hx hb dX1_nearest_10 (by decide +kernel) ?_
  refine lv_istore (lv' := [(5, .int (nI (0))), (4, .int (-1)), (3, .int (-1)), (0, .ref g0), (1, .int (xi)), (2, .int (yi))]) hx hb dX1_nearest_11 hl (by decide) rfl (fun ls hl => ?_)
  suffices loop : ∀ (d j : Nat), j + d = n → ∀ ls : Array Slot, lv_has ls 7 [(5, .int (nI (j))), (3, .int ((pb_ns (pr0 M) (pr1 M) (pr2 M) xi yi j).1)), (4, .int ((pb_ns (pr0 M) (pr1 M) (pr2 M) xi yi j).2)), (0, .ref g0), (1, .int (xi)), (2, .int (yi))] → W p l e (headSpec wsX1_nearest ({ frames := 3, cells := 0, slots := 0, locals := 85 })).room s m ([.ref g0, .int (xi), .int (yi)] : List Value).toArray below meth c H locs 0 0 (MQ below (va_Qi (fun (r0 : Int32) (_ : Unit) => r0 = (pb_ns (pr0 M) (pr1 M) (pr2 M) xi yi n).1) (fun (_ : Unit) (t : State) => va_P (dC, dI) vwCl (wR g0 g1 r1 M n) t.heap ∧ va_D A (wR g0 g1 r1 M n)) A) ([.ref g0, .int (xi), .int (yi)] : List Value).toArray s 0 0 A) (F0 m 13 ls []) by
    exact loop n 0 (Nat.zero_add n) ls (lv_sub hl [0, 2, 1, 3, 4, 5] rfl)
  clear hl ls
  intro d
  induction d with
  | zero =>
    intro j hj ls hl
    have hj : j = n := by omega
    refine lv_iload hx hb dX1_nearest_13 (lv_at hl 0 rfl) ?_
    refine lv_aload_n hx hb dX1_nearest_15 rfl (lv_at hl 3 rfl) ?_
    refine va_get (D := (dC, dI)) (ci := 1) (v := .int (nI (n))) (C := RX1) (T := TX1) (N := 3) hx hb hts hin1 hown hK hP 0 rfl rfl 1 (by decide) (hts (.fieldLink RX1 22 "PieceBoxesModel" "many" "I") (by decide +kernel)) (fun _ h9 => h9) rfl dX1_nearest_16 ?_
    refine lv_icmp_ge (tgt := 68) hx hb dX1_nearest_19 (by decide) (fun q1 => ?_) (fun q1 => ?_)
    · -- the end
      refine lv_iload_n hx hb dX1_nearest_68 rfl (lv_at hl 1 rfl) ?_
      exact W.iret (v := ((pb_ns (pr0 M) (pr1 M) (pr2 M) xi yi j).1)) hx hb hr (fun t ht hW => ⟨⟨((pb_ns (pr0 M) (pr1 M) (pr2 M) xi yi j).1), (), rfl, by rw [hj], by rw [ht]; exact hP, by exact hD⟩, hS.F ht⟩) hS.2.2 dX1_nearest_69
    · exact absurd (nI_le (by omega) (by omega)) q1
  | succ d ih =>
    intro j hj ls hl
    refine lv_iload hx hb dX1_nearest_13 (lv_at hl 0 rfl) ?_
    refine lv_aload_n hx hb dX1_nearest_15 rfl (lv_at hl 3 rfl) ?_
    refine va_get (D := (dC, dI)) (ci := 1) (v := .int (nI (n))) (C := RX1) (T := TX1) (N := 3) hx hb hts hin1 hown hK hP 0 rfl rfl 1 (by decide) (hts (.fieldLink RX1 22 "PieceBoxesModel" "many" "I") (by decide +kernel)) (fun _ h9 => h9) rfl dX1_nearest_16 ?_
    refine lv_icmp_ge (tgt := 68) hx hb dX1_nearest_19 (by decide) (fun q1 => ?_) (fun q1 => ?_)
    · exact absurd q1 (nI_ge (by omega) (by omega))
    · -- piece j
      refine lv_aload_n hx hb dX1_nearest_22 rfl (lv_at hl 3 rfl) ?_
      refine lv_iload hx hb dX1_nearest_23 (lv_at hl 0 rfl) ?_
      refine lv_iload_n hx hb dX1_nearest_25 rfl (lv_at hl 4 rfl) ?_
      refine lv_iload_n hx hb dX1_nearest_26 rfl (lv_at hl 5 rfl) ?_
      refine pb_call (W.runV (As := [.int (nI (j)), .int (xi), .int (yi)]) (rest := []) ⟨hx, hb, hml, hown, hts⟩ (cR_nearAt l dC dI g0 g1 r1 M n j (by omega) xi yi (hI j (by omega))) (cwV 3 hts gX1_nearest_X1_nearAt rfl rfl rfl (by decide +kernel) ⟨Nat.le_of_ble_eq_true rfl, Nat.le_of_ble_eq_true rfl⟩) (preR_V hP hK _) rfl rfl hl.1 rfl (lv_room (Nat.le_of_ble_eq_true rfl)) dX1_nearest_27 ⟨Nat.zero_le _, Nat.zero_le _⟩) ?_
      refine lv_istore (lv' := [(6, .int (pb_nv (pr0 M) (pr1 M) (pr2 M) j xi yi)), (5, .int (nI (j))), (3, .int ((pb_ns (pr0 M) (pr1 M) (pr2 M) xi yi j).1)), (4, .int ((pb_ns (pr0 M) (pr1 M) (pr2 M) xi yi j).2)), (0, .ref g0), (1, .int (xi)), (2, .int (yi))]) hx hb dX1_nearest_30 hl (by decide) rfl (fun ls hl => ?_)
      refine lv_iload hx hb dX1_nearest_32 (lv_at hl 0 rfl) ?_
      refine lv_iload hx hb dX1_nearest_34 (lv_at hl 3 rfl) ?_
      refine lv_icmp_le (tgt := 44) hx hb dX1_nearest_36 (by decide) (fun q2 => ?_) (fun q2 => ?_)
      · -- not nearer
        refine lv_iload_n hx hb dX1_nearest_44 rfl (lv_at hl 2 rfl) ?_
        refine lv_istore_n (lv' := [(3, .int ((pb_ns (pr0 M) (pr1 M) (pr2 M) xi yi j).1)), (6, .int (pb_nv (pr0 M) (pr1 M) (pr2 M) j xi yi)), (5, .int (nI (j))), (4, .int ((pb_ns (pr0 M) (pr1 M) (pr2 M) xi yi j).2)), (0, .ref g0), (1, .int (xi)), (2, .int (yi))]) hx hb dX1_nearest_45 rfl hl (by decide) rfl (fun ls hl => ?_)
        refine lv_iload hx hb dX1_nearest_46 (lv_at hl 1 rfl) ?_
        refine lv_iload hx hb dX1_nearest_48 (lv_at hl 3 rfl) ?_
        refine lv_icmp_le (tgt := 58) hx hb dX1_nearest_50 (by decide) (fun q3 => ?_) (fun q3 => ?_)
        · -- nor here
          refine lv_iload hx hb dX1_nearest_58 (lv_at hl 3 rfl) ?_
          refine lv_istore (lv' := [(4, .int ((pb_ns (pr0 M) (pr1 M) (pr2 M) xi yi j).2)), (3, .int ((pb_ns (pr0 M) (pr1 M) (pr2 M) xi yi j).1)), (6, .int (pb_nv (pr0 M) (pr1 M) (pr2 M) j xi yi)), (5, .int (nI (j))), (0, .ref g0), (1, .int (xi)), (2, .int (yi))]) hx hb dX1_nearest_60 hl (by decide) rfl (fun ls hl => ?_)
          refine lv_iinc (v := (nI (j + 1))) (lv' := [(5, .int (nI (j + 1))), (4, .int ((pb_ns (pr0 M) (pr1 M) (pr2 M) xi yi j).2)), (3, .int ((pb_ns (pr0 M) (pr1 M) (pr2 M) xi yi j).1)), (6, .int (pb_nv (pr0 M) (pr1 M) (pr2 M) j xi yi)), (0, .ref g0), (1, .int (xi)), (2, .int (yi))]) hx hb dX1_nearest_62 hl (k := 3) rfl (by exact (nI_1 (j))) (by decide) rfl (fun ls hl => ?_)
          refine lv_goto (tgt := 13) hx hb dX1_nearest_65 (by decide) ?_
          have hst : pb_ns (pr0 M) (pr1 M) (pr2 M) xi yi (j + 1) = _ := if_neg (Int32.not_lt.mpr q2)
          exact ih (j + 1) (by omega) ls (by rw [hst]; exact lv_sub hl [0, 2, 1, 4, 5, 6] rfl)
        · exact absurd q2 q3
      · -- nearer
        refine lv_iload hx hb dX1_nearest_39 (lv_at hl 1 rfl) ?_
        refine lv_goto (tgt := 45) hx hb dX1_nearest_41 (by decide) ?_
        refine lv_istore_n (lv' := [(3, .int (nI (j))), (6, .int (pb_nv (pr0 M) (pr1 M) (pr2 M) j xi yi)), (5, .int (nI (j))), (4, .int ((pb_ns (pr0 M) (pr1 M) (pr2 M) xi yi j).2)), (0, .ref g0), (1, .int (xi)), (2, .int (yi))]) hx hb dX1_nearest_45 rfl hl (by decide) rfl (fun ls hl => ?_)
        refine lv_iload hx hb dX1_nearest_46 (lv_at hl 1 rfl) ?_
        refine lv_iload hx hb dX1_nearest_48 (lv_at hl 3 rfl) ?_
        refine lv_icmp_le (tgt := 58) hx hb dX1_nearest_50 (by decide) (fun q3 => ?_) (fun q3 => ?_)
        · exact absurd q3 q2
        · -- here too
          refine lv_iload hx hb dX1_nearest_53 (lv_at hl 1 rfl) ?_
          refine lv_goto (tgt := 60) hx hb dX1_nearest_55 (by decide) ?_
          refine lv_istore (lv' := [(4, .int (pb_nv (pr0 M) (pr1 M) (pr2 M) j xi yi)), (3, .int (nI (j))), (6, .int (pb_nv (pr0 M) (pr1 M) (pr2 M) j xi yi)), (5, .int (nI (j))), (0, .ref g0), (1, .int (xi)), (2, .int (yi))]) hx hb dX1_nearest_60 hl (by decide) rfl (fun ls hl => ?_)
          refine lv_iinc (v := (nI (j + 1))) (lv' := [(5, .int (nI (j + 1))), (4, .int (pb_nv (pr0 M) (pr1 M) (pr2 M) j xi yi)), (3, .int (nI (j))), (6, .int (pb_nv (pr0 M) (pr1 M) (pr2 M) j xi yi)), (0, .ref g0), (1, .int (xi)), (2, .int (yi))]) hx hb dX1_nearest_62 hl (k := 3) rfl (by exact (nI_1 (j))) (by decide) rfl (fun ls hl => ?_)
          refine lv_goto (tgt := 13) hx hb dX1_nearest_65 (by decide) ?_
          have hst : pb_ns (pr0 M) (pr1 M) (pr2 M) xi yi (j + 1) = _ := if_pos (Int32.not_le.mp q2)
          exact ih (j + 1) (by omega) ls (by rw [hst]; exact lv_sub hl [0, 2, 1, 4, 5, 6] rfl)
set_option maxHeartbeats 4000000 in
set_option maxRecDepth 100000 in
theorem cR_covering (l : Launch) (dC : Nat → ClassId) (dI : Nat → Nat → Nat) (g0 g1 : Nat) (r1 : ClassId) (M : Nat → Int32) (n : Nat) (sz : Nat) (hn : n ≤ 512) (hI : ∀ j, j < n → pb_I1 M j) (xi yi : Int32) : Met l yX1_covering wsX1_covering ({ frames := 3, cells := 0, slots := 0, locals := 85 }) (va_Pc [.ref g0, .int (xi), .int (yi)] (fun U => U.heap.size = sz ∧ va_P (dC, dI) vwCl (wR g0 g1 r1 M n) U.heap ∧ va_K (dC, dI) vwCl (tR r1) U ∧ va_D (fun _ => True) (wR g0 g1 r1 M n))) (va_Qi (fun (r0 : Int32) (_ : Unit) => r0 = pb_cv (pr0 M) (pr1 M) (pb_mid xi) (pb_mid yi) n) (fun (_ : Unit) (t : State) => va_P (dC, dI) vwCl (wR g0 g1 r1 M n) t.heap ∧ va_D (va_A (wR g0 g1 r1 M n) sz) (wR g0 g1 r1 M n)) (va_A (wR g0 g1 r1 M n) sz)) 0 0 (va_A (wR g0 g1 r1 M n) sz) := by
  refine Met.ofW (cc := cX1_covering) (maxL := 5) (ret := some .int) (by decide) rfl ?_
  intro p e s m args below meth c s₁ B hml hv
  obtain ⟨rfl, hsz, hP, hK, hD0⟩ := hv
  have hx := B.exec
  have hb := B.bytes
  have hr := B.returns
  have hts := atoms_spec (ws := wsX1_covering) B.pre
  have hown : s.vm.findClass RX1 = some m.cls := findClass_of_methodNamed B.named
  have hlocks := B.notSynchronized
  have hin1 : ∀ w ∈ u_ws RX1 TX1 3, w ∈ wsX1_covering := by decide +kernel
  subst hsz
  have hD := hD0.self (sz := s.heap.size)
  generalize hAe : va_A (wR g0 g1 r1 M n) s.heap.size = A at hD ⊢
  have hA : ∀ q : Nat, s.heap.size ≤ q → A q := fun q h => by rw [← hAe]; exact Or.inr h
  have hS : va_S A s.heap s.heap [] := va_S.rf
  have hl := lv_entry ([.ref g0, .int (xi), .int (yi)]) (n := 5) (Nat.le_of_ble_eq_true rfl)
  rw [lg_entry_eq]
  generalize (lg_sl ([.ref g0, .int (xi), .int (yi)]) ++ List.replicate (5 - (lg_sl ([.ref g0, .int (xi), .int (yi)])).length) Slot.unset).toArray = ls at hl ⊢
  have hl : lv_has ls 5 [(0, .ref g0), (1, .int (xi)), (2, .int (yi))] := hl
  refine lv_aload_n hx hb dX1_covering_0 rfl (lv_at hl 0 rfl) ?_
  refine lv_iconst (v := nI 0) hx hb dX1_covering_1 (by decide +kernel) ?_
  refine va_put (D := (dC, dI)) (ci := 1) (v := .int (nI (0))) (ty := .int) (C := RX1) (T := TX1) (N := 3) hx hb hts hin1 tyX1 tyX1_ok nmX1 hown hK hP hD hS 0 rfl rfl 0 (by decide) (hts (.fieldLink RX1 13 "PieceBoxesModel" "thrown" "I") (by decide +kernel)) (fun _ h9 => h9) rfl (by decide +kernel) rfl rfl (Nat.le_of_ble_eq_true rfl) dX1_covering_2 (fun H locs hP hD hS => ?_)
  have hP : va_P (dC, dI) vwCl [(g0, .inr (1, [.int (nI (0)), .int (nI (n)), .ref g1])), (g1, .inl (r1, 4617, .inl (M)))] H := hP
  have hD : va_D A [(g0, .inr (1, [.int (nI (0)), .int (nI (n)), .ref g1])), (g1, .inl (r1, 4617, .inl (M)))] := hD
  refine lv_iconst (v := 0) hx hb dX1_covering_5 (by decide +kernel) ?_
  refine lv_istore_n (lv' := [(3, .int (0)), (0, .ref g0), (1, .int (xi)), (2, .int (yi))]) hx hb dX1_covering_6 rfl hl (by decide) rfl (fun ls hl => ?_)
  refine lv_iconst (v := nI 0) hx hb dX1_covering_7 (by decide +kernel) ?_
  refine lv_istore (lv' := [(4, .int (nI (0))), (3, .int (0)), (0, .ref g0), (1, .int (xi)), (2, .int (yi))]) hx hb dX1_covering_8 hl (by decide) rfl (fun ls hl => ?_)
  suffices loop : ∀ (d j : Nat), j + d = n → ∀ ls : Array Slot, lv_has ls 5 [(4, .int (nI (j))), (3, .int (pb_cv (pr0 M) (pr1 M) (pb_mid xi) (pb_mid yi) j)), (0, .ref g0), (1, .int (xi)), (2, .int (yi))] → W p l e (headSpec wsX1_covering ({ frames := 3, cells := 0, slots := 0, locals := 85 })).room s m ([.ref g0, .int (xi), .int (yi)] : List Value).toArray below meth c H locs 0 0 (MQ below (va_Qi (fun (r0 : Int32) (_ : Unit) => r0 = pb_cv (pr0 M) (pr1 M) (pb_mid xi) (pb_mid yi) n) (fun (_ : Unit) (t : State) => va_P (dC, dI) vwCl (wR g0 g1 r1 M n) t.heap ∧ va_D A (wR g0 g1 r1 M n)) A) ([.ref g0, .int (xi), .int (yi)] : List Value).toArray s 0 0 A) (F0 m 10 ls []) by
    exact loop n 0 (Nat.zero_add n) ls (lv_sub hl [0, 1, 2, 3, 4] rfl)
  clear hl ls
  intro d
  induction d with
  | zero =>
    intro j hj ls hl
    have hj : j = n := by omega
    refine lv_iload hx hb dX1_covering_10 (lv_at hl 0 rfl) ?_
    refine lv_aload_n hx hb dX1_covering_12 rfl (lv_at hl 2 rfl) ?_
    refine va_get (D := (dC, dI)) (ci := 1) (v := .int (nI (n))) (C := RX1) (T := TX1) (N := 3) hx hb hts hin1 hown hK hP 0 rfl rfl 1 (by decide) (hts (.fieldLink RX1 22 "PieceBoxesModel" "many" "I") (by decide +kernel)) (fun _ h9 => h9) rfl dX1_covering_13 ?_
    refine lv_icmp_ge (tgt := 45) hx hb dX1_covering_16 (by decide) (fun q1 => ?_) (fun q1 => ?_)
    · -- the end
      refine lv_iload_n hx hb dX1_covering_45 rfl (lv_at hl 1 rfl) ?_
      exact W.iret (v := (pb_cv (pr0 M) (pr1 M) (pb_mid xi) (pb_mid yi) j)) hx hb hr (fun t ht hW => ⟨⟨(pb_cv (pr0 M) (pr1 M) (pb_mid xi) (pb_mid yi) j), (), rfl, by rw [hj], by rw [ht]; exact hP, by exact hD⟩, hS.F ht⟩) hS.2.2 dX1_covering_46
    · exact absurd (nI_le (by omega) (by omega)) q1
  | succ d ih =>
    intro j hj ls hl
    refine lv_iload hx hb dX1_covering_10 (lv_at hl 0 rfl) ?_
    refine lv_aload_n hx hb dX1_covering_12 rfl (lv_at hl 2 rfl) ?_
    refine va_get (D := (dC, dI)) (ci := 1) (v := .int (nI (n))) (C := RX1) (T := TX1) (N := 3) hx hb hts hin1 hown hK hP 0 rfl rfl 1 (by decide) (hts (.fieldLink RX1 22 "PieceBoxesModel" "many" "I") (by decide +kernel)) (fun _ h9 => h9) rfl dX1_covering_13 ?_
    refine lv_icmp_ge (tgt := 45) hx hb dX1_covering_16 (by decide) (fun q1 => ?_) (fun q1 => ?_)
    · exact absurd q1 (nI_ge (by omega) (by omega))
    · -- piece j
      refine lv_iload_n hx hb dX1_covering_19 rfl (lv_at hl 1 rfl) ?_
      refine lv_aload_n hx hb dX1_covering_20 rfl (lv_at hl 2 rfl) ?_
      refine lv_iload hx hb dX1_covering_21 (lv_at hl 0 rfl) ?_
      refine lv_iload_n hx hb dX1_covering_23 rfl (lv_at hl 3 rfl) ?_
      refine lv_iload_n hx hb dX1_covering_24 rfl (lv_at hl 4 rfl) ?_
      refine pb_call (W.runV (As := [.int (nI (j)), .int (xi), .int (yi)]) (rest := [.int (pb_cv (pr0 M) (pr1 M) (pb_mid xi) (pb_mid yi) j)]) ⟨hx, hb, hml, hown, hts⟩ (cR_nearAt l dC dI g0 g1 r1 M n j (by omega) xi yi (hI j (by omega))) (cwV 3 hts gX1_covering_X1_nearAt rfl rfl rfl (by decide +kernel) ⟨Nat.le_of_ble_eq_true rfl, Nat.le_of_ble_eq_true rfl⟩) (preR_V hP hK _) rfl rfl hl.1 rfl (lv_room (Nat.le_of_ble_eq_true rfl)) dX1_covering_25 ⟨Nat.zero_le _, Nat.zero_le _⟩) ?_
      refine lv_iconst (v := (-1)) hx hb dX1_covering_28 (by decide +kernel) ?_
      refine lv_icmp_ne (tgt := 36) hx hb dX1_covering_29 (by decide) (fun q2 => ?_) (fun q2 => ?_)
      · -- covered
        refine lv_iconst (v := 1) hx hb dX1_covering_36 (by decide +kernel) ?_
        refine lv_iadd hx hb dX1_covering_37 ?_
        refine lv_istore_n (lv' := [(3, .int ((pb_cv (pr0 M) (pr1 M) (pb_mid xi) (pb_mid yi) j + 1))), (4, .int (nI (j))), (0, .ref g0), (1, .int (xi)), (2, .int (yi))]) hx hb dX1_covering_38 rfl hl (by decide) rfl (fun ls hl => ?_)
        refine lv_iinc (v := (nI (j + 1))) (lv' := [(4, .int (nI (j + 1))), (3, .int ((pb_cv (pr0 M) (pr1 M) (pb_mid xi) (pb_mid yi) j + 1))), (0, .ref g0), (1, .int (xi)), (2, .int (yi))]) hx hb dX1_covering_39 hl (k := 1) rfl (by exact (nI_1 (j))) (by decide) rfl (fun ls hl => ?_)
        refine lv_goto (tgt := 10) hx hb dX1_covering_42 (by decide) ?_
        have hst : pb_cv (pr0 M) (pr1 M) (pb_mid xi) (pb_mid yi) (j + 1) = _ := if_pos (pb_nv_c (hI j (by omega)) q2)
        exact ih (j + 1) (by omega) ls (by rw [hst]; exact lv_sub hl [0, 1, 2, 3, 4] rfl)
      · -- not covered
        refine lv_iconst (v := 0) hx hb dX1_covering_32 (by decide +kernel) ?_
        refine lv_goto (tgt := 37) hx hb dX1_covering_33 (by decide) ?_
        refine lv_iadd hx hb dX1_covering_37 ?_
        refine pb_eqi (Int32.add_zero _) ?_
        refine lv_istore_n (lv' := [(3, .int (pb_cv (pr0 M) (pr1 M) (pb_mid xi) (pb_mid yi) j)), (4, .int (nI (j))), (0, .ref g0), (1, .int (xi)), (2, .int (yi))]) hx hb dX1_covering_38 rfl hl (by decide) rfl (fun ls hl => ?_)
        refine lv_iinc (v := (nI (j + 1))) (lv' := [(4, .int (nI (j + 1))), (3, .int (pb_cv (pr0 M) (pr1 M) (pb_mid xi) (pb_mid yi) j)), (0, .ref g0), (1, .int (xi)), (2, .int (yi))]) hx hb dX1_covering_39 hl (k := 1) rfl (by exact (nI_1 (j))) (by decide) rfl (fun ls hl => ?_)
        refine lv_goto (tgt := 10) hx hb dX1_covering_42 (by decide) ?_
        have hst : pb_cv (pr0 M) (pr1 M) (pb_mid xi) (pb_mid yi) (j + 1) = _ := if_neg (pb_nv_nc (hI j (by omega)) q2)
        exact ih (j + 1) (by omega) ls (by rw [hst]; exact lv_sub hl [0, 1, 2, 3, 4] rfl)
set_option maxHeartbeats 4000000 in
set_option maxRecDepth 100000 in
theorem cR_next (l : Launch) (dC : Nat → ClassId) (dI : Nat → Nat → Nat) (g0 g1 : Nat) (r1 : ClassId) (M : Nat → Int32) (n : Nat) (sz : Nat) (hn : n ≤ 512) (hI : ∀ j, j < n → pb_I1 M j) (xi yi fr : Int32) : Met l yX1_next wsX1_next ({ frames := 3, cells := 0, slots := 0, locals := 85 }) (va_Pc [.ref g0, .int (xi), .int (yi), .int (fr)] (fun U => U.heap.size = sz ∧ va_P (dC, dI) vwCl (wR g0 g1 r1 M n) U.heap ∧ va_K (dC, dI) vwCl (tR r1) U ∧ va_D (fun _ => True) (wR g0 g1 r1 M n))) (va_Qi (fun (r0 : Int32) (_ : Unit) => r0 = pb_next (pr0 M) (pr1 M) (pb_mid xi) (pb_mid yi) n fr) (fun (_ : Unit) (t : State) => va_P (dC, dI) vwCl (wR g0 g1 r1 M n) t.heap ∧ va_D (va_A (wR g0 g1 r1 M n) sz) (wR g0 g1 r1 M n)) (va_A (wR g0 g1 r1 M n) sz)) 0 0 (va_A (wR g0 g1 r1 M n) sz) := by
  refine Met.ofW (cc := cX1_next) (maxL := 5) (ret := some .int) (by decide) rfl ?_
  intro p e s m args below meth c s₁ B hml hv
  obtain ⟨rfl, hsz, hP, hK, hD0⟩ := hv
  have hx := B.exec
  have hb := B.bytes
  have hr := B.returns
  have hts := atoms_spec (ws := wsX1_next) B.pre
  have hown : s.vm.findClass RX1 = some m.cls := findClass_of_methodNamed B.named
  have hlocks := B.notSynchronized
  have hin1 : ∀ w ∈ u_ws RX1 TX1 3, w ∈ wsX1_next := by decide +kernel
  subst hsz
  have hD := hD0.self (sz := s.heap.size)
  generalize hAe : va_A (wR g0 g1 r1 M n) s.heap.size = A at hD ⊢
  have hA : ∀ q : Nat, s.heap.size ≤ q → A q := fun q h => by rw [← hAe]; exact Or.inr h
  have hS : va_S A s.heap s.heap [] := va_S.rf
  have hl := lv_entry ([.ref g0, .int (xi), .int (yi), .int (fr)]) (n := 5) (Nat.le_of_ble_eq_true rfl)
  rw [lg_entry_eq]
  generalize (lg_sl ([.ref g0, .int (xi), .int (yi), .int (fr)]) ++ List.replicate (5 - (lg_sl ([.ref g0, .int (xi), .int (yi), .int (fr)])).length) Slot.unset).toArray = ls at hl ⊢
  have hl : lv_has ls 5 [(0, .ref g0), (1, .int (xi)), (2, .int (yi)), (3, .int (fr))] := hl
  refine lv_aload_n hx hb dX1_next_0 rfl (lv_at hl 0 rfl) ?_
  refine lv_iconst (v := nI 0) hx hb dX1_next_1 (by decide +kernel) ?_
  refine va_put (D := (dC, dI)) (ci := 1) (v := .int (nI (0))) (ty := .int) (C := RX1) (T := TX1) (N := 3) hx hb hts hin1 tyX1 tyX1_ok nmX1 hown hK hP hD hS 0 rfl rfl 0 (by decide) (hts (.fieldLink RX1 13 "PieceBoxesModel" "thrown" "I") (by decide +kernel)) (fun _ h9 => h9) rfl (by decide +kernel) rfl rfl (Nat.le_of_ble_eq_true rfl) dX1_next_2 (fun H locs hP hD hS => ?_)
  have hP : va_P (dC, dI) vwCl [(g0, .inr (1, [.int (nI (0)), .int (nI (n)), .ref g1])), (g1, .inl (r1, 4617, .inl (M)))] H := hP
  have hD : va_D A [(g0, .inr (1, [.int (nI (0)), .int (nI (n)), .ref g1])), (g1, .inl (r1, 4617, .inl (M)))] := hD
  have loop : ∀ (d j : Nat), j < 2 ^ 31 → n - j = d → pb_next (pr0 M) (pr1 M) (pb_mid xi) (pb_mid yi) n fr = pb_nx (pr0 M) (pr1 M) (pb_mid xi) (pb_mid yi) d j → ∀ ls : Array Slot, lv_has ls 5 [(4, .int (nI (j))), (0, .ref g0), (1, .int (xi)), (2, .int (yi))] → W p l e (headSpec wsX1_next ({ frames := 3, cells := 0, slots := 0, locals := 85 })).room s m ([.ref g0, .int (xi), .int (yi), .int (fr)] : List Value).toArray below meth c H locs 0 0 (MQ below (va_Qi (fun (r0 : Int32) (_ : Unit) => r0 = pb_next (pr0 M) (pr1 M) (pb_mid xi) (pb_mid yi) n fr) (fun (_ : Unit) (t : State) => va_P (dC, dI) vwCl (wR g0 g1 r1 M n) t.heap ∧ va_D A (wR g0 g1 r1 M n)) A) ([.ref g0, .int (xi), .int (yi), .int (fr)] : List Value).toArray s 0 0 A) (F0 m 16 ls []) := by
    intro d
    induction d with
    | zero =>
      intro j hj hd hv ls hl
      refine lv_iload hx hb dX1_next_16 (lv_at hl 0 rfl) ?_
      refine lv_aload_n hx hb dX1_next_18 rfl (lv_at hl 1 rfl) ?_
      refine va_get (D := (dC, dI)) (ci := 1) (v := .int (nI (n))) (C := RX1) (T := TX1) (N := 3) hx hb hts hin1 hown hK hP 0 rfl rfl 1 (by decide) (hts (.fieldLink RX1 22 "PieceBoxesModel" "many" "I") (by decide +kernel)) (fun _ h9 => h9) rfl dX1_next_19 ?_
      refine lv_icmp_ge (tgt := 46) hx hb dX1_next_22 (by decide) (fun q1 => ?_) (fun q1 => ?_)
      · -- the end
        refine lv_iconst (v := (-1)) hx hb dX1_next_46 (by decide +kernel) ?_
        exact W.iret (v := (-1)) hx hb hr (fun t ht hW => ⟨⟨(-1), (), rfl, by rw [hv]; rfl, by rw [ht]; exact hP, by exact hD⟩, hS.F ht⟩) hS.2.2 dX1_next_47
      · exact absurd (nI_le (by omega) hj) q1
    | succ d ih =>
      intro j hj hd hv ls hl
      refine lv_iload hx hb dX1_next_16 (lv_at hl 0 rfl) ?_
      refine lv_aload_n hx hb dX1_next_18 rfl (lv_at hl 1 rfl) ?_
      refine va_get (D := (dC, dI)) (ci := 1) (v := .int (nI (n))) (C := RX1) (T := TX1) (N := 3) hx hb hts hin1 hown hK hP 0 rfl rfl 1 (by decide) (hts (.fieldLink RX1 22 "PieceBoxesModel" "many" "I") (by decide +kernel)) (fun _ h9 => h9) rfl dX1_next_19 ?_
      refine lv_icmp_ge (tgt := 46) hx hb dX1_next_22 (by decide) (fun q1 => ?_) (fun q1 => ?_)
      · exact absurd q1 (nI_ge (by omega) (by omega))
      · -- piece j
        refine lv_aload_n hx hb dX1_next_25 rfl (lv_at hl 1 rfl) ?_
        refine lv_iload hx hb dX1_next_26 (lv_at hl 0 rfl) ?_
        refine lv_iload_n hx hb dX1_next_28 rfl (lv_at hl 2 rfl) ?_
        refine lv_iload_n hx hb dX1_next_29 rfl (lv_at hl 3 rfl) ?_
        refine pb_call (W.runV (As := [.int (nI (j)), .int (xi), .int (yi)]) (rest := []) ⟨hx, hb, hml, hown, hts⟩ (cR_nearAt l dC dI g0 g1 r1 M n j (by omega) xi yi (hI j (by omega))) (cwV 3 hts gX1_next_X1_nearAt rfl rfl rfl (by decide +kernel) ⟨Nat.le_of_ble_eq_true rfl, Nat.le_of_ble_eq_true rfl⟩) (preR_V hP hK _) rfl rfl hl.1 rfl (lv_room (Nat.le_of_ble_eq_true rfl)) dX1_next_30 ⟨Nat.zero_le _, Nat.zero_le _⟩) ?_
        refine lv_iconst (v := (-1)) hx hb dX1_next_33 (by decide +kernel) ?_
        refine lv_icmp_eq (tgt := 40) hx hb dX1_next_34 (by decide) (fun q2 => ?_) (fun q2 => ?_)
        · -- not covered
          refine lv_iinc (v := (nI (j + 1))) (lv' := [(4, .int (nI (j + 1))), (0, .ref g0), (1, .int (xi)), (2, .int (yi))]) hx hb dX1_next_40 hl (k := 0) rfl (by exact (nI_1 (j))) (by decide) rfl (fun ls hl => ?_)
          refine lv_goto (tgt := 16) hx hb dX1_next_43 (by decide) ?_
          exact ih (j + 1) (by omega) (by omega) (by rw [hv]; exact if_neg (pb_nv_nc (hI j (by omega)) q2)) ls (lv_sub hl [0, 1, 2, 3] rfl)
        · -- covered
          refine lv_iload hx hb dX1_next_37 (lv_at hl 0 rfl) ?_
          exact W.iret (v := (nI (j))) hx hb hr (fun t ht hW => ⟨⟨(nI (j)), (), rfl, by rw [hv, show pb_nx (pr0 M) (pr1 M) (pb_mid xi) (pb_mid yi) (d + 1) j = _ from if_pos (pb_nv_c (hI j (by omega)) q2)], by rw [ht]; exact hP, by exact hD⟩, hS.F ht⟩) hS.2.2 dX1_next_39
  obtain ⟨i0, hi0, ei0⟩ := pb_max fr
  refine lv_iload_n hx hb dX1_next_5 rfl (lv_at hl 3 rfl) ?_
  refine lv_if_ge (tgt := 13) hx hb dX1_next_6 (by decide) (fun q1 => ?_) (fun q1 => ?_)
  · -- from 0 on
    have ei1 : fr = nI i0 := by rw [← ei0, if_neg (Int32.not_lt.mpr q1)]
    refine lv_iload_n hx hb dX1_next_13 rfl (lv_at hl 3 rfl) ?_
    refine pb_eqi ei1 ?_
    refine lv_istore (lv' := [(4, .int (nI (i0))), (0, .ref g0), (1, .int (xi)), (2, .int (yi)), (3, .int (fr))]) hx hb dX1_next_14 hl (by decide) rfl (fun ls hl => ?_)
    exact loop _ i0 hi0 rfl (pb_next_of ei0 hi0) ls (lv_sub hl [0, 1, 2, 3] rfl)
  · -- below 0
    have ei1 : (0 : Int32) = nI i0 := by rw [← ei0, if_pos (Int32.not_le.mp q1)]
    refine lv_iconst (v := 0) hx hb dX1_next_9 (by decide +kernel) ?_
    refine lv_goto (tgt := 14) hx hb dX1_next_10 (by decide) ?_
    refine pb_eqi ei1 ?_
    refine lv_istore (lv' := [(4, .int (nI (i0))), (0, .ref g0), (1, .int (xi)), (2, .int (yi)), (3, .int (fr))]) hx hb dX1_next_14 hl (by decide) rfl (fun ls hl => ?_)
    exact loop _ i0 hi0 rfl (pb_next_of ei0 hi0) ls (lv_sub hl [0, 1, 2, 3] rfl)
set_option maxHeartbeats 4000000 in
set_option maxRecDepth 100000 in
theorem cR_add (l : Launch) (dC : Nat → ClassId) (dI : Nat → Nat → Nat) (g0 g1 : Nat) (r1 : ClassId) (M : Nat → Int32) (n : Nat) (sz : Nat) (hn : n ≤ 512) : Met l yX1_add wsX1_add ({ frames := 2, cells := 0, slots := 0, locals := 47 }) (va_Pc [.ref g0] (fun U => U.heap.size = sz ∧ va_P (dC, dI) vwCl (wR g0 g1 r1 M n) U.heap ∧ va_K (dC, dI) vwCl (tR r1) U ∧ va_D (fun _ => True) (wR g0 g1 r1 M n))) (va_Qi (fun (r0 : Int32) (_ : Unit) => r0 = pb_if (pb_add (pr0 M) (pr1 M) n) (nI n) (-1)) (fun (_ : Unit) (t : State) => va_P (dC, dI) vwCl (wR g0 g1 r1 (pb_if (pb_add (pr0 M) (pr1 M) n) (pb_cq M n 9) M) (pb_if (pb_add (pr0 M) (pr1 M) n) (n + 1) n)) t.heap ∧ va_D (va_A (wR g0 g1 r1 M n) sz) (wR g0 g1 r1 (pb_if (pb_add (pr0 M) (pr1 M) n) (pb_cq M n 9) M) (pb_if (pb_add (pr0 M) (pr1 M) n) (n + 1) n))) (va_A (wR g0 g1 r1 M n) sz)) 0 0 (va_A (wR g0 g1 r1 M n) sz) := by
  refine Met.ofW (cc := cX1_add) (maxL := 2) (ret := some .int) (by decide) rfl ?_
  intro p e s m args below meth c s₁ B hml hv
  obtain ⟨rfl, hsz, hP, hK, hD0⟩ := hv
  have hx := B.exec
  have hb := B.bytes
  have hr := B.returns
  have hts := atoms_spec (ws := wsX1_add) B.pre
  have hown : s.vm.findClass RX1 = some m.cls := findClass_of_methodNamed B.named
  have hlocks := B.notSynchronized
  have hin1 : ∀ w ∈ u_ws RX1 TX1 3, w ∈ wsX1_add := by decide +kernel
  subst hsz
  have hD := hD0.self (sz := s.heap.size)
  generalize hAe : va_A (wR g0 g1 r1 M n) s.heap.size = A at hD ⊢
  have hA : ∀ q : Nat, s.heap.size ≤ q → A q := fun q h => by rw [← hAe]; exact Or.inr h
  have hS : va_S A s.heap s.heap [] := va_S.rf
  have hl := lv_entry ([.ref g0]) (n := 2) (Nat.le_of_ble_eq_true rfl)
  rw [lg_entry_eq]
  generalize (lg_sl ([.ref g0]) ++ List.replicate (2 - (lg_sl ([.ref g0])).length) Slot.unset).toArray = ls at hl ⊢
  have hl : lv_has ls 2 [(0, .ref g0)] := hl
  refine lv_aload_n hx hb dX1_add_0 rfl (lv_at hl 0 rfl) ?_
  refine lv_iconst (v := nI 0) hx hb dX1_add_1 (by decide +kernel) ?_
  refine va_put (D := (dC, dI)) (ci := 1) (v := .int (nI (0))) (ty := .int) (C := RX1) (T := TX1) (N := 3) hx hb hts hin1 tyX1 tyX1_ok nmX1 hown hK hP hD hS 0 rfl rfl 0 (by decide) (hts (.fieldLink RX1 13 "PieceBoxesModel" "thrown" "I") (by decide +kernel)) (fun _ h9 => h9) rfl (by decide +kernel) rfl rfl (Nat.le_of_ble_eq_true rfl) dX1_add_2 (fun H locs hP hD hS => ?_)
  have hP : va_P (dC, dI) vwCl [(g0, .inr (1, [.int (nI (0)), .int (nI (n)), .ref g1])), (g1, .inl (r1, 4617, .inl (M)))] H := hP
  have hD : va_D A [(g0, .inr (1, [.int (nI (0)), .int (nI (n)), .ref g1])), (g1, .inl (r1, 4617, .inl (M)))] := hD
  refine lv_aload_n hx hb dX1_add_5 rfl (lv_at hl 0 rfl) ?_
  refine va_get (D := (dC, dI)) (ci := 1) (v := .int (nI (n))) (C := RX1) (T := TX1) (N := 3) hx hb hts hin1 hown hK hP 0 rfl rfl 1 (by decide) (hts (.fieldLink RX1 22 "PieceBoxesModel" "many" "I") (by decide +kernel)) (fun _ h9 => h9) rfl dX1_add_6 ?_
  refine lv_sipush (v := nI 512) hx hb dX1_add_9 (by decide +kernel) ?_
  refine lv_icmp_eq (tgt := 27) hx hb dX1_add_12 (by decide) (fun q1 => ?_) (fun q1 => ?_)
  · -- full
    have q1 : n = 512 := (nI_eq (by omega) (by decide)).mp q1
    have hok : (pb_add (pr0 M) (pr1 M) n) = false := by simp [pb_add, q1]
    refine lv_iconst (v := (-1)) hx hb dX1_add_27 (by decide +kernel) ?_
    exact W.iret (v := (-1)) hx hb hr (fun t ht hW => ⟨⟨(-1), (), rfl, by rw [hok]; rfl, by rw [hok]; rw [ht]; exact hP, by rw [hok]; exact hD⟩, hS.F ht⟩) hS.2.2 dX1_add_28
  · -- room is left
    have q1 : n < 512 := by rcases Nat.lt_or_ge n 512 with h | h; exact h; exact absurd (congrArg nI (show n = 512 by omega)) q1
    refine lv_aload_n hx hb dX1_add_15 rfl (lv_at hl 0 rfl) ?_
    refine lv_sipush (v := nI 4608) hx hb dX1_add_16 (by decide +kernel) ?_
    refine pb_eqi (congrArg nI (show 4608 = 3 * (512 * 3) by omega)) ?_
    refine pb_call (W.runV (As := [.int (nI (3 * (512 * 3)))]) (rest := []) ⟨hx, hb, hml, hown, hts⟩ (cR_areaAt l dC dI g0 g1 r1 M n 512 (by decide)) (cwV 1 hts gX1_add_X1_areaAt rfl rfl rfl (by decide +kernel) ⟨Nat.le_of_ble_eq_true rfl, Nat.le_of_ble_eq_true rfl⟩) (preR_V hP hK _) rfl rfl hl.1 rfl (lv_room (Nat.le_of_ble_eq_true rfl)) dX1_add_19 ⟨Nat.zero_le _, Nat.zero_le _⟩) ?_
    refine lv_lconst (v := 0) hx hb dX1_add_22 (by decide +kernel) ?_
    refine W.lcmp hx hb dX1_add_23 ?_
    refine lv_if_gt (tgt := 29) hx hb dX1_add_24 (by decide) (fun q2 => ?_) (fun q2 => ?_)
    · -- an area
      have q2 := (lg_cmp_gt _ _).mp q2
      have hok : (pb_add (pr0 M) (pr1 M) n) = true := by simp [pb_add, q1, q2]
      refine lv_iconst (v := nI 0) hx hb dX1_add_29 (by decide +kernel) ?_
      refine lv_istore_n (lv' := [(1, .int (nI (0))), (0, .ref g0)]) hx hb dX1_add_30 rfl hl (by decide) rfl (fun ls hl => ?_)
      suffices loop : ∀ (d k : Nat), k + d = 9 → ∀ (H : Heap) (locs : List Loc), va_P (dC, dI) vwCl [(g0, .inr (1, [.int (nI (0)), .int (nI (n)), .ref g1])), (g1, .inl (r1, 4617, .inl (pb_cq M n k)))] H → va_D A [(g0, .inr (1, [.int (nI (0)), .int (nI (n)), .ref g1])), (g1, .inl (r1, 4617, .inl (pb_cq M n k)))] → va_S A s.heap H locs → ∀ ls : Array Slot, lv_has ls 2 [(1, .int (nI (k))), (0, .ref g0)] → W p l e (headSpec wsX1_add ({ frames := 2, cells := 0, slots := 0, locals := 47 })).room s m ([.ref g0] : List Value).toArray below meth c H locs 0 0 (MQ below (va_Qi (fun (r0 : Int32) (_ : Unit) => r0 = pb_if (pb_add (pr0 M) (pr1 M) n) (nI n) (-1)) (fun (_ : Unit) (t : State) => va_P (dC, dI) vwCl (wR g0 g1 r1 (pb_if (pb_add (pr0 M) (pr1 M) n) (pb_cq M n 9) M) (pb_if (pb_add (pr0 M) (pr1 M) n) (n + 1) n)) t.heap ∧ va_D A (wR g0 g1 r1 (pb_if (pb_add (pr0 M) (pr1 M) n) (pb_cq M n 9) M) (pb_if (pb_add (pr0 M) (pr1 M) n) (n + 1) n))) A) ([.ref g0] : List Value).toArray s 0 0 A) (F0 m 31 ls []) by
        exact loop 9 0 rfl H locs hP hD hS ls (lv_sub hl [0, 1] rfl)
      clear hl ls hP hD hS
      intro d
      induction d with
      | zero =>
        intro k hk H locs hP hD hS ls hl
        have hk9 : k = 9 := by omega
        refine lv_iload_n hx hb dX1_add_31 rfl (lv_at hl 0 rfl) ?_
        refine lv_bipush (v := nI 9) hx hb dX1_add_32 (by decide +kernel) ?_
        refine lv_icmp_ge (tgt := 67) hx hb dX1_add_34 (by decide) (fun q3 => ?_) (fun q3 => ?_)
        · -- all nine
          refine lv_aload_n hx hb dX1_add_67 rfl (lv_at hl 1 rfl) ?_
          refine lv_dup hx hb dX1_add_68 rfl ?_
          refine va_get (D := (dC, dI)) (ci := 1) (v := .int (nI (n))) (C := RX1) (T := TX1) (N := 3) hx hb hts hin1 hown hK hP 0 rfl rfl 1 (by decide) (hts (.fieldLink RX1 22 "PieceBoxesModel" "many" "I") (by decide +kernel)) (fun _ h9 => h9) rfl dX1_add_69 ?_
          refine lv_iconst (v := nI 1) hx hb dX1_add_72 (by decide +kernel) ?_
          refine lv_iadd hx hb dX1_add_73 ?_
          refine pb_eqi (nI_add _ _) ?_
          refine va_put (D := (dC, dI)) (ci := 1) (v := .int (nI (n + 1))) (ty := .int) (C := RX1) (T := TX1) (N := 3) hx hb hts hin1 tyX1 tyX1_ok nmX1 hown hK hP hD hS 0 rfl rfl 1 (by decide) (hts (.fieldLink RX1 22 "PieceBoxesModel" "many" "I") (by decide +kernel)) (fun _ h9 => h9) rfl (by decide +kernel) rfl rfl (Nat.le_of_ble_eq_true rfl) dX1_add_74 (fun H locs hP hD hS => ?_)
          have hP : va_P (dC, dI) vwCl [(g0, .inr (1, [.int (nI (0)), .int (nI (n + 1)), .ref g1])), (g1, .inl (r1, 4617, .inl (pb_cq M n k)))] H := hP
          have hD : va_D A [(g0, .inr (1, [.int (nI (0)), .int (nI (n + 1)), .ref g1])), (g1, .inl (r1, 4617, .inl (pb_cq M n k)))] := hD
          refine lv_aload_n hx hb dX1_add_77 rfl (lv_at hl 1 rfl) ?_
          refine va_get (D := (dC, dI)) (ci := 1) (v := .int (nI (n + 1))) (C := RX1) (T := TX1) (N := 3) hx hb hts hin1 hown hK hP 0 rfl rfl 1 (by decide) (hts (.fieldLink RX1 22 "PieceBoxesModel" "many" "I") (by decide +kernel)) (fun _ h9 => h9) rfl dX1_add_78 ?_
          refine lv_iconst (v := 1) hx hb dX1_add_81 (by decide +kernel) ?_
          refine lv_isub hx hb dX1_add_82 ?_
          refine pb_eqi (nI_pred _) ?_
          exact W.iret (v := (nI (n))) hx hb hr (fun t ht hW => ⟨⟨(nI (n)), (), rfl, by rw [hok]; rfl, by rw [hok, ← hk9]; rw [ht]; exact hP, by rw [hok, ← hk9]; exact hD⟩, hS.F ht⟩) hS.2.2 dX1_add_83
        · exact absurd (nI_le (by omega) (by omega)) q3
      | succ d ih =>
        intro k hk H locs hP hD hS ls hl
        refine lv_iload_n hx hb dX1_add_31 rfl (lv_at hl 0 rfl) ?_
        refine lv_bipush (v := nI 9) hx hb dX1_add_32 (by decide +kernel) ?_
        refine lv_icmp_ge (tgt := 67) hx hb dX1_add_34 (by decide) (fun q3 => ?_) (fun q3 => ?_)
        · exact absurd q3 (nI_ge (by omega) (by decide))
        · -- copy k
          refine lv_aload_n hx hb dX1_add_37 rfl (lv_at hl 1 rfl) ?_
          refine va_get (D := (dC, dI)) (ci := 1) (v := .ref g1) (C := RX1) (T := TX1) (N := 3) hx hb hts hin1 hown hK hP 0 rfl rfl 2 (by decide) (hts (.fieldLink RX1 7 "PieceBoxesModel" "corners" "[I") (by decide +kernel)) (fun _ h9 => h9) rfl dX1_add_38 ?_
          refine lv_bipush (v := nI 9) hx hb dX1_add_41 (by decide +kernel) ?_
          refine lv_aload_n hx hb dX1_add_43 rfl (lv_at hl 1 rfl) ?_
          refine va_get (D := (dC, dI)) (ci := 1) (v := .int (nI (n))) (C := RX1) (T := TX1) (N := 3) hx hb hts hin1 hown hK hP 0 rfl rfl 1 (by decide) (hts (.fieldLink RX1 22 "PieceBoxesModel" "many" "I") (by decide +kernel)) (fun _ h9 => h9) rfl dX1_add_44 ?_
          refine lv_imul hx hb dX1_add_47 ?_
          refine pb_eqi (pk_mul _ _) ?_
          refine lv_iload_n hx hb dX1_add_48 rfl (lv_at hl 0 rfl) ?_
          refine lv_iadd hx hb dX1_add_49 ?_
          refine pb_eqi (nI_add _ _) ?_
          refine lv_aload_n hx hb dX1_add_50 rfl (lv_at hl 1 rfl) ?_
          refine va_get (D := (dC, dI)) (ci := 1) (v := .ref g1) (C := RX1) (T := TX1) (N := 3) hx hb hts hin1 hown hK hP 0 rfl rfl 2 (by decide) (hts (.fieldLink RX1 7 "PieceBoxesModel" "corners" "[I") (by decide +kernel)) (fun _ h9 => h9) rfl dX1_add_51 ?_
          refine lv_sipush (v := nI 4608) hx hb dX1_add_54 (by decide +kernel) ?_
          refine lv_iload_n hx hb dX1_add_57 rfl (lv_at hl 0 rfl) ?_
          refine lv_iadd hx hb dX1_add_58 ?_
          refine pb_eqi (nI_add _ _) ?_
          refine pb_ald (j := 4608 + k) hx hb hK hP 1 0 rfl rfl (by omega) (by decide) dX1_add_59 ?_
          refine pb_ast (j := 9 * n + k) hx hb hK hP hD hS 1 0 rfl rfl (by omega) (by decide) dX1_add_60 (fun H locs hP hD hS => ?_)
          have hP : va_P (dC, dI) vwCl [(g0, .inr (1, [.int (nI (0)), .int (nI (n)), .ref g1])), (g1, .inl (r1, 4617, .inl (pb_cq M n (k + 1))))] H := hP
          have hD : va_D A [(g0, .inr (1, [.int (nI (0)), .int (nI (n)), .ref g1])), (g1, .inl (r1, 4617, .inl (pb_cq M n (k + 1))))] := hD
          refine lv_iinc (v := (nI (k + 1))) (lv' := [(1, .int (nI (k + 1))), (0, .ref g0)]) hx hb dX1_add_61 hl (k := 0) rfl (by exact (nI_1 (k))) (by decide) rfl (fun ls hl => ?_)
          refine lv_goto (tgt := 31) hx hb dX1_add_64 (by decide) ?_
          exact ih (k + 1) (by omega) H locs hP hD hS ls (lv_sub hl [0, 1] rfl)
    · -- no area
      have q2 : ¬ 0 < pb_ar (pr0 M) (pr1 M) 512 := fun h => q2 ((lg_cmp_gt _ _).mpr h)
      have hok : (pb_add (pr0 M) (pr1 M) n) = false := by simp [pb_add, q2]
      refine lv_iconst (v := (-1)) hx hb dX1_add_27 (by decide +kernel) ?_
      exact W.iret (v := (-1)) hx hb hr (fun t ht hW => ⟨⟨(-1), (), rfl, by rw [hok]; rfl, by rw [hok]; rw [ht]; exact hP, by rw [hok]; exact hD⟩, hS.F ht⟩) hS.2.2 dX1_add_28
end
section
set_option maxHeartbeats 4000000 in
set_option maxRecDepth 100000 in
theorem cR_init (l : Launch) (dC : Nat → ClassId) (dI : Nat → Nat → Nat) (g0 : Nat) (sz : Nat)  : Met l yX1_init wsX1_init ({ frames := 1, cells := 1, slots := 4617, locals := 12 }) (va_Pc [.ref g0] (fun U => U.heap.size = sz ∧ va_P (dC, dI) vwCl [(g0, .inr (1, [.int 0, .int 0, .null]))] U.heap ∧ va_K (dC, dI) vwCl [] U ∧ va_D (fun _ => True) [(g0, .inr (1, [.int 0, .int 0, .null]))])) (va_Qv (fun (_ : Unit) => True) (fun (_ : Unit) (t : State) => ∃ (g1 : Nat) (r1 : ClassId), va_P (dC, dI) vwCl (wR g0 g1 r1 pb_m0 0) t.heap ∧ va_K (dC, dI) vwCl (tR r1) t ∧ va_D (va_A [(g0, .inr (1, [.int 0, .int 0, .null]))] sz) (wR g0 g1 r1 pb_m0 0)) (va_A [(g0, .inr (1, [.int 0, .int 0, .null]))] sz)) 1 4617 (va_A [(g0, .inr (1, [.int 0, .int 0, .null]))] sz) := by
  refine Met.ofW (cc := cX1_init) (maxL := 2) (ret := none) (by decide) rfl ?_
  intro p e s m args below meth c s₁ B hml hv
  obtain ⟨rfl, hsz, hP, hK, hD0⟩ := hv
  have hx := B.exec
  have hb := B.bytes
  have hr := B.returns
  have hts := atoms_spec (ws := wsX1_init) B.pre
  have hown : s.vm.findClass RX1 = some m.cls := findClass_of_methodNamed B.named
  have hlocks := B.notSynchronized
  have hin : meth.name = "<init>" := (name_of_methodNamed B.named B.method).1
  have hin1 : ∀ w ∈ u_ws RX1 TX1 3, w ∈ wsX1_init := by decide +kernel
  subst hsz
  have hD := hD0.self (sz := s.heap.size)
  generalize hAe : va_A [(g0, .inr (1, [.int 0, .int 0, .null]))] s.heap.size = A at hD ⊢
  have hA : ∀ q : Nat, s.heap.size ≤ q → A q := fun q h => by rw [← hAe]; exact Or.inr h
  have hS : va_S A s.heap s.heap [] := va_S.rf
  have hl := lv_entry ([.ref g0]) (n := 2) (Nat.le_of_ble_eq_true rfl)
  rw [lg_entry_eq]
  generalize (lg_sl ([.ref g0]) ++ List.replicate (2 - (lg_sl ([.ref g0])).length) Slot.unset).toArray = ls at hl ⊢
  have hl : lv_has ls 2 [(0, .ref g0)] := hl
  refine lv_aload_n hx hb dX1_init_0 rfl (lv_at hl 0 rfl) ?_
  refine W.objInit hx hb hown (hts (.methodLink RX1 1 objectInit) (by decide +kernel)) (hts (.instanceMethod objectInit) (by decide +kernel)) (hts _ (List.mem_cons_of_mem _ (List.mem_append_left _ (List.mem_of_getElem? (i := 2) rfl)))) rfl (by rw [hml]; exact hl.1) rfl dX1_init_1 (Nat.le_of_ble_eq_true rfl) (Nat.le_of_ble_eq_true rfl) ?_
  refine W.eq (g2 := F0 m 4 ls []) rfl ?_
  refine lv_aload_n hx hb dX1_init_4 rfl (lv_at hl 0 rfl) ?_
  refine lv_sipush (v := nI 4617) hx hb dX1_init_5 (by decide +kernel) ?_
  refine va_newa (atype := .int) (ty := .int) (n := nI 4617) (N' := 4617) (a0 := (4617, .inl (fun _ => 0))) hx hb (hts (.arrayClass .int) (by decide +kernel)) rfl hK hP hD hS hA (pb_cell0 4617) (by decide +kernel) (by decide +kernel) (by decide +kernel) (show 1 ≤ 1 by decide) (show 4617 ≤ 4617 by decide) dX1_init_8 (fun g1 r1 H hK hP hD hS => ?_)
  have hP : va_P (dC, dI) vwCl [(g0, .inr (1, [.int (0), .int (0), .null])), (g1, .inl (r1, 4617, .inl ((fun _ => 0))))] H := hP
  have hD : va_D A [(g0, .inr (1, [.int (0), .int (0), .null])), (g1, .inl (r1, 4617, .inl ((fun _ => 0))))] := hD
  have hK : va_K (dC, dI) vwCl [(r1, .int)] s := hK
  refine W.widen (k := 1) (n := 4617) (by omega) (by omega) ?_
  refine va_putF (D := (dC, dI)) (ci := 1) (v := .ref g1) (ty := (.array .int)) (C := RX1) (T := TX1) (N := 3) hx hb hts hin1 tyX1 tyX1_ok nmX1 hown hK hP hD hS 0 rfl rfl 2 (by decide) (hts (.fieldLink RX1 7 "PieceBoxesModel" "corners" "[I") (by decide +kernel)) (fun _ h9 => h9) rfl hin rfl (by decide +kernel) rfl rfl (Nat.le_of_ble_eq_true rfl) dX1_init_10 (fun H locs hP hD hS => ?_)
  have hP : va_P (dC, dI) vwCl [(g0, .inr (1, [.int (0), .int (0), .ref g1])), (g1, .inl (r1, 4617, .inl ((fun _ => 0))))] H := hP
  have hD : va_D A [(g0, .inr (1, [.int (0), .int (0), .ref g1])), (g1, .inl (r1, 4617, .inl ((fun _ => 0))))] := hD
  refine lv_iconst (v := nI 0) hx hb dX1_init_13 (by decide +kernel) ?_
  refine lv_istore_n (lv' := [(1, .int (nI (0))), (0, .ref g0)]) hx hb dX1_init_14 rfl hl (by decide) rfl (fun ls hl => ?_)
  refine lv_iload_n hx hb dX1_init_15 rfl (lv_at hl 0 rfl) ?_
  refine lv_iconst (v := nI 3) hx hb dX1_init_16 (by decide +kernel) ?_
  refine lv_icmp_ge (tgt := 41) hx hb dX1_init_17 (by decide) (fun q1 => ?_) (fun q1 => ?_)
  · exact absurd q1 (nI_ge (by decide) (by decide))
  clear q1
  refine lv_aload_n hx hb dX1_init_20 rfl (lv_at hl 1 rfl) ?_
  refine va_get (D := (dC, dI)) (ci := 1) (v := .ref g1) (C := RX1) (T := TX1) (N := 3) hx hb hts hin1 hown hK hP 0 rfl rfl 2 (by decide) (hts (.fieldLink RX1 7 "PieceBoxesModel" "corners" "[I") (by decide +kernel)) (fun _ h9 => h9) rfl dX1_init_21 ?_
  refine lv_sipush (v := nI 4608) hx hb dX1_init_24 (by decide +kernel) ?_
  refine lv_iconst (v := nI 3) hx hb dX1_init_27 (by decide +kernel) ?_
  refine lv_iload_n hx hb dX1_init_28 rfl (lv_at hl 0 rfl) ?_
  refine lv_imul hx hb dX1_init_29 ?_
  refine pb_eqi (pk_mul _ _) ?_
  refine lv_iadd hx hb dX1_init_30 ?_
  refine pb_eqi (nI_add _ _) ?_
  refine lv_iconst (v := nI 2) hx hb dX1_init_31 (by decide +kernel) ?_
  refine lv_iadd hx hb dX1_init_32 ?_
  refine pb_eqi (nI_add _ _) ?_
  refine lv_iconst (v := 1) hx hb dX1_init_33 (by decide +kernel) ?_
  refine pb_ast (j := 4608 + (3 * 0) + 2) hx hb hK hP hD hS 1 0 rfl rfl (by omega) (by decide) dX1_init_34 (fun H locs hP hD hS => ?_)
  have hP : va_P (dC, dI) vwCl [(g0, .inr (1, [.int (0), .int (0), .ref g1])), (g1, .inl (r1, 4617, .inl (upd ((fun _ => 0)) (4608 + (3 * 0) + 2) (1))))] H := hP
  have hD : va_D A [(g0, .inr (1, [.int (0), .int (0), .ref g1])), (g1, .inl (r1, 4617, .inl (upd ((fun _ => 0)) (4608 + (3 * 0) + 2) (1))))] := hD
  refine lv_iinc (v := (nI (0 + 1))) (lv' := [(1, .int (nI (0 + 1))), (0, .ref g0)]) hx hb dX1_init_35 hl (k := 0) rfl (by exact (nI_1 (0))) (by decide) rfl (fun ls hl => ?_)
  refine lv_goto (tgt := 15) hx hb dX1_init_38 (by decide) ?_
  have hl : lv_has ls 2 [(1, .int (nI (1))), (0, .ref g0)] := hl
  refine lv_iload_n hx hb dX1_init_15 rfl (lv_at hl 0 rfl) ?_
  refine lv_iconst (v := nI 3) hx hb dX1_init_16 (by decide +kernel) ?_
  refine lv_icmp_ge (tgt := 41) hx hb dX1_init_17 (by decide) (fun q1 => ?_) (fun q1 => ?_)
  · exact absurd q1 (nI_ge (by decide) (by decide))
  clear q1
  refine lv_aload_n hx hb dX1_init_20 rfl (lv_at hl 1 rfl) ?_
  refine va_get (D := (dC, dI)) (ci := 1) (v := .ref g1) (C := RX1) (T := TX1) (N := 3) hx hb hts hin1 hown hK hP 0 rfl rfl 2 (by decide) (hts (.fieldLink RX1 7 "PieceBoxesModel" "corners" "[I") (by decide +kernel)) (fun _ h9 => h9) rfl dX1_init_21 ?_
  refine lv_sipush (v := nI 4608) hx hb dX1_init_24 (by decide +kernel) ?_
  refine lv_iconst (v := nI 3) hx hb dX1_init_27 (by decide +kernel) ?_
  refine lv_iload_n hx hb dX1_init_28 rfl (lv_at hl 0 rfl) ?_
  refine lv_imul hx hb dX1_init_29 ?_
  refine pb_eqi (pk_mul _ _) ?_
  refine lv_iadd hx hb dX1_init_30 ?_
  refine pb_eqi (nI_add _ _) ?_
  refine lv_iconst (v := nI 2) hx hb dX1_init_31 (by decide +kernel) ?_
  refine lv_iadd hx hb dX1_init_32 ?_
  refine pb_eqi (nI_add _ _) ?_
  refine lv_iconst (v := 1) hx hb dX1_init_33 (by decide +kernel) ?_
  refine pb_ast (j := 4608 + (3 * 1) + 2) hx hb hK hP hD hS 1 0 rfl rfl (by omega) (by decide) dX1_init_34 (fun H locs hP hD hS => ?_)
  have hP : va_P (dC, dI) vwCl [(g0, .inr (1, [.int (0), .int (0), .ref g1])), (g1, .inl (r1, 4617, .inl (upd (upd ((fun _ => 0)) (4608 + (3 * 0) + 2) (1)) (4608 + (3 * 1) + 2) (1))))] H := hP
  have hD : va_D A [(g0, .inr (1, [.int (0), .int (0), .ref g1])), (g1, .inl (r1, 4617, .inl (upd (upd ((fun _ => 0)) (4608 + (3 * 0) + 2) (1)) (4608 + (3 * 1) + 2) (1))))] := hD
  refine lv_iinc (v := (nI (1 + 1))) (lv' := [(1, .int (nI (1 + 1))), (0, .ref g0)]) hx hb dX1_init_35 hl (k := 0) rfl (by exact (nI_1 (1))) (by decide) rfl (fun ls hl => ?_)
  refine lv_goto (tgt := 15) hx hb dX1_init_38 (by decide) ?_
  have hl : lv_has ls 2 [(1, .int (nI (2))), (0, .ref g0)] := hl
  refine lv_iload_n hx hb dX1_init_15 rfl (lv_at hl 0 rfl) ?_
  refine lv_iconst (v := nI 3) hx hb dX1_init_16 (by decide +kernel) ?_
  refine lv_icmp_ge (tgt := 41) hx hb dX1_init_17 (by decide) (fun q1 => ?_) (fun q1 => ?_)
  · exact absurd q1 (nI_ge (by decide) (by decide))
  clear q1
  refine lv_aload_n hx hb dX1_init_20 rfl (lv_at hl 1 rfl) ?_
  refine va_get (D := (dC, dI)) (ci := 1) (v := .ref g1) (C := RX1) (T := TX1) (N := 3) hx hb hts hin1 hown hK hP 0 rfl rfl 2 (by decide) (hts (.fieldLink RX1 7 "PieceBoxesModel" "corners" "[I") (by decide +kernel)) (fun _ h9 => h9) rfl dX1_init_21 ?_
  refine lv_sipush (v := nI 4608) hx hb dX1_init_24 (by decide +kernel) ?_
  refine lv_iconst (v := nI 3) hx hb dX1_init_27 (by decide +kernel) ?_
  refine lv_iload_n hx hb dX1_init_28 rfl (lv_at hl 0 rfl) ?_
  refine lv_imul hx hb dX1_init_29 ?_
  refine pb_eqi (pk_mul _ _) ?_
  refine lv_iadd hx hb dX1_init_30 ?_
  refine pb_eqi (nI_add _ _) ?_
  refine lv_iconst (v := nI 2) hx hb dX1_init_31 (by decide +kernel) ?_
  refine lv_iadd hx hb dX1_init_32 ?_
  refine pb_eqi (nI_add _ _) ?_
  refine lv_iconst (v := 1) hx hb dX1_init_33 (by decide +kernel) ?_
  refine pb_ast (j := 4608 + (3 * 2) + 2) hx hb hK hP hD hS 1 0 rfl rfl (by omega) (by decide) dX1_init_34 (fun H locs hP hD hS => ?_)
  have hP : va_P (dC, dI) vwCl [(g0, .inr (1, [.int (0), .int (0), .ref g1])), (g1, .inl (r1, 4617, .inl (upd (upd (upd ((fun _ => 0)) (4608 + (3 * 0) + 2) (1)) (4608 + (3 * 1) + 2) (1)) (4608 + (3 * 2) + 2) (1))))] H := hP
  have hD : va_D A [(g0, .inr (1, [.int (0), .int (0), .ref g1])), (g1, .inl (r1, 4617, .inl (upd (upd (upd ((fun _ => 0)) (4608 + (3 * 0) + 2) (1)) (4608 + (3 * 1) + 2) (1)) (4608 + (3 * 2) + 2) (1))))] := hD
  refine lv_iinc (v := (nI (2 + 1))) (lv' := [(1, .int (nI (2 + 1))), (0, .ref g0)]) hx hb dX1_init_35 hl (k := 0) rfl (by exact (nI_1 (2))) (by decide) rfl (fun ls hl => ?_)
  refine lv_goto (tgt := 15) hx hb dX1_init_38 (by decide) ?_
  have hl : lv_has ls 2 [(1, .int (nI (3))), (0, .ref g0)] := hl
  refine lv_iload_n hx hb dX1_init_15 rfl (lv_at hl 0 rfl) ?_
  refine lv_iconst (v := nI 3) hx hb dX1_init_16 (by decide +kernel) ?_
  refine lv_icmp_ge (tgt := 41) hx hb dX1_init_17 (by decide) (fun q2 => ?_) (fun q2 => ?_)
  · -- the end
    exact W.vret hx hb hr (fun t ht hW => ⟨⟨(), rfl, trivial, g1, r1, by rw [ht]; exact hP, va_K.moved hW.alike hK, hD⟩, hS.F ht⟩) hS.2.2 dX1_init_41
  · exact absurd (nI_le (Nat.le_refl 3) (by decide)) q2
end
section
theorem pb_rel_mk0 (b : Bool) (M : Nat → Int32) (k : Nat) (x y r : Int32) : pr0 (pb_mk b M (4608 + 3 * k) x y r) = pb_up b (pr0 M) (1536 + k) x := by
  cases b with
  | false => rfl
  | true =>
    funext j
    show upd (upd (upd M (4608 + 3 * k) x) (4608 + 3 * k + 1) y) (4608 + 3 * k + 2) r (3 * j) = upd (pr0 M) (1536 + k) x j
    rw [pk_un (f := upd (upd M (4608 + 3 * k) x) (4608 + 3 * k + 1) y) (by omega), pk_un (f := upd M (4608 + 3 * k) x) (by omega)]
    by_cases h : j = 1536 + k
    · subst h
      rw [pk_us, show 3 * (1536 + k) = 4608 + 3 * k by omega, pk_us]
    · rw [pk_un h, pk_un (by omega)]
      rfl
theorem pb_rel_mk1 (b : Bool) (M : Nat → Int32) (k : Nat) (x y r : Int32) : pr1 (pb_mk b M (4608 + 3 * k) x y r) = pb_up b (pr1 M) (1536 + k) y := by
  cases b with
  | false => rfl
  | true =>
    funext j
    show upd (upd (upd M (4608 + 3 * k) x) (4608 + 3 * k + 1) y) (4608 + 3 * k + 2) r (3 * j + 1) = upd (pr1 M) (1536 + k) y j
    rw [pk_un (f := upd (upd M (4608 + 3 * k) x) (4608 + 3 * k + 1) y) (by omega)]
    by_cases h : j = 1536 + k
    · subst h
      rw [pk_us, show 3 * (1536 + k) + 1 = 4608 + 3 * k + 1 by omega, pk_us]
    · rw [pk_un h, pk_un (f := upd M (4608 + 3 * k) x) (by omega), pk_un (by omega)]
      rfl
theorem pb_rel_mk2 (b : Bool) (M : Nat → Int32) (k : Nat) (x y r : Int32) : pr2 (pb_mk b M (4608 + 3 * k) x y r) = pb_up b (pr2 M) (1536 + k) r := by
  cases b with
  | false => rfl
  | true =>
    funext j
    show upd (upd (upd M (4608 + 3 * k) x) (4608 + 3 * k + 1) y) (4608 + 3 * k + 2) r (3 * j + 2) = upd (pr2 M) (1536 + k) r j
    by_cases h : j = 1536 + k
    · subst h
      rw [show 3 * (1536 + k) + 2 = 4608 + 3 * k + 2 by omega, pk_us, pk_us]
    · rw [pk_un h, pk_un (f := upd (upd M (4608 + 3 * k) x) (4608 + 3 * k + 1) y) (by omega), pk_un (f := upd M (4608 + 3 * k) x) (by omega), pk_un (by omega)]
      rfl
theorem pb_cq_out {M : Nat → Int32} {n : Nat} : ∀ (k q : Nat), (q < 9 * n ∨ 9 * n + k ≤ q) → pb_cq M n k q = M q := by
  intro k
  induction k with
  | zero => intro q _; rfl
  | succ k ih =>
    intro q h
    show upd (pb_cq M n k) (9 * n + k) (pb_cq M n k (4608 + k)) q = M q
    rw [pk_un (by omega)]
    exact ih q (by omega)
theorem pb_cq_in {M : Nat → Int32} {n : Nat} (hn : n < 512) : ∀ (k : Nat), k ≤ 9 → ∀ q : Nat, 9 * n ≤ q → q < 9 * n + k → pb_cq M n k q = M (4608 + (q - 9 * n)) := by
  intro k
  induction k with
  | zero => intro _ q h1 h2; exact absurd h2 (by omega)
  | succ k ih =>
    intro hk q h1 h2
    show upd (pb_cq M n k) (9 * n + k) (pb_cq M n k (4608 + k)) q = M (4608 + (q - 9 * n))
    by_cases h : q = 9 * n + k
    · subst h
      rw [pk_us, pb_cq_out k (4608 + k) (by omega), show 9 * n + k - 9 * n = k by omega]
    · rw [pk_un h]
      exact ih (by omega) q h1 (by omega)
theorem pb_rel_cq0 {M : Nat → Int32} {n : Nat} (hn : n < 512) : pr0 (pb_cq M n 9) = pb_cp (pr0 M) n := by
  funext j
  show pb_cq M n 9 (3 * j) = _
  by_cases h : n * 3 ≤ j ∧ j < n * 3 + 3
  · obtain ⟨k, rfl⟩ : ∃ k, j = n * 3 + k := ⟨j - n * 3, by omega⟩
    rw [pb_cq_in hn 9 (by omega) _ (by omega) (by omega), pb_cp_at hn (by omega)]
    show M _ = M (3 * (1536 + k))
    congr 1
    omega
  · rw [pb_cq_out 9 _ (by omega), pb_cp_ne (by omega)]
    rfl
theorem pb_rel_cq1 {M : Nat → Int32} {n : Nat} (hn : n < 512) : pr1 (pb_cq M n 9) = pb_cp (pr1 M) n := by
  funext j
  show pb_cq M n 9 (3 * j + 1) = _
  by_cases h : n * 3 ≤ j ∧ j < n * 3 + 3
  · obtain ⟨k, rfl⟩ : ∃ k, j = n * 3 + k := ⟨j - n * 3, by omega⟩
    rw [pb_cq_in hn 9 (by omega) _ (by omega) (by omega), pb_cp_at hn (by omega)]
    show M _ = M (3 * (1536 + k) + 1)
    congr 1
    omega
  · rw [pb_cq_out 9 _ (by omega), pb_cp_ne (by omega)]
    rfl
theorem pb_rel_cq2 {M : Nat → Int32} {n : Nat} (hn : n < 512) : pr2 (pb_cq M n 9) = pb_cp (pr2 M) n := by
  funext j
  show pb_cq M n 9 (3 * j + 2) = _
  by_cases h : n * 3 ≤ j ∧ j < n * 3 + 3
  · obtain ⟨k, rfl⟩ : ∃ k, j = n * 3 + k := ⟨j - n * 3, by omega⟩
    rw [pb_cq_in hn 9 (by omega) _ (by omega) (by omega), pb_cp_at hn (by omega)]
    show M _ = M (3 * (1536 + k) + 2)
    congr 1
    omega
  · rw [pb_cq_out 9 _ (by omega), pb_cp_ne (by omega)]
    rfl
theorem pb_add_lt {X Y : Nat → Int32} {n : Nat} (h : pb_add X Y n = true) : n < 512 ∧ 0 < pb_ar X Y 512 := by
  simp only [pb_add, Bool.and_eq_true, decide_eq_true_eq] at h
  exact h
theorem pb_rel_add0 (M : Nat → Int32) (n : Nat) : pr0 (pb_if (pb_add (pr0 M) (pr1 M) n) (pb_cq M n 9) M) = pb_if (pb_add (pr0 M) (pr1 M) n) (pb_cp (pr0 M) n) (pr0 M) := by
  cases h : pb_add (pr0 M) (pr1 M) n with
  | false => rfl
  | true => exact pb_rel_cq0 (pb_add_lt h).1
theorem pb_rel_add1 (M : Nat → Int32) (n : Nat) : pr1 (pb_if (pb_add (pr0 M) (pr1 M) n) (pb_cq M n 9) M) = pb_if (pb_add (pr0 M) (pr1 M) n) (pb_cp (pr1 M) n) (pr1 M) := by
  cases h : pb_add (pr0 M) (pr1 M) n with
  | false => rfl
  | true => exact pb_rel_cq1 (pb_add_lt h).1
theorem pb_rel_add2 (M : Nat → Int32) (n : Nat) : pr2 (pb_if (pb_add (pr0 M) (pr1 M) n) (pb_cq M n 9) M) = pb_if (pb_add (pr0 M) (pr1 M) n) (pb_cp (pr2 M) n) (pr2 M) := by
  cases h : pb_add (pr0 M) (pr1 M) n with
  | false => rfl
  | true => exact pb_rel_cq2 (pb_add_lt h).1
theorem pb_rel_00 : pr0 pb_m0 = pb_z := by
  funext j
  show upd (upd (upd (fun _ => 0) (4608 + 3 * 0 + 2) 1) (4608 + 3 * 1 + 2) 1) (4608 + 3 * 2 + 2) 1 (3 * j) = 0
  rw [pk_un (by omega), pk_un (by omega), pk_un (by omega)]
theorem pb_rel_01 : pr1 pb_m0 = pb_z := by
  funext j
  show upd (upd (upd (fun _ => 0) (4608 + 3 * 0 + 2) 1) (4608 + 3 * 1 + 2) 1) (4608 + 3 * 2 + 2) 1 (3 * j + 1) = 0
  rw [pk_un (by omega), pk_un (by omega), pk_un (by omega)]
theorem pb_upd_if (f : Nat → Int32) (k : Nat) (x : Int32) (j : Nat) : upd f k x j = if j = k then x else f j := rfl
theorem pb_rel_02 : pr2 pb_m0 = pb_z1 := by
  funext j
  show upd (upd (upd (fun _ => 0) (4608 + 3 * 0 + 2) 1) (4608 + 3 * 1 + 2) 1) (4608 + 3 * 2 + 2) 1 (3 * j + 2) = upd (upd (upd pb_z (1536 + 0) 1) (1536 + 1) 1) (1536 + 2) 1 j
  by_cases h2 : j = 1536 + 2
  · subst h2; rfl
  · by_cases h1 : j = 1536 + 1
    · subst h1; rfl
    · by_cases h0 : j = 1536 + 0
      · subst h0; rfl
      · rw [pk_un h2, pk_un h1, pk_un h0, pk_un (by omega), pk_un (by omega), pk_un (by omega)]
        rfl
def pb_LI (M : Nat → Int32) (n : Nat) : Prop := n ≤ 512 ∧ (∀ j, j < 1539 → pb_in (pr0 M j) ∧ pb_in (pr1 M j) ∧ 0 ≤ (pr2 M j).toInt ∧ (pr2 M j).toInt ≤ 1048576) ∧ ∀ q, q < n → 0 < pb_ar (pr0 M) (pr1 M) q
theorem pb_LI_I1 {M : Nat → Int32} {n : Nat} (h : pb_LI M n) : ∀ q, q < n → pb_I1 M q := fun q hq =>
  have h1 := h.1
  ⟨fun k hk => ⟨(h.2.1 (q * 3 + k) (by omega)).1, (h.2.1 (q * 3 + k) (by omega)).2.1⟩, fun k hk => (h.2.1 (q * 3 + k) (by omega)).2.2, h.2.2 q hq⟩
theorem pb_z1_v (j : Nat) : pb_z1 j = 0 ∨ pb_z1 j = 1 := by
  show upd (upd (upd pb_z (1536 + 0) 1) (1536 + 1) 1) (1536 + 2) 1 j = 0 ∨ upd (upd (upd pb_z (1536 + 0) 1) (1536 + 1) 1) (1536 + 2) 1 j = 1
  rw [pb_upd_if, pb_upd_if, pb_upd_if]
  by_cases h2 : j = 1536 + 2
  · rw [if_pos h2]; exact Or.inr rfl
  · rw [if_neg h2]
    by_cases h1 : j = 1536 + 1
    · rw [if_pos h1]; exact Or.inr rfl
    · rw [if_neg h1]
      by_cases h0 : j = 1536 + 0
      · rw [if_pos h0]; exact Or.inr rfl
      · rw [if_neg h0]; exact Or.inl rfl
theorem pb_LI_0 : pb_LI pb_m0 0 := by
  refine ⟨by decide, fun j _ => ?_, fun q h => absurd h (Nat.not_lt_zero q)⟩
  rw [pb_rel_00, pb_rel_01, pb_rel_02, show pb_z j = 0 from rfl]
  refine ⟨⟨by decide, by decide⟩, ⟨by decide, by decide⟩, ?_⟩
  rcases pb_z1_v j with h | h <;> rw [h] <;> decide
theorem pb_ar_congr {X Y X' Y' : Nat → Int32} {a b : Nat} (hx : ∀ k, k < 3 → X (a * 3 + k) = X' (b * 3 + k)) (hy : ∀ k, k < 3 → Y (a * 3 + k) = Y' (b * 3 + k)) : pb_ar X Y a = pb_ar X' Y' b := by
  show pb_E X Y (a * 3 + 0) (a * 3 + 1) (X (a * 3 + 2)).toInt64 (Y (a * 3 + 2)).toInt64 = pb_E X' Y' (b * 3 + 0) (b * 3 + 1) (X' (b * 3 + 2)).toInt64 (Y' (b * 3 + 2)).toInt64
  unfold pb_E
  rw [hx 0 (by decide), hx 1 (by decide), hx 2 (by decide), hy 0 (by decide), hy 1 (by decide), hy 2 (by decide)]
theorem pb_upd_all {P : Int32 → Prop} {f : Nat → Int32} {i j : Nat} {v : Int32} (h1 : P v) (h2 : P (f j)) : P (upd f i v j) := by
  rw [pb_upd_if]
  split
  · exact h1
  · exact h2
theorem pb_grid_in {a : Int32} (h : pb_grid a = true) : pb_in a := by
  simp only [pb_grid, Bool.and_eq_true, decide_eq_true_eq, Int32.le_iff_toInt_le] at h
  exact h
theorem pb_LI_mk {M : Nat → Int32} {n : Nat} (ck cx cy cr : Int32) (h : pb_LI M n) : pb_LI (pb_mk (pb_ok ck cx cy cr) M (4608 + 3 * ck.toNatClampNeg) cx cy cr) n := by
  cases ho : pb_ok ck cx cy cr with
  | false => exact h
  | true =>
    simp only [pb_ok, Bool.and_eq_true, decide_eq_true_eq] at ho
    obtain ⟨-, ⟨gx, gy⟩, r1, r2⟩ := ho
    have e0 : pr0 (pb_mk true M (4608 + 3 * ck.toNatClampNeg) cx cy cr) = upd (pr0 M) (1536 + ck.toNatClampNeg) cx := pb_rel_mk0 true M _ cx cy cr
    have e1 : pr1 (pb_mk true M (4608 + 3 * ck.toNatClampNeg) cx cy cr) = upd (pr1 M) (1536 + ck.toNatClampNeg) cy := pb_rel_mk1 true M _ cx cy cr
    have e2 : pr2 (pb_mk true M (4608 + 3 * ck.toNatClampNeg) cx cy cr) = upd (pr2 M) (1536 + ck.toNatClampNeg) cr := pb_rel_mk2 true M _ cx cy cr
    have hn := h.1
    refine ⟨hn, fun j hj => ?_, fun q hq => ?_⟩
    · obtain ⟨a1, a2, a3⟩ := h.2.1 j hj
      rw [e0, e1, e2]
      rw [Int32.le_iff_toInt_le] at r1 r2
      have t1 : (1 : Int32).toInt = 1 := rfl
      have t2 : (1048576 : Int32).toInt = 1048576 := rfl
      rw [t1] at r1
      rw [t2] at r2
      exact ⟨pb_upd_all (P := pb_in) (pb_grid_in gx) a1, pb_upd_all (P := pb_in) (pb_grid_in gy) a2, pb_upd_all (P := fun v => 0 ≤ v.toInt ∧ v.toInt ≤ 1048576) ⟨by omega, r2⟩ a3⟩
    · rw [e0, e1, pb_ar_congr (X' := pr0 M) (Y' := pr1 M) (b := q) (fun k hk => pk_un (by omega)) (fun k hk => pk_un (by omega))]
      exact h.2.2 q hq
theorem pb_cp_all {P : Int32 → Prop} {f : Nat → Int32} {n j : Nat} (hn : n < 512) (hj : j < 1539) (h : ∀ i, i < 1539 → P (f i)) : P (pb_cp f n j) := by
  by_cases q : n * 3 ≤ j ∧ j < n * 3 + 3
  · obtain ⟨k, rfl⟩ : ∃ k, j = n * 3 + k := ⟨j - n * 3, by omega⟩
    rw [pb_cp_at hn (by omega)]
    exact h _ (by omega)
  · rw [pb_cp_ne (by omega)]
    exact h j hj
theorem pb_LI_add {M : Nat → Int32} {n : Nat} (h : pb_LI M n) : pb_LI (pb_if (pb_add (pr0 M) (pr1 M) n) (pb_cq M n 9) M) (pb_if (pb_add (pr0 M) (pr1 M) n) (n + 1) n) := by
  cases ho : pb_add (pr0 M) (pr1 M) n with
  | false => exact h
  | true =>
    obtain ⟨hn, ha⟩ := pb_add_lt ho
    show pb_LI (pb_cq M n 9) (n + 1)
    refine ⟨hn, fun j hj => ?_, fun q hq => ?_⟩
    · rw [pb_rel_cq0 hn, pb_rel_cq1 hn, pb_rel_cq2 hn]
      exact ⟨pb_cp_all (P := pb_in) hn hj (fun i hi => (h.2.1 i hi).1), pb_cp_all (P := pb_in) hn hj (fun i hi => (h.2.1 i hi).2.1), pb_cp_all (P := fun v => 0 ≤ v.toInt ∧ v.toInt ≤ 1048576) hn hj (fun i hi => (h.2.1 i hi).2.2)⟩
    · rw [pb_rel_cq0 hn, pb_rel_cq1 hn]
      by_cases e : q = n
      · subst e
        rw [pb_ar_congr (X' := pr0 M) (Y' := pr1 M) (b := 512) (fun k hk => pb_cp_at hn hk) (fun k hk => pb_cp_at hn hk)]
        exact ha
      · rw [pb_ar_congr (X' := pr0 M) (Y' := pr1 M) (b := q) (fun k hk => pb_cp_ne (by omega)) (fun k hk => pb_cp_ne (by omega))]
        exact h.2.2 q (by omega)
theorem pb_LI_clear {M : Nat → Int32} {n : Nat} (h : pb_LI M n) : pb_LI M 0 := ⟨Nat.zero_le _, h.2.1, fun q hq => absurd hq (Nat.not_lt_zero q)⟩
theorem pb_lim {i L : Nat} (hi : i ≤ 2565) (hL : L ≤ 2560) : nI L - 5 < nI i ↔ L < i + 5 := by
  rw [Int32.lt_iff_toInt_lt, Int32.toInt_sub, nI_toInt (by omega), nI_toInt (by omega), show (5 : Int32).toInt = 5 from rfl, pb_bm32 (by omega) (by omega)]
  omega
end
section
def R_law : String := "PieceBoxesLaw"
def lw_P (b : Addr) (xs : List Int32) (args : Array Value) (s : State) : Prop := args = #[.ref b] ∧ s.IntsAt b xs ∧ xs.length ≤ 2560 ∧ (Jvm.Cond.and given_1 narrow_1).before args s = true
def lw_Q (_ : Array Value) (s : State) (o : Outcome) (t : State) : Prop := o = .returned (some (.int 1)) ∧ Framed s o t [] 600000 7302250
def lw_Z (below : List Frame) (a : Array Value) (s : State) : State → Prop := fun t => ∃ o, t.status = .running ∧ Ended t below o ∧ lw_Q a s o t
theorem lw_ret {p : Program} {l : Launch} {e : Env} {s : State} {m : MethodId} {below : List Frame} {meth : Method} {c : Code} {b : Nat} (hx : p.tables.exec = Jvm.exec) (hb : c.code = code) (hr : meth.sig.returnType = ret) (hlocks : meth.locks = false) {pc : Nat} {H : Heap} {ls : Array Slot} (hdg : decode code pc = .ok (.ireturn, 1)) : W p l e room_1 s m #[Value.ref b] below meth c H [] 600000 7302250 (lw_Z below #[Value.ref b] s) (F0 m pc ls [.int 1]) := by
  intro T hT X
  obtain ⟨fs, hret, hrun, hended, hW, hframe⟩ := X.leave (v := some (.int 1)) (hlocks := hlocks) (fun h => by rw [hr] at h; cases h)
  have hmeth' : T.vm.method? m = some meth := X.method'
  refine ⟨T.setFrames fs, ?_, .returned (some (.int 1)), hrun, hended, rfl, ⟨_, rfl⟩, hW, hframe⟩
  jvm_step X.here [X.here.top, hx, hb, hdg, hmeth', hr, ret, narrow_b1]
  (try refine ⟨rfl, ?_⟩); (try refine ⟨rfl, ?_⟩)
  first | (intro acts; rw [hret _ acts rfl rfl rfl]) | rw [hret _ _ rfl rfl rfl]
  exact Steps.refl _
def lw_At (p : Program) (s : State) (m : MethodId) (meth : Method) (c : Code) (b L : Nat) (xs : Nat → Int32) : Prop :=
  p.tables.exec = Jvm.exec ∧ c.code = code ∧ meth.sig.returnType = ret ∧ c.maxLocals = 4 ∧ s.vm.findClass R_law = some m.cls ∧ (∀ w ∈ lw_tbl, w.before #[Value.ref b] s = true) ∧ va_X b L xs s s.heap ∧ b < s.heap.size ∧ meth.locks = false ∧ (Jvm.Cond.and given_1 narrow_1).before #[Value.ref b] s = true

abbrev wL (h0 h1 h2 h3 : Nat) (k1 k2 k3 : ClassId) (g0 g1 : Nat) (r1 : ClassId) (M : Nat → Int32) (n : Nat) : va_W := [(h0, .inr (0, [.ref h1, .ref h2, .ref h3, .int (nI n)])), (h1, .inl (k1, 1539, .inl (pr0 M))), (h2, .inl (k2, 1539, .inl (pr1 M))), (h3, .inl (k3, 1539, .inl (pr2 M))), (g0, .inr (1, [.int (nI 0), .int (nI n), .ref g1])), (g1, .inl (r1, 4617, .inl M))]
abbrev tL (k1 k2 k3 r1 : ClassId) : List (ClassId × FieldType) := [(k1, .int), (k2, .int), (k3, .int), (r1, .int)]
def pb_NX (p : Program) (l : Launch) (e : Env) (s : State) (m : MethodId) (below : List Frame) (meth : Method) (c : Code) (dC : Nat → ClassId) (dI : Nat → Nat → Nat) (b i : Nat) (h0 h1 h2 h3 : Nat) (k1 k2 k3 : ClassId) (g0 g1 : Nat) (r1 : ClassId) : Prop :=
  ∀ (M : Nat → Int32) (n : Nat), pb_LI M n → ∀ (H : Heap) (locs : List Loc), va_P (dC, dI) vwCl (wL h0 h1 h2 h3 k1 k2 k3 g0 g1 r1 M n) H → va_D (fun q : Nat => s.heap.size ≤ q) (wL h0 h1 h2 h3 k1 k2 k3 g0 g1 r1 M n) → va_S (fun q : Nat => s.heap.size ≤ q) s.heap H locs → ∀ ls : Array Slot, lv_has ls 4 [(3, .int (nI (i))), (0, .ref b), (1, .ref h0), (2, .ref g0)] → W p l e room_1 s m #[Value.ref b] below meth c H locs 6 9241 (lw_Z below #[Value.ref b] s) (F0 m 349 ls [])
end
section
set_option maxHeartbeats 4000000 in
set_option maxRecDepth 100000 in
theorem law_c0 {p : Program} {l : Launch} {e : Env} {s : State} {m : MethodId} {below : List Frame} {meth : Method} {c : Code} {dC : Nat → ClassId} {dI : Nat → Nat → Nat} {b L : Nat} {xs : Nat → Int32} (hL : L ≤ 2560) (C0 : lw_At p s m meth c b L xs) {h0 h1 h2 h3 : Nat} {k1 k2 k3 : ClassId} {g0 g1 : Nat} {r1 : ClassId} {i : Nat} (hi : i + 5 ≤ L) (nx : pb_NX p l e s m below meth c dC dI b i h0 h1 h2 h3 k1 k2 k3 g0 g1 r1) (hK : va_K (dC, dI) vwCl (tL k1 k2 k3 r1) s) {M : Nat → Int32} {n : Nat} (hI : pb_LI M n) {H : Heap} {locs : List Loc} (hP : va_P (dC, dI) vwCl (wL h0 h1 h2 h3 k1 k2 k3 g0 g1 r1 M n) H) (hD : va_D (fun q : Nat => s.heap.size ≤ q) (wL h0 h1 h2 h3 k1 k2 k3 g0 g1 r1 M n)) (hS : va_S (fun q : Nat => s.heap.size ≤ q) s.heap H locs) {ls : Array Slot} (hl : lv_has ls 4 [(3, .int (nI (i))), (0, .ref b), (1, .ref h0), (2, .ref g0)]) : W p l e room_1 s m #[Value.ref b] below meth c H locs 6 9241 (lw_Z below #[Value.ref b] s) (F0 m 84 ls []) := by
  obtain ⟨hx, hb, hr, hml, hown, hts, hX, hbl, hlocks, hgv⟩ := C0
  have hts := fun w h => hts w (wsL_law_in w h)
  have hA : ∀ q : Nat, s.heap.size ≤ q → (fun q : Nat => s.heap.size ≤ q) q := fun _ h => h
  have hbA : ¬ (fun q : Nat => s.heap.size ≤ q) b := Nat.not_le.mpr hbl
  have hn := hI.1
  refine lv_aload_n hx hb dL_law_84 rfl (lv_at hl 2 rfl) ?_
  refine lv_aload_n hx hb dL_law_85 rfl (lv_at hl 1 rfl) ?_
  refine lv_iload_n hx hb dL_law_86 rfl (lv_at hl 0 rfl) ?_
  refine lv_iconst (v := nI 1) hx hb dL_law_87 (by decide +kernel) ?_
  refine lv_iadd hx hb dL_law_88 ?_
  refine pb_eqi (nI_add _ _) ?_
  refine pb_sld (j := i + 1) hx hb hX hbl hbA hS (by omega) (by omega) dL_law_89 ?_
  refine lv_aload_n hx hb dL_law_90 rfl (lv_at hl 1 rfl) ?_
  refine lv_iload_n hx hb dL_law_91 rfl (lv_at hl 0 rfl) ?_
  refine lv_iconst (v := nI 2) hx hb dL_law_92 (by decide +kernel) ?_
  refine lv_iadd hx hb dL_law_93 ?_
  refine pb_eqi (nI_add _ _) ?_
  refine pb_sld (j := i + 2) hx hb hX hbl hbA hS (by omega) (by omega) dL_law_94 ?_
  refine lv_aload_n hx hb dL_law_95 rfl (lv_at hl 1 rfl) ?_
  refine lv_iload_n hx hb dL_law_96 rfl (lv_at hl 0 rfl) ?_
  refine lv_iconst (v := nI 3) hx hb dL_law_97 (by decide +kernel) ?_
  refine lv_iadd hx hb dL_law_98 ?_
  refine pb_eqi (nI_add _ _) ?_
  refine pb_sld (j := i + 3) hx hb hX hbl hbA hS (by omega) (by omega) dL_law_99 ?_
  refine lv_aload_n hx hb dL_law_100 rfl (lv_at hl 1 rfl) ?_
  refine lv_iload_n hx hb dL_law_101 rfl (lv_at hl 0 rfl) ?_
  refine lv_iconst (v := nI 4) hx hb dL_law_102 (by decide +kernel) ?_
  refine lv_iadd hx hb dL_law_103 ?_
  refine pb_eqi (nI_add _ _) ?_
  refine pb_sld (j := i + 4) hx hb hX hbl hbA hS (by omega) (by omega) dL_law_104 ?_
  have hPc := hP.sub (ws' := (wC h0 h1 h2 h3 k1 k2 k3 (pr0 M) (pr1 M) (pr2 M) (n))) [0, 1, 2, 3] rfl
  have hDc := hD.sub (ws' := (wC h0 h1 h2 h3 k1 k2 k3 (pr0 M) (pr1 M) (pr2 M) (n))) [0, 1, 2, 3] (by decide) rfl
  have hKc := hK.sub (tys' := tC k1 k2 k3) [0, 1, 2] rfl
  have hFc := va_free (wc := (wC h0 h1 h2 h3 k1 k2 k3 (pr0 M) (pr1 M) (pr2 M) (n))) hD hS hA [0, 1, 2, 3] rfl
  refine va_calli (va_runV (As := [.int (xs (i + 1)), .int (xs (i + 2)), .int (xs (i + 3)), .int (xs (i + 4))]) (rest := []) ⟨hx, hb, hml, hown, hts⟩ (cC_corner l dC dI h0 h1 h2 h3 k1 k2 k3 (pr0 M) (pr1 M) (pr2 M) (n) H.size (xs (i + 1)) (xs (i + 2)) (xs (i + 3)) (xs (i + 4))) (cwV 4 hts gL_law_X0_corner rfl rfl rfl (by decide +kernel) ⟨Nat.le_of_ble_eq_true rfl, Nat.le_of_ble_eq_true rfl⟩) ⟨fun a U g mk q => by obtain ⟨q0, q1, qP, qK, qD⟩ := q; exact ⟨q0, q1, qP, va_K.moved (u := U) (U := U.calling g mk a) (Vm.Alike.refl U.vm) qK, qD⟩, va_recv hKc hPc (ci := 0) (q0 := 0) rfl rfl, fun U hU hW => ⟨rfl, by rw [hU], by rw [hU]; exact hPc, va_K.moved hW.alike hKc, hDc.weaken (fun _ _ _ _ => trivial)⟩⟩ rfl rfl hl.1 rfl (lv_room (Nat.le_of_ble_eq_true rfl)) dL_law_105 ⟨(show 6 ≤ 600000 by decide), (show 9241 ≤ 7302250 by decide)⟩) hS (fun q _ h => hFc q h) hFc (fun rr u t H1 locs ht hvm hw hB hz1 hk1 hS => ?_)
  obtain ⟨hP1, hD1⟩ := hB
  rw [ht] at hP1
  obtain ⟨hP, hD⟩ := va_join (wr := (wR g0 g1 r1 (M) (n))) (w1 := (wC h0 h1 h2 h3 k1 k2 k3 (pb_up (pb_ok (xs (i + 1)) (xs (i + 2)) (xs (i + 3)) (xs (i + 4))) (pr0 M) (1536 + (xs (i + 1)).toNatClampNeg) (xs (i + 2))) (pb_up (pb_ok (xs (i + 1)) (xs (i + 2)) (xs (i + 3)) (xs (i + 4))) (pr1 M) (1536 + (xs (i + 1)).toNatClampNeg) (xs (i + 3))) (pb_up (pb_ok (xs (i + 1)) (xs (i + 2)) (xs (i + 3)) (xs (i + 4))) (pr2 M) (1536 + (xs (i + 1)).toNatClampNeg) (xs (i + 4))) (n))) hP hD [0, 1, 2, 3] [4, 5] rfl rfl (by decide) (by decide) hk1 hFc hP1 hD1
  have hP := hP.sub (ws' := [(h0, .inr (0, [.ref h1, .ref h2, .ref h3, .int (nI (n))])), (h1, .inl (k1, 1539, .inl (pb_up (pb_ok (xs (i + 1)) (xs (i + 2)) (xs (i + 3)) (xs (i + 4))) (pr0 M) (1536 + (xs (i + 1)).toNatClampNeg) (xs (i + 2))))), (h2, .inl (k2, 1539, .inl (pb_up (pb_ok (xs (i + 1)) (xs (i + 2)) (xs (i + 3)) (xs (i + 4))) (pr1 M) (1536 + (xs (i + 1)).toNatClampNeg) (xs (i + 3))))), (h3, .inl (k3, 1539, .inl (pb_up (pb_ok (xs (i + 1)) (xs (i + 2)) (xs (i + 3)) (xs (i + 4))) (pr2 M) (1536 + (xs (i + 1)).toNatClampNeg) (xs (i + 4))))), (g0, .inr (1, [.int (nI 0), .int (nI (n)), .ref g1])), (g1, .inl (r1, 4617, .inl (M)))]) [2, 3, 4, 5, 0, 1] rfl
  have hD := hD.sub (ws' := [(h0, .inr (0, [.ref h1, .ref h2, .ref h3, .int (nI (n))])), (h1, .inl (k1, 1539, .inl (pb_up (pb_ok (xs (i + 1)) (xs (i + 2)) (xs (i + 3)) (xs (i + 4))) (pr0 M) (1536 + (xs (i + 1)).toNatClampNeg) (xs (i + 2))))), (h2, .inl (k2, 1539, .inl (pb_up (pb_ok (xs (i + 1)) (xs (i + 2)) (xs (i + 3)) (xs (i + 4))) (pr1 M) (1536 + (xs (i + 1)).toNatClampNeg) (xs (i + 3))))), (h3, .inl (k3, 1539, .inl (pb_up (pb_ok (xs (i + 1)) (xs (i + 2)) (xs (i + 3)) (xs (i + 4))) (pr2 M) (1536 + (xs (i + 1)).toNatClampNeg) (xs (i + 4))))), (g0, .inr (1, [.int (nI 0), .int (nI (n)), .ref g1])), (g1, .inl (r1, 4617, .inl (M)))]) [2, 3, 4, 5, 0, 1] (by decide) rfl
  generalize H1 = H at hP hS ⊢
  try dsimp only at hw
  subst hw
  clear hPc hDc hKc hFc hP1 hD1 hk1 ht
  refine lv_aload_n hx hb dL_law_108 rfl (lv_at hl 3 rfl) ?_
  refine lv_aload_n hx hb dL_law_109 rfl (lv_at hl 1 rfl) ?_
  refine lv_iload_n hx hb dL_law_110 rfl (lv_at hl 0 rfl) ?_
  refine lv_iconst (v := nI 1) hx hb dL_law_111 (by decide +kernel) ?_
  refine lv_iadd hx hb dL_law_112 ?_
  refine pb_eqi (nI_add _ _) ?_
  refine pb_sld (j := i + 1) hx hb hX hbl hbA hS (by omega) (by omega) dL_law_113 ?_
  refine lv_aload_n hx hb dL_law_114 rfl (lv_at hl 1 rfl) ?_
  refine lv_iload_n hx hb dL_law_115 rfl (lv_at hl 0 rfl) ?_
  refine lv_iconst (v := nI 2) hx hb dL_law_116 (by decide +kernel) ?_
  refine lv_iadd hx hb dL_law_117 ?_
  refine pb_eqi (nI_add _ _) ?_
  refine pb_sld (j := i + 2) hx hb hX hbl hbA hS (by omega) (by omega) dL_law_118 ?_
  refine lv_aload_n hx hb dL_law_119 rfl (lv_at hl 1 rfl) ?_
  refine lv_iload_n hx hb dL_law_120 rfl (lv_at hl 0 rfl) ?_
  refine lv_iconst (v := nI 3) hx hb dL_law_121 (by decide +kernel) ?_
  refine lv_iadd hx hb dL_law_122 ?_
  refine pb_eqi (nI_add _ _) ?_
  refine pb_sld (j := i + 3) hx hb hX hbl hbA hS (by omega) (by omega) dL_law_123 ?_
  refine lv_aload_n hx hb dL_law_124 rfl (lv_at hl 1 rfl) ?_
  refine lv_iload_n hx hb dL_law_125 rfl (lv_at hl 0 rfl) ?_
  refine lv_iconst (v := nI 4) hx hb dL_law_126 (by decide +kernel) ?_
  refine lv_iadd hx hb dL_law_127 ?_
  refine pb_eqi (nI_add _ _) ?_
  refine pb_sld (j := i + 4) hx hb hX hbl hbA hS (by omega) (by omega) dL_law_128 ?_
  have hPc := hP.sub (ws' := (wR g0 g1 r1 (M) (n))) [4, 5] rfl
  have hDc := hD.sub (ws' := (wR g0 g1 r1 (M) (n))) [4, 5] (by decide) rfl
  have hKc := hK.sub (tys' := tR r1) [3] rfl
  have hFc := va_free (wc := (wR g0 g1 r1 (M) (n))) hD hS hA [4, 5] rfl
  refine va_calli (va_runV (As := [.int (xs (i + 1)), .int (xs (i + 2)), .int (xs (i + 3)), .int (xs (i + 4))]) (rest := [.int (pb_b (pb_ok (xs (i + 1)) (xs (i + 2)) (xs (i + 3)) (xs (i + 4))))]) ⟨hx, hb, hml, hown, hts⟩ (cR_corner l dC dI g0 g1 r1 (M) (n) H.size (xs (i + 1)) (xs (i + 2)) (xs (i + 3)) (xs (i + 4))) (cwV 4 hts gL_law_X1_corner rfl rfl rfl (by decide +kernel) ⟨Nat.le_of_ble_eq_true rfl, Nat.le_of_ble_eq_true rfl⟩) ⟨fun a U g mk q => by obtain ⟨q0, q1, qP, qK, qD⟩ := q; exact ⟨q0, q1, qP, va_K.moved (u := U) (U := U.calling g mk a) (Vm.Alike.refl U.vm) qK, qD⟩, va_recv hKc hPc (ci := 1) (q0 := 0) rfl rfl, fun U hU hW => ⟨rfl, by rw [hU], by rw [hU]; exact hPc, va_K.moved hW.alike hKc, hDc.weaken (fun _ _ _ _ => trivial)⟩⟩ rfl rfl hl.1 rfl (lv_room (Nat.le_of_ble_eq_true rfl)) dL_law_129 ⟨(show 6 ≤ 600000 by decide), (show 9241 ≤ 7302250 by decide)⟩) hS (fun q _ h => hFc q h) hFc (fun rr u t H1 locs ht hvm hw hB hz1 hk1 hS => ?_)
  obtain ⟨hP1, hD1⟩ := hB
  rw [ht] at hP1
  obtain ⟨hP, hD⟩ := va_join (wr := (wC h0 h1 h2 h3 k1 k2 k3 (pb_up (pb_ok (xs (i + 1)) (xs (i + 2)) (xs (i + 3)) (xs (i + 4))) (pr0 M) (1536 + (xs (i + 1)).toNatClampNeg) (xs (i + 2))) (pb_up (pb_ok (xs (i + 1)) (xs (i + 2)) (xs (i + 3)) (xs (i + 4))) (pr1 M) (1536 + (xs (i + 1)).toNatClampNeg) (xs (i + 3))) (pb_up (pb_ok (xs (i + 1)) (xs (i + 2)) (xs (i + 3)) (xs (i + 4))) (pr2 M) (1536 + (xs (i + 1)).toNatClampNeg) (xs (i + 4))) (n))) (w1 := (wR g0 g1 r1 (pb_mk (pb_ok (xs (i + 1)) (xs (i + 2)) (xs (i + 3)) (xs (i + 4))) M (4608 + 3 * (xs (i + 1)).toNatClampNeg) (xs (i + 2)) (xs (i + 3)) (xs (i + 4))) (n))) hP hD [4, 5] [0, 1, 2, 3] rfl rfl (by decide) (by decide) hk1 hFc hP1 hD1
  have hP := hP.sub (ws' := [(h0, .inr (0, [.ref h1, .ref h2, .ref h3, .int (nI (n))])), (h1, .inl (k1, 1539, .inl (pb_up (pb_ok (xs (i + 1)) (xs (i + 2)) (xs (i + 3)) (xs (i + 4))) (pr0 M) (1536 + (xs (i + 1)).toNatClampNeg) (xs (i + 2))))), (h2, .inl (k2, 1539, .inl (pb_up (pb_ok (xs (i + 1)) (xs (i + 2)) (xs (i + 3)) (xs (i + 4))) (pr1 M) (1536 + (xs (i + 1)).toNatClampNeg) (xs (i + 3))))), (h3, .inl (k3, 1539, .inl (pb_up (pb_ok (xs (i + 1)) (xs (i + 2)) (xs (i + 3)) (xs (i + 4))) (pr2 M) (1536 + (xs (i + 1)).toNatClampNeg) (xs (i + 4))))), (g0, .inr (1, [.int (nI 0), .int (nI (n)), .ref g1])), (g1, .inl (r1, 4617, .inl (pb_mk (pb_ok (xs (i + 1)) (xs (i + 2)) (xs (i + 3)) (xs (i + 4))) M (4608 + 3 * (xs (i + 1)).toNatClampNeg) (xs (i + 2)) (xs (i + 3)) (xs (i + 4)))))]) [0, 1, 2, 3, 4, 5] rfl
  have hD := hD.sub (ws' := [(h0, .inr (0, [.ref h1, .ref h2, .ref h3, .int (nI (n))])), (h1, .inl (k1, 1539, .inl (pb_up (pb_ok (xs (i + 1)) (xs (i + 2)) (xs (i + 3)) (xs (i + 4))) (pr0 M) (1536 + (xs (i + 1)).toNatClampNeg) (xs (i + 2))))), (h2, .inl (k2, 1539, .inl (pb_up (pb_ok (xs (i + 1)) (xs (i + 2)) (xs (i + 3)) (xs (i + 4))) (pr1 M) (1536 + (xs (i + 1)).toNatClampNeg) (xs (i + 3))))), (h3, .inl (k3, 1539, .inl (pb_up (pb_ok (xs (i + 1)) (xs (i + 2)) (xs (i + 3)) (xs (i + 4))) (pr2 M) (1536 + (xs (i + 1)).toNatClampNeg) (xs (i + 4))))), (g0, .inr (1, [.int (nI 0), .int (nI (n)), .ref g1])), (g1, .inl (r1, 4617, .inl (pb_mk (pb_ok (xs (i + 1)) (xs (i + 2)) (xs (i + 3)) (xs (i + 4))) M (4608 + 3 * (xs (i + 1)).toNatClampNeg) (xs (i + 2)) (xs (i + 3)) (xs (i + 4)))))]) [0, 1, 2, 3, 4, 5] (by decide) rfl
  generalize H1 = H at hP hS ⊢
  try dsimp only at hw
  subst hw
  clear hPc hDc hKc hFc hP1 hD1 hk1 ht
  rw [← pb_rel_mk0 (pb_ok (xs (i + 1)) (xs (i + 2)) (xs (i + 3)) (xs (i + 4))) M (xs (i + 1)).toNatClampNeg (xs (i + 2)) (xs (i + 3)) (xs (i + 4)), ← pb_rel_mk1 (pb_ok (xs (i + 1)) (xs (i + 2)) (xs (i + 3)) (xs (i + 4))) M (xs (i + 1)).toNatClampNeg (xs (i + 2)) (xs (i + 3)) (xs (i + 4)), ← pb_rel_mk2 (pb_ok (xs (i + 1)) (xs (i + 2)) (xs (i + 3)) (xs (i + 4))) M (xs (i + 1)).toNatClampNeg (xs (i + 2)) (xs (i + 3)) (xs (i + 4))] at hP hD
  refine lv_icmp_eq (tgt := 349) hx hb dL_law_132 (by decide) (fun q1 => ?_) (fun q1 => ?_)
  · -- the same
    exact nx _ n (pb_LI_mk (xs (i + 1)) (xs (i + 2)) (xs (i + 3)) (xs (i + 4)) hI) H _ hP hD hS ls hl
  · exact absurd rfl q1
set_option maxHeartbeats 4000000 in
set_option maxRecDepth 100000 in
theorem law_c1 {p : Program} {l : Launch} {e : Env} {s : State} {m : MethodId} {below : List Frame} {meth : Method} {c : Code} {dC : Nat → ClassId} {dI : Nat → Nat → Nat} {b L : Nat} {xs : Nat → Int32} (hL : L ≤ 2560) (C0 : lw_At p s m meth c b L xs) {h0 h1 h2 h3 : Nat} {k1 k2 k3 : ClassId} {g0 g1 : Nat} {r1 : ClassId} {i : Nat} (hi : i + 5 ≤ L) (nx : pb_NX p l e s m below meth c dC dI b i h0 h1 h2 h3 k1 k2 k3 g0 g1 r1) (hK : va_K (dC, dI) vwCl (tL k1 k2 k3 r1) s) {M : Nat → Int32} {n : Nat} (hI : pb_LI M n) {H : Heap} {locs : List Loc} (hP : va_P (dC, dI) vwCl (wL h0 h1 h2 h3 k1 k2 k3 g0 g1 r1 M n) H) (hD : va_D (fun q : Nat => s.heap.size ≤ q) (wL h0 h1 h2 h3 k1 k2 k3 g0 g1 r1 M n)) (hS : va_S (fun q : Nat => s.heap.size ≤ q) s.heap H locs) {ls : Array Slot} (hl : lv_has ls 4 [(3, .int (nI (i))), (0, .ref b), (1, .ref h0), (2, .ref g0)]) : W p l e room_1 s m #[Value.ref b] below meth c H locs 6 9241 (lw_Z below #[Value.ref b] s) (F0 m 137 ls []) := by
  obtain ⟨hx, hb, hr, hml, hown, hts, hX, hbl, hlocks, hgv⟩ := C0
  have hts := fun w h => hts w (wsL_law_in w h)
  have hA : ∀ q : Nat, s.heap.size ≤ q → (fun q : Nat => s.heap.size ≤ q) q := fun _ h => h
  have hbA : ¬ (fun q : Nat => s.heap.size ≤ q) b := Nat.not_le.mpr hbl
  have hn := hI.1
  refine lv_aload_n hx hb dL_law_137 rfl (lv_at hl 2 rfl) ?_
  have hPc := hP.sub (ws' := (wC h0 h1 h2 h3 k1 k2 k3 (pr0 M) (pr1 M) (pr2 M) (n))) [0, 1, 2, 3] rfl
  have hDc := hD.sub (ws' := (wC h0 h1 h2 h3 k1 k2 k3 (pr0 M) (pr1 M) (pr2 M) (n))) [0, 1, 2, 3] (by decide) rfl
  have hKc := hK.sub (tys' := tC k1 k2 k3) [0, 1, 2] rfl
  have hFc := va_free (wc := (wC h0 h1 h2 h3 k1 k2 k3 (pr0 M) (pr1 M) (pr2 M) (n))) hD hS hA [0, 1, 2, 3] rfl
  refine va_calli (va_runV (As := []) (rest := []) ⟨hx, hb, hml, hown, hts⟩ (cC_add l dC dI h0 h1 h2 h3 k1 k2 k3 (pr0 M) (pr1 M) (pr2 M) (n) H.size hn) (cwV 0 hts gL_law_X0_add rfl rfl rfl (by decide +kernel) ⟨Nat.le_of_ble_eq_true rfl, Nat.le_of_ble_eq_true rfl⟩) ⟨fun a U g mk q => by obtain ⟨q0, q1, qP, qK, qD⟩ := q; exact ⟨q0, q1, qP, va_K.moved (u := U) (U := U.calling g mk a) (Vm.Alike.refl U.vm) qK, qD⟩, va_recv hKc hPc (ci := 0) (q0 := 0) rfl rfl, fun U hU hW => ⟨rfl, by rw [hU], by rw [hU]; exact hPc, va_K.moved hW.alike hKc, hDc.weaken (fun _ _ _ _ => trivial)⟩⟩ rfl rfl hl.1 rfl (lv_room (Nat.le_of_ble_eq_true rfl)) dL_law_138 ⟨(show 6 ≤ 600000 by decide), (show 9241 ≤ 7302250 by decide)⟩) hS (fun q _ h => hFc q h) hFc (fun rr u t H1 locs ht hvm hw hB hz1 hk1 hS => ?_)
  obtain ⟨hP1, hD1⟩ := hB
  rw [ht] at hP1
  obtain ⟨hP, hD⟩ := va_join (wr := (wR g0 g1 r1 (M) (n))) (w1 := (wC h0 h1 h2 h3 k1 k2 k3 (pb_if (pb_add (pr0 M) (pr1 M) n) (pb_cp (pr0 M) n) (pr0 M)) (pb_if (pb_add (pr0 M) (pr1 M) n) (pb_cp (pr1 M) n) (pr1 M)) (pb_if (pb_add (pr0 M) (pr1 M) n) (pb_cp (pr2 M) n) (pr2 M)) (pb_if (pb_add (pr0 M) (pr1 M) n) (n + 1) n))) hP hD [0, 1, 2, 3] [4, 5] rfl rfl (by decide) (by decide) hk1 hFc hP1 hD1
  have hP := hP.sub (ws' := [(h0, .inr (0, [.ref h1, .ref h2, .ref h3, .int (nI (pb_if (pb_add (pr0 M) (pr1 M) n) (n + 1) n))])), (h1, .inl (k1, 1539, .inl (pb_if (pb_add (pr0 M) (pr1 M) n) (pb_cp (pr0 M) n) (pr0 M)))), (h2, .inl (k2, 1539, .inl (pb_if (pb_add (pr0 M) (pr1 M) n) (pb_cp (pr1 M) n) (pr1 M)))), (h3, .inl (k3, 1539, .inl (pb_if (pb_add (pr0 M) (pr1 M) n) (pb_cp (pr2 M) n) (pr2 M)))), (g0, .inr (1, [.int (nI 0), .int (nI (n)), .ref g1])), (g1, .inl (r1, 4617, .inl (M)))]) [2, 3, 4, 5, 0, 1] rfl
  have hD := hD.sub (ws' := [(h0, .inr (0, [.ref h1, .ref h2, .ref h3, .int (nI (pb_if (pb_add (pr0 M) (pr1 M) n) (n + 1) n))])), (h1, .inl (k1, 1539, .inl (pb_if (pb_add (pr0 M) (pr1 M) n) (pb_cp (pr0 M) n) (pr0 M)))), (h2, .inl (k2, 1539, .inl (pb_if (pb_add (pr0 M) (pr1 M) n) (pb_cp (pr1 M) n) (pr1 M)))), (h3, .inl (k3, 1539, .inl (pb_if (pb_add (pr0 M) (pr1 M) n) (pb_cp (pr2 M) n) (pr2 M)))), (g0, .inr (1, [.int (nI 0), .int (nI (n)), .ref g1])), (g1, .inl (r1, 4617, .inl (M)))]) [2, 3, 4, 5, 0, 1] (by decide) rfl
  generalize H1 = H at hP hS ⊢
  try dsimp only at hw
  subst hw
  clear hPc hDc hKc hFc hP1 hD1 hk1 ht
  refine lv_aload_n hx hb dL_law_141 rfl (lv_at hl 3 rfl) ?_
  have hPc := hP.sub (ws' := (wR g0 g1 r1 (M) (n))) [4, 5] rfl
  have hDc := hD.sub (ws' := (wR g0 g1 r1 (M) (n))) [4, 5] (by decide) rfl
  have hKc := hK.sub (tys' := tR r1) [3] rfl
  have hFc := va_free (wc := (wR g0 g1 r1 (M) (n))) hD hS hA [4, 5] rfl
  refine va_calli (va_runV (As := []) (rest := [.int (pb_if (pb_add (pr0 M) (pr1 M) n) (nI n) (-1))]) ⟨hx, hb, hml, hown, hts⟩ (cR_add l dC dI g0 g1 r1 (M) (n) H.size hn) (cwV 0 hts gL_law_X1_add rfl rfl rfl (by decide +kernel) ⟨Nat.le_of_ble_eq_true rfl, Nat.le_of_ble_eq_true rfl⟩) ⟨fun a U g mk q => by obtain ⟨q0, q1, qP, qK, qD⟩ := q; exact ⟨q0, q1, qP, va_K.moved (u := U) (U := U.calling g mk a) (Vm.Alike.refl U.vm) qK, qD⟩, va_recv hKc hPc (ci := 1) (q0 := 0) rfl rfl, fun U hU hW => ⟨rfl, by rw [hU], by rw [hU]; exact hPc, va_K.moved hW.alike hKc, hDc.weaken (fun _ _ _ _ => trivial)⟩⟩ rfl rfl hl.1 rfl (lv_room (Nat.le_of_ble_eq_true rfl)) dL_law_142 ⟨(show 6 ≤ 600000 by decide), (show 9241 ≤ 7302250 by decide)⟩) hS (fun q _ h => hFc q h) hFc (fun rr u t H1 locs ht hvm hw hB hz1 hk1 hS => ?_)
  obtain ⟨hP1, hD1⟩ := hB
  rw [ht] at hP1
  obtain ⟨hP, hD⟩ := va_join (wr := (wC h0 h1 h2 h3 k1 k2 k3 (pb_if (pb_add (pr0 M) (pr1 M) n) (pb_cp (pr0 M) n) (pr0 M)) (pb_if (pb_add (pr0 M) (pr1 M) n) (pb_cp (pr1 M) n) (pr1 M)) (pb_if (pb_add (pr0 M) (pr1 M) n) (pb_cp (pr2 M) n) (pr2 M)) (pb_if (pb_add (pr0 M) (pr1 M) n) (n + 1) n))) (w1 := (wR g0 g1 r1 (pb_if (pb_add (pr0 M) (pr1 M) n) (pb_cq M n 9) M) (pb_if (pb_add (pr0 M) (pr1 M) n) (n + 1) n))) hP hD [4, 5] [0, 1, 2, 3] rfl rfl (by decide) (by decide) hk1 hFc hP1 hD1
  have hP := hP.sub (ws' := [(h0, .inr (0, [.ref h1, .ref h2, .ref h3, .int (nI (pb_if (pb_add (pr0 M) (pr1 M) n) (n + 1) n))])), (h1, .inl (k1, 1539, .inl (pb_if (pb_add (pr0 M) (pr1 M) n) (pb_cp (pr0 M) n) (pr0 M)))), (h2, .inl (k2, 1539, .inl (pb_if (pb_add (pr0 M) (pr1 M) n) (pb_cp (pr1 M) n) (pr1 M)))), (h3, .inl (k3, 1539, .inl (pb_if (pb_add (pr0 M) (pr1 M) n) (pb_cp (pr2 M) n) (pr2 M)))), (g0, .inr (1, [.int (nI 0), .int (nI (pb_if (pb_add (pr0 M) (pr1 M) n) (n + 1) n)), .ref g1])), (g1, .inl (r1, 4617, .inl (pb_if (pb_add (pr0 M) (pr1 M) n) (pb_cq M n 9) M)))]) [0, 1, 2, 3, 4, 5] rfl
  have hD := hD.sub (ws' := [(h0, .inr (0, [.ref h1, .ref h2, .ref h3, .int (nI (pb_if (pb_add (pr0 M) (pr1 M) n) (n + 1) n))])), (h1, .inl (k1, 1539, .inl (pb_if (pb_add (pr0 M) (pr1 M) n) (pb_cp (pr0 M) n) (pr0 M)))), (h2, .inl (k2, 1539, .inl (pb_if (pb_add (pr0 M) (pr1 M) n) (pb_cp (pr1 M) n) (pr1 M)))), (h3, .inl (k3, 1539, .inl (pb_if (pb_add (pr0 M) (pr1 M) n) (pb_cp (pr2 M) n) (pr2 M)))), (g0, .inr (1, [.int (nI 0), .int (nI (pb_if (pb_add (pr0 M) (pr1 M) n) (n + 1) n)), .ref g1])), (g1, .inl (r1, 4617, .inl (pb_if (pb_add (pr0 M) (pr1 M) n) (pb_cq M n 9) M)))]) [0, 1, 2, 3, 4, 5] (by decide) rfl
  generalize H1 = H at hP hS ⊢
  try dsimp only at hw
  subst hw
  clear hPc hDc hKc hFc hP1 hD1 hk1 ht
  rw [← pb_rel_add0 M n, ← pb_rel_add1 M n, ← pb_rel_add2 M n] at hP hD
  refine lv_icmp_eq (tgt := 349) hx hb dL_law_145 (by decide) (fun q1 => ?_) (fun q1 => ?_)
  · -- the same
    exact nx _ _ (pb_LI_add hI) H _ hP hD hS ls hl
  · exact absurd rfl q1
set_option maxHeartbeats 4000000 in
set_option maxRecDepth 100000 in
theorem law_c2 {p : Program} {l : Launch} {e : Env} {s : State} {m : MethodId} {below : List Frame} {meth : Method} {c : Code} {dC : Nat → ClassId} {dI : Nat → Nat → Nat} {b L : Nat} {xs : Nat → Int32} (hL : L ≤ 2560) (C0 : lw_At p s m meth c b L xs) {h0 h1 h2 h3 : Nat} {k1 k2 k3 : ClassId} {g0 g1 : Nat} {r1 : ClassId} {i : Nat} (hi : i + 5 ≤ L) (nx : pb_NX p l e s m below meth c dC dI b i h0 h1 h2 h3 k1 k2 k3 g0 g1 r1) (hK : va_K (dC, dI) vwCl (tL k1 k2 k3 r1) s) {M : Nat → Int32} {n : Nat} (hI : pb_LI M n) {H : Heap} {locs : List Loc} (hP : va_P (dC, dI) vwCl (wL h0 h1 h2 h3 k1 k2 k3 g0 g1 r1 M n) H) (hD : va_D (fun q : Nat => s.heap.size ≤ q) (wL h0 h1 h2 h3 k1 k2 k3 g0 g1 r1 M n)) (hS : va_S (fun q : Nat => s.heap.size ≤ q) s.heap H locs) {ls : Array Slot} (hl : lv_has ls 4 [(3, .int (nI (i))), (0, .ref b), (1, .ref h0), (2, .ref g0)]) : W p l e room_1 s m #[Value.ref b] below meth c H locs 6 9241 (lw_Z below #[Value.ref b] s) (F0 m 150 ls []) := by
  obtain ⟨hx, hb, hr, hml, hown, hts, hX, hbl, hlocks, hgv⟩ := C0
  have hts := fun w h => hts w (wsL_law_in w h)
  have hA : ∀ q : Nat, s.heap.size ≤ q → (fun q : Nat => s.heap.size ≤ q) q := fun _ h => h
  have hbA : ¬ (fun q : Nat => s.heap.size ≤ q) b := Nat.not_le.mpr hbl
  have hn := hI.1
  refine lv_aload_n hx hb dL_law_150 rfl (lv_at hl 2 rfl) ?_
  have hPc := hP.sub (ws' := (wC h0 h1 h2 h3 k1 k2 k3 (pr0 M) (pr1 M) (pr2 M) (n))) [0, 1, 2, 3] rfl
  have hDc := hD.sub (ws' := (wC h0 h1 h2 h3 k1 k2 k3 (pr0 M) (pr1 M) (pr2 M) (n))) [0, 1, 2, 3] (by decide) rfl
  have hKc := hK.sub (tys' := tC k1 k2 k3) [0, 1, 2] rfl
  have hFc := va_free (wc := (wC h0 h1 h2 h3 k1 k2 k3 (pr0 M) (pr1 M) (pr2 M) (n))) hD hS hA [0, 1, 2, 3] rfl
  refine va_callv (va_runV (As := []) (rest := []) ⟨hx, hb, hml, hown, hts⟩ (cC_clear l dC dI h0 h1 h2 h3 k1 k2 k3 (pr0 M) (pr1 M) (pr2 M) (n) H.size ) (cwV 0 hts gL_law_X0_clear rfl rfl rfl (by decide +kernel) ⟨Nat.le_of_ble_eq_true rfl, Nat.le_of_ble_eq_true rfl⟩) ⟨fun a U g mk q => by obtain ⟨q0, q1, qP, qK, qD⟩ := q; exact ⟨q0, q1, qP, va_K.moved (u := U) (U := U.calling g mk a) (Vm.Alike.refl U.vm) qK, qD⟩, va_recv hKc hPc (ci := 0) (q0 := 0) rfl rfl, fun U hU hW => ⟨rfl, by rw [hU], by rw [hU]; exact hPc, va_K.moved hW.alike hKc, hDc.weaken (fun _ _ _ _ => trivial)⟩⟩ rfl rfl hl.1 rfl (lv_room (Nat.le_of_ble_eq_true rfl)) dL_law_151 ⟨(show 6 ≤ 600000 by decide), (show 9241 ≤ 7302250 by decide)⟩) hS (fun q _ h => hFc q h) hFc (fun u t H1 locs ht hvm hw hB hz1 hk1 hS => ?_)
  obtain ⟨hP1, hD1⟩ := hB
  rw [ht] at hP1
  obtain ⟨hP, hD⟩ := va_join (wr := (wR g0 g1 r1 (M) (n))) (w1 := (wC h0 h1 h2 h3 k1 k2 k3 (pr0 M) (pr1 M) (pr2 M) (0))) hP hD [0, 1, 2, 3] [4, 5] rfl rfl (by decide) (by decide) hk1 hFc hP1 hD1
  have hP := hP.sub (ws' := [(h0, .inr (0, [.ref h1, .ref h2, .ref h3, .int (nI (0))])), (h1, .inl (k1, 1539, .inl (pr0 M))), (h2, .inl (k2, 1539, .inl (pr1 M))), (h3, .inl (k3, 1539, .inl (pr2 M))), (g0, .inr (1, [.int (nI 0), .int (nI (n)), .ref g1])), (g1, .inl (r1, 4617, .inl (M)))]) [2, 3, 4, 5, 0, 1] rfl
  have hD := hD.sub (ws' := [(h0, .inr (0, [.ref h1, .ref h2, .ref h3, .int (nI (0))])), (h1, .inl (k1, 1539, .inl (pr0 M))), (h2, .inl (k2, 1539, .inl (pr1 M))), (h3, .inl (k3, 1539, .inl (pr2 M))), (g0, .inr (1, [.int (nI 0), .int (nI (n)), .ref g1])), (g1, .inl (r1, 4617, .inl (M)))]) [2, 3, 4, 5, 0, 1] (by decide) rfl
  generalize H1 = H at hP hS ⊢
  clear hPc hDc hKc hFc hP1 hD1 hk1 ht hw
  refine lv_aload_n hx hb dL_law_154 rfl (lv_at hl 3 rfl) ?_
  have hPc := hP.sub (ws' := (wR g0 g1 r1 (M) (n))) [4, 5] rfl
  have hDc := hD.sub (ws' := (wR g0 g1 r1 (M) (n))) [4, 5] (by decide) rfl
  have hKc := hK.sub (tys' := tR r1) [3] rfl
  have hFc := va_free (wc := (wR g0 g1 r1 (M) (n))) hD hS hA [4, 5] rfl
  refine va_callv (va_runV (As := []) (rest := []) ⟨hx, hb, hml, hown, hts⟩ (cR_clear l dC dI g0 g1 r1 (M) (n) H.size ) (cwV 0 hts gL_law_X1_clear rfl rfl rfl (by decide +kernel) ⟨Nat.le_of_ble_eq_true rfl, Nat.le_of_ble_eq_true rfl⟩) ⟨fun a U g mk q => by obtain ⟨q0, q1, qP, qK, qD⟩ := q; exact ⟨q0, q1, qP, va_K.moved (u := U) (U := U.calling g mk a) (Vm.Alike.refl U.vm) qK, qD⟩, va_recv hKc hPc (ci := 1) (q0 := 0) rfl rfl, fun U hU hW => ⟨rfl, by rw [hU], by rw [hU]; exact hPc, va_K.moved hW.alike hKc, hDc.weaken (fun _ _ _ _ => trivial)⟩⟩ rfl rfl hl.1 rfl (lv_room (Nat.le_of_ble_eq_true rfl)) dL_law_155 ⟨(show 6 ≤ 600000 by decide), (show 9241 ≤ 7302250 by decide)⟩) hS (fun q _ h => hFc q h) hFc (fun u t H1 locs ht hvm hw hB hz1 hk1 hS => ?_)
  obtain ⟨hP1, hD1⟩ := hB
  rw [ht] at hP1
  obtain ⟨hP, hD⟩ := va_join (wr := (wC h0 h1 h2 h3 k1 k2 k3 (pr0 M) (pr1 M) (pr2 M) (0))) (w1 := (wR g0 g1 r1 (M) (0))) hP hD [4, 5] [0, 1, 2, 3] rfl rfl (by decide) (by decide) hk1 hFc hP1 hD1
  have hP := hP.sub (ws' := [(h0, .inr (0, [.ref h1, .ref h2, .ref h3, .int (nI (0))])), (h1, .inl (k1, 1539, .inl (pr0 M))), (h2, .inl (k2, 1539, .inl (pr1 M))), (h3, .inl (k3, 1539, .inl (pr2 M))), (g0, .inr (1, [.int (nI 0), .int (nI (0)), .ref g1])), (g1, .inl (r1, 4617, .inl (M)))]) [0, 1, 2, 3, 4, 5] rfl
  have hD := hD.sub (ws' := [(h0, .inr (0, [.ref h1, .ref h2, .ref h3, .int (nI (0))])), (h1, .inl (k1, 1539, .inl (pr0 M))), (h2, .inl (k2, 1539, .inl (pr1 M))), (h3, .inl (k3, 1539, .inl (pr2 M))), (g0, .inr (1, [.int (nI 0), .int (nI (0)), .ref g1])), (g1, .inl (r1, 4617, .inl (M)))]) [0, 1, 2, 3, 4, 5] (by decide) rfl
  generalize H1 = H at hP hS ⊢
  clear hPc hDc hKc hFc hP1 hD1 hk1 ht hw
  refine lv_goto (tgt := 349) hx hb dL_law_158 (by decide) ?_
  exact nx M 0 (pb_LI_clear hI) H _ hP hD hS ls hl
end
section
set_option maxHeartbeats 4000000 in
set_option maxRecDepth 100000 in
theorem law_c3 {p : Program} {l : Launch} {e : Env} {s : State} {m : MethodId} {below : List Frame} {meth : Method} {c : Code} {dC : Nat → ClassId} {dI : Nat → Nat → Nat} {b L : Nat} {xs : Nat → Int32} (hL : L ≤ 2560) (C0 : lw_At p s m meth c b L xs) {h0 h1 h2 h3 : Nat} {k1 k2 k3 : ClassId} {g0 g1 : Nat} {r1 : ClassId} {i : Nat} (hi : i + 5 ≤ L) (nx : pb_NX p l e s m below meth c dC dI b i h0 h1 h2 h3 k1 k2 k3 g0 g1 r1) (hK : va_K (dC, dI) vwCl (tL k1 k2 k3 r1) s) {M : Nat → Int32} {n : Nat} (hI : pb_LI M n) {H : Heap} {locs : List Loc} (hP : va_P (dC, dI) vwCl (wL h0 h1 h2 h3 k1 k2 k3 g0 g1 r1 M n) H) (hD : va_D (fun q : Nat => s.heap.size ≤ q) (wL h0 h1 h2 h3 k1 k2 k3 g0 g1 r1 M n)) (hS : va_S (fun q : Nat => s.heap.size ≤ q) s.heap H locs) {ls : Array Slot} (hl : lv_has ls 4 [(3, .int (nI (i))), (0, .ref b), (1, .ref h0), (2, .ref g0)]) : W p l e room_1 s m #[Value.ref b] below meth c H locs 6 9241 (lw_Z below #[Value.ref b] s) (F0 m 161 ls []) := by
  obtain ⟨hx, hb, hr, hml, hown, hts, hX, hbl, hlocks, hgv⟩ := C0
  have hts := fun w h => hts w (wsL_law_in w h)
  have hA : ∀ q : Nat, s.heap.size ≤ q → (fun q : Nat => s.heap.size ≤ q) q := fun _ h => h
  have hbA : ¬ (fun q : Nat => s.heap.size ≤ q) b := Nat.not_le.mpr hbl
  have hn := hI.1
  refine lv_aload_n hx hb dL_law_161 rfl (lv_at hl 2 rfl) ?_
  have hPc := hP.sub (ws' := (wC h0 h1 h2 h3 k1 k2 k3 (pr0 M) (pr1 M) (pr2 M) (n))) [0, 1, 2, 3] rfl
  have hKc := hK.sub (tys' := tC k1 k2 k3) [0, 1, 2] rfl
  refine pb_call (W.runV (As := []) (rest := []) ⟨hx, hb, hml, hown, hts⟩ (cC_count l dC dI h0 h1 h2 h3 k1 k2 k3 (pr0 M) (pr1 M) (pr2 M) (n) ) (cwV 0 hts gL_law_X0_count rfl rfl rfl (by decide +kernel) ⟨Nat.le_of_ble_eq_true rfl, Nat.le_of_ble_eq_true rfl⟩) (preC_V hPc hKc _) rfl rfl hl.1 rfl (lv_room (Nat.le_of_ble_eq_true rfl)) dL_law_162 ⟨(show 6 ≤ 600000 by decide), (show 9241 ≤ 7302250 by decide)⟩) ?_
  refine lv_aload_n hx hb dL_law_165 rfl (lv_at hl 3 rfl) ?_
  have hPc := hP.sub (ws' := (wR g0 g1 r1 (M) (n))) [4, 5] rfl
  have hDc := hD.sub (ws' := (wR g0 g1 r1 (M) (n))) [4, 5] (by decide) rfl
  have hKc := hK.sub (tys' := tR r1) [3] rfl
  have hFc := va_free (wc := (wR g0 g1 r1 (M) (n))) hD hS hA [4, 5] rfl
  refine va_calli (va_runV (As := []) (rest := [.int (nI n)]) ⟨hx, hb, hml, hown, hts⟩ (cR_count l dC dI g0 g1 r1 (M) (n) H.size ) (cwV 0 hts gL_law_X1_count rfl rfl rfl (by decide +kernel) ⟨Nat.le_of_ble_eq_true rfl, Nat.le_of_ble_eq_true rfl⟩) ⟨fun a U g mk q => by obtain ⟨q0, q1, qP, qK, qD⟩ := q; exact ⟨q0, q1, qP, va_K.moved (u := U) (U := U.calling g mk a) (Vm.Alike.refl U.vm) qK, qD⟩, va_recv hKc hPc (ci := 1) (q0 := 0) rfl rfl, fun U hU hW => ⟨rfl, by rw [hU], by rw [hU]; exact hPc, va_K.moved hW.alike hKc, hDc.weaken (fun _ _ _ _ => trivial)⟩⟩ rfl rfl hl.1 rfl (lv_room (Nat.le_of_ble_eq_true rfl)) dL_law_166 ⟨(show 6 ≤ 600000 by decide), (show 9241 ≤ 7302250 by decide)⟩) hS (fun q _ h => hFc q h) hFc (fun rr u t H1 locs ht hvm hw hB hz1 hk1 hS => ?_)
  obtain ⟨hP1, hD1⟩ := hB
  rw [ht] at hP1
  obtain ⟨hP, hD⟩ := va_join (wr := (wC h0 h1 h2 h3 k1 k2 k3 (pr0 M) (pr1 M) (pr2 M) (n))) (w1 := (wR g0 g1 r1 (M) (n))) hP hD [4, 5] [0, 1, 2, 3] rfl rfl (by decide) (by decide) hk1 hFc hP1 hD1
  have hP := hP.sub (ws' := [(h0, .inr (0, [.ref h1, .ref h2, .ref h3, .int (nI (n))])), (h1, .inl (k1, 1539, .inl (pr0 M))), (h2, .inl (k2, 1539, .inl (pr1 M))), (h3, .inl (k3, 1539, .inl (pr2 M))), (g0, .inr (1, [.int (nI 0), .int (nI (n)), .ref g1])), (g1, .inl (r1, 4617, .inl (M)))]) [0, 1, 2, 3, 4, 5] rfl
  have hD := hD.sub (ws' := [(h0, .inr (0, [.ref h1, .ref h2, .ref h3, .int (nI (n))])), (h1, .inl (k1, 1539, .inl (pr0 M))), (h2, .inl (k2, 1539, .inl (pr1 M))), (h3, .inl (k3, 1539, .inl (pr2 M))), (g0, .inr (1, [.int (nI 0), .int (nI (n)), .ref g1])), (g1, .inl (r1, 4617, .inl (M)))]) [0, 1, 2, 3, 4, 5] (by decide) rfl
  generalize H1 = H at hP hS ⊢
  try dsimp only at hw
  subst hw
  clear hPc hDc hKc hFc hP1 hD1 hk1 ht
  refine lv_icmp_eq (tgt := 349) hx hb dL_law_169 (by decide) (fun q1 => ?_) (fun q1 => ?_)
  · -- the same
    exact nx M n hI H _ hP hD hS ls hl
  · exact absurd rfl q1
set_option maxHeartbeats 4000000 in
set_option maxRecDepth 100000 in
theorem law_c4 {p : Program} {l : Launch} {e : Env} {s : State} {m : MethodId} {below : List Frame} {meth : Method} {c : Code} {dC : Nat → ClassId} {dI : Nat → Nat → Nat} {b L : Nat} {xs : Nat → Int32} (hL : L ≤ 2560) (C0 : lw_At p s m meth c b L xs) {h0 h1 h2 h3 : Nat} {k1 k2 k3 : ClassId} {g0 g1 : Nat} {r1 : ClassId} {i : Nat} (hi : i + 5 ≤ L) (nx : pb_NX p l e s m below meth c dC dI b i h0 h1 h2 h3 k1 k2 k3 g0 g1 r1) (hK : va_K (dC, dI) vwCl (tL k1 k2 k3 r1) s) {M : Nat → Int32} {n : Nat} (hI : pb_LI M n) {H : Heap} {locs : List Loc} (hP : va_P (dC, dI) vwCl (wL h0 h1 h2 h3 k1 k2 k3 g0 g1 r1 M n) H) (hD : va_D (fun q : Nat => s.heap.size ≤ q) (wL h0 h1 h2 h3 k1 k2 k3 g0 g1 r1 M n)) (hS : va_S (fun q : Nat => s.heap.size ≤ q) s.heap H locs) {ls : Array Slot} (hl : lv_has ls 4 [(3, .int (nI (i))), (0, .ref b), (1, .ref h0), (2, .ref g0)]) : W p l e room_1 s m #[Value.ref b] below meth c H locs 6 9241 (lw_Z below #[Value.ref b] s) (F0 m 174 ls []) := by
  obtain ⟨hx, hb, hr, hml, hown, hts, hX, hbl, hlocks, hgv⟩ := C0
  have hts := fun w h => hts w (wsL_law_in w h)
  have hA : ∀ q : Nat, s.heap.size ≤ q → (fun q : Nat => s.heap.size ≤ q) q := fun _ h => h
  have hbA : ¬ (fun q : Nat => s.heap.size ≤ q) b := Nat.not_le.mpr hbl
  have hn := hI.1
  refine lv_aload_n hx hb dL_law_174 rfl (lv_at hl 2 rfl) ?_
  refine lv_aload_n hx hb dL_law_175 rfl (lv_at hl 1 rfl) ?_
  refine lv_iload_n hx hb dL_law_176 rfl (lv_at hl 0 rfl) ?_
  refine lv_iconst (v := nI 1) hx hb dL_law_177 (by decide +kernel) ?_
  refine lv_iadd hx hb dL_law_178 ?_
  refine pb_eqi (nI_add _ _) ?_
  refine pb_sld (j := i + 1) hx hb hX hbl hbA hS (by omega) (by omega) dL_law_179 ?_
  have hPc := hP.sub (ws' := (wC h0 h1 h2 h3 k1 k2 k3 (pr0 M) (pr1 M) (pr2 M) (n))) [0, 1, 2, 3] rfl
  have hKc := hK.sub (tys' := tC k1 k2 k3) [0, 1, 2] rfl
  refine pb_call (W.runV (As := [.int (xs (i + 1))]) (rest := []) ⟨hx, hb, hml, hown, hts⟩ (cC_area l dC dI h0 h1 h2 h3 k1 k2 k3 (pr0 M) (pr1 M) (pr2 M) (n) hn (xs (i + 1))) (cwV 1 hts gL_law_X0_area rfl rfl rfl (by decide +kernel) ⟨Nat.le_of_ble_eq_true rfl, Nat.le_of_ble_eq_true rfl⟩) (preC_V hPc hKc _) rfl rfl hl.1 rfl (lv_room (Nat.le_of_ble_eq_true rfl)) dL_law_180 ⟨(show 6 ≤ 600000 by decide), (show 9241 ≤ 7302250 by decide)⟩) ?_
  refine lv_aload_n hx hb dL_law_183 rfl (lv_at hl 3 rfl) ?_
  refine lv_aload_n hx hb dL_law_184 rfl (lv_at hl 1 rfl) ?_
  refine lv_iload_n hx hb dL_law_185 rfl (lv_at hl 0 rfl) ?_
  refine lv_iconst (v := nI 1) hx hb dL_law_186 (by decide +kernel) ?_
  refine lv_iadd hx hb dL_law_187 ?_
  refine pb_eqi (nI_add _ _) ?_
  refine pb_sld (j := i + 1) hx hb hX hbl hbA hS (by omega) (by omega) dL_law_188 ?_
  have hPc := hP.sub (ws' := (wR g0 g1 r1 (M) (n))) [4, 5] rfl
  have hDc := hD.sub (ws' := (wR g0 g1 r1 (M) (n))) [4, 5] (by decide) rfl
  have hKc := hK.sub (tys' := tR r1) [3] rfl
  have hFc := va_free (wc := (wR g0 g1 r1 (M) (n))) hD hS hA [4, 5] rfl
  refine va_calli (va_runV (As := [.int (xs (i + 1))]) (rest := [.int (pb_area (pr0 M) (pr1 M) n (xs (i + 1)))]) ⟨hx, hb, hml, hown, hts⟩ (cR_area l dC dI g0 g1 r1 (M) (n) H.size hn (xs (i + 1))) (cwV 1 hts gL_law_X1_area rfl rfl rfl (by decide +kernel) ⟨Nat.le_of_ble_eq_true rfl, Nat.le_of_ble_eq_true rfl⟩) ⟨fun a U g mk q => by obtain ⟨q0, q1, qP, qK, qD⟩ := q; exact ⟨q0, q1, qP, va_K.moved (u := U) (U := U.calling g mk a) (Vm.Alike.refl U.vm) qK, qD⟩, va_recv hKc hPc (ci := 1) (q0 := 0) rfl rfl, fun U hU hW => ⟨rfl, by rw [hU], by rw [hU]; exact hPc, va_K.moved hW.alike hKc, hDc.weaken (fun _ _ _ _ => trivial)⟩⟩ rfl rfl hl.1 rfl (lv_room (Nat.le_of_ble_eq_true rfl)) dL_law_189 ⟨(show 6 ≤ 600000 by decide), (show 9241 ≤ 7302250 by decide)⟩) hS (fun q _ h => hFc q h) hFc (fun rr u t H1 locs ht hvm hw hB hz1 hk1 hS => ?_)
  obtain ⟨hP1, hD1⟩ := hB
  rw [ht] at hP1
  obtain ⟨hP, hD⟩ := va_join (wr := (wC h0 h1 h2 h3 k1 k2 k3 (pr0 M) (pr1 M) (pr2 M) (n))) (w1 := (wR g0 g1 r1 (M) (n))) hP hD [4, 5] [0, 1, 2, 3] rfl rfl (by decide) (by decide) hk1 hFc hP1 hD1
  have hP := hP.sub (ws' := [(h0, .inr (0, [.ref h1, .ref h2, .ref h3, .int (nI (n))])), (h1, .inl (k1, 1539, .inl (pr0 M))), (h2, .inl (k2, 1539, .inl (pr1 M))), (h3, .inl (k3, 1539, .inl (pr2 M))), (g0, .inr (1, [.int (nI 0), .int (nI (n)), .ref g1])), (g1, .inl (r1, 4617, .inl (M)))]) [0, 1, 2, 3, 4, 5] rfl
  have hD := hD.sub (ws' := [(h0, .inr (0, [.ref h1, .ref h2, .ref h3, .int (nI (n))])), (h1, .inl (k1, 1539, .inl (pr0 M))), (h2, .inl (k2, 1539, .inl (pr1 M))), (h3, .inl (k3, 1539, .inl (pr2 M))), (g0, .inr (1, [.int (nI 0), .int (nI (n)), .ref g1])), (g1, .inl (r1, 4617, .inl (M)))]) [0, 1, 2, 3, 4, 5] (by decide) rfl
  generalize H1 = H at hP hS ⊢
  try dsimp only at hw
  subst hw
  clear hPc hDc hKc hFc hP1 hD1 hk1 ht
  refine lv_icmp_eq (tgt := 349) hx hb dL_law_192 (by decide) (fun q1 => ?_) (fun q1 => ?_)
  · -- the same
    exact nx M n hI H _ hP hD hS ls hl
  · exact absurd rfl q1
set_option maxHeartbeats 4000000 in
set_option maxRecDepth 100000 in
theorem law_c5 {p : Program} {l : Launch} {e : Env} {s : State} {m : MethodId} {below : List Frame} {meth : Method} {c : Code} {dC : Nat → ClassId} {dI : Nat → Nat → Nat} {b L : Nat} {xs : Nat → Int32} (hL : L ≤ 2560) (C0 : lw_At p s m meth c b L xs) {h0 h1 h2 h3 : Nat} {k1 k2 k3 : ClassId} {g0 g1 : Nat} {r1 : ClassId} {i : Nat} (hi : i + 5 ≤ L) (nx : pb_NX p l e s m below meth c dC dI b i h0 h1 h2 h3 k1 k2 k3 g0 g1 r1) (hK : va_K (dC, dI) vwCl (tL k1 k2 k3 r1) s) {M : Nat → Int32} {n : Nat} (hI : pb_LI M n) {H : Heap} {locs : List Loc} (hP : va_P (dC, dI) vwCl (wL h0 h1 h2 h3 k1 k2 k3 g0 g1 r1 M n) H) (hD : va_D (fun q : Nat => s.heap.size ≤ q) (wL h0 h1 h2 h3 k1 k2 k3 g0 g1 r1 M n)) (hS : va_S (fun q : Nat => s.heap.size ≤ q) s.heap H locs) {ls : Array Slot} (hl : lv_has ls 4 [(3, .int (nI (i))), (0, .ref b), (1, .ref h0), (2, .ref g0)]) : W p l e room_1 s m #[Value.ref b] below meth c H locs 6 9241 (lw_Z below #[Value.ref b] s) (F0 m 197 ls []) := by
  obtain ⟨hx, hb, hr, hml, hown, hts, hX, hbl, hlocks, hgv⟩ := C0
  have hts := fun w h => hts w (wsL_law_in w h)
  have hA : ∀ q : Nat, s.heap.size ≤ q → (fun q : Nat => s.heap.size ≤ q) q := fun _ h => h
  have hbA : ¬ (fun q : Nat => s.heap.size ≤ q) b := Nat.not_le.mpr hbl
  have hn := hI.1
  refine lv_aload_n hx hb dL_law_197 rfl (lv_at hl 2 rfl) ?_
  refine lv_aload_n hx hb dL_law_198 rfl (lv_at hl 1 rfl) ?_
  refine lv_iload_n hx hb dL_law_199 rfl (lv_at hl 0 rfl) ?_
  refine lv_iconst (v := nI 1) hx hb dL_law_200 (by decide +kernel) ?_
  refine lv_iadd hx hb dL_law_201 ?_
  refine pb_eqi (nI_add _ _) ?_
  refine pb_sld (j := i + 1) hx hb hX hbl hbA hS (by omega) (by omega) dL_law_202 ?_
  refine lv_aload_n hx hb dL_law_203 rfl (lv_at hl 1 rfl) ?_
  refine lv_iload_n hx hb dL_law_204 rfl (lv_at hl 0 rfl) ?_
  refine lv_iconst (v := nI 2) hx hb dL_law_205 (by decide +kernel) ?_
  refine lv_iadd hx hb dL_law_206 ?_
  refine pb_eqi (nI_add _ _) ?_
  refine pb_sld (j := i + 2) hx hb hX hbl hbA hS (by omega) (by omega) dL_law_207 ?_
  refine lv_aload_n hx hb dL_law_208 rfl (lv_at hl 1 rfl) ?_
  refine lv_iload_n hx hb dL_law_209 rfl (lv_at hl 0 rfl) ?_
  refine lv_iconst (v := nI 3) hx hb dL_law_210 (by decide +kernel) ?_
  refine lv_iadd hx hb dL_law_211 ?_
  refine pb_eqi (nI_add _ _) ?_
  refine pb_sld (j := i + 3) hx hb hX hbl hbA hS (by omega) (by omega) dL_law_212 ?_
  have hPc := hP.sub (ws' := (wC h0 h1 h2 h3 k1 k2 k3 (pr0 M) (pr1 M) (pr2 M) (n))) [0, 1, 2, 3] rfl
  have hKc := hK.sub (tys' := tC k1 k2 k3) [0, 1, 2] rfl
  refine pb_call (W.runV (As := [.int (xs (i + 1)), .int (xs (i + 2)), .int (xs (i + 3))]) (rest := []) ⟨hx, hb, hml, hown, hts⟩ (cC_near l dC dI h0 h1 h2 h3 k1 k2 k3 (pr0 M) (pr1 M) (pr2 M) (n) hn (xs (i + 1)) (xs (i + 2)) (xs (i + 3))) (cwV 3 hts gL_law_X0_near rfl rfl rfl (by decide +kernel) ⟨Nat.le_of_ble_eq_true rfl, Nat.le_of_ble_eq_true rfl⟩) (preC_V hPc hKc _) rfl rfl hl.1 rfl (lv_room (Nat.le_of_ble_eq_true rfl)) dL_law_213 ⟨(show 6 ≤ 600000 by decide), (show 9241 ≤ 7302250 by decide)⟩) ?_
  refine lv_aload_n hx hb dL_law_216 rfl (lv_at hl 3 rfl) ?_
  refine lv_aload_n hx hb dL_law_217 rfl (lv_at hl 1 rfl) ?_
  refine lv_iload_n hx hb dL_law_218 rfl (lv_at hl 0 rfl) ?_
  refine lv_iconst (v := nI 1) hx hb dL_law_219 (by decide +kernel) ?_
  refine lv_iadd hx hb dL_law_220 ?_
  refine pb_eqi (nI_add _ _) ?_
  refine pb_sld (j := i + 1) hx hb hX hbl hbA hS (by omega) (by omega) dL_law_221 ?_
  refine lv_aload_n hx hb dL_law_222 rfl (lv_at hl 1 rfl) ?_
  refine lv_iload_n hx hb dL_law_223 rfl (lv_at hl 0 rfl) ?_
  refine lv_iconst (v := nI 2) hx hb dL_law_224 (by decide +kernel) ?_
  refine lv_iadd hx hb dL_law_225 ?_
  refine pb_eqi (nI_add _ _) ?_
  refine pb_sld (j := i + 2) hx hb hX hbl hbA hS (by omega) (by omega) dL_law_226 ?_
  refine lv_aload_n hx hb dL_law_227 rfl (lv_at hl 1 rfl) ?_
  refine lv_iload_n hx hb dL_law_228 rfl (lv_at hl 0 rfl) ?_
  refine lv_iconst (v := nI 3) hx hb dL_law_229 (by decide +kernel) ?_
  refine lv_iadd hx hb dL_law_230 ?_
  refine pb_eqi (nI_add _ _) ?_
  refine pb_sld (j := i + 3) hx hb hX hbl hbA hS (by omega) (by omega) dL_law_231 ?_
  have hPc := hP.sub (ws' := (wR g0 g1 r1 (M) (n))) [4, 5] rfl
  have hDc := hD.sub (ws' := (wR g0 g1 r1 (M) (n))) [4, 5] (by decide) rfl
  have hKc := hK.sub (tys' := tR r1) [3] rfl
  have hFc := va_free (wc := (wR g0 g1 r1 (M) (n))) hD hS hA [4, 5] rfl
  refine va_calli (va_runV (As := [.int (xs (i + 1)), .int (xs (i + 2)), .int (xs (i + 3))]) (rest := [.int (pb_near (pr0 M) (pr1 M) (pr2 M) n (xs (i + 1)) (xs (i + 2)) (xs (i + 3)))]) ⟨hx, hb, hml, hown, hts⟩ (cR_near l dC dI g0 g1 r1 (M) (n) H.size hn (pb_LI_I1 hI) (xs (i + 1)) (xs (i + 2)) (xs (i + 3))) (cwV 3 hts gL_law_X1_near rfl rfl rfl (by decide +kernel) ⟨Nat.le_of_ble_eq_true rfl, Nat.le_of_ble_eq_true rfl⟩) ⟨fun a U g mk q => by obtain ⟨q0, q1, qP, qK, qD⟩ := q; exact ⟨q0, q1, qP, va_K.moved (u := U) (U := U.calling g mk a) (Vm.Alike.refl U.vm) qK, qD⟩, va_recv hKc hPc (ci := 1) (q0 := 0) rfl rfl, fun U hU hW => ⟨rfl, by rw [hU], by rw [hU]; exact hPc, va_K.moved hW.alike hKc, hDc.weaken (fun _ _ _ _ => trivial)⟩⟩ rfl rfl hl.1 rfl (lv_room (Nat.le_of_ble_eq_true rfl)) dL_law_232 ⟨(show 6 ≤ 600000 by decide), (show 9241 ≤ 7302250 by decide)⟩) hS (fun q _ h => hFc q h) hFc (fun rr u t H1 locs ht hvm hw hB hz1 hk1 hS => ?_)
  obtain ⟨hP1, hD1⟩ := hB
  rw [ht] at hP1
  obtain ⟨hP, hD⟩ := va_join (wr := (wC h0 h1 h2 h3 k1 k2 k3 (pr0 M) (pr1 M) (pr2 M) (n))) (w1 := (wR g0 g1 r1 (M) (n))) hP hD [4, 5] [0, 1, 2, 3] rfl rfl (by decide) (by decide) hk1 hFc hP1 hD1
  have hP := hP.sub (ws' := [(h0, .inr (0, [.ref h1, .ref h2, .ref h3, .int (nI (n))])), (h1, .inl (k1, 1539, .inl (pr0 M))), (h2, .inl (k2, 1539, .inl (pr1 M))), (h3, .inl (k3, 1539, .inl (pr2 M))), (g0, .inr (1, [.int (nI 0), .int (nI (n)), .ref g1])), (g1, .inl (r1, 4617, .inl (M)))]) [0, 1, 2, 3, 4, 5] rfl
  have hD := hD.sub (ws' := [(h0, .inr (0, [.ref h1, .ref h2, .ref h3, .int (nI (n))])), (h1, .inl (k1, 1539, .inl (pr0 M))), (h2, .inl (k2, 1539, .inl (pr1 M))), (h3, .inl (k3, 1539, .inl (pr2 M))), (g0, .inr (1, [.int (nI 0), .int (nI (n)), .ref g1])), (g1, .inl (r1, 4617, .inl (M)))]) [0, 1, 2, 3, 4, 5] (by decide) rfl
  generalize H1 = H at hP hS ⊢
  try dsimp only at hw
  subst hw
  clear hPc hDc hKc hFc hP1 hD1 hk1 ht
  refine lv_icmp_eq (tgt := 349) hx hb dL_law_235 (by decide) (fun q1 => ?_) (fun q1 => ?_)
  · -- the same
    exact nx M n hI H _ hP hD hS ls hl
  · exact absurd rfl q1
set_option maxHeartbeats 4000000 in
set_option maxRecDepth 100000 in
theorem law_c6 {p : Program} {l : Launch} {e : Env} {s : State} {m : MethodId} {below : List Frame} {meth : Method} {c : Code} {dC : Nat → ClassId} {dI : Nat → Nat → Nat} {b L : Nat} {xs : Nat → Int32} (hL : L ≤ 2560) (C0 : lw_At p s m meth c b L xs) {h0 h1 h2 h3 : Nat} {k1 k2 k3 : ClassId} {g0 g1 : Nat} {r1 : ClassId} {i : Nat} (hi : i + 5 ≤ L) (nx : pb_NX p l e s m below meth c dC dI b i h0 h1 h2 h3 k1 k2 k3 g0 g1 r1) (hK : va_K (dC, dI) vwCl (tL k1 k2 k3 r1) s) {M : Nat → Int32} {n : Nat} (hI : pb_LI M n) {H : Heap} {locs : List Loc} (hP : va_P (dC, dI) vwCl (wL h0 h1 h2 h3 k1 k2 k3 g0 g1 r1 M n) H) (hD : va_D (fun q : Nat => s.heap.size ≤ q) (wL h0 h1 h2 h3 k1 k2 k3 g0 g1 r1 M n)) (hS : va_S (fun q : Nat => s.heap.size ≤ q) s.heap H locs) {ls : Array Slot} (hl : lv_has ls 4 [(3, .int (nI (i))), (0, .ref b), (1, .ref h0), (2, .ref g0)]) : W p l e room_1 s m #[Value.ref b] below meth c H locs 6 9241 (lw_Z below #[Value.ref b] s) (F0 m 240 ls []) := by
  obtain ⟨hx, hb, hr, hml, hown, hts, hX, hbl, hlocks, hgv⟩ := C0
  have hts := fun w h => hts w (wsL_law_in w h)
  have hA : ∀ q : Nat, s.heap.size ≤ q → (fun q : Nat => s.heap.size ≤ q) q := fun _ h => h
  have hbA : ¬ (fun q : Nat => s.heap.size ≤ q) b := Nat.not_le.mpr hbl
  have hn := hI.1
  refine lv_aload_n hx hb dL_law_240 rfl (lv_at hl 2 rfl) ?_
  refine lv_aload_n hx hb dL_law_241 rfl (lv_at hl 1 rfl) ?_
  refine lv_iload_n hx hb dL_law_242 rfl (lv_at hl 0 rfl) ?_
  refine lv_iconst (v := nI 1) hx hb dL_law_243 (by decide +kernel) ?_
  refine lv_iadd hx hb dL_law_244 ?_
  refine pb_eqi (nI_add _ _) ?_
  refine pb_sld (j := i + 1) hx hb hX hbl hbA hS (by omega) (by omega) dL_law_245 ?_
  refine lv_aload_n hx hb dL_law_246 rfl (lv_at hl 1 rfl) ?_
  refine lv_iload_n hx hb dL_law_247 rfl (lv_at hl 0 rfl) ?_
  refine lv_iconst (v := nI 2) hx hb dL_law_248 (by decide +kernel) ?_
  refine lv_iadd hx hb dL_law_249 ?_
  refine pb_eqi (nI_add _ _) ?_
  refine pb_sld (j := i + 2) hx hb hX hbl hbA hS (by omega) (by omega) dL_law_250 ?_
  have hPc := hP.sub (ws' := (wC h0 h1 h2 h3 k1 k2 k3 (pr0 M) (pr1 M) (pr2 M) (n))) [0, 1, 2, 3] rfl
  have hKc := hK.sub (tys' := tC k1 k2 k3) [0, 1, 2] rfl
  refine pb_call (W.runV (As := [.int (xs (i + 1)), .int (xs (i + 2))]) (rest := []) ⟨hx, hb, hml, hown, hts⟩ (cC_nearest l dC dI h0 h1 h2 h3 k1 k2 k3 (pr0 M) (pr1 M) (pr2 M) (n) hn (xs (i + 1)) (xs (i + 2))) (cwV 2 hts gL_law_X0_nearest rfl rfl rfl (by decide +kernel) ⟨Nat.le_of_ble_eq_true rfl, Nat.le_of_ble_eq_true rfl⟩) (preC_V hPc hKc _) rfl rfl hl.1 rfl (lv_room (Nat.le_of_ble_eq_true rfl)) dL_law_251 ⟨(show 6 ≤ 600000 by decide), (show 9241 ≤ 7302250 by decide)⟩) ?_
  refine lv_aload_n hx hb dL_law_254 rfl (lv_at hl 3 rfl) ?_
  refine lv_aload_n hx hb dL_law_255 rfl (lv_at hl 1 rfl) ?_
  refine lv_iload_n hx hb dL_law_256 rfl (lv_at hl 0 rfl) ?_
  refine lv_iconst (v := nI 1) hx hb dL_law_257 (by decide +kernel) ?_
  refine lv_iadd hx hb dL_law_258 ?_
  refine pb_eqi (nI_add _ _) ?_
  refine pb_sld (j := i + 1) hx hb hX hbl hbA hS (by omega) (by omega) dL_law_259 ?_
  refine lv_aload_n hx hb dL_law_260 rfl (lv_at hl 1 rfl) ?_
  refine lv_iload_n hx hb dL_law_261 rfl (lv_at hl 0 rfl) ?_
  refine lv_iconst (v := nI 2) hx hb dL_law_262 (by decide +kernel) ?_
  refine lv_iadd hx hb dL_law_263 ?_
  refine pb_eqi (nI_add _ _) ?_
  refine pb_sld (j := i + 2) hx hb hX hbl hbA hS (by omega) (by omega) dL_law_264 ?_
  have hPc := hP.sub (ws' := (wR g0 g1 r1 (M) (n))) [4, 5] rfl
  have hDc := hD.sub (ws' := (wR g0 g1 r1 (M) (n))) [4, 5] (by decide) rfl
  have hKc := hK.sub (tys' := tR r1) [3] rfl
  have hFc := va_free (wc := (wR g0 g1 r1 (M) (n))) hD hS hA [4, 5] rfl
  refine va_calli (va_runV (As := [.int (xs (i + 1)), .int (xs (i + 2))]) (rest := [.int ((pb_ns (pr0 M) (pr1 M) (pr2 M) (xs (i + 1)) (xs (i + 2)) n).1)]) ⟨hx, hb, hml, hown, hts⟩ (cR_nearest l dC dI g0 g1 r1 (M) (n) H.size hn (pb_LI_I1 hI) (xs (i + 1)) (xs (i + 2))) (cwV 2 hts gL_law_X1_nearest rfl rfl rfl (by decide +kernel) ⟨Nat.le_of_ble_eq_true rfl, Nat.le_of_ble_eq_true rfl⟩) ⟨fun a U g mk q => by obtain ⟨q0, q1, qP, qK, qD⟩ := q; exact ⟨q0, q1, qP, va_K.moved (u := U) (U := U.calling g mk a) (Vm.Alike.refl U.vm) qK, qD⟩, va_recv hKc hPc (ci := 1) (q0 := 0) rfl rfl, fun U hU hW => ⟨rfl, by rw [hU], by rw [hU]; exact hPc, va_K.moved hW.alike hKc, hDc.weaken (fun _ _ _ _ => trivial)⟩⟩ rfl rfl hl.1 rfl (lv_room (Nat.le_of_ble_eq_true rfl)) dL_law_265 ⟨(show 6 ≤ 600000 by decide), (show 9241 ≤ 7302250 by decide)⟩) hS (fun q _ h => hFc q h) hFc (fun rr u t H1 locs ht hvm hw hB hz1 hk1 hS => ?_)
  obtain ⟨hP1, hD1⟩ := hB
  rw [ht] at hP1
  obtain ⟨hP, hD⟩ := va_join (wr := (wC h0 h1 h2 h3 k1 k2 k3 (pr0 M) (pr1 M) (pr2 M) (n))) (w1 := (wR g0 g1 r1 (M) (n))) hP hD [4, 5] [0, 1, 2, 3] rfl rfl (by decide) (by decide) hk1 hFc hP1 hD1
  have hP := hP.sub (ws' := [(h0, .inr (0, [.ref h1, .ref h2, .ref h3, .int (nI (n))])), (h1, .inl (k1, 1539, .inl (pr0 M))), (h2, .inl (k2, 1539, .inl (pr1 M))), (h3, .inl (k3, 1539, .inl (pr2 M))), (g0, .inr (1, [.int (nI 0), .int (nI (n)), .ref g1])), (g1, .inl (r1, 4617, .inl (M)))]) [0, 1, 2, 3, 4, 5] rfl
  have hD := hD.sub (ws' := [(h0, .inr (0, [.ref h1, .ref h2, .ref h3, .int (nI (n))])), (h1, .inl (k1, 1539, .inl (pr0 M))), (h2, .inl (k2, 1539, .inl (pr1 M))), (h3, .inl (k3, 1539, .inl (pr2 M))), (g0, .inr (1, [.int (nI 0), .int (nI (n)), .ref g1])), (g1, .inl (r1, 4617, .inl (M)))]) [0, 1, 2, 3, 4, 5] (by decide) rfl
  generalize H1 = H at hP hS ⊢
  try dsimp only at hw
  subst hw
  clear hPc hDc hKc hFc hP1 hD1 hk1 ht
  refine lv_icmp_eq (tgt := 349) hx hb dL_law_268 (by decide) (fun q1 => ?_) (fun q1 => ?_)
  · -- the same
    exact nx M n hI H _ hP hD hS ls hl
  · exact absurd rfl q1
set_option maxHeartbeats 4000000 in
set_option maxRecDepth 100000 in
theorem law_c7 {p : Program} {l : Launch} {e : Env} {s : State} {m : MethodId} {below : List Frame} {meth : Method} {c : Code} {dC : Nat → ClassId} {dI : Nat → Nat → Nat} {b L : Nat} {xs : Nat → Int32} (hL : L ≤ 2560) (C0 : lw_At p s m meth c b L xs) {h0 h1 h2 h3 : Nat} {k1 k2 k3 : ClassId} {g0 g1 : Nat} {r1 : ClassId} {i : Nat} (hi : i + 5 ≤ L) (nx : pb_NX p l e s m below meth c dC dI b i h0 h1 h2 h3 k1 k2 k3 g0 g1 r1) (hK : va_K (dC, dI) vwCl (tL k1 k2 k3 r1) s) {M : Nat → Int32} {n : Nat} (hI : pb_LI M n) {H : Heap} {locs : List Loc} (hP : va_P (dC, dI) vwCl (wL h0 h1 h2 h3 k1 k2 k3 g0 g1 r1 M n) H) (hD : va_D (fun q : Nat => s.heap.size ≤ q) (wL h0 h1 h2 h3 k1 k2 k3 g0 g1 r1 M n)) (hS : va_S (fun q : Nat => s.heap.size ≤ q) s.heap H locs) {ls : Array Slot} (hl : lv_has ls 4 [(3, .int (nI (i))), (0, .ref b), (1, .ref h0), (2, .ref g0)]) : W p l e room_1 s m #[Value.ref b] below meth c H locs 6 9241 (lw_Z below #[Value.ref b] s) (F0 m 273 ls []) := by
  obtain ⟨hx, hb, hr, hml, hown, hts, hX, hbl, hlocks, hgv⟩ := C0
  have hts := fun w h => hts w (wsL_law_in w h)
  have hA : ∀ q : Nat, s.heap.size ≤ q → (fun q : Nat => s.heap.size ≤ q) q := fun _ h => h
  have hbA : ¬ (fun q : Nat => s.heap.size ≤ q) b := Nat.not_le.mpr hbl
  have hn := hI.1
  refine lv_aload_n hx hb dL_law_273 rfl (lv_at hl 2 rfl) ?_
  refine lv_aload_n hx hb dL_law_274 rfl (lv_at hl 1 rfl) ?_
  refine lv_iload_n hx hb dL_law_275 rfl (lv_at hl 0 rfl) ?_
  refine lv_iconst (v := nI 1) hx hb dL_law_276 (by decide +kernel) ?_
  refine lv_iadd hx hb dL_law_277 ?_
  refine pb_eqi (nI_add _ _) ?_
  refine pb_sld (j := i + 1) hx hb hX hbl hbA hS (by omega) (by omega) dL_law_278 ?_
  refine lv_aload_n hx hb dL_law_279 rfl (lv_at hl 1 rfl) ?_
  refine lv_iload_n hx hb dL_law_280 rfl (lv_at hl 0 rfl) ?_
  refine lv_iconst (v := nI 2) hx hb dL_law_281 (by decide +kernel) ?_
  refine lv_iadd hx hb dL_law_282 ?_
  refine pb_eqi (nI_add _ _) ?_
  refine pb_sld (j := i + 2) hx hb hX hbl hbA hS (by omega) (by omega) dL_law_283 ?_
  have hPc := hP.sub (ws' := (wC h0 h1 h2 h3 k1 k2 k3 (pr0 M) (pr1 M) (pr2 M) (n))) [0, 1, 2, 3] rfl
  have hKc := hK.sub (tys' := tC k1 k2 k3) [0, 1, 2] rfl
  refine pb_call (W.runV (As := [.int (xs (i + 1)), .int (xs (i + 2))]) (rest := []) ⟨hx, hb, hml, hown, hts⟩ (cC_covering l dC dI h0 h1 h2 h3 k1 k2 k3 (pr0 M) (pr1 M) (pr2 M) (n) hn (xs (i + 1)) (xs (i + 2))) (cwV 2 hts gL_law_X0_covering rfl rfl rfl (by decide +kernel) ⟨Nat.le_of_ble_eq_true rfl, Nat.le_of_ble_eq_true rfl⟩) (preC_V hPc hKc _) rfl rfl hl.1 rfl (lv_room (Nat.le_of_ble_eq_true rfl)) dL_law_284 ⟨(show 6 ≤ 600000 by decide), (show 9241 ≤ 7302250 by decide)⟩) ?_
  refine lv_aload_n hx hb dL_law_287 rfl (lv_at hl 3 rfl) ?_
  refine lv_aload_n hx hb dL_law_288 rfl (lv_at hl 1 rfl) ?_
  refine lv_iload_n hx hb dL_law_289 rfl (lv_at hl 0 rfl) ?_
  refine lv_iconst (v := nI 1) hx hb dL_law_290 (by decide +kernel) ?_
  refine lv_iadd hx hb dL_law_291 ?_
  refine pb_eqi (nI_add _ _) ?_
  refine pb_sld (j := i + 1) hx hb hX hbl hbA hS (by omega) (by omega) dL_law_292 ?_
  refine lv_aload_n hx hb dL_law_293 rfl (lv_at hl 1 rfl) ?_
  refine lv_iload_n hx hb dL_law_294 rfl (lv_at hl 0 rfl) ?_
  refine lv_iconst (v := nI 2) hx hb dL_law_295 (by decide +kernel) ?_
  refine lv_iadd hx hb dL_law_296 ?_
  refine pb_eqi (nI_add _ _) ?_
  refine pb_sld (j := i + 2) hx hb hX hbl hbA hS (by omega) (by omega) dL_law_297 ?_
  have hPc := hP.sub (ws' := (wR g0 g1 r1 (M) (n))) [4, 5] rfl
  have hDc := hD.sub (ws' := (wR g0 g1 r1 (M) (n))) [4, 5] (by decide) rfl
  have hKc := hK.sub (tys' := tR r1) [3] rfl
  have hFc := va_free (wc := (wR g0 g1 r1 (M) (n))) hD hS hA [4, 5] rfl
  refine va_calli (va_runV (As := [.int (xs (i + 1)), .int (xs (i + 2))]) (rest := [.int (pb_cv (pr0 M) (pr1 M) (pb_mid (xs (i + 1))) (pb_mid (xs (i + 2))) n)]) ⟨hx, hb, hml, hown, hts⟩ (cR_covering l dC dI g0 g1 r1 (M) (n) H.size hn (pb_LI_I1 hI) (xs (i + 1)) (xs (i + 2))) (cwV 2 hts gL_law_X1_covering rfl rfl rfl (by decide +kernel) ⟨Nat.le_of_ble_eq_true rfl, Nat.le_of_ble_eq_true rfl⟩) ⟨fun a U g mk q => by obtain ⟨q0, q1, qP, qK, qD⟩ := q; exact ⟨q0, q1, qP, va_K.moved (u := U) (U := U.calling g mk a) (Vm.Alike.refl U.vm) qK, qD⟩, va_recv hKc hPc (ci := 1) (q0 := 0) rfl rfl, fun U hU hW => ⟨rfl, by rw [hU], by rw [hU]; exact hPc, va_K.moved hW.alike hKc, hDc.weaken (fun _ _ _ _ => trivial)⟩⟩ rfl rfl hl.1 rfl (lv_room (Nat.le_of_ble_eq_true rfl)) dL_law_298 ⟨(show 6 ≤ 600000 by decide), (show 9241 ≤ 7302250 by decide)⟩) hS (fun q _ h => hFc q h) hFc (fun rr u t H1 locs ht hvm hw hB hz1 hk1 hS => ?_)
  obtain ⟨hP1, hD1⟩ := hB
  rw [ht] at hP1
  obtain ⟨hP, hD⟩ := va_join (wr := (wC h0 h1 h2 h3 k1 k2 k3 (pr0 M) (pr1 M) (pr2 M) (n))) (w1 := (wR g0 g1 r1 (M) (n))) hP hD [4, 5] [0, 1, 2, 3] rfl rfl (by decide) (by decide) hk1 hFc hP1 hD1
  have hP := hP.sub (ws' := [(h0, .inr (0, [.ref h1, .ref h2, .ref h3, .int (nI (n))])), (h1, .inl (k1, 1539, .inl (pr0 M))), (h2, .inl (k2, 1539, .inl (pr1 M))), (h3, .inl (k3, 1539, .inl (pr2 M))), (g0, .inr (1, [.int (nI 0), .int (nI (n)), .ref g1])), (g1, .inl (r1, 4617, .inl (M)))]) [0, 1, 2, 3, 4, 5] rfl
  have hD := hD.sub (ws' := [(h0, .inr (0, [.ref h1, .ref h2, .ref h3, .int (nI (n))])), (h1, .inl (k1, 1539, .inl (pr0 M))), (h2, .inl (k2, 1539, .inl (pr1 M))), (h3, .inl (k3, 1539, .inl (pr2 M))), (g0, .inr (1, [.int (nI 0), .int (nI (n)), .ref g1])), (g1, .inl (r1, 4617, .inl (M)))]) [0, 1, 2, 3, 4, 5] (by decide) rfl
  generalize H1 = H at hP hS ⊢
  try dsimp only at hw
  subst hw
  clear hPc hDc hKc hFc hP1 hD1 hk1 ht
  refine lv_icmp_eq (tgt := 349) hx hb dL_law_301 (by decide) (fun q1 => ?_) (fun q1 => ?_)
  · -- the same
    exact nx M n hI H _ hP hD hS ls hl
  · exact absurd rfl q1
set_option maxHeartbeats 4000000 in
set_option maxRecDepth 100000 in
theorem law_c8 {p : Program} {l : Launch} {e : Env} {s : State} {m : MethodId} {below : List Frame} {meth : Method} {c : Code} {dC : Nat → ClassId} {dI : Nat → Nat → Nat} {b L : Nat} {xs : Nat → Int32} (hL : L ≤ 2560) (C0 : lw_At p s m meth c b L xs) {h0 h1 h2 h3 : Nat} {k1 k2 k3 : ClassId} {g0 g1 : Nat} {r1 : ClassId} {i : Nat} (hi : i + 5 ≤ L) (nx : pb_NX p l e s m below meth c dC dI b i h0 h1 h2 h3 k1 k2 k3 g0 g1 r1) (hK : va_K (dC, dI) vwCl (tL k1 k2 k3 r1) s) {M : Nat → Int32} {n : Nat} (hI : pb_LI M n) {H : Heap} {locs : List Loc} (hP : va_P (dC, dI) vwCl (wL h0 h1 h2 h3 k1 k2 k3 g0 g1 r1 M n) H) (hD : va_D (fun q : Nat => s.heap.size ≤ q) (wL h0 h1 h2 h3 k1 k2 k3 g0 g1 r1 M n)) (hS : va_S (fun q : Nat => s.heap.size ≤ q) s.heap H locs) {ls : Array Slot} (hl : lv_has ls 4 [(3, .int (nI (i))), (0, .ref b), (1, .ref h0), (2, .ref g0)]) : W p l e room_1 s m #[Value.ref b] below meth c H locs 6 9241 (lw_Z below #[Value.ref b] s) (F0 m 306 ls []) := by
  obtain ⟨hx, hb, hr, hml, hown, hts, hX, hbl, hlocks, hgv⟩ := C0
  have hts := fun w h => hts w (wsL_law_in w h)
  have hA : ∀ q : Nat, s.heap.size ≤ q → (fun q : Nat => s.heap.size ≤ q) q := fun _ h => h
  have hbA : ¬ (fun q : Nat => s.heap.size ≤ q) b := Nat.not_le.mpr hbl
  have hn := hI.1
  refine lv_aload_n hx hb dL_law_306 rfl (lv_at hl 2 rfl) ?_
  refine lv_aload_n hx hb dL_law_307 rfl (lv_at hl 1 rfl) ?_
  refine lv_iload_n hx hb dL_law_308 rfl (lv_at hl 0 rfl) ?_
  refine lv_iconst (v := nI 1) hx hb dL_law_309 (by decide +kernel) ?_
  refine lv_iadd hx hb dL_law_310 ?_
  refine pb_eqi (nI_add _ _) ?_
  refine pb_sld (j := i + 1) hx hb hX hbl hbA hS (by omega) (by omega) dL_law_311 ?_
  refine lv_aload_n hx hb dL_law_312 rfl (lv_at hl 1 rfl) ?_
  refine lv_iload_n hx hb dL_law_313 rfl (lv_at hl 0 rfl) ?_
  refine lv_iconst (v := nI 2) hx hb dL_law_314 (by decide +kernel) ?_
  refine lv_iadd hx hb dL_law_315 ?_
  refine pb_eqi (nI_add _ _) ?_
  refine pb_sld (j := i + 2) hx hb hX hbl hbA hS (by omega) (by omega) dL_law_316 ?_
  refine lv_aload_n hx hb dL_law_317 rfl (lv_at hl 1 rfl) ?_
  refine lv_iload_n hx hb dL_law_318 rfl (lv_at hl 0 rfl) ?_
  refine lv_iconst (v := nI 3) hx hb dL_law_319 (by decide +kernel) ?_
  refine lv_iadd hx hb dL_law_320 ?_
  refine pb_eqi (nI_add _ _) ?_
  refine pb_sld (j := i + 3) hx hb hX hbl hbA hS (by omega) (by omega) dL_law_321 ?_
  have hPc := hP.sub (ws' := (wC h0 h1 h2 h3 k1 k2 k3 (pr0 M) (pr1 M) (pr2 M) (n))) [0, 1, 2, 3] rfl
  have hKc := hK.sub (tys' := tC k1 k2 k3) [0, 1, 2] rfl
  refine pb_call (W.runV (As := [.int (xs (i + 1)), .int (xs (i + 2)), .int (xs (i + 3))]) (rest := []) ⟨hx, hb, hml, hown, hts⟩ (cC_next l dC dI h0 h1 h2 h3 k1 k2 k3 (pr0 M) (pr1 M) (pr2 M) (n) hn (xs (i + 1)) (xs (i + 2)) (xs (i + 3))) (cwV 3 hts gL_law_X0_next rfl rfl rfl (by decide +kernel) ⟨Nat.le_of_ble_eq_true rfl, Nat.le_of_ble_eq_true rfl⟩) (preC_V hPc hKc _) rfl rfl hl.1 rfl (lv_room (Nat.le_of_ble_eq_true rfl)) dL_law_322 ⟨(show 6 ≤ 600000 by decide), (show 9241 ≤ 7302250 by decide)⟩) ?_
  refine lv_aload_n hx hb dL_law_325 rfl (lv_at hl 3 rfl) ?_
  refine lv_aload_n hx hb dL_law_326 rfl (lv_at hl 1 rfl) ?_
  refine lv_iload_n hx hb dL_law_327 rfl (lv_at hl 0 rfl) ?_
  refine lv_iconst (v := nI 1) hx hb dL_law_328 (by decide +kernel) ?_
  refine lv_iadd hx hb dL_law_329 ?_
  refine pb_eqi (nI_add _ _) ?_
  refine pb_sld (j := i + 1) hx hb hX hbl hbA hS (by omega) (by omega) dL_law_330 ?_
  refine lv_aload_n hx hb dL_law_331 rfl (lv_at hl 1 rfl) ?_
  refine lv_iload_n hx hb dL_law_332 rfl (lv_at hl 0 rfl) ?_
  refine lv_iconst (v := nI 2) hx hb dL_law_333 (by decide +kernel) ?_
  refine lv_iadd hx hb dL_law_334 ?_
  refine pb_eqi (nI_add _ _) ?_
  refine pb_sld (j := i + 2) hx hb hX hbl hbA hS (by omega) (by omega) dL_law_335 ?_
  refine lv_aload_n hx hb dL_law_336 rfl (lv_at hl 1 rfl) ?_
  refine lv_iload_n hx hb dL_law_337 rfl (lv_at hl 0 rfl) ?_
  refine lv_iconst (v := nI 3) hx hb dL_law_338 (by decide +kernel) ?_
  refine lv_iadd hx hb dL_law_339 ?_
  refine pb_eqi (nI_add _ _) ?_
  refine pb_sld (j := i + 3) hx hb hX hbl hbA hS (by omega) (by omega) dL_law_340 ?_
  have hPc := hP.sub (ws' := (wR g0 g1 r1 (M) (n))) [4, 5] rfl
  have hDc := hD.sub (ws' := (wR g0 g1 r1 (M) (n))) [4, 5] (by decide) rfl
  have hKc := hK.sub (tys' := tR r1) [3] rfl
  have hFc := va_free (wc := (wR g0 g1 r1 (M) (n))) hD hS hA [4, 5] rfl
  refine va_calli (va_runV (As := [.int (xs (i + 1)), .int (xs (i + 2)), .int (xs (i + 3))]) (rest := [.int (pb_next (pr0 M) (pr1 M) (pb_mid (xs (i + 1))) (pb_mid (xs (i + 2))) n (xs (i + 3)))]) ⟨hx, hb, hml, hown, hts⟩ (cR_next l dC dI g0 g1 r1 (M) (n) H.size hn (pb_LI_I1 hI) (xs (i + 1)) (xs (i + 2)) (xs (i + 3))) (cwV 3 hts gL_law_X1_next rfl rfl rfl (by decide +kernel) ⟨Nat.le_of_ble_eq_true rfl, Nat.le_of_ble_eq_true rfl⟩) ⟨fun a U g mk q => by obtain ⟨q0, q1, qP, qK, qD⟩ := q; exact ⟨q0, q1, qP, va_K.moved (u := U) (U := U.calling g mk a) (Vm.Alike.refl U.vm) qK, qD⟩, va_recv hKc hPc (ci := 1) (q0 := 0) rfl rfl, fun U hU hW => ⟨rfl, by rw [hU], by rw [hU]; exact hPc, va_K.moved hW.alike hKc, hDc.weaken (fun _ _ _ _ => trivial)⟩⟩ rfl rfl hl.1 rfl (lv_room (Nat.le_of_ble_eq_true rfl)) dL_law_341 ⟨(show 6 ≤ 600000 by decide), (show 9241 ≤ 7302250 by decide)⟩) hS (fun q _ h => hFc q h) hFc (fun rr u t H1 locs ht hvm hw hB hz1 hk1 hS => ?_)
  obtain ⟨hP1, hD1⟩ := hB
  rw [ht] at hP1
  obtain ⟨hP, hD⟩ := va_join (wr := (wC h0 h1 h2 h3 k1 k2 k3 (pr0 M) (pr1 M) (pr2 M) (n))) (w1 := (wR g0 g1 r1 (M) (n))) hP hD [4, 5] [0, 1, 2, 3] rfl rfl (by decide) (by decide) hk1 hFc hP1 hD1
  have hP := hP.sub (ws' := [(h0, .inr (0, [.ref h1, .ref h2, .ref h3, .int (nI (n))])), (h1, .inl (k1, 1539, .inl (pr0 M))), (h2, .inl (k2, 1539, .inl (pr1 M))), (h3, .inl (k3, 1539, .inl (pr2 M))), (g0, .inr (1, [.int (nI 0), .int (nI (n)), .ref g1])), (g1, .inl (r1, 4617, .inl (M)))]) [0, 1, 2, 3, 4, 5] rfl
  have hD := hD.sub (ws' := [(h0, .inr (0, [.ref h1, .ref h2, .ref h3, .int (nI (n))])), (h1, .inl (k1, 1539, .inl (pr0 M))), (h2, .inl (k2, 1539, .inl (pr1 M))), (h3, .inl (k3, 1539, .inl (pr2 M))), (g0, .inr (1, [.int (nI 0), .int (nI (n)), .ref g1])), (g1, .inl (r1, 4617, .inl (M)))]) [0, 1, 2, 3, 4, 5] (by decide) rfl
  generalize H1 = H at hP hS ⊢
  try dsimp only at hw
  subst hw
  clear hPc hDc hKc hFc hP1 hD1 hk1 ht
  refine lv_icmp_eq (tgt := 349) hx hb dL_law_344 (by decide) (fun q1 => ?_) (fun q1 => ?_)
  · -- the same
    exact nx M n hI H _ hP hD hS ls hl
  · exact absurd rfl q1
end
section
set_option maxHeartbeats 4000000 in
set_option maxRecDepth 100000 in
theorem law_loop {p : Program} {l : Launch} {e : Env} {s : State} {m : MethodId} {below : List Frame} {meth : Method} {c : Code} {dC : Nat → ClassId} {dI : Nat → Nat → Nat} {b L : Nat} {xs : Nat → Int32} (hL : L ≤ 2560) (C0 : lw_At p s m meth c b L xs) {h0 h1 h2 h3 : Nat} {k1 k2 k3 : ClassId} {g0 g1 : Nat} {r1 : ClassId} (hK : va_K (dC, dI) vwCl (tL k1 k2 k3 r1) s) : ∀ (d i : Nat), L < i + 5 + d → i ≤ 2565 → ∀ (M : Nat → Int32) (n : Nat), pb_LI M n → ∀ (H : Heap) (locs : List Loc), va_P (dC, dI) vwCl (wL h0 h1 h2 h3 k1 k2 k3 g0 g1 r1 M n) H → va_D (fun q : Nat => s.heap.size ≤ q) (wL h0 h1 h2 h3 k1 k2 k3 g0 g1 r1 M n) → va_S (fun q : Nat => s.heap.size ≤ q) s.heap H locs → ∀ ls : Array Slot, lv_has ls 4 [(3, .int (nI (i))), (0, .ref b), (1, .ref h0), (2, .ref g0)] → W p l e room_1 s m #[Value.ref b] below meth c H locs 6 9241 (lw_Z below #[Value.ref b] s) (F0 m 18 ls []) := by
  obtain ⟨hx, hb, hr, hml, hown, hts, hX, hbl, hlocks, hgv⟩ := id C0
  have hbA : ¬ (fun q : Nat => s.heap.size ≤ q) b := Nat.not_le.mpr hbl
  have fin : ∀ (H : Heap) (locs : List Loc), va_S (fun q : Nat => s.heap.size ≤ q) s.heap H locs → ∀ ls : Array Slot, W p l e room_1 s m #[Value.ref b] below meth c H locs 6 9241 (lw_Z below #[Value.ref b] s) (F0 m 355 ls []) := by
    intro H locs hS ls
    refine lv_iconst (v := 1) hx hb dL_law_355 (by decide +kernel) ?_
    refine va_forget (fun q hq => hS.2.2 q hq) ?_
    refine W.widen (k := 600000) (n := 7302250) (by decide) (by decide) ?_
    exact lw_ret hx hb hr hlocks dL_law_356
  intro d
  induction d with
  | zero =>
    intro i hd hi M n hI H locs hP hD hS ls hl
    refine lv_iload_n hx hb dL_law_18 rfl (lv_at hl 0 rfl) ?_
    refine lv_aload_n hx hb dL_law_19 rfl (lv_at hl 1 rfl) ?_
    refine va_slen hx hb hX hbl hbA hS dL_law_20 ?_
    refine pb_eqi (show Int32.ofNat L = nI L from rfl) ?_
    refine lv_iconst (v := 5) hx hb dL_law_21 (by decide +kernel) ?_
    refine lv_isub hx hb dL_law_22 ?_
    refine lv_icmp_gt (tgt := 355) hx hb dL_law_23 (by decide) (fun q1 => ?_) (fun q1 => ?_)
    · exact fin H locs hS ls
    · exact absurd ((pb_lim hi hL).mpr (by omega)) q1
  | succ d ih =>
    intro i hd hi M n hI H locs hP hD hS ls hl
    refine lv_iload_n hx hb dL_law_18 rfl (lv_at hl 0 rfl) ?_
    refine lv_aload_n hx hb dL_law_19 rfl (lv_at hl 1 rfl) ?_
    refine va_slen hx hb hX hbl hbA hS dL_law_20 ?_
    refine pb_eqi (show Int32.ofNat L = nI L from rfl) ?_
    refine lv_iconst (v := 5) hx hb dL_law_21 (by decide +kernel) ?_
    refine lv_isub hx hb dL_law_22 ?_
    refine lv_icmp_gt (tgt := 355) hx hb dL_law_23 (by decide) (fun q1 => ?_) (fun q1 => ?_)
    · exact fin H locs hS ls
    · have hi5 : i + 5 ≤ L := Nat.not_lt.mp (fun h => q1 ((pb_lim hi hL).mpr h))
      have nx : pb_NX p l e s m below meth c dC dI b i h0 h1 h2 h3 k1 k2 k3 g0 g1 r1 := by
        intro M n hI H locs hP hD hS ls hl
        refine lv_iinc (v := nI (i + 5)) (lv' := [(3, .int (nI (i + 5))), (0, .ref b), (1, .ref h0), (2, .ref g0)]) hx hb dL_law_349 hl (k := 0) rfl (by rw [show Int32.ofInt 5 = nI 5 by decide +kernel]; exact nI_add i 5) (by decide) rfl (fun ls hl => ?_)
        refine lv_goto (tgt := 18) hx hb dL_law_352 (by decide) ?_
        exact ih (i + 5) (by omega) (by omega) M n hI H locs hP hD hS ls hl
      refine lv_aload_n hx hb dL_law_26 rfl (lv_at hl 1 rfl) ?_
      refine lv_iload_n hx hb dL_law_27 rfl (lv_at hl 0 rfl) ?_
      refine pb_sld (j := i) hx hb hX hbl hbA hS (by omega) (by omega) dL_law_28 ?_
      refine lv_bipush (v := 15) hx hb dL_law_29 (by decide +kernel) ?_
      refine lv_iand hx hb dL_law_31 ?_
      obtain ⟨j, hj, ej⟩ := pk_andE (xs i) (m := 15) 4 (by decide +kernel)
      refine pb_eqi ej ?_
      have hj9 : j = 0 ∨ j = 1 ∨ j = 2 ∨ j = 3 ∨ j = 4 ∨ j = 5 ∨ j = 6 ∨ j = 7 ∨ j = 8 ∨ 9 ≤ j := by omega
      rcases hj9 with rfl | rfl | rfl | rfl | rfl | rfl | rfl | rfl | rfl | hj9
      · refine lv_tableIn (off := 52) (tgt := 84) hx hb dL_law_32 (by decide +kernel) (by decide +kernel) (by decide +kernel) (by decide) ?_
        exact law_c0 hL C0 hi5 nx hK hI hP hD hS hl
      · refine lv_tableIn (off := 105) (tgt := 137) hx hb dL_law_32 (by decide +kernel) (by decide +kernel) (by decide +kernel) (by decide) ?_
        exact law_c1 hL C0 hi5 nx hK hI hP hD hS hl
      · refine lv_tableIn (off := 118) (tgt := 150) hx hb dL_law_32 (by decide +kernel) (by decide +kernel) (by decide +kernel) (by decide) ?_
        exact law_c2 hL C0 hi5 nx hK hI hP hD hS hl
      · refine lv_tableIn (off := 129) (tgt := 161) hx hb dL_law_32 (by decide +kernel) (by decide +kernel) (by decide +kernel) (by decide) ?_
        exact law_c3 hL C0 hi5 nx hK hI hP hD hS hl
      · refine lv_tableIn (off := 142) (tgt := 174) hx hb dL_law_32 (by decide +kernel) (by decide +kernel) (by decide +kernel) (by decide) ?_
        exact law_c4 hL C0 hi5 nx hK hI hP hD hS hl
      · refine lv_tableIn (off := 165) (tgt := 197) hx hb dL_law_32 (by decide +kernel) (by decide +kernel) (by decide +kernel) (by decide) ?_
        exact law_c5 hL C0 hi5 nx hK hI hP hD hS hl
      · refine lv_tableIn (off := 208) (tgt := 240) hx hb dL_law_32 (by decide +kernel) (by decide +kernel) (by decide +kernel) (by decide) ?_
        exact law_c6 hL C0 hi5 nx hK hI hP hD hS hl
      · refine lv_tableIn (off := 241) (tgt := 273) hx hb dL_law_32 (by decide +kernel) (by decide +kernel) (by decide +kernel) (by decide) ?_
        exact law_c7 hL C0 hi5 nx hK hI hP hD hS hl
      · refine lv_tableIn (off := 274) (tgt := 306) hx hb dL_law_32 (by decide +kernel) (by decide +kernel) (by decide +kernel) (by decide) ?_
        exact law_c8 hL C0 hi5 nx hK hI hP hD hS hl
      · refine lv_tableOut (tgt := 349) hx hb dL_law_32 (Or.inr (by rw [nI_toInt (by omega)]; omega)) (by decide) ?_
        exact nx M n hI H locs hP hD hS ls hl
set_option maxHeartbeats 4000000 in
set_option maxRecDepth 100000 in
theorem whole_start {p : Program} {e : Env} {s : State} {m : MethodId} {below : List Frame} {meth : Method} {c : Code} (l : Launch) {b L : Nat} {xs : Nat → Int32} (hL : L ≤ 2560) (C0 : lw_At p s m meth c b L xs) : W p l e room_1 s m #[Value.ref b] below meth c s.heap [] 0 0 (lw_Z below #[Value.ref b] s) (entryFrame m ([Value.ref b] : List Value).toArray 4) := by
  obtain ⟨hx, hb, hr, hml, hown, hts, hX, hbl, hlocks, hgv⟩ := id C0
  have hts := fun w h => hts w (wsL_law_in w h)
  have hA : ∀ q : Nat, s.heap.size ≤ q → (fun q : Nat => s.heap.size ≤ q) q := fun _ h => h
  obtain ⟨c0, iS0, hKn0⟩ := u_known (C := RX0) (T := TX0) (N := 4) (n := 4) hts inlX0 (hts (.instantiable RX0 4) (by decide +kernel))
  obtain ⟨c1, iS1, hKn1⟩ := u_known (C := RX1) (T := TX1) (N := 3) (n := 3) hts inlX1 (hts (.instantiable RX1 3) (by decide +kernel))
  obtain ⟨dC, dI, hKc⟩ : ∃ (dC : Nat → ClassId) (dI : Nat → Nat → Nat), ∀ (k : Nat) (q : vw_C), vwCl[k]? = some q → u_Kn s q.1 q.2.1 q.2.2 (dC k) (dI k) := by
    refine ⟨fun k => if k = 0 then c0 else c1, fun k => if k = 0 then iS0 else iS1, ?_⟩
    intro k q hq
    match k, hq with
    | 0, hq => cases hq; exact hKn0
    | 1, hq => cases hq; exact hKn1
    | k + 2, hq => simp [vwCl] at hq
  have hS : va_S (fun q : Nat => s.heap.size ≤ q) s.heap s.heap [] := va_S.rf
  have hK : va_K (dC, dI) vwCl [] s := ⟨hKc, fun k q h => by simp at h⟩
  have hP : va_P (dC, dI) vwCl [] s.heap := fun k q h => by simp at h
  have hD : va_D (fun q : Nat => s.heap.size ≤ q) [] := ⟨fun i j p q h => by simp at h, fun k q h => by simp at h⟩
  clear hKc hKn0 hKn1
  have hl := lv_entry ([.ref b]) (n := 4) (Nat.le_of_ble_eq_true rfl)
  rw [lg_entry_eq]
  generalize (lg_sl ([.ref b]) ++ List.replicate (4 - (lg_sl ([.ref b])).length) Slot.unset).toArray = ls at hl ⊢
  have hl : lv_has ls 4 [(0, .ref b)] := hl
  refine va_new (ci := 0) (fs := [.null, .null, .null, .int 0]) (C := RX0) (T := TX0) (N := 4) hx hb hts inlX0 tyX0 tyX0_ok hown (hts (.classLink RL 7 RX0) (by decide +kernel)) (hts (.instantiable RX0 4) (by decide +kernel)) (hts (.initialized RX0) (by decide +kernel)) hK hP hD hS hA rfl (fun j hj => by rcases (show j = 0 ∨ j = 1 ∨ j = 2 ∨ j = 3 by omega) with rfl | rfl | rfl | rfl <;> rfl) (show 1 ≤ 600000 by decide) (show 4 ≤ 7302250 by decide) dL_law_0 (fun h0 H hP hD hS => ?_)
  have hP : va_P (dC, dI) vwCl [(h0, .inr (0, [.null, .null, .null, .int 0]))] H := hP
  have hD : va_D (fun q : Nat => s.heap.size ≤ q) [(h0, .inr (0, [.null, .null, .null, .int 0]))] := hD
  refine W.widen (k := 1) (n := 4) (by omega) (by omega) ?_
  refine lv_dup hx hb dL_law_3 rfl ?_
  have hFc := va_free (wc := [(h0, .inr (0, [.null, .null, .null, .int 0]))]) hD hS hA [0] rfl
  refine va_callv (va_runI (As := []) (rest := [.ref h0]) ⟨hx, hb, hml, hown, hts⟩ (cC_init l dC dI h0 H.size) (cwI 0 hts gL_law_X0_init rfl rfl rfl (hts (.initialized RX0) (by decide +kernel)) (hts (.methodLink RL 9 yX0_init) (by decide +kernel)) (hts (.instanceMethod yX0_init) (by decide +kernel)) rfl (by decide +kernel) ⟨Nat.le_of_ble_eq_true rfl, Nat.le_of_ble_eq_true rfl⟩) ⟨fun a U g mk q => by obtain ⟨q0, q1, qP, qK, qD⟩ := q; exact ⟨q0, q1, qP, va_K.moved (u := U) (U := U.calling g mk a) (Vm.Alike.refl U.vm) qK, qD⟩, fun U hU hW => ⟨rfl, by rw [hU], by rw [hU]; exact hP, va_K.moved hW.alike hK, hD.weaken (fun _ _ _ _ => trivial)⟩⟩ rfl rfl hl.1 rfl (lv_room (Nat.le_of_ble_eq_true rfl)) dL_law_4 ⟨(show 4 ≤ 600000 by decide), (show 4621 ≤ 7302250 by decide)⟩) hS (fun q _ h => hFc q h) hFc (fun u t H1 locs ht hvm hw hB hz1 hk1 hS => ?_)
  obtain ⟨h1, h2, h3, k1, k2, k3, hP1, hK1, hD1⟩ := hB
  rw [ht] at hP1
  have hK1 := va_K.moved hvm.symm hK1
  obtain ⟨hP, hD⟩ := va_join (wr := []) (w1 := wC h0 h1 h2 h3 k1 k2 k3 pb_z pb_z pb_z1 0) hP hD [0] [] rfl rfl (by decide) (by decide) hk1 hFc hP1 hD1
  generalize H1 = H at hP hS ⊢
  clear hFc hP1 hD1 hk1 ht hw hz1 hvm hK
  have hK : va_K (dC, dI) vwCl (tC k1 k2 k3) s := hK1
  have hP : va_P (dC, dI) vwCl (wC h0 h1 h2 h3 k1 k2 k3 pb_z pb_z pb_z1 0) H := hP
  have hD : va_D (fun q : Nat => s.heap.size ≤ q) (wC h0 h1 h2 h3 k1 k2 k3 pb_z pb_z pb_z1 0) := hD
  refine W.widen (k := 4) (n := 4621) (by omega) (by omega) ?_
  refine lv_astore_n (lv' := [(1, .ref h0), (0, .ref b)]) hx hb dL_law_7 rfl hl (by decide) rfl (fun ls hl => ?_)
  refine va_new (ci := 1) (fs := [.int 0, .int 0, .null]) (C := RX1) (T := TX1) (N := 3) hx hb hts inlX1 tyX1 tyX1_ok hown (hts (.classLink RL 10 RX1) (by decide +kernel)) (hts (.instantiable RX1 3) (by decide +kernel)) (hts (.initialized RX1) (by decide +kernel)) hK hP hD hS hA rfl (fun j hj => by rcases (show j = 0 ∨ j = 1 ∨ j = 2 by omega) with rfl | rfl | rfl <;> rfl) (show 5 ≤ 600000 by decide) (show 4624 ≤ 7302250 by decide) dL_law_8 (fun g0 H hP hD hS => ?_)
  have hP : va_P (dC, dI) vwCl [(h0, .inr (0, [.ref h1, .ref h2, .ref h3, .int (nI 0)])), (h1, .inl (k1, 1539, .inl pb_z)), (h2, .inl (k2, 1539, .inl pb_z)), (h3, .inl (k3, 1539, .inl pb_z1)), (g0, .inr (1, [.int 0, .int 0, .null]))] H := hP
  have hD : va_D (fun q : Nat => s.heap.size ≤ q) [(h0, .inr (0, [.ref h1, .ref h2, .ref h3, .int (nI 0)])), (h1, .inl (k1, 1539, .inl pb_z)), (h2, .inl (k2, 1539, .inl pb_z)), (h3, .inl (k3, 1539, .inl pb_z1)), (g0, .inr (1, [.int 0, .int 0, .null]))] := hD
  refine W.widen (k := 5) (n := 4624) (by omega) (by omega) ?_
  refine lv_dup hx hb dL_law_11 rfl ?_
  have hPc := hP.sub (ws' := [(g0, .inr (1, [.int 0, .int 0, .null]))]) [4] rfl
  have hDc := hD.sub (ws' := [(g0, .inr (1, [.int 0, .int 0, .null]))]) [4] (by decide) rfl
  have hKc := hK.sub (tys' := []) [] rfl
  have hFc := va_free (wc := [(g0, .inr (1, [.int 0, .int 0, .null]))]) hD hS hA [4] rfl
  refine va_callv (va_runI (As := []) (rest := [.ref g0]) ⟨hx, hb, hml, hown, hts⟩ (cR_init l dC dI g0 H.size) (cwI 0 hts gL_law_X1_init rfl rfl rfl (hts (.initialized RX1) (by decide +kernel)) (hts (.methodLink RL 12 yX1_init) (by decide +kernel)) (hts (.instanceMethod yX1_init) (by decide +kernel)) rfl (by decide +kernel) ⟨Nat.le_of_ble_eq_true rfl, Nat.le_of_ble_eq_true rfl⟩) ⟨fun a U g mk q => by obtain ⟨q0, q1, qP, qK, qD⟩ := q; exact ⟨q0, q1, qP, va_K.moved (u := U) (U := U.calling g mk a) (Vm.Alike.refl U.vm) qK, qD⟩, fun U hU hW => ⟨rfl, by rw [hU], by rw [hU]; exact hPc, va_K.moved hW.alike hKc, hDc.weaken (fun _ _ _ _ => trivial)⟩⟩ rfl rfl hl.1 rfl (lv_room (Nat.le_of_ble_eq_true rfl)) dL_law_12 ⟨(show 6 ≤ 600000 by decide), (show 9241 ≤ 7302250 by decide)⟩) hS (fun q _ h => hFc q h) hFc (fun u t H1 locs ht hvm hw hB hz1 hk1 hS => ?_)
  obtain ⟨g1, r1, hP1, hK1, hD1⟩ := hB
  rw [ht] at hP1
  have hK1 := va_K.moved hvm.symm hK1
  obtain ⟨hP, hD⟩ := va_join (wr := wC h0 h1 h2 h3 k1 k2 k3 pb_z pb_z pb_z1 0) (w1 := wR g0 g1 r1 pb_m0 0) hP hD [4] [0, 1, 2, 3] rfl rfl (by decide) (by decide) hk1 hFc hP1 hD1
  generalize H1 = H at hP hS ⊢
  have hK : va_K (dC, dI) vwCl (tL k1 k2 k3 r1) s := hK.app hK1
  have hP : va_P (dC, dI) vwCl [(h0, .inr (0, [.ref h1, .ref h2, .ref h3, .int (nI 0)])), (h1, .inl (k1, 1539, .inl pb_z)), (h2, .inl (k2, 1539, .inl pb_z)), (h3, .inl (k3, 1539, .inl pb_z1)), (g0, .inr (1, [.int (nI 0), .int (nI 0), .ref g1])), (g1, .inl (r1, 4617, .inl pb_m0))] H := hP
  have hD : va_D (fun q : Nat => s.heap.size ≤ q) [(h0, .inr (0, [.ref h1, .ref h2, .ref h3, .int (nI 0)])), (h1, .inl (k1, 1539, .inl pb_z)), (h2, .inl (k2, 1539, .inl pb_z)), (h3, .inl (k3, 1539, .inl pb_z1)), (g0, .inr (1, [.int (nI 0), .int (nI 0), .ref g1])), (g1, .inl (r1, 4617, .inl pb_m0))] := hD
  have eP : wL h0 h1 h2 h3 k1 k2 k3 g0 g1 r1 pb_m0 0 = [(h0, .inr (0, [.ref h1, .ref h2, .ref h3, .int (nI 0)])), (h1, .inl (k1, 1539, .inl pb_z)), (h2, .inl (k2, 1539, .inl pb_z)), (h3, .inl (k3, 1539, .inl pb_z1)), (g0, .inr (1, [.int (nI 0), .int (nI 0), .ref g1])), (g1, .inl (r1, 4617, .inl pb_m0))] := by
    show ([(h0, .inr (0, [.ref h1, .ref h2, .ref h3, .int (nI 0)])), (h1, .inl (k1, 1539, .inl (pr0 pb_m0))), (h2, .inl (k2, 1539, .inl (pr1 pb_m0))), (h3, .inl (k3, 1539, .inl (pr2 pb_m0))), (g0, .inr (1, [.int (nI 0), .int (nI 0), .ref g1])), (g1, .inl (r1, 4617, .inl pb_m0))] : va_W) = _
    rw [pb_rel_00, pb_rel_01, pb_rel_02]
  rw [← eP] at hP hD
  refine W.widen (k := 6) (n := 9241) (by omega) (by omega) ?_
  refine lv_astore_n (lv' := [(2, .ref g0), (1, .ref h0), (0, .ref b)]) hx hb dL_law_15 rfl hl (by decide) rfl (fun ls hl => ?_)
  refine lv_iconst (v := nI 0) hx hb dL_law_16 (by decide +kernel) ?_
  refine lv_istore_n (lv' := [(3, .int (nI 0)), (2, .ref g0), (1, .ref h0), (0, .ref b)]) hx hb dL_law_17 rfl hl (by decide) rfl (fun ls hl => ?_)
  exact law_loop hL C0 hK (L + 1) 0 (by omega) (by decide) pb_m0 0 pb_LI_0 H _ hP hD hS ls (lv_sub hl [0, 3, 2, 1] rfl)
end
section
set_option maxHeartbeats 4000000 in
theorem lw_walk (l : Launch) (b : Addr) (xs : List Int32) : MetFree l x (headSpec (Jvm.Cond.code x code maxLocals ret :: tables_1) room_1) (lw_P b xs) (fun _ _ _ _ _ => True) lw_Q := by
  refine MetFree.of_bodyS (code := code) (maxLocals := maxLocals) (ret := ret) (by decide) ?_ ?_
  · intro args s m h hn
    obtain ⟨meth, c, h1, h2, h3, h4, h5, h6, -, -⟩ := Cond.code_spec hn (atoms_spec (ws := Jvm.Cond.code x code maxLocals ret :: tables_1) h _ List.mem_cons_self)
    exact ⟨meth, c, h1, h2, h3, h4, h5, h6⟩
  · intro p e s m args below meth c s₁ B hml0 hP _
    obtain ⟨rfl, hx, hbd, hgv⟩ := hP
    obtain ⟨scr, harrAt, hlist, hof, hsmall⟩ := hx
    obtain ⟨hcb, hkn, -, -⟩ := State.arrayAt?_spec harrAt
    have hown : s.vm.findClass R_law = some m.cls := findClass_of_methodNamed B.named
    have hts0 : ∀ c ∈ (Jvm.Cond.code x code maxLocals ret :: tables_1), c.before #[Value.ref b] s = true := atoms_spec (ws := Jvm.Cond.code x code maxLocals ret :: tables_1) B.pre
    have hts : ∀ w ∈ lw_tbl, w.before #[Value.ref b] s = true := k2_hts_sels lw_privs (fun w hw => hts0 w (List.mem_cons_of_mem _ hw)) lw_privs_ok
    have hml : c.maxLocals = 4 := B.maxLocals_eq (hts0 _ List.mem_cons_self)
    have X₀ : Stand p l e room_1 s m #[Value.ref b] below meth c s₁ [] 0 0 := Stand.of_body B
    have hh0 : s₁.heap = s.heap := by rw [B.state]; rfl
    have hsz : scr.slots.size = xs.length := by rw [← Array.length_toList, hlist, List.length_map]
    have hval : ∀ j : Nat, j < xs.length → scr.slots[j]? = some (.int (xs.getD j 0)) := fun j hj => by
      rw [← Array.getElem?_toList, hlist]
      simp [hj]
    have hbl : b < s.heap.size := (Array.getElem?_eq_some_iff.mp hcb).1
    have hX : va_X b xs.length (fun j => xs.getD j 0) s s.heap := ⟨scr, hcb, hof, hkn, hsz, hval⟩
    have K : W p l e room_1 s m #[Value.ref b] below meth c s₁.heap [] 0 0 (lw_Z below #[Value.ref b] s) (entryFrame m ([Value.ref b] : List Value).toArray 4) := by
      rw [hh0]
      exact whole_start l hbd ⟨B.exec, B.bytes, B.returns, hml, hown, hts, hX, hbl, B.notSynchronized, hgv⟩
    obtain ⟨t, a1, o, b1, b2, b3⟩ := K s₁ rfl X₀
    exact ⟨t, o, a1, b1, b2, b3⟩
theorem lw_pre_spec {args : Array Value} {s : State} (h : (Jvm.Cond.and given_1 narrow_1).before args s = true) (hr : rest_1_c.before args s = true) : ∃ (b : Addr) (xs : List Int32), lw_P b xs args s := by
  have hs := flat_of_before _ h
  have hq := flat_of_before _ hr
  have hc : (Cond.count 1).before args s = true := hs _ (by decide +kernel)
  have harr : (Cond.arrayOf (.arg 0) .int).before args s = true := hs _ (by decide +kernel)
  have hle : (Cond.le (.length (.arg 0)) (.int 2560)).before args s = true := hs _ (by decide +kernel)
  have hlen : (Cond.isInt (.length (.arg 0))).before args s = true := hq _ (by decide +kernel)
  have hall : (Cond.all (.arg 0) (.isInt (.elem (.arg 0) (.index 0)))).before args s = true := hq _ (by decide +kernel)
  obtain ⟨b, xs, hb, hx⟩ := State.ints_of_pre rfl harr hlen hall
  have hsm : xs.length < 2 ^ 31 := hx.choose_spec.2.2.2
  have hev : (Term.length (.arg 0)).eval args s none [] s = some (.int xs.length.toInt32) := hx.length_eval hb
  have hv := Cond.le_ints hev (show (Term.int 2560).eval args s none [] s = some (.int 2560) from rfl)
  have hd : xs.length.toInt32 ≤ 2560 := by
    simpa [Cond.before, Cond.holds, hv] using hle
  have hN : xs.length ≤ 2560 := (Int32.ofNat_le_ofNat hsm (by decide)).mp (show Int32.ofNat xs.length ≤ Int32.ofNat 2560 from hd)
  exact ⟨b, xs, Cond.one_arg hc (show args[0]? = some (.ref b) from hb), hx, hN, h⟩
theorem lw_comes (l : Launch) : Comes l x (Jvm.Cond.code x code maxLocals ret :: tables_1) room_1 (fun tb e args s => Calls_1 tb e args s ∧ rest_1 tb e args s ∧ Pre_1 tb e args s)
    (fun _ _ args s o t => lw_Q args s o t) := by
  intro p e ha hc hk s m args below hf hfit hheap happ hpre
  obtain ⟨b, xs, hP⟩ := lw_pre_spec hpre.2.2 hpre.2.1
  obtain ⟨k, o, h1, h2, h3, hQ⟩ := lw_walk l b xs p e ha hc hk s m args below hf ((Spec.applies_iff_loose hf).mp happ).1 hP trivial
  exact ⟨k, o, h1, h2, h3, hQ⟩
theorem lw_frame {s t : State} {o : Outcome} {args : Array Value} (h : Framed s o t [] 600000 7302250) :
    Framed s o t (fieldLocs frame_1_writes args s ++ arrayLocs frame_1_arrays args s ++ staticLocs frame_1_statics s) 600000 7302250 := h
theorem lw_limb (L : Cond) (hL : ∀ (args : Array Value) (s t : State), L.after args s (.returned (some (.int 1))) t = true) :
    ArmFor flags0 classFile x code maxLocals ret World_1 tables_1 room_1 Calls_1 rest_1 Pre_1
      (fun tb e a s o t => postC L tb e a s o t ∧ Framed s o t (fieldLocs frame_1_writes a s ++ arrayLocs frame_1_arrays a s ++ staticLocs frame_1_statics s) 600000 7302250) := by
  intro l _ _ _ p e ha hc hk s m args below hf hfit hheap happ hpre
  obtain ⟨k, o, h1, h2, h3, rfl, hF⟩ := lw_comes l p e ha hc hk s m args below hf hfit hheap happ hpre
  exact ⟨k, _, h1, h2, h3, hL args s _, lw_frame hF⟩
theorem i_vc : Claimed_1_1 ∧ Claimed_1_2 := ⟨lw_limb limb_1_1 (fun args s t => by simp [limb_1_1, Cond.after, Cond.holds, Cond.value]), lw_limb limb_1_2 (fun args s t => Cond.after_iff.mpr (by
  first | (rw [show limb_1_2 = Cond.eq .result (.int 1) from rfl, Cond.eq_ints (x := 1) (y := 1) rfl rfl]; simp; done) | (simp [limb_1_2, Cond.value, Term.eval]; done)))⟩
end
