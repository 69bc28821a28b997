/-! ===== BEGIN printed: names, fields, word lists, decode rows ===== -/
def RX0 : String := "PachisiYard$Board"
def TX0 : u_T := fun k => match k with
  | 0 => ("PachisiYard$Board", "positions", "[I", true)
  | _ => ("PachisiYard$Board", "counts", "[I", true)
def tyX0 : Nat → FieldType := fun k => match k with
  | 0 => .array .int
  | _ => .array .int
abbrev wsX00 : List Cond := u_ws RX0 TX0 2
theorem nmX0 : ∀ a, a < 2 → ∀ b, b < 2 → a ≠ b → (TX0 a).2.1 ≠ (TX0 b).2.1 := by decide +kernel
theorem tyX0_ok : ∀ k, k < 2 → parseFieldDescriptor (TX0 k).2.2.1 = some (tyX0 k) := by decide +kernel
abbrev cX0_init : ByteArray := prog_2_method_1_code
def yX0_init : MethodName := ⟨RX0, "<init>", "()V"⟩
abbrev cX0_positionOf : ByteArray := prog_2_method_2_code
def yX0_positionOf : MethodName := ⟨RX0, "positionOf", "(II)I"⟩
abbrev cX0_squareAt : ByteArray := prog_2_method_3_code
def yX0_squareAt : MethodName := ⟨RX0, "squareAt", "(II)I"⟩
abbrev cX0_countOn : ByteArray := prog_2_method_4_code
def yX0_countOn : MethodName := ⟨RX0, "countOn", "(II)I"⟩
abbrev cX0_countHome : ByteArray := prog_2_method_5_code
def yX0_countHome : MethodName := ⟨RX0, "countHome", "(I)I"⟩
abbrev cX0_distanceOf : ByteArray := prog_2_method_6_code
def yX0_distanceOf : MethodName := ⟨RX0, "distanceOf", "(I)I"⟩
abbrev cX0_isTeamHome : ByteArray := prog_2_method_7_code
def yX0_isTeamHome : MethodName := ⟨RX0, "isTeamHome", "(I)Z"⟩
abbrev cX0_moverFor : ByteArray := prog_2_method_8_code
def yX0_moverFor : MethodName := ⟨RX0, "moverFor", "(I)I"⟩
abbrev cX0_place : ByteArray := prog_2_method_9_code
def yX0_place : MethodName := ⟨RX0, "place", "(III)V"⟩
abbrev cX0_addOn : ByteArray := prog_2_method_10_code
def yX0_addOn : MethodName := ⟨RX0, "addOn", "(III)V"⟩
abbrev cX0_sendToYard : ByteArray := prog_2_method_11_code
def yX0_sendToYard : MethodName := ⟨RX0, "sendToYard", "(II)V"⟩
abbrev cX0_targetOf : ByteArray := prog_2_method_12_code
def yX0_targetOf : MethodName := ⟨RX0, "targetOf", "(III)I"⟩
abbrev cX0_isWayFree : ByteArray := prog_2_method_13_code
def yX0_isWayFree : MethodName := ⟨RX0, "isWayFree", "(III)Z"⟩
abbrev cX0_isCapture : ByteArray := prog_2_method_14_code
def yX0_isCapture : MethodName := ⟨RX0, "isCapture", "(II)Z"⟩
abbrev cX0_movableSet : ByteArray := prog_2_method_15_code
def yX0_movableSet : MethodName := ⟨RX0, "movableSet", "(II)I"⟩
abbrev cX0_canDo : ByteArray := prog_2_method_16_code
def yX0_canDo : MethodName := ⟨RX0, "canDo", "(III)Z"⟩
abbrev cX0_isDone : ByteArray := prog_2_method_17_code
def yX0_isDone : MethodName := ⟨RX0, "isDone", "(III)Z"⟩
abbrev cX0_canCaptureOn : ByteArray := prog_2_method_18_code
def yX0_canCaptureOn : MethodName := ⟨RX0, "canCaptureOn", "(III)Z"⟩
def RX1 : String := "PachisiYard"
def TX1 : u_T := fun k => match k with
  | 0 => ("PachisiYard", "board", "LPachisiYard$Board;", true)
  | 1 => ("PachisiYard", "captureCounts", "[I", true)
  | 2 => ("PachisiYard", "turn", "I", false)
  | 3 => ("PachisiYard", "gracesInRow", "I", false)
  | 4 => ("PachisiYard", "stage", "I", false)
  | _ => ("PachisiYard", "mouthsThrown", "I", false)
def tyX1 : Nat → FieldType := fun k => match k with
  | 0 => .object "PachisiYard$Board"
  | 1 => .array .int
  | 2 => .int
  | 3 => .int
  | 4 => .int
  | _ => .int
abbrev wsX10 : List Cond := u_ws RX1 TX1 6
theorem nmX1 : ∀ a, a < 6 → ∀ b, b < 6 → a ≠ b → (TX1 a).2.1 ≠ (TX1 b).2.1 := by decide +kernel
theorem tyX1_ok : ∀ k, k < 6 → parseFieldDescriptor (TX1 k).2.2.1 = some (tyX1 k) := by decide +kernel
abbrev cX1_init : ByteArray := prog_1_method_1_code
def yX1_init : MethodName := ⟨RX1, "<init>", "()V"⟩
abbrev cX1_throwShells : ByteArray := prog_1_method_2_code
def yX1_throwShells : MethodName := ⟨RX1, "throwShells", "(I)I"⟩
abbrev cX1_move : ByteArray := prog_1_method_3_code
def yX1_move : MethodName := ⟨RX1, "move", "(I)I"⟩
abbrev cX1_phase : ByteArray := prog_1_method_4_code
def yX1_phase : MethodName := ⟨RX1, "phase", "()I"⟩
abbrev cX1_onTurn : ByteArray := prog_1_method_5_code
def yX1_onTurn : MethodName := ⟨RX1, "onTurn", "()I"⟩
abbrev cX1_mover : ByteArray := prog_1_method_6_code
def yX1_mover : MethodName := ⟨RX1, "mover", "()I"⟩
abbrev cX1_movable : ByteArray := prog_1_method_7_code
def yX1_movable : MethodName := ⟨RX1, "movable", "()I"⟩
abbrev cX1_graces : ByteArray := prog_1_method_8_code
def yX1_graces : MethodName := ⟨RX1, "graces", "()I"⟩
abbrev cX1_position : ByteArray := prog_1_method_9_code
def yX1_position : MethodName := ⟨RX1, "position", "(II)I"⟩
abbrev cX1_square : ByteArray := prog_1_method_10_code
def yX1_square : MethodName := ⟨RX1, "square", "(II)I"⟩
abbrev cX1_standing : ByteArray := prog_1_method_11_code
def yX1_standing : MethodName := ⟨RX1, "standing", "(II)I"⟩
abbrev cX1_isSafe : ByteArray := prog_1_method_12_code
def yX1_isSafe : MethodName := ⟨RX1, "isSafe", "(I)Z"⟩
abbrev cX1_home : ByteArray := prog_1_method_13_code
def yX1_home : MethodName := ⟨RX1, "home", "(I)I"⟩
abbrev cX1_captures : ByteArray := prog_1_method_14_code
def yX1_captures : MethodName := ⟨RX1, "captures", "(I)I"⟩
abbrev cX1_winner : ByteArray := prog_1_method_15_code
def yX1_winner : MethodName := ⟨RX1, "winner", "()I"⟩
abbrev cX1_distance : ByteArray := prog_1_method_16_code
def yX1_distance : MethodName := ⟨RX1, "distance", "(I)I"⟩
abbrev cX1_ways : ByteArray := prog_1_method_17_code
def yX1_ways : MethodName := ⟨RX1, "ways", "(I)I"⟩
abbrev cX1_threat : ByteArray := prog_1_method_18_code
def yX1_threat : MethodName := ⟨RX1, "threat", "(III)I"⟩
abbrev cX1_captureChance : ByteArray := prog_1_method_19_code
def yX1_captureChance : MethodName := ⟨RX1, "captureChance", "(I)I"⟩
abbrev cX1_requirePlayer : ByteArray := prog_1_method_20_code
def yX1_requirePlayer : MethodName := ⟨RX1, "requirePlayer", "(I)V"⟩
abbrev cX1_requirePiece : ByteArray := prog_1_method_21_code
def yX1_requirePiece : MethodName := ⟨RX1, "requirePiece", "(I)V"⟩
abbrev cX1_requireSquare : ByteArray := prog_1_method_22_code
def yX1_requireSquare : MethodName := ⟨RX1, "requireSquare", "(I)V"⟩
abbrev cX1_requireTeam : ByteArray := prog_1_method_23_code
def yX1_requireTeam : MethodName := ⟨RX1, "requireTeam", "(I)V"⟩
abbrev cX1_requireThrowDue : ByteArray := prog_1_method_24_code
def yX1_requireThrowDue : MethodName := ⟨RX1, "requireThrowDue", "()V"⟩
abbrev cX1_requireMoveDue : ByteArray := prog_1_method_25_code
def yX1_requireMoveDue : MethodName := ⟨RX1, "requireMoveDue", "()V"⟩
abbrev cX1_passTurn : ByteArray := prog_1_method_26_code
def yX1_passTurn : MethodName := ⟨RX1, "passTurn", "()V"⟩
abbrev cX1_endMove : ByteArray := prog_1_method_27_code
def yX1_endMove : MethodName := ⟨RX1, "endMove", "(Z)V"⟩
abbrev cX1_countCapture : ByteArray := prog_1_method_28_code
def yX1_countCapture : MethodName := ⟨RX1, "countCapture", "(I)V"⟩
abbrev cX1_chanceWithin : ByteArray := prog_1_method_29_code
def yX1_chanceWithin : MethodName := ⟨RX1, "chanceWithin", "(II)I"⟩
abbrev cX1_chanceAfter : ByteArray := prog_1_method_30_code
def yX1_chanceAfter : MethodName := ⟨RX1, "chanceAfter", "(III)I"⟩
abbrev cX1_chanceAfterGrace : ByteArray := prog_1_method_31_code
def yX1_chanceAfterGrace : MethodName := ⟨RX1, "chanceAfterGrace", "(III)I"⟩
abbrev cX1_certainty : ByteArray := prog_1_method_32_code
def yX1_certainty : MethodName := ⟨RX1, "certainty", "(I)I"⟩
abbrev cX1_teamOf : ByteArray := prog_1_method_33_code
def yX1_teamOf : MethodName := ⟨RX1, "teamOf", "(I)I"⟩
abbrev cX1_otherTeam : ByteArray := prog_1_method_34_code
def yX1_otherTeam : MethodName := ⟨RX1, "otherTeam", "(I)I"⟩
abbrev cX1_partnerOf : ByteArray := prog_1_method_35_code
def yX1_partnerOf : MethodName := ⟨RX1, "partnerOf", "(I)I"⟩
abbrev cX1_worthOf : ByteArray := prog_1_method_36_code
def yX1_worthOf : MethodName := ⟨RX1, "worthOf", "(I)I"⟩
abbrev cX1_isGrace : ByteArray := prog_1_method_37_code
def yX1_isGrace : MethodName := ⟨RX1, "isGrace", "(I)Z"⟩
abbrev cX1_isGraceTooMany : ByteArray := prog_1_method_38_code
def yX1_isGraceTooMany : MethodName := ⟨RX1, "isGraceTooMany", "(II)Z"⟩
abbrev cX1_waysOf : ByteArray := prog_1_method_39_code
def yX1_waysOf : MethodName := ⟨RX1, "waysOf", "(I)I"⟩
abbrev cX1_isSafeSquare : ByteArray := prog_1_method_40_code
def yX1_isSafeSquare : MethodName := ⟨RX1, "isSafeSquare", "(I)Z"⟩
def RX2 : String := "PachisiYardModel"
def TX2 : u_T := fun k => match k with
  | _ => ("", "", "", false)
def tyX2 : Nat → FieldType := fun k => match k with
  | _ => .int
abbrev wsX20 : List Cond := u_ws RX2 TX2 0
theorem nmX2 : ∀ a, a < 0 → ∀ b, b < 0 → a ≠ b → (TX2 a).2.1 ≠ (TX2 b).2.1 := by decide +kernel
theorem tyX2_ok : ∀ k, k < 0 → parseFieldDescriptor (TX2 k).2.2.1 = some (tyX2 k) := by decide +kernel
def RJ9 : String := "java/lang/Math"
def TJ9 : u_T := fun k => match k with
  | _ => ("", "", "", false)
def tyJ9 : Nat → FieldType := fun k => match k with
  | _ => .int
abbrev wsJ90 : List Cond := u_ws RJ9 TJ9 0
theorem nmJ9 : ∀ a, a < 0 → ∀ b, b < 0 → a ≠ b → (TJ9 a).2.1 ≠ (TJ9 b).2.1 := by decide +kernel
theorem tyJ9_ok : ∀ k, k < 0 → parseFieldDescriptor (TJ9 k).2.2.1 = some (tyJ9 k) := by decide +kernel
abbrev cJ9_max_7cf53 : ByteArray := prog_9_method_65_code
def yJ9_max_7cf53 : MethodName := ⟨RJ9, "max", "(II)I"⟩
abbrev cJ9_min_7cf53 : ByteArray := prog_9_method_69_code
def yJ9_min_7cf53 : MethodName := ⟨RJ9, "min", "(II)I"⟩
def RJ0 : String := "java/lang/String"
def TJ0 : u_T := fun k => match k with
  | _ => ("", "", "", false)
def tyJ0 : Nat → FieldType := fun k => match k with
  | _ => .int
abbrev wsJ00 : List Cond := u_ws RJ0 TJ0 0
theorem nmJ0 : ∀ a, a < 0 → ∀ b, b < 0 → a ≠ b → (TJ0 a).2.1 ≠ (TJ0 b).2.1 := by decide +kernel
theorem tyJ0_ok : ∀ k, k < 0 → parseFieldDescriptor (TJ0 k).2.2.1 = some (tyJ0 k) := by decide +kernel
def wsX0_init : List Cond := .code yX0_init cX0_init 1 none :: ([.methodLink RX0 3 objectInit, .instanceMethod objectInit, .code objectInit ⟨#[0xb1]⟩ 1 none, .arrayClass .int, .fieldLink RX0 9 "PachisiYard$Board" "positions" "[I", .fieldLink RX0 15 "PachisiYard$Board" "counts" "[I"] ++ wsX00)
def wsX0_positionOf : List Cond := .code yX0_positionOf cX0_positionOf 4 (some .int) :: ([.fieldLink RX0 9 "PachisiYard$Board" "positions" "[I"] ++ wsX00)
def wsX0_squareAt : List Cond := .code yX0_squareAt cX0_squareAt 3 (some .int) :: ([])
def wsX0_countOn : List Cond := .code yX0_countOn cX0_countOn 4 (some .int) :: ([.fieldLink RX0 15 "PachisiYard$Board" "counts" "[I"] ++ wsX00)
def wsX0_countHome : List Cond := .code yX0_countHome cX0_countHome 4 (some .int) :: ([.methodLink RX0 18 yX0_positionOf, .instanceMethod yX0_positionOf, .selects RX0 yX0_positionOf yX0_positionOf, .initialized RX0, .code yX0_positionOf cX0_positionOf 4 (some .int), .fieldLink RX0 9 "PachisiYard$Board" "positions" "[I"] ++ wsX00)
def wsX0_distanceOf : List Cond := .code yX0_distanceOf cX0_distanceOf 4 (some .int) :: ([.methodLink RX0 18 yX0_positionOf, .instanceMethod yX0_positionOf, .selects RX0 yX0_positionOf yX0_positionOf, .initialized RX0, .code yX0_positionOf cX0_positionOf 4 (some .int), .fieldLink RX0 9 "PachisiYard$Board" "positions" "[I"] ++ wsX00)
def wsX1_partnerOf : List Cond := .code yX1_partnerOf cX1_partnerOf 1 (some .int) :: ([])
def wsX0_isTeamHome : List Cond := .code yX0_isTeamHome cX0_isTeamHome 2 (some .boolean) :: ([.methodLink RX0 22 yX0_countHome, .instanceMethod yX0_countHome, .selects RX0 yX0_countHome yX0_countHome, .initialized RX0, .code yX0_countHome cX0_countHome 4 (some .int), .methodLink RX0 18 yX0_positionOf, .instanceMethod yX0_positionOf, .selects RX0 yX0_positionOf yX0_positionOf, .code yX0_positionOf cX0_positionOf 4 (some .int), .fieldLink RX0 9 "PachisiYard$Board" "positions" "[I", .static yX1_partnerOf, .initialized RX1, .code yX1_partnerOf cX1_partnerOf 1 (some .int)] ++ wsX00)
def wsX0_moverFor : List Cond := .code yX0_moverFor cX0_moverFor 2 (some .int) :: ([.methodLink RX0 22 yX0_countHome, .instanceMethod yX0_countHome, .selects RX0 yX0_countHome yX0_countHome, .initialized RX0, .code yX0_countHome cX0_countHome 4 (some .int), .methodLink RX0 18 yX0_positionOf, .instanceMethod yX0_positionOf, .selects RX0 yX0_positionOf yX0_positionOf, .code yX0_positionOf cX0_positionOf 4 (some .int), .fieldLink RX0 9 "PachisiYard$Board" "positions" "[I", .static yX1_partnerOf, .initialized RX1, .code yX1_partnerOf cX1_partnerOf 1 (some .int)] ++ wsX00)
def wsX1_teamOf : List Cond := .code yX1_teamOf cX1_teamOf 1 (some .int) :: ([])
def wsX0_addOn : List Cond := .code yX0_addOn cX0_addOn 5 none :: ([.fieldLink RX0 15 "PachisiYard$Board" "counts" "[I"] ++ wsX00)
def wsX0_place : List Cond := .code yX0_place cX0_place 5 none :: ([.fieldLink RX0 9 "PachisiYard$Board" "positions" "[I", .methodLink RX0 29 yX0_squareAt, .instanceMethod yX0_squareAt, .selects RX0 yX0_squareAt yX0_squareAt, .initialized RX0, .code yX0_squareAt cX0_squareAt 3 (some .int), .static yX1_teamOf, .initialized RX1, .code yX1_teamOf cX1_teamOf 1 (some .int), .methodLink RX0 35 yX0_addOn, .instanceMethod yX0_addOn, .selects RX0 yX0_addOn yX0_addOn, .code yX0_addOn cX0_addOn 5 none, .fieldLink RX0 15 "PachisiYard$Board" "counts" "[I"] ++ wsX00)
def wsX0_sendToYard : List Cond := .code yX0_sendToYard cX0_sendToYard 5 none :: ([.methodLink RX0 18 yX0_positionOf, .instanceMethod yX0_positionOf, .selects RX0 yX0_positionOf yX0_positionOf, .initialized RX0, .code yX0_positionOf cX0_positionOf 4 (some .int), .fieldLink RX0 9 "PachisiYard$Board" "positions" "[I", .methodLink RX0 29 yX0_squareAt, .instanceMethod yX0_squareAt, .selects RX0 yX0_squareAt yX0_squareAt, .code yX0_squareAt cX0_squareAt 3 (some .int), .methodLink RX0 39 yX0_place, .instanceMethod yX0_place, .selects RX0 yX0_place yX0_place, .code yX0_place cX0_place 5 none, .static yX1_teamOf, .initialized RX1, .code yX1_teamOf cX1_teamOf 1 (some .int), .methodLink RX0 35 yX0_addOn, .instanceMethod yX0_addOn, .selects RX0 yX0_addOn yX0_addOn, .code yX0_addOn cX0_addOn 5 none, .fieldLink RX0 15 "PachisiYard$Board" "counts" "[I"] ++ wsX00)
def wsX1_isGrace : List Cond := .code yX1_isGrace cX1_isGrace 1 (some .boolean) :: ([])
def wsX1_worthOf : List Cond := .code yX1_worthOf cX1_worthOf 1 (some .int) :: ([])
def wsX1_otherTeam : List Cond := .code yX1_otherTeam cX1_otherTeam 1 (some .int) :: ([])
def wsX0_isWayFree : List Cond := .code yX0_isWayFree cX0_isWayFree 6 (some .boolean) :: ([.methodLink RX0 60 Lib.Math.min.name, .static Lib.Math.min.name, .initialized "java/lang/Math", .code Lib.Math.min.name Lib.Math.min.code 2 (some .int), .methodLink RX0 29 yX0_squareAt, .instanceMethod yX0_squareAt, .selects RX0 yX0_squareAt yX0_squareAt, .initialized RX0, .code yX0_squareAt cX0_squareAt 3 (some .int), .static yX1_otherTeam, .initialized RX1, .code yX1_otherTeam cX1_otherTeam 1 (some .int), .methodLink RX0 68 yX0_countOn, .instanceMethod yX0_countOn, .selects RX0 yX0_countOn yX0_countOn, .code yX0_countOn cX0_countOn 4 (some .int), .fieldLink RX0 15 "PachisiYard$Board" "counts" "[I"] ++ wsX00)
def wsX0_isCapture : List Cond := .code yX0_isCapture cX0_isCapture 3 (some .boolean) :: ([.methodLink RX0 29 yX0_squareAt, .instanceMethod yX0_squareAt, .selects RX0 yX0_squareAt yX0_squareAt, .initialized RX0, .code yX0_squareAt cX0_squareAt 3 (some .int), .static yX1_otherTeam, .initialized RX1, .code yX1_otherTeam cX1_otherTeam 1 (some .int), .methodLink RX0 68 yX0_countOn, .instanceMethod yX0_countOn, .selects RX0 yX0_countOn yX0_countOn, .code yX0_countOn cX0_countOn 4 (some .int), .fieldLink RX0 15 "PachisiYard$Board" "counts" "[I"] ++ wsX00)
def wsX1_isSafeSquare : List Cond := .code yX1_isSafeSquare cX1_isSafeSquare 2 (some .boolean) :: ([])
def wsX0_targetOf_r1 : List Cond := [Cond.methodLink RX0 18 yX0_positionOf, Cond.instanceMethod yX0_positionOf, Cond.selects RX0 yX0_positionOf yX0_positionOf, Cond.initialized RX0, Cond.code yX0_positionOf cX0_positionOf 4 (some .int), Cond.fieldLink RX0 9 "PachisiYard$Board" "positions" "[I", Cond.static yX1_isGrace, Cond.initialized RX1, Cond.code yX1_isGrace cX1_isGrace 1 (some .boolean), Cond.static yX1_worthOf, Cond.code yX1_worthOf cX1_worthOf 1 (some .int), Cond.methodLink RX0 49 yX0_isWayFree, Cond.instanceMethod yX0_isWayFree, Cond.selects RX0 yX0_isWayFree yX0_isWayFree, Cond.code yX0_isWayFree cX0_isWayFree 6 (some .boolean), Cond.methodLink RX0 60 Lib.Math.min.name, Cond.static Lib.Math.min.name, Cond.initialized "java/lang/Math", Cond.code Lib.Math.min.name Lib.Math.min.code 2 (some .int), Cond.methodLink RX0 29 yX0_squareAt, Cond.instanceMethod yX0_squareAt, Cond.selects RX0 yX0_squareAt yX0_squareAt, Cond.code yX0_squareAt cX0_squareAt 3 (some .int), Cond.static yX1_otherTeam]
def wsX0_targetOf_r2 : List Cond := [Cond.code yX1_otherTeam cX1_otherTeam 1 (some .int), Cond.methodLink RX0 68 yX0_countOn, Cond.instanceMethod yX0_countOn, Cond.selects RX0 yX0_countOn yX0_countOn, Cond.code yX0_countOn cX0_countOn 4 (some .int), Cond.fieldLink RX0 15 "PachisiYard$Board" "counts" "[I", Cond.methodLink RX0 53 yX0_isCapture, Cond.instanceMethod yX0_isCapture, Cond.selects RX0 yX0_isCapture yX0_isCapture, Cond.code yX0_isCapture cX0_isCapture 3 (some .boolean), Cond.static yX1_isSafeSquare, Cond.code yX1_isSafeSquare cX1_isSafeSquare 2 (some .boolean)]
def wsX0_targetOf : List Cond := .code yX0_targetOf cX0_targetOf 7 (some .int) :: ((wsX0_targetOf_r1 ++ wsX0_targetOf_r2) ++ wsX00)
def wsX0_movableSet_r1 : List Cond := [Cond.methodLink RX0 71 yX0_targetOf, Cond.instanceMethod yX0_targetOf, Cond.selects RX0 yX0_targetOf yX0_targetOf, Cond.initialized RX0, Cond.code yX0_targetOf cX0_targetOf 7 (some .int), Cond.methodLink RX0 18 yX0_positionOf, Cond.instanceMethod yX0_positionOf, Cond.selects RX0 yX0_positionOf yX0_positionOf, Cond.code yX0_positionOf cX0_positionOf 4 (some .int), Cond.fieldLink RX0 9 "PachisiYard$Board" "positions" "[I", Cond.static yX1_isGrace, Cond.initialized RX1, Cond.code yX1_isGrace cX1_isGrace 1 (some .boolean), Cond.static yX1_worthOf, Cond.code yX1_worthOf cX1_worthOf 1 (some .int), Cond.methodLink RX0 49 yX0_isWayFree, Cond.instanceMethod yX0_isWayFree, Cond.selects RX0 yX0_isWayFree yX0_isWayFree, Cond.code yX0_isWayFree cX0_isWayFree 6 (some .boolean), Cond.methodLink RX0 60 Lib.Math.min.name, Cond.static Lib.Math.min.name, Cond.initialized "java/lang/Math", Cond.code Lib.Math.min.name Lib.Math.min.code 2 (some .int), Cond.methodLink RX0 29 yX0_squareAt]
def wsX0_movableSet_r2 : List Cond := [Cond.instanceMethod yX0_squareAt, Cond.selects RX0 yX0_squareAt yX0_squareAt, Cond.code yX0_squareAt cX0_squareAt 3 (some .int), Cond.static yX1_otherTeam, Cond.code yX1_otherTeam cX1_otherTeam 1 (some .int), Cond.methodLink RX0 68 yX0_countOn, Cond.instanceMethod yX0_countOn, Cond.selects RX0 yX0_countOn yX0_countOn, Cond.code yX0_countOn cX0_countOn 4 (some .int), Cond.fieldLink RX0 15 "PachisiYard$Board" "counts" "[I", Cond.methodLink RX0 53 yX0_isCapture, Cond.instanceMethod yX0_isCapture, Cond.selects RX0 yX0_isCapture yX0_isCapture, Cond.code yX0_isCapture cX0_isCapture 3 (some .boolean), Cond.static yX1_isSafeSquare, Cond.code yX1_isSafeSquare cX1_isSafeSquare 2 (some .boolean)]
def wsX0_movableSet : List Cond := .code yX0_movableSet cX0_movableSet 5 (some .int) :: ((wsX0_movableSet_r1 ++ wsX0_movableSet_r2) ++ wsX00)
def wsX0_isDone : List Cond := .code yX0_isDone cX0_isDone 4 (some .boolean) :: ([.methodLink RX0 53 yX0_isCapture, .instanceMethod yX0_isCapture, .selects RX0 yX0_isCapture yX0_isCapture, .initialized RX0, .code yX0_isCapture cX0_isCapture 3 (some .boolean), .methodLink RX0 29 yX0_squareAt, .instanceMethod yX0_squareAt, .selects RX0 yX0_squareAt yX0_squareAt, .code yX0_squareAt cX0_squareAt 3 (some .int), .static yX1_otherTeam, .initialized RX1, .code yX1_otherTeam cX1_otherTeam 1 (some .int), .methodLink RX0 68 yX0_countOn, .instanceMethod yX0_countOn, .selects RX0 yX0_countOn yX0_countOn, .code yX0_countOn cX0_countOn 4 (some .int), .fieldLink RX0 15 "PachisiYard$Board" "counts" "[I"] ++ wsX00)
def wsX0_canDo_r1 : List Cond := [Cond.methodLink RX0 71 yX0_targetOf, Cond.instanceMethod yX0_targetOf, Cond.selects RX0 yX0_targetOf yX0_targetOf, Cond.initialized RX0, Cond.code yX0_targetOf cX0_targetOf 7 (some .int), Cond.methodLink RX0 18 yX0_positionOf, Cond.instanceMethod yX0_positionOf, Cond.selects RX0 yX0_positionOf yX0_positionOf, Cond.code yX0_positionOf cX0_positionOf 4 (some .int), Cond.fieldLink RX0 9 "PachisiYard$Board" "positions" "[I", Cond.static yX1_isGrace, Cond.initialized RX1, Cond.code yX1_isGrace cX1_isGrace 1 (some .boolean), Cond.static yX1_worthOf, Cond.code yX1_worthOf cX1_worthOf 1 (some .int), Cond.methodLink RX0 49 yX0_isWayFree, Cond.instanceMethod yX0_isWayFree, Cond.selects RX0 yX0_isWayFree yX0_isWayFree, Cond.code yX0_isWayFree cX0_isWayFree 6 (some .boolean), Cond.methodLink RX0 60 Lib.Math.min.name, Cond.static Lib.Math.min.name, Cond.initialized "java/lang/Math", Cond.code Lib.Math.min.name Lib.Math.min.code 2 (some .int), Cond.methodLink RX0 29 yX0_squareAt]
def wsX0_canDo_r2 : List Cond := [Cond.instanceMethod yX0_squareAt, Cond.selects RX0 yX0_squareAt yX0_squareAt, Cond.code yX0_squareAt cX0_squareAt 3 (some .int), Cond.static yX1_otherTeam, Cond.code yX1_otherTeam cX1_otherTeam 1 (some .int), Cond.methodLink RX0 68 yX0_countOn, Cond.instanceMethod yX0_countOn, Cond.selects RX0 yX0_countOn yX0_countOn, Cond.code yX0_countOn cX0_countOn 4 (some .int), Cond.fieldLink RX0 15 "PachisiYard$Board" "counts" "[I", Cond.methodLink RX0 53 yX0_isCapture, Cond.instanceMethod yX0_isCapture, Cond.selects RX0 yX0_isCapture yX0_isCapture, Cond.code yX0_isCapture cX0_isCapture 3 (some .boolean), Cond.static yX1_isSafeSquare, Cond.code yX1_isSafeSquare cX1_isSafeSquare 2 (some .boolean), Cond.methodLink RX0 75 yX0_isDone, Cond.instanceMethod yX0_isDone, Cond.selects RX0 yX0_isDone yX0_isDone, Cond.code yX0_isDone cX0_isDone 4 (some .boolean)]
def wsX0_canDo : List Cond := .code yX0_canDo cX0_canDo 6 (some .boolean) :: ((wsX0_canDo_r1 ++ wsX0_canDo_r2) ++ wsX00)
def wsX0_canCaptureOn_r1 : List Cond := [Cond.methodLink RX0 71 yX0_targetOf, Cond.instanceMethod yX0_targetOf, Cond.selects RX0 yX0_targetOf yX0_targetOf, Cond.initialized RX0, Cond.code yX0_targetOf cX0_targetOf 7 (some .int), Cond.methodLink RX0 18 yX0_positionOf, Cond.instanceMethod yX0_positionOf, Cond.selects RX0 yX0_positionOf yX0_positionOf, Cond.code yX0_positionOf cX0_positionOf 4 (some .int), Cond.fieldLink RX0 9 "PachisiYard$Board" "positions" "[I", Cond.static yX1_isGrace, Cond.initialized RX1, Cond.code yX1_isGrace cX1_isGrace 1 (some .boolean), Cond.static yX1_worthOf, Cond.code yX1_worthOf cX1_worthOf 1 (some .int), Cond.methodLink RX0 49 yX0_isWayFree, Cond.instanceMethod yX0_isWayFree, Cond.selects RX0 yX0_isWayFree yX0_isWayFree, Cond.code yX0_isWayFree cX0_isWayFree 6 (some .boolean), Cond.methodLink RX0 60 Lib.Math.min.name, Cond.static Lib.Math.min.name, Cond.initialized "java/lang/Math", Cond.code Lib.Math.min.name Lib.Math.min.code 2 (some .int), Cond.methodLink RX0 29 yX0_squareAt]
def wsX0_canCaptureOn_r2 : List Cond := [Cond.instanceMethod yX0_squareAt, Cond.selects RX0 yX0_squareAt yX0_squareAt, Cond.code yX0_squareAt cX0_squareAt 3 (some .int), Cond.static yX1_otherTeam, Cond.code yX1_otherTeam cX1_otherTeam 1 (some .int), Cond.methodLink RX0 68 yX0_countOn, Cond.instanceMethod yX0_countOn, Cond.selects RX0 yX0_countOn yX0_countOn, Cond.code yX0_countOn cX0_countOn 4 (some .int), Cond.fieldLink RX0 15 "PachisiYard$Board" "counts" "[I", Cond.methodLink RX0 53 yX0_isCapture, Cond.instanceMethod yX0_isCapture, Cond.selects RX0 yX0_isCapture yX0_isCapture, Cond.code yX0_isCapture cX0_isCapture 3 (some .boolean), Cond.static yX1_isSafeSquare, Cond.code yX1_isSafeSquare cX1_isSafeSquare 2 (some .boolean)]
def wsX0_canCaptureOn : List Cond := .code yX0_canCaptureOn cX0_canCaptureOn 6 (some .boolean) :: ((wsX0_canCaptureOn_r1 ++ wsX0_canCaptureOn_r2) ++ wsX00)
def wsX1_init : List Cond := .code yX1_init cX1_init 1 none :: ([.methodLink RX1 1 objectInit, .instanceMethod objectInit, .code objectInit ⟨#[0xb1]⟩ 1 none, .classLink RX1 7 RX0, .instantiable RX0 2, .initialized RX0, .fieldLink RX1 10 "PachisiYard" "board" "LPachisiYard$Board;", .arrayClass .int, .fieldLink RX1 16 "PachisiYard" "captureCounts" "[I", .fieldLink RX1 20 "PachisiYard" "turn" "I", .fieldLink RX1 24 "PachisiYard" "gracesInRow" "I", .fieldLink RX1 27 "PachisiYard" "stage" "I", .fieldLink RX1 30 "PachisiYard" "mouthsThrown" "I", .methodLink RX1 9 yX0_init, .instanceMethod yX0_init, .code yX0_init cX0_init 1 none, .methodLink RX0 3 objectInit, .fieldLink RX0 9 "PachisiYard$Board" "positions" "[I", .fieldLink RX0 15 "PachisiYard$Board" "counts" "[I"] ++ wsX00 ++ wsX10)
def wsX1_requireThrowDue : List Cond := .code yX1_requireThrowDue cX1_requireThrowDue 1 none :: ([.classLink RX1 76 "java/lang/IllegalStateException", .initialized "java/lang/IllegalStateException", .fieldLink RX1 27 "PachisiYard" "stage" "I"] ++ wsX10 ++ (vx_atS RX1 80 "java/lang/IllegalStateException" ["java/lang/RuntimeException", "java/lang/Exception"]).filter goodWord)
def wsX1_isGraceTooMany : List Cond := .code yX1_isGraceTooMany cX1_isGraceTooMany 2 (some .boolean) :: ([.methodLink RX1 54 yX1_isGrace, .static yX1_isGrace, .initialized RX1, .code yX1_isGrace cX1_isGrace 1 (some .boolean)])
def wsX1_passTurn : List Cond := .code yX1_passTurn cX1_passTurn 1 none :: ([.fieldLink RX1 20 "PachisiYard" "turn" "I", .fieldLink RX1 24 "PachisiYard" "gracesInRow" "I"] ++ wsX10)
def wsX1_throwShells_r1 : List Cond := [Cond.classLink RX1 33 "java/lang/IllegalArgumentException", Cond.initialized "java/lang/IllegalArgumentException", Cond.fieldLink RX1 24 "PachisiYard" "gracesInRow" "I", Cond.fieldLink RX1 10 "PachisiYard" "board" "LPachisiYard$Board;", Cond.fieldLink RX1 20 "PachisiYard" "turn" "I", Cond.fieldLink RX1 30 "PachisiYard" "mouthsThrown" "I", Cond.fieldLink RX1 27 "PachisiYard" "stage" "I", Cond.methodLink RX1 40 yX1_requireThrowDue, Cond.instanceMethod yX1_requireThrowDue, Cond.selects RX1 yX1_requireThrowDue yX1_requireThrowDue, Cond.initialized RX1, Cond.code yX1_requireThrowDue cX1_requireThrowDue 1 none, Cond.classLink RX1 76 "java/lang/IllegalStateException", Cond.initialized "java/lang/IllegalStateException", Cond.methodLink RX1 43 yX1_worthOf, Cond.static yX1_worthOf, Cond.code yX1_worthOf cX1_worthOf 1 (some .int), Cond.methodLink RX1 47 yX1_isGraceTooMany, Cond.static yX1_isGraceTooMany, Cond.code yX1_isGraceTooMany cX1_isGraceTooMany 2 (some .boolean), Cond.methodLink RX1 54 yX1_isGrace, Cond.static yX1_isGrace, Cond.code yX1_isGrace cX1_isGrace 1 (some .boolean), Cond.methodLink RX1 51 yX1_passTurn]
def wsX1_throwShells_r2 : List Cond := [Cond.instanceMethod yX1_passTurn, Cond.selects RX1 yX1_passTurn yX1_passTurn, Cond.code yX1_passTurn cX1_passTurn 1 none, Cond.methodLink RX1 58 yX0_moverFor, Cond.instanceMethod yX0_moverFor, Cond.selects RX0 yX0_moverFor yX0_moverFor, Cond.initialized RX0, Cond.code yX0_moverFor cX0_moverFor 2 (some .int), Cond.methodLink RX0 22 yX0_countHome, Cond.instanceMethod yX0_countHome, Cond.selects RX0 yX0_countHome yX0_countHome, Cond.code yX0_countHome cX0_countHome 4 (some .int), Cond.methodLink RX0 18 yX0_positionOf, Cond.instanceMethod yX0_positionOf, Cond.selects RX0 yX0_positionOf yX0_positionOf, Cond.code yX0_positionOf cX0_positionOf 4 (some .int), Cond.fieldLink RX0 9 "PachisiYard$Board" "positions" "[I", Cond.static yX1_partnerOf, Cond.code yX1_partnerOf cX1_partnerOf 1 (some .int), Cond.methodLink RX1 61 yX0_movableSet, Cond.instanceMethod yX0_movableSet, Cond.selects RX0 yX0_movableSet yX0_movableSet, Cond.code yX0_movableSet cX0_movableSet 5 (some .int), Cond.methodLink RX0 71 yX0_targetOf]
def wsX1_throwShells_r3 : List Cond := [Cond.instanceMethod yX0_targetOf, Cond.selects RX0 yX0_targetOf yX0_targetOf, Cond.code yX0_targetOf cX0_targetOf 7 (some .int), Cond.methodLink RX0 49 yX0_isWayFree, Cond.instanceMethod yX0_isWayFree, Cond.selects RX0 yX0_isWayFree yX0_isWayFree, Cond.code yX0_isWayFree cX0_isWayFree 6 (some .boolean), Cond.methodLink RX0 60 Lib.Math.min.name, Cond.static Lib.Math.min.name, Cond.initialized "java/lang/Math", Cond.code Lib.Math.min.name Lib.Math.min.code 2 (some .int), Cond.methodLink RX0 29 yX0_squareAt, Cond.instanceMethod yX0_squareAt, Cond.selects RX0 yX0_squareAt yX0_squareAt, Cond.code yX0_squareAt cX0_squareAt 3 (some .int), Cond.static yX1_otherTeam, Cond.code yX1_otherTeam cX1_otherTeam 1 (some .int), Cond.methodLink RX0 68 yX0_countOn, Cond.instanceMethod yX0_countOn, Cond.selects RX0 yX0_countOn yX0_countOn, Cond.code yX0_countOn cX0_countOn 4 (some .int), Cond.fieldLink RX0 15 "PachisiYard$Board" "counts" "[I", Cond.methodLink RX0 53 yX0_isCapture, Cond.instanceMethod yX0_isCapture]
def wsX1_throwShells_r4 : List Cond := [Cond.selects RX0 yX0_isCapture yX0_isCapture, Cond.code yX0_isCapture cX0_isCapture 3 (some .boolean), Cond.static yX1_isSafeSquare, Cond.code yX1_isSafeSquare cX1_isSafeSquare 2 (some .boolean)]
def wsX1_throwShells : List Cond := .code yX1_throwShells cX1_throwShells 3 (some .int) :: ((wsX1_throwShells_r1 ++ (wsX1_throwShells_r2 ++ (wsX1_throwShells_r3 ++ wsX1_throwShells_r4))) ++ wsX10 ++ wsX00 ++ (vx_atS RX1 37 "java/lang/IllegalArgumentException" ["java/lang/RuntimeException", "java/lang/Exception"]).filter goodWord ++ (vx_atS RX1 80 "java/lang/IllegalStateException" ["java/lang/RuntimeException", "java/lang/Exception"]).filter goodWord)
def wsX1_requirePiece : List Cond := .code yX1_requirePiece cX1_requirePiece 1 none :: ([.classLink RX1 151 "java/lang/IndexOutOfBoundsException", .initialized "java/lang/IndexOutOfBoundsException"] ++ (vx_atS RX1 155 "java/lang/IndexOutOfBoundsException" ["java/lang/RuntimeException", "java/lang/Exception"]).filter goodWord)
def wsX1_requireMoveDue : List Cond := .code yX1_requireMoveDue cX1_requireMoveDue 1 none :: ([.classLink RX1 76 "java/lang/IllegalStateException", .initialized "java/lang/IllegalStateException", .fieldLink RX1 27 "PachisiYard" "stage" "I"] ++ wsX10 ++ (vx_atS RX1 80 "java/lang/IllegalStateException" ["java/lang/RuntimeException", "java/lang/Exception"]).filter goodWord)
def wsX1_countCapture : List Cond := .code yX1_countCapture cX1_countCapture 2 none :: ([.fieldLink RX1 16 "PachisiYard" "captureCounts" "[I"] ++ wsX10)
def wsX1_endMove_r1 : List Cond := [Cond.fieldLink RX1 10 "PachisiYard" "board" "LPachisiYard$Board;", Cond.fieldLink RX1 20 "PachisiYard" "turn" "I", Cond.fieldLink RX1 27 "PachisiYard" "stage" "I", Cond.fieldLink RX1 30 "PachisiYard" "mouthsThrown" "I", Cond.methodLink RX1 166 yX0_isTeamHome, Cond.instanceMethod yX0_isTeamHome, Cond.selects RX0 yX0_isTeamHome yX0_isTeamHome, Cond.initialized RX0, Cond.code yX0_isTeamHome cX0_isTeamHome 2 (some .boolean), Cond.methodLink RX0 22 yX0_countHome, Cond.instanceMethod yX0_countHome, Cond.selects RX0 yX0_countHome yX0_countHome, Cond.code yX0_countHome cX0_countHome 4 (some .int), Cond.methodLink RX0 18 yX0_positionOf, Cond.instanceMethod yX0_positionOf, Cond.selects RX0 yX0_positionOf yX0_positionOf, Cond.code yX0_positionOf cX0_positionOf 4 (some .int), Cond.fieldLink RX0 9 "PachisiYard$Board" "positions" "[I", Cond.static yX1_partnerOf, Cond.initialized RX1, Cond.code yX1_partnerOf cX1_partnerOf 1 (some .int), Cond.methodLink RX1 54 yX1_isGrace, Cond.static yX1_isGrace, Cond.code yX1_isGrace cX1_isGrace 1 (some .boolean)]
def wsX1_endMove_r2 : List Cond := [Cond.methodLink RX1 51 yX1_passTurn, Cond.instanceMethod yX1_passTurn, Cond.selects RX1 yX1_passTurn yX1_passTurn, Cond.code yX1_passTurn cX1_passTurn 1 none, Cond.fieldLink RX1 24 "PachisiYard" "gracesInRow" "I"]
def wsX1_endMove : List Cond := .code yX1_endMove cX1_endMove 2 none :: ((wsX1_endMove_r1 ++ wsX1_endMove_r2) ++ wsX10 ++ wsX00)
def wsX1_move_r1 : List Cond := [Cond.classLink RX1 76 "java/lang/IllegalStateException", Cond.initialized "java/lang/IllegalStateException", Cond.fieldLink RX1 10 "PachisiYard" "board" "LPachisiYard$Board;", Cond.fieldLink RX1 20 "PachisiYard" "turn" "I", Cond.fieldLink RX1 30 "PachisiYard" "mouthsThrown" "I", Cond.methodLink RX1 65 yX1_requirePiece, Cond.static yX1_requirePiece, Cond.initialized RX1, Cond.code yX1_requirePiece cX1_requirePiece 1 none, Cond.classLink RX1 151 "java/lang/IndexOutOfBoundsException", Cond.initialized "java/lang/IndexOutOfBoundsException", Cond.methodLink RX1 69 yX1_requireMoveDue, Cond.instanceMethod yX1_requireMoveDue, Cond.selects RX1 yX1_requireMoveDue yX1_requireMoveDue, Cond.code yX1_requireMoveDue cX1_requireMoveDue 1 none, Cond.fieldLink RX1 27 "PachisiYard" "stage" "I", Cond.methodLink RX1 58 yX0_moverFor, Cond.instanceMethod yX0_moverFor, Cond.selects RX0 yX0_moverFor yX0_moverFor, Cond.initialized RX0, Cond.code yX0_moverFor cX0_moverFor 2 (some .int), Cond.methodLink RX0 22 yX0_countHome, Cond.instanceMethod yX0_countHome, Cond.selects RX0 yX0_countHome yX0_countHome]
def wsX1_move_r2 : List Cond := [Cond.code yX0_countHome cX0_countHome 4 (some .int), Cond.methodLink RX0 18 yX0_positionOf, Cond.instanceMethod yX0_positionOf, Cond.selects RX0 yX0_positionOf yX0_positionOf, Cond.code yX0_positionOf cX0_positionOf 4 (some .int), Cond.fieldLink RX0 9 "PachisiYard$Board" "positions" "[I", Cond.static yX1_partnerOf, Cond.code yX1_partnerOf cX1_partnerOf 1 (some .int), Cond.methodLink RX1 72 yX0_targetOf, Cond.instanceMethod yX0_targetOf, Cond.selects RX0 yX0_targetOf yX0_targetOf, Cond.code yX0_targetOf cX0_targetOf 7 (some .int), Cond.static yX1_isGrace, Cond.code yX1_isGrace cX1_isGrace 1 (some .boolean), Cond.static yX1_worthOf, Cond.code yX1_worthOf cX1_worthOf 1 (some .int), Cond.methodLink RX0 49 yX0_isWayFree, Cond.instanceMethod yX0_isWayFree, Cond.selects RX0 yX0_isWayFree yX0_isWayFree, Cond.code yX0_isWayFree cX0_isWayFree 6 (some .boolean), Cond.methodLink RX0 60 Lib.Math.min.name, Cond.static Lib.Math.min.name, Cond.initialized "java/lang/Math", Cond.code Lib.Math.min.name Lib.Math.min.code 2 (some .int)]
def wsX1_move_r3 : List Cond := [Cond.methodLink RX0 29 yX0_squareAt, Cond.instanceMethod yX0_squareAt, Cond.selects RX0 yX0_squareAt yX0_squareAt, Cond.code yX0_squareAt cX0_squareAt 3 (some .int), Cond.static yX1_otherTeam, Cond.code yX1_otherTeam cX1_otherTeam 1 (some .int), Cond.methodLink RX0 68 yX0_countOn, Cond.instanceMethod yX0_countOn, Cond.selects RX0 yX0_countOn yX0_countOn, Cond.code yX0_countOn cX0_countOn 4 (some .int), Cond.fieldLink RX0 15 "PachisiYard$Board" "counts" "[I", Cond.methodLink RX0 53 yX0_isCapture, Cond.instanceMethod yX0_isCapture, Cond.selects RX0 yX0_isCapture yX0_isCapture, Cond.code yX0_isCapture cX0_isCapture 3 (some .boolean), Cond.static yX1_isSafeSquare, Cond.code yX1_isSafeSquare cX1_isSafeSquare 2 (some .boolean), Cond.methodLink RX1 81 yX0_isCapture, Cond.methodLink RX1 84 yX1_otherTeam, Cond.methodLink RX1 87 yX0_squareAt, Cond.methodLink RX1 90 yX0_sendToYard, Cond.instanceMethod yX0_sendToYard, Cond.selects RX0 yX0_sendToYard yX0_sendToYard, Cond.code yX0_sendToYard cX0_sendToYard 5 none]
def wsX1_move_r4 : List Cond := [Cond.methodLink RX0 39 yX0_place, Cond.instanceMethod yX0_place, Cond.selects RX0 yX0_place yX0_place, Cond.code yX0_place cX0_place 5 none, Cond.static yX1_teamOf, Cond.code yX1_teamOf cX1_teamOf 1 (some .int), Cond.methodLink RX0 35 yX0_addOn, Cond.instanceMethod yX0_addOn, Cond.selects RX0 yX0_addOn yX0_addOn, Cond.code yX0_addOn cX0_addOn 5 none, Cond.methodLink RX1 94 yX1_countCapture, Cond.instanceMethod yX1_countCapture, Cond.selects RX1 yX1_countCapture yX1_countCapture, Cond.code yX1_countCapture cX1_countCapture 2 none, Cond.fieldLink RX1 16 "PachisiYard" "captureCounts" "[I", Cond.methodLink RX1 97 yX0_place, Cond.methodLink RX1 101 yX1_endMove, Cond.instanceMethod yX1_endMove, Cond.selects RX1 yX1_endMove yX1_endMove, Cond.code yX1_endMove cX1_endMove 2 none, Cond.methodLink RX1 166 yX0_isTeamHome, Cond.instanceMethod yX0_isTeamHome, Cond.selects RX0 yX0_isTeamHome yX0_isTeamHome, Cond.code yX0_isTeamHome cX0_isTeamHome 2 (some .boolean)]
def wsX1_move_r5 : List Cond := [Cond.methodLink RX1 54 yX1_isGrace, Cond.methodLink RX1 51 yX1_passTurn, Cond.instanceMethod yX1_passTurn, Cond.selects RX1 yX1_passTurn yX1_passTurn, Cond.code yX1_passTurn cX1_passTurn 1 none, Cond.fieldLink RX1 24 "PachisiYard" "gracesInRow" "I"]
def wsX1_move : List Cond := .code yX1_move cX1_move 5 (some .int) :: ((wsX1_move_r1 ++ (wsX1_move_r2 ++ (wsX1_move_r3 ++ (wsX1_move_r4 ++ wsX1_move_r5)))) ++ wsX10 ++ wsX00 ++ (vx_atS RX1 80 "java/lang/IllegalStateException" ["java/lang/RuntimeException", "java/lang/Exception"]).filter goodWord ++ (vx_atS RX1 155 "java/lang/IndexOutOfBoundsException" ["java/lang/RuntimeException", "java/lang/Exception"]).filter goodWord)
def wsX1_phase : List Cond := .code yX1_phase cX1_phase 1 (some .int) :: ([.fieldLink RX1 27 "PachisiYard" "stage" "I"] ++ wsX10)
def wsX1_onTurn : List Cond := .code yX1_onTurn cX1_onTurn 1 (some .int) :: ([.fieldLink RX1 20 "PachisiYard" "turn" "I"] ++ wsX10)
def wsX1_mover : List Cond := .code yX1_mover cX1_mover 1 (some .int) :: ([.fieldLink RX1 10 "PachisiYard" "board" "LPachisiYard$Board;", .fieldLink RX1 20 "PachisiYard" "turn" "I", .methodLink RX1 58 yX0_moverFor, .instanceMethod yX0_moverFor, .selects RX0 yX0_moverFor yX0_moverFor, .initialized RX0, .code yX0_moverFor cX0_moverFor 2 (some .int), .methodLink RX0 22 yX0_countHome, .instanceMethod yX0_countHome, .selects RX0 yX0_countHome yX0_countHome, .code yX0_countHome cX0_countHome 4 (some .int), .methodLink RX0 18 yX0_positionOf, .instanceMethod yX0_positionOf, .selects RX0 yX0_positionOf yX0_positionOf, .code yX0_positionOf cX0_positionOf 4 (some .int), .fieldLink RX0 9 "PachisiYard$Board" "positions" "[I", .static yX1_partnerOf, .initialized RX1, .code yX1_partnerOf cX1_partnerOf 1 (some .int)] ++ wsX10 ++ wsX00)
def wsX1_movable_r1 : List Cond := [Cond.fieldLink RX1 10 "PachisiYard" "board" "LPachisiYard$Board;", Cond.fieldLink RX1 20 "PachisiYard" "turn" "I", Cond.fieldLink RX1 30 "PachisiYard" "mouthsThrown" "I", Cond.methodLink RX1 69 yX1_requireMoveDue, Cond.instanceMethod yX1_requireMoveDue, Cond.selects RX1 yX1_requireMoveDue yX1_requireMoveDue, Cond.initialized RX1, Cond.code yX1_requireMoveDue cX1_requireMoveDue 1 none, Cond.classLink RX1 76 "java/lang/IllegalStateException", Cond.initialized "java/lang/IllegalStateException", Cond.fieldLink RX1 27 "PachisiYard" "stage" "I", Cond.methodLink RX1 58 yX0_moverFor, Cond.instanceMethod yX0_moverFor, Cond.selects RX0 yX0_moverFor yX0_moverFor, Cond.initialized RX0, Cond.code yX0_moverFor cX0_moverFor 2 (some .int), Cond.methodLink RX0 22 yX0_countHome, Cond.instanceMethod yX0_countHome, Cond.selects RX0 yX0_countHome yX0_countHome, Cond.code yX0_countHome cX0_countHome 4 (some .int), Cond.methodLink RX0 18 yX0_positionOf, Cond.instanceMethod yX0_positionOf, Cond.selects RX0 yX0_positionOf yX0_positionOf, Cond.code yX0_positionOf cX0_positionOf 4 (some .int)]
def wsX1_movable_r2 : List Cond := [Cond.fieldLink RX0 9 "PachisiYard$Board" "positions" "[I", Cond.static yX1_partnerOf, Cond.code yX1_partnerOf cX1_partnerOf 1 (some .int), Cond.methodLink RX1 61 yX0_movableSet, Cond.instanceMethod yX0_movableSet, Cond.selects RX0 yX0_movableSet yX0_movableSet, Cond.code yX0_movableSet cX0_movableSet 5 (some .int), Cond.methodLink RX0 71 yX0_targetOf, Cond.instanceMethod yX0_targetOf, Cond.selects RX0 yX0_targetOf yX0_targetOf, Cond.code yX0_targetOf cX0_targetOf 7 (some .int), Cond.static yX1_isGrace, Cond.code yX1_isGrace cX1_isGrace 1 (some .boolean), Cond.static yX1_worthOf, Cond.code yX1_worthOf cX1_worthOf 1 (some .int), Cond.methodLink RX0 49 yX0_isWayFree, Cond.instanceMethod yX0_isWayFree, Cond.selects RX0 yX0_isWayFree yX0_isWayFree, Cond.code yX0_isWayFree cX0_isWayFree 6 (some .boolean), Cond.methodLink RX0 60 Lib.Math.min.name, Cond.static Lib.Math.min.name, Cond.initialized "java/lang/Math", Cond.code Lib.Math.min.name Lib.Math.min.code 2 (some .int), Cond.methodLink RX0 29 yX0_squareAt]
def wsX1_movable_r3 : List Cond := [Cond.instanceMethod yX0_squareAt, Cond.selects RX0 yX0_squareAt yX0_squareAt, Cond.code yX0_squareAt cX0_squareAt 3 (some .int), Cond.static yX1_otherTeam, Cond.code yX1_otherTeam cX1_otherTeam 1 (some .int), Cond.methodLink RX0 68 yX0_countOn, Cond.instanceMethod yX0_countOn, Cond.selects RX0 yX0_countOn yX0_countOn, Cond.code yX0_countOn cX0_countOn 4 (some .int), Cond.fieldLink RX0 15 "PachisiYard$Board" "counts" "[I", Cond.methodLink RX0 53 yX0_isCapture, Cond.instanceMethod yX0_isCapture, Cond.selects RX0 yX0_isCapture yX0_isCapture, Cond.code yX0_isCapture cX0_isCapture 3 (some .boolean), Cond.static yX1_isSafeSquare, Cond.code yX1_isSafeSquare cX1_isSafeSquare 2 (some .boolean)]
def wsX1_movable : List Cond := .code yX1_movable cX1_movable 1 (some .int) :: ((wsX1_movable_r1 ++ (wsX1_movable_r2 ++ wsX1_movable_r3)) ++ wsX10 ++ wsX00 ++ (vx_atS RX1 80 "java/lang/IllegalStateException" ["java/lang/RuntimeException", "java/lang/Exception"]).filter goodWord)
def wsX1_graces : List Cond := .code yX1_graces cX1_graces 1 (some .int) :: ([.fieldLink RX1 24 "PachisiYard" "gracesInRow" "I"] ++ wsX10)
def wsX1_requirePlayer : List Cond := .code yX1_requirePlayer cX1_requirePlayer 1 none :: ([.classLink RX1 151 "java/lang/IndexOutOfBoundsException", .initialized "java/lang/IndexOutOfBoundsException"] ++ (vx_atS RX1 155 "java/lang/IndexOutOfBoundsException" ["java/lang/RuntimeException", "java/lang/Exception"]).filter goodWord)
def wsX1_position : List Cond := .code yX1_position cX1_position 3 (some .int) :: ([.fieldLink RX1 10 "PachisiYard" "board" "LPachisiYard$Board;", .methodLink RX1 105 yX1_requirePlayer, .static yX1_requirePlayer, .initialized RX1, .code yX1_requirePlayer cX1_requirePlayer 1 none, .classLink RX1 151 "java/lang/IndexOutOfBoundsException", .initialized "java/lang/IndexOutOfBoundsException", .methodLink RX1 65 yX1_requirePiece, .static yX1_requirePiece, .code yX1_requirePiece cX1_requirePiece 1 none, .methodLink RX1 108 yX0_positionOf, .instanceMethod yX0_positionOf, .selects RX0 yX0_positionOf yX0_positionOf, .initialized RX0, .code yX0_positionOf cX0_positionOf 4 (some .int), .fieldLink RX0 9 "PachisiYard$Board" "positions" "[I"] ++ wsX10 ++ wsX00 ++ (vx_atS RX1 155 "java/lang/IndexOutOfBoundsException" ["java/lang/RuntimeException", "java/lang/Exception"]).filter goodWord)
def wsX1_square : List Cond := .code yX1_square cX1_square 3 (some .int) :: ([.fieldLink RX1 10 "PachisiYard" "board" "LPachisiYard$Board;", .methodLink RX1 105 yX1_requirePlayer, .static yX1_requirePlayer, .initialized RX1, .code yX1_requirePlayer cX1_requirePlayer 1 none, .classLink RX1 151 "java/lang/IndexOutOfBoundsException", .initialized "java/lang/IndexOutOfBoundsException", .methodLink RX1 65 yX1_requirePiece, .static yX1_requirePiece, .code yX1_requirePiece cX1_requirePiece 1 none, .methodLink RX1 108 yX0_positionOf, .instanceMethod yX0_positionOf, .selects RX0 yX0_positionOf yX0_positionOf, .initialized RX0, .code yX0_positionOf cX0_positionOf 4 (some .int), .fieldLink RX0 9 "PachisiYard$Board" "positions" "[I", .methodLink RX1 87 yX0_squareAt, .instanceMethod yX0_squareAt, .selects RX0 yX0_squareAt yX0_squareAt, .code yX0_squareAt cX0_squareAt 3 (some .int)] ++ wsX10 ++ wsX00 ++ (vx_atS RX1 155 "java/lang/IndexOutOfBoundsException" ["java/lang/RuntimeException", "java/lang/Exception"]).filter goodWord)
def wsX1_requireSquare : List Cond := .code yX1_requireSquare cX1_requireSquare 1 none :: ([.classLink RX1 151 "java/lang/IndexOutOfBoundsException", .initialized "java/lang/IndexOutOfBoundsException"] ++ (vx_atS RX1 155 "java/lang/IndexOutOfBoundsException" ["java/lang/RuntimeException", "java/lang/Exception"]).filter goodWord)
def wsX1_requireTeam : List Cond := .code yX1_requireTeam cX1_requireTeam 1 none :: ([.classLink RX1 33 "java/lang/IllegalArgumentException", .initialized "java/lang/IllegalArgumentException"] ++ (vx_atS RX1 37 "java/lang/IllegalArgumentException" ["java/lang/RuntimeException", "java/lang/Exception"]).filter goodWord)
def wsX1_standing : List Cond := .code yX1_standing cX1_standing 3 (some .int) :: ([.fieldLink RX1 10 "PachisiYard" "board" "LPachisiYard$Board;", .methodLink RX1 111 yX1_requireSquare, .static yX1_requireSquare, .initialized RX1, .code yX1_requireSquare cX1_requireSquare 1 none, .classLink RX1 151 "java/lang/IndexOutOfBoundsException", .initialized "java/lang/IndexOutOfBoundsException", .methodLink RX1 114 yX1_requireTeam, .static yX1_requireTeam, .code yX1_requireTeam cX1_requireTeam 1 none, .classLink RX1 33 "java/lang/IllegalArgumentException", .initialized "java/lang/IllegalArgumentException", .methodLink RX1 117 yX0_countOn, .instanceMethod yX0_countOn, .selects RX0 yX0_countOn yX0_countOn, .initialized RX0, .code yX0_countOn cX0_countOn 4 (some .int), .fieldLink RX0 15 "PachisiYard$Board" "counts" "[I"] ++ wsX10 ++ wsX00 ++ (vx_atS RX1 155 "java/lang/IndexOutOfBoundsException" ["java/lang/RuntimeException", "java/lang/Exception"]).filter goodWord ++ (vx_atS RX1 37 "java/lang/IllegalArgumentException" ["java/lang/RuntimeException", "java/lang/Exception"]).filter goodWord)
def wsX1_isSafe : List Cond := .code yX1_isSafe cX1_isSafe 2 (some .boolean) :: ([.methodLink RX1 111 yX1_requireSquare, .static yX1_requireSquare, .initialized RX1, .code yX1_requireSquare cX1_requireSquare 1 none, .classLink RX1 151 "java/lang/IndexOutOfBoundsException", .initialized "java/lang/IndexOutOfBoundsException", .methodLink RX1 120 yX1_isSafeSquare, .static yX1_isSafeSquare, .code yX1_isSafeSquare cX1_isSafeSquare 2 (some .boolean)] ++ (vx_atS RX1 155 "java/lang/IndexOutOfBoundsException" ["java/lang/RuntimeException", "java/lang/Exception"]).filter goodWord)
def wsX1_home : List Cond := .code yX1_home cX1_home 2 (some .int) :: ([.fieldLink RX1 10 "PachisiYard" "board" "LPachisiYard$Board;", .methodLink RX1 105 yX1_requirePlayer, .static yX1_requirePlayer, .initialized RX1, .code yX1_requirePlayer cX1_requirePlayer 1 none, .classLink RX1 151 "java/lang/IndexOutOfBoundsException", .initialized "java/lang/IndexOutOfBoundsException", .methodLink RX1 123 yX0_countHome, .instanceMethod yX0_countHome, .selects RX0 yX0_countHome yX0_countHome, .initialized RX0, .code yX0_countHome cX0_countHome 4 (some .int), .methodLink RX0 18 yX0_positionOf, .instanceMethod yX0_positionOf, .selects RX0 yX0_positionOf yX0_positionOf, .code yX0_positionOf cX0_positionOf 4 (some .int), .fieldLink RX0 9 "PachisiYard$Board" "positions" "[I"] ++ wsX10 ++ wsX00 ++ (vx_atS RX1 155 "java/lang/IndexOutOfBoundsException" ["java/lang/RuntimeException", "java/lang/Exception"]).filter goodWord)
def wsX1_captures : List Cond := .code yX1_captures cX1_captures 2 (some .int) :: ([.fieldLink RX1 16 "PachisiYard" "captureCounts" "[I", .methodLink RX1 105 yX1_requirePlayer, .static yX1_requirePlayer, .initialized RX1, .code yX1_requirePlayer cX1_requirePlayer 1 none, .classLink RX1 151 "java/lang/IndexOutOfBoundsException", .initialized "java/lang/IndexOutOfBoundsException"] ++ wsX10 ++ (vx_atS RX1 155 "java/lang/IndexOutOfBoundsException" ["java/lang/RuntimeException", "java/lang/Exception"]).filter goodWord)
def wsX1_winner : List Cond := .code yX1_winner cX1_winner 1 (some .int) :: ([.fieldLink RX1 27 "PachisiYard" "stage" "I", .fieldLink RX1 20 "PachisiYard" "turn" "I", .methodLink RX1 126 yX1_teamOf, .static yX1_teamOf, .initialized RX1, .code yX1_teamOf cX1_teamOf 1 (some .int)] ++ wsX10)
def wsX1_distance : List Cond := .code yX1_distance cX1_distance 2 (some .int) :: ([.fieldLink RX1 10 "PachisiYard" "board" "LPachisiYard$Board;", .methodLink RX1 114 yX1_requireTeam, .static yX1_requireTeam, .initialized RX1, .code yX1_requireTeam cX1_requireTeam 1 none, .classLink RX1 33 "java/lang/IllegalArgumentException", .initialized "java/lang/IllegalArgumentException", .methodLink RX1 129 yX0_distanceOf, .instanceMethod yX0_distanceOf, .selects RX0 yX0_distanceOf yX0_distanceOf, .initialized RX0, .code yX0_distanceOf cX0_distanceOf 4 (some .int), .methodLink RX0 18 yX0_positionOf, .instanceMethod yX0_positionOf, .selects RX0 yX0_positionOf yX0_positionOf, .code yX0_positionOf cX0_positionOf 4 (some .int), .fieldLink RX0 9 "PachisiYard$Board" "positions" "[I"] ++ wsX10 ++ wsX00 ++ (vx_atS RX1 37 "java/lang/IllegalArgumentException" ["java/lang/RuntimeException", "java/lang/Exception"]).filter goodWord)
def wsX1_waysOf : List Cond := .code yX1_waysOf cX1_waysOf 1 (some .int) :: ([.fieldLink RX1 183 "PachisiYard" "WAYS_BY_MOUTHS" "[I"])
def wsX1_ways_r1 : List Cond := [Cond.classLink RX1 33 "java/lang/IllegalArgumentException", Cond.initialized "java/lang/IllegalArgumentException", Cond.fieldLink RX1 10 "PachisiYard" "board" "LPachisiYard$Board;", Cond.fieldLink RX1 20 "PachisiYard" "turn" "I", Cond.fieldLink RX1 24 "PachisiYard" "gracesInRow" "I", Cond.methodLink RX1 40 yX1_requireThrowDue, Cond.instanceMethod yX1_requireThrowDue, Cond.selects RX1 yX1_requireThrowDue yX1_requireThrowDue, Cond.initialized RX1, Cond.code yX1_requireThrowDue cX1_requireThrowDue 1 none, Cond.classLink RX1 76 "java/lang/IllegalStateException", Cond.initialized "java/lang/IllegalStateException", Cond.fieldLink RX1 27 "PachisiYard" "stage" "I", Cond.methodLink RX1 58 yX0_moverFor, Cond.instanceMethod yX0_moverFor, Cond.selects RX0 yX0_moverFor yX0_moverFor, Cond.initialized RX0, Cond.code yX0_moverFor cX0_moverFor 2 (some .int), Cond.methodLink RX0 22 yX0_countHome, Cond.instanceMethod yX0_countHome, Cond.selects RX0 yX0_countHome yX0_countHome, Cond.code yX0_countHome cX0_countHome 4 (some .int), Cond.methodLink RX0 18 yX0_positionOf, Cond.instanceMethod yX0_positionOf]
def wsX1_ways_r2 : List Cond := [Cond.selects RX0 yX0_positionOf yX0_positionOf, Cond.code yX0_positionOf cX0_positionOf 4 (some .int), Cond.fieldLink RX0 9 "PachisiYard$Board" "positions" "[I", Cond.static yX1_partnerOf, Cond.code yX1_partnerOf cX1_partnerOf 1 (some .int), Cond.methodLink RX1 47 yX1_isGraceTooMany, Cond.static yX1_isGraceTooMany, Cond.code yX1_isGraceTooMany cX1_isGraceTooMany 2 (some .boolean), Cond.methodLink RX1 54 yX1_isGrace, Cond.static yX1_isGrace, Cond.code yX1_isGrace cX1_isGrace 1 (some .boolean), Cond.methodLink RX1 134 yX0_canDo, Cond.instanceMethod yX0_canDo, Cond.selects RX0 yX0_canDo yX0_canDo, Cond.code yX0_canDo cX0_canDo 6 (some .boolean), Cond.methodLink RX0 71 yX0_targetOf, Cond.instanceMethod yX0_targetOf, Cond.selects RX0 yX0_targetOf yX0_targetOf, Cond.code yX0_targetOf cX0_targetOf 7 (some .int), Cond.static yX1_worthOf, Cond.code yX1_worthOf cX1_worthOf 1 (some .int), Cond.methodLink RX0 49 yX0_isWayFree, Cond.instanceMethod yX0_isWayFree, Cond.selects RX0 yX0_isWayFree yX0_isWayFree]
def wsX1_ways_r3 : List Cond := [Cond.code yX0_isWayFree cX0_isWayFree 6 (some .boolean), Cond.methodLink RX0 60 Lib.Math.min.name, Cond.static Lib.Math.min.name, Cond.initialized "java/lang/Math", Cond.code Lib.Math.min.name Lib.Math.min.code 2 (some .int), Cond.methodLink RX0 29 yX0_squareAt, Cond.instanceMethod yX0_squareAt, Cond.selects RX0 yX0_squareAt yX0_squareAt, Cond.code yX0_squareAt cX0_squareAt 3 (some .int), Cond.static yX1_otherTeam, Cond.code yX1_otherTeam cX1_otherTeam 1 (some .int), Cond.methodLink RX0 68 yX0_countOn, Cond.instanceMethod yX0_countOn, Cond.selects RX0 yX0_countOn yX0_countOn, Cond.code yX0_countOn cX0_countOn 4 (some .int), Cond.fieldLink RX0 15 "PachisiYard$Board" "counts" "[I", Cond.methodLink RX0 53 yX0_isCapture, Cond.instanceMethod yX0_isCapture, Cond.selects RX0 yX0_isCapture yX0_isCapture, Cond.code yX0_isCapture cX0_isCapture 3 (some .boolean), Cond.static yX1_isSafeSquare, Cond.code yX1_isSafeSquare cX1_isSafeSquare 2 (some .boolean), Cond.methodLink RX0 75 yX0_isDone, Cond.instanceMethod yX0_isDone]
def wsX1_ways_r4 : List Cond := [Cond.selects RX0 yX0_isDone yX0_isDone, Cond.code yX0_isDone cX0_isDone 4 (some .boolean), Cond.methodLink RX1 138 yX1_waysOf, Cond.static yX1_waysOf, Cond.code yX1_waysOf cX1_waysOf 1 (some .int), Cond.fieldLink RX1 183 "PachisiYard" "WAYS_BY_MOUTHS" "[I"]
def wsX1_ways : List Cond := .code yX1_ways cX1_ways 5 (some .int) :: ((wsX1_ways_r1 ++ (wsX1_ways_r2 ++ (wsX1_ways_r3 ++ wsX1_ways_r4))) ++ wsX10 ++ wsX00 ++ (vx_atS RX1 37 "java/lang/IllegalArgumentException" ["java/lang/RuntimeException", "java/lang/Exception"]).filter goodWord ++ (vx_atS RX1 80 "java/lang/IllegalStateException" ["java/lang/RuntimeException", "java/lang/Exception"]).filter goodWord)
def wsX1_threat_r1 : List Cond := [Cond.classLink RX1 33 "java/lang/IllegalArgumentException", Cond.initialized "java/lang/IllegalArgumentException", Cond.fieldLink RX1 10 "PachisiYard" "board" "LPachisiYard$Board;", Cond.methodLink RX1 105 yX1_requirePlayer, Cond.static yX1_requirePlayer, Cond.initialized RX1, Cond.code yX1_requirePlayer cX1_requirePlayer 1 none, Cond.classLink RX1 151 "java/lang/IndexOutOfBoundsException", Cond.initialized "java/lang/IndexOutOfBoundsException", Cond.methodLink RX1 65 yX1_requirePiece, Cond.static yX1_requirePiece, Cond.code yX1_requirePiece cX1_requirePiece 1 none, Cond.methodLink RX1 126 yX1_teamOf, Cond.static yX1_teamOf, Cond.code yX1_teamOf cX1_teamOf 1 (some .int), Cond.methodLink RX1 108 yX0_positionOf, Cond.instanceMethod yX0_positionOf, Cond.selects RX0 yX0_positionOf yX0_positionOf, Cond.initialized RX0, Cond.code yX0_positionOf cX0_positionOf 4 (some .int), Cond.fieldLink RX0 9 "PachisiYard$Board" "positions" "[I", Cond.methodLink RX1 87 yX0_squareAt, Cond.instanceMethod yX0_squareAt, Cond.selects RX0 yX0_squareAt yX0_squareAt]
def wsX1_threat_r2 : List Cond := [Cond.code yX0_squareAt cX0_squareAt 3 (some .int), Cond.methodLink RX1 58 yX0_moverFor, Cond.instanceMethod yX0_moverFor, Cond.selects RX0 yX0_moverFor yX0_moverFor, Cond.code yX0_moverFor cX0_moverFor 2 (some .int), Cond.methodLink RX0 22 yX0_countHome, Cond.instanceMethod yX0_countHome, Cond.selects RX0 yX0_countHome yX0_countHome, Cond.code yX0_countHome cX0_countHome 4 (some .int), Cond.methodLink RX0 18 yX0_positionOf, Cond.static yX1_partnerOf, Cond.code yX1_partnerOf cX1_partnerOf 1 (some .int), Cond.methodLink RX1 143 yX0_canCaptureOn, Cond.instanceMethod yX0_canCaptureOn, Cond.selects RX0 yX0_canCaptureOn yX0_canCaptureOn, Cond.code yX0_canCaptureOn cX0_canCaptureOn 6 (some .boolean), Cond.methodLink RX0 71 yX0_targetOf, Cond.instanceMethod yX0_targetOf, Cond.selects RX0 yX0_targetOf yX0_targetOf, Cond.code yX0_targetOf cX0_targetOf 7 (some .int), Cond.static yX1_isGrace, Cond.code yX1_isGrace cX1_isGrace 1 (some .boolean), Cond.static yX1_worthOf, Cond.code yX1_worthOf cX1_worthOf 1 (some .int)]
def wsX1_threat_r3 : List Cond := [Cond.methodLink RX0 49 yX0_isWayFree, Cond.instanceMethod yX0_isWayFree, Cond.selects RX0 yX0_isWayFree yX0_isWayFree, Cond.code yX0_isWayFree cX0_isWayFree 6 (some .boolean), Cond.methodLink RX0 60 Lib.Math.min.name, Cond.static Lib.Math.min.name, Cond.initialized "java/lang/Math", Cond.code Lib.Math.min.name Lib.Math.min.code 2 (some .int), Cond.methodLink RX0 29 yX0_squareAt, Cond.static yX1_otherTeam, Cond.code yX1_otherTeam cX1_otherTeam 1 (some .int), Cond.methodLink RX0 68 yX0_countOn, Cond.instanceMethod yX0_countOn, Cond.selects RX0 yX0_countOn yX0_countOn, Cond.code yX0_countOn cX0_countOn 4 (some .int), Cond.fieldLink RX0 15 "PachisiYard$Board" "counts" "[I", Cond.methodLink RX0 53 yX0_isCapture, Cond.instanceMethod yX0_isCapture, Cond.selects RX0 yX0_isCapture yX0_isCapture, Cond.code yX0_isCapture cX0_isCapture 3 (some .boolean), Cond.static yX1_isSafeSquare, Cond.code yX1_isSafeSquare cX1_isSafeSquare 2 (some .boolean), Cond.methodLink RX1 138 yX1_waysOf, Cond.static yX1_waysOf]
def wsX1_threat_r4 : List Cond := [Cond.code yX1_waysOf cX1_waysOf 1 (some .int), Cond.fieldLink RX1 183 "PachisiYard" "WAYS_BY_MOUTHS" "[I"]
def wsX1_threat : List Cond := .code yX1_threat cX1_threat 8 (some .int) :: ((wsX1_threat_r1 ++ (wsX1_threat_r2 ++ (wsX1_threat_r3 ++ wsX1_threat_r4))) ++ wsX10 ++ wsX00 ++ (vx_atS RX1 37 "java/lang/IllegalArgumentException" ["java/lang/RuntimeException", "java/lang/Exception"]).filter goodWord ++ (vx_atS RX1 155 "java/lang/IndexOutOfBoundsException" ["java/lang/RuntimeException", "java/lang/Exception"]).filter goodWord)
def wsX1_certainty : List Cond := .code yX1_certainty cX1_certainty 3 (some .int) :: ([])
def wsX1_chanceAfter_r1 : List Cond := [Cond.fieldLink RX1 10 "PachisiYard" "board" "LPachisiYard$Board;", Cond.fieldLink RX1 20 "PachisiYard" "turn" "I", Cond.methodLink RX1 47 yX1_isGraceTooMany, Cond.static yX1_isGraceTooMany, Cond.initialized RX1, Cond.code yX1_isGraceTooMany cX1_isGraceTooMany 2 (some .boolean), Cond.methodLink RX1 54 yX1_isGrace, Cond.static yX1_isGrace, Cond.code yX1_isGrace cX1_isGrace 1 (some .boolean), Cond.methodLink RX1 58 yX0_moverFor, Cond.instanceMethod yX0_moverFor, Cond.selects RX0 yX0_moverFor yX0_moverFor, Cond.initialized RX0, Cond.code yX0_moverFor cX0_moverFor 2 (some .int), Cond.methodLink RX0 22 yX0_countHome, Cond.instanceMethod yX0_countHome, Cond.selects RX0 yX0_countHome yX0_countHome, Cond.code yX0_countHome cX0_countHome 4 (some .int), Cond.methodLink RX0 18 yX0_positionOf, Cond.instanceMethod yX0_positionOf, Cond.selects RX0 yX0_positionOf yX0_positionOf, Cond.code yX0_positionOf cX0_positionOf 4 (some .int), Cond.fieldLink RX0 9 "PachisiYard$Board" "positions" "[I", Cond.static yX1_partnerOf]
def wsX1_chanceAfter_r2 : List Cond := [Cond.code yX1_partnerOf cX1_partnerOf 1 (some .int), Cond.methodLink RX1 134 yX0_canDo, Cond.instanceMethod yX0_canDo, Cond.selects RX0 yX0_canDo yX0_canDo, Cond.code yX0_canDo cX0_canDo 6 (some .boolean), Cond.methodLink RX0 71 yX0_targetOf, Cond.instanceMethod yX0_targetOf, Cond.selects RX0 yX0_targetOf yX0_targetOf, Cond.code yX0_targetOf cX0_targetOf 7 (some .int), Cond.static yX1_worthOf, Cond.code yX1_worthOf cX1_worthOf 1 (some .int), Cond.methodLink RX0 49 yX0_isWayFree, Cond.instanceMethod yX0_isWayFree, Cond.selects RX0 yX0_isWayFree yX0_isWayFree, Cond.code yX0_isWayFree cX0_isWayFree 6 (some .boolean), Cond.methodLink RX0 60 Lib.Math.min.name, Cond.static Lib.Math.min.name, Cond.initialized "java/lang/Math", Cond.code Lib.Math.min.name Lib.Math.min.code 2 (some .int), Cond.methodLink RX0 29 yX0_squareAt, Cond.instanceMethod yX0_squareAt, Cond.selects RX0 yX0_squareAt yX0_squareAt, Cond.code yX0_squareAt cX0_squareAt 3 (some .int), Cond.static yX1_otherTeam]
def wsX1_chanceAfter_r3 : List Cond := [Cond.code yX1_otherTeam cX1_otherTeam 1 (some .int), Cond.methodLink RX0 68 yX0_countOn, Cond.instanceMethod yX0_countOn, Cond.selects RX0 yX0_countOn yX0_countOn, Cond.code yX0_countOn cX0_countOn 4 (some .int), Cond.fieldLink RX0 15 "PachisiYard$Board" "counts" "[I", Cond.methodLink RX0 53 yX0_isCapture, Cond.instanceMethod yX0_isCapture, Cond.selects RX0 yX0_isCapture yX0_isCapture, Cond.code yX0_isCapture cX0_isCapture 3 (some .boolean), Cond.static yX1_isSafeSquare, Cond.code yX1_isSafeSquare cX1_isSafeSquare 2 (some .boolean), Cond.methodLink RX0 75 yX0_isDone, Cond.instanceMethod yX0_isDone, Cond.selects RX0 yX0_isDone yX0_isDone, Cond.code yX0_isDone cX0_isDone 4 (some .boolean), Cond.methodLink RX1 172 yX1_certainty, Cond.static yX1_certainty, Cond.code yX1_certainty cX1_certainty 3 (some .int), Cond.methodLink RX1 175 yX1_chanceAfterGrace, Cond.instanceMethod yX1_chanceAfterGrace, Cond.selects RX1 yX1_chanceAfterGrace yX1_chanceAfterGrace, Cond.code yX1_chanceAfterGrace cX1_chanceAfterGrace 9 (some .int), Cond.methodLink RX1 178 Lib.Math.max.name]
def wsX1_chanceAfter_r4 : List Cond := [Cond.static Lib.Math.max.name, Cond.code Lib.Math.max.name Lib.Math.max.code 2 (some .int), Cond.methodLink RX1 61 yX0_movableSet, Cond.instanceMethod yX0_movableSet, Cond.selects RX0 yX0_movableSet yX0_movableSet, Cond.code yX0_movableSet cX0_movableSet 5 (some .int), Cond.methodLink RX1 148 yX1_chanceWithin, Cond.instanceMethod yX1_chanceWithin, Cond.selects RX1 yX1_chanceWithin yX1_chanceWithin, Cond.methodLink RX1 72 yX0_targetOf, Cond.methodLink RX1 108 yX0_positionOf, Cond.methodLink RX1 97 yX0_place, Cond.instanceMethod yX0_place, Cond.selects RX0 yX0_place yX0_place, Cond.code yX0_place cX0_place 5 none, Cond.static yX1_teamOf, Cond.code yX1_teamOf cX1_teamOf 1 (some .int), Cond.methodLink RX0 35 yX0_addOn, Cond.instanceMethod yX0_addOn, Cond.selects RX0 yX0_addOn yX0_addOn, Cond.code yX0_addOn cX0_addOn 5 none, Cond.code yX1_chanceWithin cX1_chanceWithin 5 (some .int), Cond.methodLink RX1 138 yX1_waysOf, Cond.static yX1_waysOf]
def wsX1_chanceAfter_r5 : List Cond := [Cond.code yX1_waysOf cX1_waysOf 1 (some .int), Cond.fieldLink RX1 183 "PachisiYard" "WAYS_BY_MOUTHS" "[I", Cond.methodLink RX1 169 yX1_chanceAfter, Cond.instanceMethod yX1_chanceAfter, Cond.selects RX1 yX1_chanceAfter yX1_chanceAfter]
def wsX1_chanceAfter : List Cond := .code yX1_chanceAfter cX1_chanceAfter 4 (some .int) :: ((wsX1_chanceAfter_r1 ++ (wsX1_chanceAfter_r2 ++ (wsX1_chanceAfter_r3 ++ (wsX1_chanceAfter_r4 ++ wsX1_chanceAfter_r5)))) ++ wsX10 ++ wsX00)
def wsX1_chanceAfterGrace_r1 : List Cond := [Cond.fieldLink RX1 10 "PachisiYard" "board" "LPachisiYard$Board;", Cond.fieldLink RX1 20 "PachisiYard" "turn" "I", Cond.methodLink RX1 178 Lib.Math.max.name, Cond.static Lib.Math.max.name, Cond.initialized "java/lang/Math", Cond.code Lib.Math.max.name Lib.Math.max.code 2 (some .int), Cond.methodLink RX1 58 yX0_moverFor, Cond.instanceMethod yX0_moverFor, Cond.selects RX0 yX0_moverFor yX0_moverFor, Cond.initialized RX0, Cond.code yX0_moverFor cX0_moverFor 2 (some .int), Cond.methodLink RX0 22 yX0_countHome, Cond.instanceMethod yX0_countHome, Cond.selects RX0 yX0_countHome yX0_countHome, Cond.code yX0_countHome cX0_countHome 4 (some .int), Cond.methodLink RX0 18 yX0_positionOf, Cond.instanceMethod yX0_positionOf, Cond.selects RX0 yX0_positionOf yX0_positionOf, Cond.code yX0_positionOf cX0_positionOf 4 (some .int), Cond.fieldLink RX0 9 "PachisiYard$Board" "positions" "[I", Cond.static yX1_partnerOf, Cond.initialized RX1, Cond.code yX1_partnerOf cX1_partnerOf 1 (some .int), Cond.methodLink RX1 61 yX0_movableSet]
def wsX1_chanceAfterGrace_r2 : List Cond := [Cond.instanceMethod yX0_movableSet, Cond.selects RX0 yX0_movableSet yX0_movableSet, Cond.code yX0_movableSet cX0_movableSet 5 (some .int), Cond.methodLink RX0 71 yX0_targetOf, Cond.instanceMethod yX0_targetOf, Cond.selects RX0 yX0_targetOf yX0_targetOf, Cond.code yX0_targetOf cX0_targetOf 7 (some .int), Cond.static yX1_isGrace, Cond.code yX1_isGrace cX1_isGrace 1 (some .boolean), Cond.static yX1_worthOf, Cond.code yX1_worthOf cX1_worthOf 1 (some .int), Cond.methodLink RX0 49 yX0_isWayFree, Cond.instanceMethod yX0_isWayFree, Cond.selects RX0 yX0_isWayFree yX0_isWayFree, Cond.code yX0_isWayFree cX0_isWayFree 6 (some .boolean), Cond.methodLink RX0 60 Lib.Math.min.name, Cond.static Lib.Math.min.name, Cond.code Lib.Math.min.name Lib.Math.min.code 2 (some .int), Cond.methodLink RX0 29 yX0_squareAt, Cond.instanceMethod yX0_squareAt, Cond.selects RX0 yX0_squareAt yX0_squareAt, Cond.code yX0_squareAt cX0_squareAt 3 (some .int), Cond.static yX1_otherTeam, Cond.code yX1_otherTeam cX1_otherTeam 1 (some .int)]
def wsX1_chanceAfterGrace_r3 : List Cond := [Cond.methodLink RX0 68 yX0_countOn, Cond.instanceMethod yX0_countOn, Cond.selects RX0 yX0_countOn yX0_countOn, Cond.code yX0_countOn cX0_countOn 4 (some .int), Cond.fieldLink RX0 15 "PachisiYard$Board" "counts" "[I", Cond.methodLink RX0 53 yX0_isCapture, Cond.instanceMethod yX0_isCapture, Cond.selects RX0 yX0_isCapture yX0_isCapture, Cond.code yX0_isCapture cX0_isCapture 3 (some .boolean), Cond.static yX1_isSafeSquare, Cond.code yX1_isSafeSquare cX1_isSafeSquare 2 (some .boolean), Cond.methodLink RX1 148 yX1_chanceWithin, Cond.instanceMethod yX1_chanceWithin, Cond.selects RX1 yX1_chanceWithin yX1_chanceWithin, Cond.methodLink RX1 72 yX0_targetOf, Cond.methodLink RX1 108 yX0_positionOf, Cond.methodLink RX1 97 yX0_place, Cond.instanceMethod yX0_place, Cond.selects RX0 yX0_place yX0_place, Cond.code yX0_place cX0_place 5 none, Cond.static yX1_teamOf, Cond.code yX1_teamOf cX1_teamOf 1 (some .int), Cond.methodLink RX0 35 yX0_addOn, Cond.instanceMethod yX0_addOn]
def wsX1_chanceAfterGrace_r4 : List Cond := [Cond.selects RX0 yX0_addOn yX0_addOn, Cond.code yX0_addOn cX0_addOn 5 none, Cond.code yX1_chanceAfter cX1_chanceAfter 4 (some .int), Cond.methodLink RX1 47 yX1_isGraceTooMany, Cond.static yX1_isGraceTooMany, Cond.code yX1_isGraceTooMany cX1_isGraceTooMany 2 (some .boolean), Cond.methodLink RX1 54 yX1_isGrace, Cond.methodLink RX1 134 yX0_canDo, Cond.instanceMethod yX0_canDo, Cond.selects RX0 yX0_canDo yX0_canDo, Cond.code yX0_canDo cX0_canDo 6 (some .boolean), Cond.methodLink RX0 75 yX0_isDone, Cond.instanceMethod yX0_isDone, Cond.selects RX0 yX0_isDone yX0_isDone, Cond.code yX0_isDone cX0_isDone 4 (some .boolean), Cond.methodLink RX1 172 yX1_certainty, Cond.static yX1_certainty, Cond.code yX1_certainty cX1_certainty 3 (some .int), Cond.methodLink RX1 175 yX1_chanceAfterGrace, Cond.instanceMethod yX1_chanceAfterGrace, Cond.selects RX1 yX1_chanceAfterGrace yX1_chanceAfterGrace, Cond.code yX1_chanceWithin cX1_chanceWithin 5 (some .int), Cond.methodLink RX1 138 yX1_waysOf, Cond.static yX1_waysOf]
def wsX1_chanceAfterGrace_r5 : List Cond := [Cond.code yX1_waysOf cX1_waysOf 1 (some .int), Cond.fieldLink RX1 183 "PachisiYard" "WAYS_BY_MOUTHS" "[I", Cond.methodLink RX1 169 yX1_chanceAfter, Cond.instanceMethod yX1_chanceAfter, Cond.selects RX1 yX1_chanceAfter yX1_chanceAfter]
def wsX1_chanceAfterGrace : List Cond := .code yX1_chanceAfterGrace cX1_chanceAfterGrace 9 (some .int) :: ((wsX1_chanceAfterGrace_r1 ++ (wsX1_chanceAfterGrace_r2 ++ (wsX1_chanceAfterGrace_r3 ++ (wsX1_chanceAfterGrace_r4 ++ wsX1_chanceAfterGrace_r5)))) ++ wsX10 ++ wsX00)
def wsX1_chanceWithin_r1 : List Cond := [Cond.methodLink RX1 138 yX1_waysOf, Cond.static yX1_waysOf, Cond.initialized RX1, Cond.code yX1_waysOf cX1_waysOf 1 (some .int), Cond.fieldLink RX1 183 "PachisiYard" "WAYS_BY_MOUTHS" "[I", Cond.methodLink RX1 169 yX1_chanceAfter, Cond.instanceMethod yX1_chanceAfter, Cond.selects RX1 yX1_chanceAfter yX1_chanceAfter, Cond.code yX1_chanceAfter cX1_chanceAfter 4 (some .int), Cond.fieldLink RX1 10 "PachisiYard" "board" "LPachisiYard$Board;", Cond.fieldLink RX1 20 "PachisiYard" "turn" "I", Cond.methodLink RX1 47 yX1_isGraceTooMany, Cond.static yX1_isGraceTooMany, Cond.code yX1_isGraceTooMany cX1_isGraceTooMany 2 (some .boolean), Cond.methodLink RX1 54 yX1_isGrace, Cond.static yX1_isGrace, Cond.code yX1_isGrace cX1_isGrace 1 (some .boolean), Cond.methodLink RX1 58 yX0_moverFor, Cond.instanceMethod yX0_moverFor, Cond.selects RX0 yX0_moverFor yX0_moverFor, Cond.initialized RX0, Cond.code yX0_moverFor cX0_moverFor 2 (some .int), Cond.methodLink RX0 22 yX0_countHome, Cond.instanceMethod yX0_countHome]
def wsX1_chanceWithin_r2 : List Cond := [Cond.selects RX0 yX0_countHome yX0_countHome, Cond.code yX0_countHome cX0_countHome 4 (some .int), Cond.methodLink RX0 18 yX0_positionOf, Cond.instanceMethod yX0_positionOf, Cond.selects RX0 yX0_positionOf yX0_positionOf, Cond.code yX0_positionOf cX0_positionOf 4 (some .int), Cond.fieldLink RX0 9 "PachisiYard$Board" "positions" "[I", Cond.static yX1_partnerOf, Cond.code yX1_partnerOf cX1_partnerOf 1 (some .int), Cond.methodLink RX1 134 yX0_canDo, Cond.instanceMethod yX0_canDo, Cond.selects RX0 yX0_canDo yX0_canDo, Cond.code yX0_canDo cX0_canDo 6 (some .boolean), Cond.methodLink RX0 71 yX0_targetOf, Cond.instanceMethod yX0_targetOf, Cond.selects RX0 yX0_targetOf yX0_targetOf, Cond.code yX0_targetOf cX0_targetOf 7 (some .int), Cond.static yX1_worthOf, Cond.code yX1_worthOf cX1_worthOf 1 (some .int), Cond.methodLink RX0 49 yX0_isWayFree, Cond.instanceMethod yX0_isWayFree, Cond.selects RX0 yX0_isWayFree yX0_isWayFree, Cond.code yX0_isWayFree cX0_isWayFree 6 (some .boolean), Cond.methodLink RX0 60 Lib.Math.min.name]
def wsX1_chanceWithin_r3 : List Cond := [Cond.static Lib.Math.min.name, Cond.initialized "java/lang/Math", Cond.code Lib.Math.min.name Lib.Math.min.code 2 (some .int), Cond.methodLink RX0 29 yX0_squareAt, Cond.instanceMethod yX0_squareAt, Cond.selects RX0 yX0_squareAt yX0_squareAt, Cond.code yX0_squareAt cX0_squareAt 3 (some .int), Cond.static yX1_otherTeam, Cond.code yX1_otherTeam cX1_otherTeam 1 (some .int), Cond.methodLink RX0 68 yX0_countOn, Cond.instanceMethod yX0_countOn, Cond.selects RX0 yX0_countOn yX0_countOn, Cond.code yX0_countOn cX0_countOn 4 (some .int), Cond.fieldLink RX0 15 "PachisiYard$Board" "counts" "[I", Cond.methodLink RX0 53 yX0_isCapture, Cond.instanceMethod yX0_isCapture, Cond.selects RX0 yX0_isCapture yX0_isCapture, Cond.code yX0_isCapture cX0_isCapture 3 (some .boolean), Cond.static yX1_isSafeSquare, Cond.code yX1_isSafeSquare cX1_isSafeSquare 2 (some .boolean), Cond.methodLink RX0 75 yX0_isDone, Cond.instanceMethod yX0_isDone, Cond.selects RX0 yX0_isDone yX0_isDone, Cond.code yX0_isDone cX0_isDone 4 (some .boolean)]
def wsX1_chanceWithin_r4 : List Cond := [Cond.methodLink RX1 172 yX1_certainty, Cond.static yX1_certainty, Cond.code yX1_certainty cX1_certainty 3 (some .int), Cond.methodLink RX1 175 yX1_chanceAfterGrace, Cond.instanceMethod yX1_chanceAfterGrace, Cond.selects RX1 yX1_chanceAfterGrace yX1_chanceAfterGrace, Cond.code yX1_chanceAfterGrace cX1_chanceAfterGrace 9 (some .int), Cond.methodLink RX1 178 Lib.Math.max.name, Cond.static Lib.Math.max.name, Cond.code Lib.Math.max.name Lib.Math.max.code 2 (some .int), Cond.methodLink RX1 61 yX0_movableSet, Cond.instanceMethod yX0_movableSet, Cond.selects RX0 yX0_movableSet yX0_movableSet, Cond.code yX0_movableSet cX0_movableSet 5 (some .int), Cond.methodLink RX1 148 yX1_chanceWithin, Cond.instanceMethod yX1_chanceWithin, Cond.selects RX1 yX1_chanceWithin yX1_chanceWithin, Cond.methodLink RX1 72 yX0_targetOf, Cond.methodLink RX1 108 yX0_positionOf, Cond.methodLink RX1 97 yX0_place, Cond.instanceMethod yX0_place, Cond.selects RX0 yX0_place yX0_place, Cond.code yX0_place cX0_place 5 none, Cond.static yX1_teamOf]
def wsX1_chanceWithin_r5 : List Cond := [Cond.code yX1_teamOf cX1_teamOf 1 (some .int), Cond.methodLink RX0 35 yX0_addOn, Cond.instanceMethod yX0_addOn, Cond.selects RX0 yX0_addOn yX0_addOn, Cond.code yX0_addOn cX0_addOn 5 none]
def wsX1_chanceWithin : List Cond := .code yX1_chanceWithin cX1_chanceWithin 5 (some .int) :: ((wsX1_chanceWithin_r1 ++ (wsX1_chanceWithin_r2 ++ (wsX1_chanceWithin_r3 ++ (wsX1_chanceWithin_r4 ++ wsX1_chanceWithin_r5)))) ++ wsX10 ++ wsX00)
def wsX1_captureChance_r1 : List Cond := [Cond.classLink RX1 33 "java/lang/IllegalArgumentException", Cond.initialized "java/lang/IllegalArgumentException", Cond.fieldLink RX1 24 "PachisiYard" "gracesInRow" "I", Cond.methodLink RX1 40 yX1_requireThrowDue, Cond.instanceMethod yX1_requireThrowDue, Cond.selects RX1 yX1_requireThrowDue yX1_requireThrowDue, Cond.initialized RX1, Cond.code yX1_requireThrowDue cX1_requireThrowDue 1 none, Cond.classLink RX1 76 "java/lang/IllegalStateException", Cond.initialized "java/lang/IllegalStateException", Cond.fieldLink RX1 27 "PachisiYard" "stage" "I", Cond.methodLink RX1 148 yX1_chanceWithin, Cond.instanceMethod yX1_chanceWithin, Cond.selects RX1 yX1_chanceWithin yX1_chanceWithin, Cond.code yX1_chanceWithin cX1_chanceWithin 5 (some .int), Cond.methodLink RX1 138 yX1_waysOf, Cond.static yX1_waysOf, Cond.code yX1_waysOf cX1_waysOf 1 (some .int), Cond.fieldLink RX1 183 "PachisiYard" "WAYS_BY_MOUTHS" "[I", Cond.methodLink RX1 169 yX1_chanceAfter, Cond.instanceMethod yX1_chanceAfter, Cond.selects RX1 yX1_chanceAfter yX1_chanceAfter, Cond.code yX1_chanceAfter cX1_chanceAfter 4 (some .int), Cond.fieldLink RX1 10 "PachisiYard" "board" "LPachisiYard$Board;"]
def wsX1_captureChance_r2 : List Cond := [Cond.fieldLink RX1 20 "PachisiYard" "turn" "I", Cond.methodLink RX1 47 yX1_isGraceTooMany, Cond.static yX1_isGraceTooMany, Cond.code yX1_isGraceTooMany cX1_isGraceTooMany 2 (some .boolean), Cond.methodLink RX1 54 yX1_isGrace, Cond.static yX1_isGrace, Cond.code yX1_isGrace cX1_isGrace 1 (some .boolean), Cond.methodLink RX1 58 yX0_moverFor, Cond.instanceMethod yX0_moverFor, Cond.selects RX0 yX0_moverFor yX0_moverFor, Cond.initialized RX0, Cond.code yX0_moverFor cX0_moverFor 2 (some .int), Cond.methodLink RX0 22 yX0_countHome, Cond.instanceMethod yX0_countHome, Cond.selects RX0 yX0_countHome yX0_countHome, Cond.code yX0_countHome cX0_countHome 4 (some .int), Cond.methodLink RX0 18 yX0_positionOf, Cond.instanceMethod yX0_positionOf, Cond.selects RX0 yX0_positionOf yX0_positionOf, Cond.code yX0_positionOf cX0_positionOf 4 (some .int), Cond.fieldLink RX0 9 "PachisiYard$Board" "positions" "[I", Cond.static yX1_partnerOf, Cond.code yX1_partnerOf cX1_partnerOf 1 (some .int), Cond.methodLink RX1 134 yX0_canDo]
def wsX1_captureChance_r3 : List Cond := [Cond.instanceMethod yX0_canDo, Cond.selects RX0 yX0_canDo yX0_canDo, Cond.code yX0_canDo cX0_canDo 6 (some .boolean), Cond.methodLink RX0 71 yX0_targetOf, Cond.instanceMethod yX0_targetOf, Cond.selects RX0 yX0_targetOf yX0_targetOf, Cond.code yX0_targetOf cX0_targetOf 7 (some .int), Cond.static yX1_worthOf, Cond.code yX1_worthOf cX1_worthOf 1 (some .int), Cond.methodLink RX0 49 yX0_isWayFree, Cond.instanceMethod yX0_isWayFree, Cond.selects RX0 yX0_isWayFree yX0_isWayFree, Cond.code yX0_isWayFree cX0_isWayFree 6 (some .boolean), Cond.methodLink RX0 60 Lib.Math.min.name, Cond.static Lib.Math.min.name, Cond.initialized "java/lang/Math", Cond.code Lib.Math.min.name Lib.Math.min.code 2 (some .int), Cond.methodLink RX0 29 yX0_squareAt, Cond.instanceMethod yX0_squareAt, Cond.selects RX0 yX0_squareAt yX0_squareAt, Cond.code yX0_squareAt cX0_squareAt 3 (some .int), Cond.static yX1_otherTeam, Cond.code yX1_otherTeam cX1_otherTeam 1 (some .int), Cond.methodLink RX0 68 yX0_countOn]
def wsX1_captureChance_r4 : List Cond := [Cond.instanceMethod yX0_countOn, Cond.selects RX0 yX0_countOn yX0_countOn, Cond.code yX0_countOn cX0_countOn 4 (some .int), Cond.fieldLink RX0 15 "PachisiYard$Board" "counts" "[I", Cond.methodLink RX0 53 yX0_isCapture, Cond.instanceMethod yX0_isCapture, Cond.selects RX0 yX0_isCapture yX0_isCapture, Cond.code yX0_isCapture cX0_isCapture 3 (some .boolean), Cond.static yX1_isSafeSquare, Cond.code yX1_isSafeSquare cX1_isSafeSquare 2 (some .boolean), Cond.methodLink RX0 75 yX0_isDone, Cond.instanceMethod yX0_isDone, Cond.selects RX0 yX0_isDone yX0_isDone, Cond.code yX0_isDone cX0_isDone 4 (some .boolean), Cond.methodLink RX1 172 yX1_certainty, Cond.static yX1_certainty, Cond.code yX1_certainty cX1_certainty 3 (some .int), Cond.methodLink RX1 175 yX1_chanceAfterGrace, Cond.instanceMethod yX1_chanceAfterGrace, Cond.selects RX1 yX1_chanceAfterGrace yX1_chanceAfterGrace, Cond.code yX1_chanceAfterGrace cX1_chanceAfterGrace 9 (some .int), Cond.methodLink RX1 178 Lib.Math.max.name, Cond.static Lib.Math.max.name, Cond.code Lib.Math.max.name Lib.Math.max.code 2 (some .int)]
def wsX1_captureChance_r5 : List Cond := [Cond.methodLink RX1 61 yX0_movableSet, Cond.instanceMethod yX0_movableSet, Cond.selects RX0 yX0_movableSet yX0_movableSet, Cond.code yX0_movableSet cX0_movableSet 5 (some .int), Cond.methodLink RX1 72 yX0_targetOf, Cond.methodLink RX1 108 yX0_positionOf, Cond.methodLink RX1 97 yX0_place, Cond.instanceMethod yX0_place, Cond.selects RX0 yX0_place yX0_place, Cond.code yX0_place cX0_place 5 none, Cond.static yX1_teamOf, Cond.code yX1_teamOf cX1_teamOf 1 (some .int), Cond.methodLink RX0 35 yX0_addOn, Cond.instanceMethod yX0_addOn, Cond.selects RX0 yX0_addOn yX0_addOn, Cond.code yX0_addOn cX0_addOn 5 none]
def wsX1_captureChance : List Cond := .code yX1_captureChance cX1_captureChance 2 (some .int) :: ((wsX1_captureChance_r1 ++ (wsX1_captureChance_r2 ++ (wsX1_captureChance_r3 ++ (wsX1_captureChance_r4 ++ wsX1_captureChance_r5)))) ++ wsX10 ++ wsX00 ++ (vx_atS RX1 37 "java/lang/IllegalArgumentException" ["java/lang/RuntimeException", "java/lang/Exception"]).filter goodWord ++ (vx_atS RX1 80 "java/lang/IllegalStateException" ["java/lang/RuntimeException", "java/lang/Exception"]).filter goodWord)
def wsJ9_max_7cf53 : List Cond := .code yJ9_max_7cf53 cJ9_max_7cf53 2 (some .int) :: ([])
def wsJ9_min_7cf53 : List Cond := .code yJ9_min_7cf53 cJ9_min_7cf53 2 (some .int) :: ([])
theorem inJ9 : ∀ w ∈ wsJ90, w ∈ lw_tbl := by decide +kernel
theorem inJ0 : ∀ w ∈ wsJ00, w ∈ lw_tbl := by decide +kernel
theorem dX0_init_0 : decode cX0_init 0 = .ok (.aload_n 0, 1) := by decide +kernel
theorem dX0_init_1 : decode cX0_init 1 = .ok (.invokespecial 3, 3) := by decide +kernel
theorem dX0_init_4 : decode cX0_init 4 = .ok (.aload_n 0, 1) := by decide +kernel
theorem dX0_init_5 : decode cX0_init 5 = .ok (.bipush 16, 2) := by decide +kernel
theorem dX0_init_7 : decode cX0_init 7 = .ok (.newarray .int, 2) := by decide +kernel
theorem dX0_init_9 : decode cX0_init 9 = .ok (.putfield 9, 3) := by decide +kernel
theorem dX0_init_12 : decode cX0_init 12 = .ok (.aload_n 0, 1) := by decide +kernel
theorem dX0_init_13 : decode cX0_init 13 = .ok (.sipush 136, 3) := by decide +kernel
theorem dX0_init_16 : decode cX0_init 16 = .ok (.newarray .int, 2) := by decide +kernel
theorem dX0_init_18 : decode cX0_init 18 = .ok (.putfield 15, 3) := by decide +kernel
theorem dX0_init_21 : decode cX0_init 21 = .ok (.return_, 1) := by decide +kernel
theorem dX0_positionOf_0 : decode cX0_positionOf 0 = .ok (.iload_n 1, 1) := by decide +kernel
theorem dX0_positionOf_1 : decode cX0_positionOf 1 = .ok (.iconst 4, 1) := by decide +kernel
theorem dX0_positionOf_2 : decode cX0_positionOf 2 = .ok (.imul, 1) := by decide +kernel
theorem dX0_positionOf_3 : decode cX0_positionOf 3 = .ok (.iload_n 2, 1) := by decide +kernel
theorem dX0_positionOf_4 : decode cX0_positionOf 4 = .ok (.iadd, 1) := by decide +kernel
theorem dX0_positionOf_5 : decode cX0_positionOf 5 = .ok (.istore_n 3, 1) := by decide +kernel
theorem dX0_positionOf_6 : decode cX0_positionOf 6 = .ok (.iload_n 3, 1) := by decide +kernel
theorem dX0_positionOf_7 : decode cX0_positionOf 7 = .ok (.ifCond .lt 21, 3) := by decide +kernel
theorem dX0_positionOf_10 : decode cX0_positionOf 10 = .ok (.iload_n 3, 1) := by decide +kernel
theorem dX0_positionOf_11 : decode cX0_positionOf 11 = .ok (.aload_n 0, 1) := by decide +kernel
theorem dX0_positionOf_12 : decode cX0_positionOf 12 = .ok (.getfield 9, 3) := by decide +kernel
theorem dX0_positionOf_15 : decode cX0_positionOf 15 = .ok (.arraylength, 1) := by decide +kernel
theorem dX0_positionOf_16 : decode cX0_positionOf 16 = .ok (.if_icmp .ge 12, 3) := by decide +kernel
theorem dX0_positionOf_19 : decode cX0_positionOf 19 = .ok (.aload_n 0, 1) := by decide +kernel
theorem dX0_positionOf_20 : decode cX0_positionOf 20 = .ok (.getfield 9, 3) := by decide +kernel
theorem dX0_positionOf_23 : decode cX0_positionOf 23 = .ok (.iload_n 3, 1) := by decide +kernel
theorem dX0_positionOf_24 : decode cX0_positionOf 24 = .ok (.iaload, 1) := by decide +kernel
theorem dX0_positionOf_25 : decode cX0_positionOf 25 = .ok (.goto 4, 3) := by decide +kernel
theorem dX0_positionOf_28 : decode cX0_positionOf 28 = .ok (.iconst 0, 1) := by decide +kernel
theorem dX0_positionOf_29 : decode cX0_positionOf 29 = .ok (.ireturn, 1) := by decide +kernel
theorem dX0_squareAt_0 : decode cX0_squareAt 0 = .ok (.iload_n 2, 1) := by decide +kernel
theorem dX0_squareAt_1 : decode cX0_squareAt 1 = .ok (.iconst 1, 1) := by decide +kernel
theorem dX0_squareAt_2 : decode cX0_squareAt 2 = .ok (.if_icmp .lt 9, 3) := by decide +kernel
theorem dX0_squareAt_5 : decode cX0_squareAt 5 = .ok (.iload_n 2, 1) := by decide +kernel
theorem dX0_squareAt_6 : decode cX0_squareAt 6 = .ok (.bipush 64, 2) := by decide +kernel
theorem dX0_squareAt_8 : decode cX0_squareAt 8 = .ok (.if_icmp .le 5, 3) := by decide +kernel
theorem dX0_squareAt_11 : decode cX0_squareAt 11 = .ok (.iconst (-1), 1) := by decide +kernel
theorem dX0_squareAt_12 : decode cX0_squareAt 12 = .ok (.ireturn, 1) := by decide +kernel
theorem dX0_squareAt_13 : decode cX0_squareAt 13 = .ok (.bipush 17, 2) := by decide +kernel
theorem dX0_squareAt_15 : decode cX0_squareAt 15 = .ok (.iload_n 1, 1) := by decide +kernel
theorem dX0_squareAt_16 : decode cX0_squareAt 16 = .ok (.imul, 1) := by decide +kernel
theorem dX0_squareAt_17 : decode cX0_squareAt 17 = .ok (.iconst 3, 1) := by decide +kernel
theorem dX0_squareAt_18 : decode cX0_squareAt 18 = .ok (.iadd, 1) := by decide +kernel
theorem dX0_squareAt_19 : decode cX0_squareAt 19 = .ok (.iload_n 2, 1) := by decide +kernel
theorem dX0_squareAt_20 : decode cX0_squareAt 20 = .ok (.iadd, 1) := by decide +kernel
theorem dX0_squareAt_21 : decode cX0_squareAt 21 = .ok (.bipush 68, 2) := by decide +kernel
theorem dX0_squareAt_23 : decode cX0_squareAt 23 = .ok (.irem, 1) := by decide +kernel
theorem dX0_squareAt_24 : decode cX0_squareAt 24 = .ok (.ireturn, 1) := by decide +kernel
theorem dX0_countOn_0 : decode cX0_countOn 0 = .ok (.iload_n 2, 1) := by decide +kernel
theorem dX0_countOn_1 : decode cX0_countOn 1 = .ok (.bipush 68, 2) := by decide +kernel
theorem dX0_countOn_3 : decode cX0_countOn 3 = .ok (.imul, 1) := by decide +kernel
theorem dX0_countOn_4 : decode cX0_countOn 4 = .ok (.iload_n 1, 1) := by decide +kernel
theorem dX0_countOn_5 : decode cX0_countOn 5 = .ok (.iadd, 1) := by decide +kernel
theorem dX0_countOn_6 : decode cX0_countOn 6 = .ok (.istore_n 3, 1) := by decide +kernel
theorem dX0_countOn_7 : decode cX0_countOn 7 = .ok (.iload_n 1, 1) := by decide +kernel
theorem dX0_countOn_8 : decode cX0_countOn 8 = .ok (.ifCond .lt 25, 3) := by decide +kernel
theorem dX0_countOn_11 : decode cX0_countOn 11 = .ok (.iload_n 3, 1) := by decide +kernel
theorem dX0_countOn_12 : decode cX0_countOn 12 = .ok (.ifCond .lt 21, 3) := by decide +kernel
theorem dX0_countOn_15 : decode cX0_countOn 15 = .ok (.iload_n 3, 1) := by decide +kernel
theorem dX0_countOn_16 : decode cX0_countOn 16 = .ok (.aload_n 0, 1) := by decide +kernel
theorem dX0_countOn_17 : decode cX0_countOn 17 = .ok (.getfield 15, 3) := by decide +kernel
theorem dX0_countOn_20 : decode cX0_countOn 20 = .ok (.arraylength, 1) := by decide +kernel
theorem dX0_countOn_21 : decode cX0_countOn 21 = .ok (.if_icmp .ge 12, 3) := by decide +kernel
theorem dX0_countOn_24 : decode cX0_countOn 24 = .ok (.aload_n 0, 1) := by decide +kernel
theorem dX0_countOn_25 : decode cX0_countOn 25 = .ok (.getfield 15, 3) := by decide +kernel
theorem dX0_countOn_28 : decode cX0_countOn 28 = .ok (.iload_n 3, 1) := by decide +kernel
theorem dX0_countOn_29 : decode cX0_countOn 29 = .ok (.iaload, 1) := by decide +kernel
theorem dX0_countOn_30 : decode cX0_countOn 30 = .ok (.goto 4, 3) := by decide +kernel
theorem dX0_countOn_33 : decode cX0_countOn 33 = .ok (.iconst 0, 1) := by decide +kernel
theorem dX0_countOn_34 : decode cX0_countOn 34 = .ok (.ireturn, 1) := by decide +kernel
set_option maxRecDepth 20000 in
theorem ggX0_countHome_X0_positionOf : GoodIn wsX0_countHome wsX0_positionOf := goodIn_r _ [5, 6, 7, 8] (by decide +kernel) (by decide +kernel)
set_option maxRecDepth 20000 in
theorem gX0_countHome_X0_positionOf : GoodIn wsX0_countHome (wsV RX0 18 RX0 yX0_positionOf wsX0_positionOf) := goodIn_app (goodIn_of _ (by decide +kernel)) ggX0_countHome_X0_positionOf
theorem dX0_countHome_0 : decode cX0_countHome 0 = .ok (.iconst 0, 1) := by decide +kernel
theorem dX0_countHome_1 : decode cX0_countHome 1 = .ok (.istore_n 2, 1) := by decide +kernel
theorem dX0_countHome_2 : decode cX0_countHome 2 = .ok (.iconst 0, 1) := by decide +kernel
theorem dX0_countHome_3 : decode cX0_countHome 3 = .ok (.istore_n 3, 1) := by decide +kernel
theorem dX0_countHome_4 : decode cX0_countHome 4 = .ok (.iload_n 3, 1) := by decide +kernel
theorem dX0_countHome_5 : decode cX0_countHome 5 = .ok (.iconst 4, 1) := by decide +kernel
theorem dX0_countHome_6 : decode cX0_countHome 6 = .ok (.if_icmp .ge 23, 3) := by decide +kernel
theorem dX0_countHome_9 : decode cX0_countHome 9 = .ok (.aload_n 0, 1) := by decide +kernel
theorem dX0_countHome_10 : decode cX0_countHome 10 = .ok (.iload_n 1, 1) := by decide +kernel
theorem dX0_countHome_11 : decode cX0_countHome 11 = .ok (.iload_n 3, 1) := by decide +kernel
theorem dX0_countHome_12 : decode cX0_countHome 12 = .ok (.invokevirtual 18, 3) := by decide +kernel
theorem dX0_countHome_15 : decode cX0_countHome 15 = .ok (.bipush 72, 2) := by decide +kernel
theorem dX0_countHome_17 : decode cX0_countHome 17 = .ok (.if_icmp .ne 6, 3) := by decide +kernel
theorem dX0_countHome_20 : decode cX0_countHome 20 = .ok (.iinc 2 1, 3) := by decide +kernel
theorem dX0_countHome_23 : decode cX0_countHome 23 = .ok (.iinc 3 1, 3) := by decide +kernel
theorem dX0_countHome_26 : decode cX0_countHome 26 = .ok (.goto (-22), 3) := by decide +kernel
theorem dX0_countHome_29 : decode cX0_countHome 29 = .ok (.iload_n 2, 1) := by decide +kernel
theorem dX0_countHome_30 : decode cX0_countHome 30 = .ok (.ireturn, 1) := by decide +kernel
set_option maxRecDepth 20000 in
theorem ggX0_distanceOf_X0_positionOf : GoodIn wsX0_distanceOf wsX0_positionOf := goodIn_r _ [5, 6, 7, 8] (by decide +kernel) (by decide +kernel)
set_option maxRecDepth 20000 in
theorem gX0_distanceOf_X0_positionOf : GoodIn wsX0_distanceOf (wsV RX0 18 RX0 yX0_positionOf wsX0_positionOf) := goodIn_app (goodIn_of _ (by decide +kernel)) ggX0_distanceOf_X0_positionOf
theorem dX0_distanceOf_0 : decode cX0_distanceOf 0 = .ok (.iconst 0, 1) := by decide +kernel
theorem dX0_distanceOf_1 : decode cX0_distanceOf 1 = .ok (.istore_n 2, 1) := by decide +kernel
theorem dX0_distanceOf_2 : decode cX0_distanceOf 2 = .ok (.iconst 0, 1) := by decide +kernel
theorem dX0_distanceOf_3 : decode cX0_distanceOf 3 = .ok (.istore_n 3, 1) := by decide +kernel
theorem dX0_distanceOf_4 : decode cX0_distanceOf 4 = .ok (.iload_n 3, 1) := by decide +kernel
theorem dX0_distanceOf_5 : decode cX0_distanceOf 5 = .ok (.iconst 4, 1) := by decide +kernel
theorem dX0_distanceOf_6 : decode cX0_distanceOf 6 = .ok (.if_icmp .ge 21, 3) := by decide +kernel
theorem dX0_distanceOf_9 : decode cX0_distanceOf 9 = .ok (.iload_n 2, 1) := by decide +kernel
theorem dX0_distanceOf_10 : decode cX0_distanceOf 10 = .ok (.bipush 72, 2) := by decide +kernel
theorem dX0_distanceOf_12 : decode cX0_distanceOf 12 = .ok (.aload_n 0, 1) := by decide +kernel
theorem dX0_distanceOf_13 : decode cX0_distanceOf 13 = .ok (.iload_n 1, 1) := by decide +kernel
theorem dX0_distanceOf_14 : decode cX0_distanceOf 14 = .ok (.iload_n 3, 1) := by decide +kernel
theorem dX0_distanceOf_15 : decode cX0_distanceOf 15 = .ok (.invokevirtual 18, 3) := by decide +kernel
theorem dX0_distanceOf_18 : decode cX0_distanceOf 18 = .ok (.isub, 1) := by decide +kernel
theorem dX0_distanceOf_19 : decode cX0_distanceOf 19 = .ok (.iadd, 1) := by decide +kernel
theorem dX0_distanceOf_20 : decode cX0_distanceOf 20 = .ok (.istore_n 2, 1) := by decide +kernel
theorem dX0_distanceOf_21 : decode cX0_distanceOf 21 = .ok (.iinc 3 1, 3) := by decide +kernel
theorem dX0_distanceOf_24 : decode cX0_distanceOf 24 = .ok (.goto (-20), 3) := by decide +kernel
theorem dX0_distanceOf_27 : decode cX0_distanceOf 27 = .ok (.iload_n 2, 1) := by decide +kernel
theorem dX0_distanceOf_28 : decode cX0_distanceOf 28 = .ok (.ireturn, 1) := by decide +kernel
set_option maxRecDepth 20000 in
theorem ggX0_isTeamHome_X0_countHome : GoodIn wsX0_isTeamHome wsX0_countHome := goodIn_r _ [5, 6, 7, 8, 4, 9, 10, 14, 15] (by decide +kernel) (by decide +kernel)
set_option maxRecDepth 20000 in
theorem gX0_isTeamHome_X0_countHome : GoodIn wsX0_isTeamHome (wsV RX0 22 RX0 yX0_countHome wsX0_countHome) := goodIn_app (goodIn_of _ (by decide +kernel)) ggX0_isTeamHome_X0_countHome
set_option maxRecDepth 20000 in
theorem ggX0_isTeamHome_X1_partnerOf : GoodIn wsX0_isTeamHome wsX1_partnerOf := goodIn_r _ [13] (by decide +kernel) (by decide +kernel)
set_option maxRecDepth 20000 in
theorem gX0_isTeamHome_X1_partnerOf_n26 : GoodIn wsX0_isTeamHome (wsX1_partnerOf) := ggX0_isTeamHome_X1_partnerOf
theorem dX0_isTeamHome_0 : decode cX0_isTeamHome 0 = .ok (.aload_n 0, 1) := by decide +kernel
theorem dX0_isTeamHome_1 : decode cX0_isTeamHome 1 = .ok (.iload_n 1, 1) := by decide +kernel
theorem dX0_isTeamHome_2 : decode cX0_isTeamHome 2 = .ok (.invokevirtual 22, 3) := by decide +kernel
theorem dX0_isTeamHome_5 : decode cX0_isTeamHome 5 = .ok (.iconst 4, 1) := by decide +kernel
theorem dX0_isTeamHome_6 : decode cX0_isTeamHome 6 = .ok (.if_icmp .ne 19, 3) := by decide +kernel
theorem dX0_isTeamHome_9 : decode cX0_isTeamHome 9 = .ok (.aload_n 0, 1) := by decide +kernel
theorem dX0_isTeamHome_10 : decode cX0_isTeamHome 10 = .ok (.iload_n 1, 1) := by decide +kernel
theorem dX0_isTeamHome_11 : decode cX0_isTeamHome 11 = .ok (.invokestatic 26, 3) := by decide +kernel
theorem dX0_isTeamHome_14 : decode cX0_isTeamHome 14 = .ok (.invokevirtual 22, 3) := by decide +kernel
theorem dX0_isTeamHome_17 : decode cX0_isTeamHome 17 = .ok (.iconst 4, 1) := by decide +kernel
theorem dX0_isTeamHome_18 : decode cX0_isTeamHome 18 = .ok (.if_icmp .ne 7, 3) := by decide +kernel
theorem dX0_isTeamHome_21 : decode cX0_isTeamHome 21 = .ok (.iconst 1, 1) := by decide +kernel
theorem dX0_isTeamHome_22 : decode cX0_isTeamHome 22 = .ok (.goto 4, 3) := by decide +kernel
theorem dX0_isTeamHome_25 : decode cX0_isTeamHome 25 = .ok (.iconst 0, 1) := by decide +kernel
theorem dX0_isTeamHome_26 : decode cX0_isTeamHome 26 = .ok (.ireturn, 1) := by decide +kernel
set_option maxRecDepth 20000 in
theorem ggX0_moverFor_X0_countHome : GoodIn wsX0_moverFor wsX0_countHome := goodIn_r _ [5, 6, 7, 8, 4, 9, 10, 14, 15] (by decide +kernel) (by decide +kernel)
set_option maxRecDepth 20000 in
theorem gX0_moverFor_X0_countHome : GoodIn wsX0_moverFor (wsV RX0 22 RX0 yX0_countHome wsX0_countHome) := goodIn_app (goodIn_of _ (by decide +kernel)) ggX0_moverFor_X0_countHome
set_option maxRecDepth 20000 in
theorem ggX0_moverFor_X1_partnerOf : GoodIn wsX0_moverFor wsX1_partnerOf := goodIn_r _ [13] (by decide +kernel) (by decide +kernel)
set_option maxRecDepth 20000 in
theorem gX0_moverFor_X1_partnerOf_n26 : GoodIn wsX0_moverFor (wsX1_partnerOf) := ggX0_moverFor_X1_partnerOf
theorem dX0_moverFor_0 : decode cX0_moverFor 0 = .ok (.aload_n 0, 1) := by decide +kernel
theorem dX0_moverFor_1 : decode cX0_moverFor 1 = .ok (.iload_n 1, 1) := by decide +kernel
theorem dX0_moverFor_2 : decode cX0_moverFor 2 = .ok (.invokevirtual 22, 3) := by decide +kernel
theorem dX0_moverFor_5 : decode cX0_moverFor 5 = .ok (.iconst 4, 1) := by decide +kernel
theorem dX0_moverFor_6 : decode cX0_moverFor 6 = .ok (.if_icmp .ne 10, 3) := by decide +kernel
theorem dX0_moverFor_9 : decode cX0_moverFor 9 = .ok (.iload_n 1, 1) := by decide +kernel
theorem dX0_moverFor_10 : decode cX0_moverFor 10 = .ok (.invokestatic 26, 3) := by decide +kernel
theorem dX0_moverFor_13 : decode cX0_moverFor 13 = .ok (.goto 4, 3) := by decide +kernel
theorem dX0_moverFor_16 : decode cX0_moverFor 16 = .ok (.iload_n 1, 1) := by decide +kernel
theorem dX0_moverFor_17 : decode cX0_moverFor 17 = .ok (.ireturn, 1) := by decide +kernel
set_option maxRecDepth 20000 in
theorem ggX0_place_X0_squareAt : GoodIn wsX0_place wsX0_squareAt := goodIn_r _ [6] (by decide +kernel) (by decide +kernel)
set_option maxRecDepth 20000 in
theorem gX0_place_X0_squareAt : GoodIn wsX0_place (wsV RX0 29 RX0 yX0_squareAt wsX0_squareAt) := goodIn_app (goodIn_of _ (by decide +kernel)) ggX0_place_X0_squareAt
set_option maxRecDepth 20000 in
theorem ggX0_place_X1_teamOf : GoodIn wsX0_place wsX1_teamOf := goodIn_r _ [9] (by decide +kernel) (by decide +kernel)
set_option maxRecDepth 20000 in
theorem gX0_place_X1_teamOf_n32 : GoodIn wsX0_place (wsX1_teamOf) := ggX0_place_X1_teamOf
set_option maxRecDepth 20000 in
theorem ggX0_place_X0_addOn : GoodIn wsX0_place wsX0_addOn := goodIn_r _ [13, 14, 15, 16] (by decide +kernel) (by decide +kernel)
set_option maxRecDepth 20000 in
theorem gX0_place_X0_addOn : GoodIn wsX0_place (wsV RX0 35 RX0 yX0_addOn wsX0_addOn) := goodIn_app (goodIn_of _ (by decide +kernel)) ggX0_place_X0_addOn
theorem dX0_place_0 : decode cX0_place 0 = .ok (.iload_n 1, 1) := by decide +kernel
theorem dX0_place_1 : decode cX0_place 1 = .ok (.iconst 4, 1) := by decide +kernel
theorem dX0_place_2 : decode cX0_place 2 = .ok (.imul, 1) := by decide +kernel
theorem dX0_place_3 : decode cX0_place 3 = .ok (.iload_n 2, 1) := by decide +kernel
theorem dX0_place_4 : decode cX0_place 4 = .ok (.iadd, 1) := by decide +kernel
theorem dX0_place_5 : decode cX0_place 5 = .ok (.istore 4, 2) := by decide +kernel
theorem dX0_place_7 : decode cX0_place 7 = .ok (.iload 4, 2) := by decide +kernel
theorem dX0_place_9 : decode cX0_place 9 = .ok (.ifCond .lt 13, 3) := by decide +kernel
theorem dX0_place_12 : decode cX0_place 12 = .ok (.iload 4, 2) := by decide +kernel
theorem dX0_place_14 : decode cX0_place 14 = .ok (.aload_n 0, 1) := by decide +kernel
theorem dX0_place_15 : decode cX0_place 15 = .ok (.getfield 9, 3) := by decide +kernel
theorem dX0_place_18 : decode cX0_place 18 = .ok (.arraylength, 1) := by decide +kernel
theorem dX0_place_19 : decode cX0_place 19 = .ok (.if_icmp .lt 4, 3) := by decide +kernel
theorem dX0_place_22 : decode cX0_place 22 = .ok (.return_, 1) := by decide +kernel
theorem dX0_place_23 : decode cX0_place 23 = .ok (.aload_n 0, 1) := by decide +kernel
theorem dX0_place_24 : decode cX0_place 24 = .ok (.aload_n 0, 1) := by decide +kernel
theorem dX0_place_25 : decode cX0_place 25 = .ok (.iload_n 1, 1) := by decide +kernel
theorem dX0_place_26 : decode cX0_place 26 = .ok (.aload_n 0, 1) := by decide +kernel
theorem dX0_place_27 : decode cX0_place 27 = .ok (.getfield 9, 3) := by decide +kernel
theorem dX0_place_30 : decode cX0_place 30 = .ok (.iload 4, 2) := by decide +kernel
theorem dX0_place_32 : decode cX0_place 32 = .ok (.iaload, 1) := by decide +kernel
theorem dX0_place_33 : decode cX0_place 33 = .ok (.invokevirtual 29, 3) := by decide +kernel
theorem dX0_place_36 : decode cX0_place 36 = .ok (.iload_n 1, 1) := by decide +kernel
theorem dX0_place_37 : decode cX0_place 37 = .ok (.invokestatic 32, 3) := by decide +kernel
theorem dX0_place_40 : decode cX0_place 40 = .ok (.iconst (-1), 1) := by decide +kernel
theorem dX0_place_41 : decode cX0_place 41 = .ok (.invokevirtual 35, 3) := by decide +kernel
theorem dX0_place_44 : decode cX0_place 44 = .ok (.aload_n 0, 1) := by decide +kernel
theorem dX0_place_45 : decode cX0_place 45 = .ok (.getfield 9, 3) := by decide +kernel
theorem dX0_place_48 : decode cX0_place 48 = .ok (.iload 4, 2) := by decide +kernel
theorem dX0_place_50 : decode cX0_place 50 = .ok (.iload_n 3, 1) := by decide +kernel
theorem dX0_place_51 : decode cX0_place 51 = .ok (.iastore, 1) := by decide +kernel
theorem dX0_place_52 : decode cX0_place 52 = .ok (.aload_n 0, 1) := by decide +kernel
theorem dX0_place_53 : decode cX0_place 53 = .ok (.aload_n 0, 1) := by decide +kernel
theorem dX0_place_54 : decode cX0_place 54 = .ok (.iload_n 1, 1) := by decide +kernel
theorem dX0_place_55 : decode cX0_place 55 = .ok (.iload_n 3, 1) := by decide +kernel
theorem dX0_place_56 : decode cX0_place 56 = .ok (.invokevirtual 29, 3) := by decide +kernel
theorem dX0_place_59 : decode cX0_place 59 = .ok (.iload_n 1, 1) := by decide +kernel
theorem dX0_place_60 : decode cX0_place 60 = .ok (.invokestatic 32, 3) := by decide +kernel
theorem dX0_place_63 : decode cX0_place 63 = .ok (.iconst 1, 1) := by decide +kernel
theorem dX0_place_64 : decode cX0_place 64 = .ok (.invokevirtual 35, 3) := by decide +kernel
theorem dX0_place_67 : decode cX0_place 67 = .ok (.return_, 1) := by decide +kernel
theorem dX0_addOn_0 : decode cX0_addOn 0 = .ok (.iload_n 2, 1) := by decide +kernel
theorem dX0_addOn_1 : decode cX0_addOn 1 = .ok (.bipush 68, 2) := by decide +kernel
theorem dX0_addOn_3 : decode cX0_addOn 3 = .ok (.imul, 1) := by decide +kernel
theorem dX0_addOn_4 : decode cX0_addOn 4 = .ok (.iload_n 1, 1) := by decide +kernel
theorem dX0_addOn_5 : decode cX0_addOn 5 = .ok (.iadd, 1) := by decide +kernel
theorem dX0_addOn_6 : decode cX0_addOn 6 = .ok (.istore 4, 2) := by decide +kernel
theorem dX0_addOn_8 : decode cX0_addOn 8 = .ok (.iload_n 1, 1) := by decide +kernel
theorem dX0_addOn_9 : decode cX0_addOn 9 = .ok (.ifCond .lt 29, 3) := by decide +kernel
theorem dX0_addOn_12 : decode cX0_addOn 12 = .ok (.iload 4, 2) := by decide +kernel
theorem dX0_addOn_14 : decode cX0_addOn 14 = .ok (.ifCond .lt 24, 3) := by decide +kernel
theorem dX0_addOn_17 : decode cX0_addOn 17 = .ok (.iload 4, 2) := by decide +kernel
theorem dX0_addOn_19 : decode cX0_addOn 19 = .ok (.aload_n 0, 1) := by decide +kernel
theorem dX0_addOn_20 : decode cX0_addOn 20 = .ok (.getfield 15, 3) := by decide +kernel
theorem dX0_addOn_23 : decode cX0_addOn 23 = .ok (.arraylength, 1) := by decide +kernel
theorem dX0_addOn_24 : decode cX0_addOn 24 = .ok (.if_icmp .ge 14, 3) := by decide +kernel
theorem dX0_addOn_27 : decode cX0_addOn 27 = .ok (.aload_n 0, 1) := by decide +kernel
theorem dX0_addOn_28 : decode cX0_addOn 28 = .ok (.getfield 15, 3) := by decide +kernel
theorem dX0_addOn_31 : decode cX0_addOn 31 = .ok (.iload 4, 2) := by decide +kernel
theorem dX0_addOn_33 : decode cX0_addOn 33 = .ok (.dup2, 1) := by decide +kernel
theorem dX0_addOn_34 : decode cX0_addOn 34 = .ok (.iaload, 1) := by decide +kernel
theorem dX0_addOn_35 : decode cX0_addOn 35 = .ok (.iload_n 3, 1) := by decide +kernel
theorem dX0_addOn_36 : decode cX0_addOn 36 = .ok (.iadd, 1) := by decide +kernel
theorem dX0_addOn_37 : decode cX0_addOn 37 = .ok (.iastore, 1) := by decide +kernel
theorem dX0_addOn_38 : decode cX0_addOn 38 = .ok (.return_, 1) := by decide +kernel
set_option maxRecDepth 20000 in
theorem ggX0_sendToYard_X0_positionOf : GoodIn wsX0_sendToYard wsX0_positionOf := goodIn_r _ [5, 6, 23, 24] (by decide +kernel) (by decide +kernel)
set_option maxRecDepth 20000 in
theorem gX0_sendToYard_X0_positionOf : GoodIn wsX0_sendToYard (wsV RX0 18 RX0 yX0_positionOf wsX0_positionOf) := goodIn_app (goodIn_of _ (by decide +kernel)) ggX0_sendToYard_X0_positionOf
set_option maxRecDepth 20000 in
theorem ggX0_sendToYard_X0_squareAt : GoodIn wsX0_sendToYard wsX0_squareAt := goodIn_r _ [10] (by decide +kernel) (by decide +kernel)
set_option maxRecDepth 20000 in
theorem gX0_sendToYard_X0_squareAt : GoodIn wsX0_sendToYard (wsV RX0 29 RX0 yX0_squareAt wsX0_squareAt) := goodIn_app (goodIn_of _ (by decide +kernel)) ggX0_sendToYard_X0_squareAt
set_option maxRecDepth 20000 in
theorem ggX0_sendToYard_X0_place : GoodIn wsX0_sendToYard wsX0_place := goodIn_r _ [14, 6, 7, 8, 9, 4, 10, 15, 16, 17, 18, 19, 20, 21, 22, 23, 24] (by decide +kernel) (by decide +kernel)
set_option maxRecDepth 20000 in
theorem gX0_sendToYard_X0_place : GoodIn wsX0_sendToYard (wsV RX0 39 RX0 yX0_place wsX0_place) := goodIn_app (goodIn_of _ (by decide +kernel)) ggX0_sendToYard_X0_place
theorem dX0_sendToYard_0 : decode cX0_sendToYard 0 = .ok (.iload_n 1, 1) := by decide +kernel
theorem dX0_sendToYard_1 : decode cX0_sendToYard 1 = .ok (.istore_n 3, 1) := by decide +kernel
theorem dX0_sendToYard_2 : decode cX0_sendToYard 2 = .ok (.iload_n 3, 1) := by decide +kernel
theorem dX0_sendToYard_3 : decode cX0_sendToYard 3 = .ok (.iconst 4, 1) := by decide +kernel
theorem dX0_sendToYard_4 : decode cX0_sendToYard 4 = .ok (.if_icmp .ge 48, 3) := by decide +kernel
theorem dX0_sendToYard_7 : decode cX0_sendToYard 7 = .ok (.iconst 0, 1) := by decide +kernel
theorem dX0_sendToYard_8 : decode cX0_sendToYard 8 = .ok (.istore 4, 2) := by decide +kernel
theorem dX0_sendToYard_10 : decode cX0_sendToYard 10 = .ok (.iload 4, 2) := by decide +kernel
theorem dX0_sendToYard_12 : decode cX0_sendToYard 12 = .ok (.iconst 4, 1) := by decide +kernel
theorem dX0_sendToYard_13 : decode cX0_sendToYard 13 = .ok (.if_icmp .ge 33, 3) := by decide +kernel
theorem dX0_sendToYard_16 : decode cX0_sendToYard 16 = .ok (.aload_n 0, 1) := by decide +kernel
theorem dX0_sendToYard_17 : decode cX0_sendToYard 17 = .ok (.iload_n 3, 1) := by decide +kernel
theorem dX0_sendToYard_18 : decode cX0_sendToYard 18 = .ok (.aload_n 0, 1) := by decide +kernel
theorem dX0_sendToYard_19 : decode cX0_sendToYard 19 = .ok (.iload_n 3, 1) := by decide +kernel
theorem dX0_sendToYard_20 : decode cX0_sendToYard 20 = .ok (.iload 4, 2) := by decide +kernel
theorem dX0_sendToYard_22 : decode cX0_sendToYard 22 = .ok (.invokevirtual 18, 3) := by decide +kernel
theorem dX0_sendToYard_25 : decode cX0_sendToYard 25 = .ok (.invokevirtual 29, 3) := by decide +kernel
theorem dX0_sendToYard_28 : decode cX0_sendToYard 28 = .ok (.iload_n 2, 1) := by decide +kernel
theorem dX0_sendToYard_29 : decode cX0_sendToYard 29 = .ok (.if_icmp .ne 11, 3) := by decide +kernel
theorem dX0_sendToYard_32 : decode cX0_sendToYard 32 = .ok (.aload_n 0, 1) := by decide +kernel
theorem dX0_sendToYard_33 : decode cX0_sendToYard 33 = .ok (.iload_n 3, 1) := by decide +kernel
theorem dX0_sendToYard_34 : decode cX0_sendToYard 34 = .ok (.iload 4, 2) := by decide +kernel
theorem dX0_sendToYard_36 : decode cX0_sendToYard 36 = .ok (.iconst 0, 1) := by decide +kernel
theorem dX0_sendToYard_37 : decode cX0_sendToYard 37 = .ok (.invokevirtual 39, 3) := by decide +kernel
theorem dX0_sendToYard_40 : decode cX0_sendToYard 40 = .ok (.iinc 4 1, 3) := by decide +kernel
theorem dX0_sendToYard_43 : decode cX0_sendToYard 43 = .ok (.goto (-33), 3) := by decide +kernel
theorem dX0_sendToYard_46 : decode cX0_sendToYard 46 = .ok (.iinc 3 2, 3) := by decide +kernel
theorem dX0_sendToYard_49 : decode cX0_sendToYard 49 = .ok (.goto (-47), 3) := by decide +kernel
theorem dX0_sendToYard_52 : decode cX0_sendToYard 52 = .ok (.return_, 1) := by decide +kernel
set_option maxRecDepth 20000 in
theorem ggX0_targetOf_X0_positionOf : GoodIn wsX0_targetOf wsX0_positionOf := goodIn_r _ [5, 6, 37, 38] (by decide +kernel) (by decide +kernel)
set_option maxRecDepth 20000 in
theorem gX0_targetOf_X0_positionOf : GoodIn wsX0_targetOf (wsV RX0 18 RX0 yX0_positionOf wsX0_positionOf) := goodIn_app (goodIn_of _ (by decide +kernel)) ggX0_targetOf_X0_positionOf
set_option maxRecDepth 20000 in
theorem ggX0_targetOf_X1_isGrace : GoodIn wsX0_targetOf wsX1_isGrace := goodIn_r _ [9] (by decide +kernel) (by decide +kernel)
set_option maxRecDepth 20000 in
theorem gX0_targetOf_X1_isGrace_n42 : GoodIn wsX0_targetOf (wsX1_isGrace) := ggX0_targetOf_X1_isGrace
set_option maxRecDepth 20000 in
theorem ggX0_targetOf_X1_worthOf : GoodIn wsX0_targetOf wsX1_worthOf := goodIn_r _ [11] (by decide +kernel) (by decide +kernel)
set_option maxRecDepth 20000 in
theorem gX0_targetOf_X1_worthOf_n46 : GoodIn wsX0_targetOf (wsX1_worthOf) := ggX0_targetOf_X1_worthOf
set_option maxRecDepth 20000 in
theorem ggX0_targetOf_X0_isWayFree : GoodIn wsX0_targetOf wsX0_isWayFree := goodIn_r _ [15, 16, 17, 18, 19, 20, 21, 22, 4, 23, 24, 8, 25, 26, 27, 28, 29, 30, 37, 38] (by decide +kernel) (by decide +kernel)
set_option maxRecDepth 20000 in
theorem gX0_targetOf_X0_isWayFree : GoodIn wsX0_targetOf (wsV RX0 49 RX0 yX0_isWayFree wsX0_isWayFree) := goodIn_app (goodIn_of _ (by decide +kernel)) ggX0_targetOf_X0_isWayFree
set_option maxRecDepth 20000 in
theorem ggX0_targetOf_X0_isCapture : GoodIn wsX0_targetOf wsX0_isCapture := goodIn_r _ [34, 20, 21, 22, 4, 23, 24, 8, 25, 26, 27, 28, 29, 30, 37, 38] (by decide +kernel) (by decide +kernel)
set_option maxRecDepth 20000 in
theorem gX0_targetOf_X0_isCapture : GoodIn wsX0_targetOf (wsV RX0 53 RX0 yX0_isCapture wsX0_isCapture) := goodIn_app (goodIn_of _ (by decide +kernel)) ggX0_targetOf_X0_isCapture
set_option maxRecDepth 20000 in
theorem ggX0_targetOf_X0_squareAt : GoodIn wsX0_targetOf wsX0_squareAt := goodIn_r _ [23] (by decide +kernel) (by decide +kernel)
set_option maxRecDepth 20000 in
theorem gX0_targetOf_X0_squareAt : GoodIn wsX0_targetOf (wsV RX0 29 RX0 yX0_squareAt wsX0_squareAt) := goodIn_app (goodIn_of _ (by decide +kernel)) ggX0_targetOf_X0_squareAt
set_option maxRecDepth 20000 in
theorem ggX0_targetOf_X1_isSafeSquare : GoodIn wsX0_targetOf wsX1_isSafeSquare := goodIn_r _ [36] (by decide +kernel) (by decide +kernel)
set_option maxRecDepth 20000 in
theorem gX0_targetOf_X1_isSafeSquare_n57 : GoodIn wsX0_targetOf (wsX1_isSafeSquare) := ggX0_targetOf_X1_isSafeSquare
theorem dX0_targetOf_0 : decode cX0_targetOf 0 = .ok (.aload_n 0, 1) := by decide +kernel
theorem dX0_targetOf_1 : decode cX0_targetOf 1 = .ok (.iload_n 1, 1) := by decide +kernel
theorem dX0_targetOf_2 : decode cX0_targetOf 2 = .ok (.iload_n 2, 1) := by decide +kernel
theorem dX0_targetOf_3 : decode cX0_targetOf 3 = .ok (.invokevirtual 18, 3) := by decide +kernel
theorem dX0_targetOf_6 : decode cX0_targetOf 6 = .ok (.istore 4, 2) := by decide +kernel
theorem dX0_targetOf_8 : decode cX0_targetOf 8 = .ok (.iload 4, 2) := by decide +kernel
theorem dX0_targetOf_10 : decode cX0_targetOf 10 = .ok (.bipush 72, 2) := by decide +kernel
theorem dX0_targetOf_12 : decode cX0_targetOf 12 = .ok (.if_icmp .eq 15, 3) := by decide +kernel
theorem dX0_targetOf_15 : decode cX0_targetOf 15 = .ok (.iload 4, 2) := by decide +kernel
theorem dX0_targetOf_17 : decode cX0_targetOf 17 = .ok (.ifCond .ne 12, 3) := by decide +kernel
theorem dX0_targetOf_20 : decode cX0_targetOf 20 = .ok (.iload_n 3, 1) := by decide +kernel
theorem dX0_targetOf_21 : decode cX0_targetOf 21 = .ok (.invokestatic 42, 3) := by decide +kernel
theorem dX0_targetOf_24 : decode cX0_targetOf 24 = .ok (.ifCond .ne 5, 3) := by decide +kernel
theorem dX0_targetOf_27 : decode cX0_targetOf 27 = .ok (.iconst (-1), 1) := by decide +kernel
theorem dX0_targetOf_28 : decode cX0_targetOf 28 = .ok (.ireturn, 1) := by decide +kernel
theorem dX0_targetOf_29 : decode cX0_targetOf 29 = .ok (.iload 4, 2) := by decide +kernel
theorem dX0_targetOf_31 : decode cX0_targetOf 31 = .ok (.ifCond .ne 7, 3) := by decide +kernel
theorem dX0_targetOf_34 : decode cX0_targetOf 34 = .ok (.iconst 1, 1) := by decide +kernel
theorem dX0_targetOf_35 : decode cX0_targetOf 35 = .ok (.goto 10, 3) := by decide +kernel
theorem dX0_targetOf_38 : decode cX0_targetOf 38 = .ok (.iload 4, 2) := by decide +kernel
theorem dX0_targetOf_40 : decode cX0_targetOf 40 = .ok (.iload_n 3, 1) := by decide +kernel
theorem dX0_targetOf_41 : decode cX0_targetOf 41 = .ok (.invokestatic 46, 3) := by decide +kernel
theorem dX0_targetOf_44 : decode cX0_targetOf 44 = .ok (.iadd, 1) := by decide +kernel
theorem dX0_targetOf_45 : decode cX0_targetOf 45 = .ok (.istore 5, 2) := by decide +kernel
theorem dX0_targetOf_47 : decode cX0_targetOf 47 = .ok (.iload 5, 2) := by decide +kernel
theorem dX0_targetOf_49 : decode cX0_targetOf 49 = .ok (.bipush 72, 2) := by decide +kernel
theorem dX0_targetOf_51 : decode cX0_targetOf 51 = .ok (.if_icmp .gt 15, 3) := by decide +kernel
theorem dX0_targetOf_54 : decode cX0_targetOf 54 = .ok (.aload_n 0, 1) := by decide +kernel
theorem dX0_targetOf_55 : decode cX0_targetOf 55 = .ok (.iload_n 1, 1) := by decide +kernel
theorem dX0_targetOf_56 : decode cX0_targetOf 56 = .ok (.iload 4, 2) := by decide +kernel
theorem dX0_targetOf_58 : decode cX0_targetOf 58 = .ok (.iload 5, 2) := by decide +kernel
theorem dX0_targetOf_60 : decode cX0_targetOf 60 = .ok (.invokevirtual 49, 3) := by decide +kernel
theorem dX0_targetOf_63 : decode cX0_targetOf 63 = .ok (.ifCond .ne 5, 3) := by decide +kernel
theorem dX0_targetOf_66 : decode cX0_targetOf 66 = .ok (.iconst (-1), 1) := by decide +kernel
theorem dX0_targetOf_67 : decode cX0_targetOf 67 = .ok (.ireturn, 1) := by decide +kernel
theorem dX0_targetOf_68 : decode cX0_targetOf 68 = .ok (.aload_n 0, 1) := by decide +kernel
theorem dX0_targetOf_69 : decode cX0_targetOf 69 = .ok (.iload_n 1, 1) := by decide +kernel
theorem dX0_targetOf_70 : decode cX0_targetOf 70 = .ok (.iload 5, 2) := by decide +kernel
theorem dX0_targetOf_72 : decode cX0_targetOf 72 = .ok (.invokevirtual 53, 3) := by decide +kernel
theorem dX0_targetOf_75 : decode cX0_targetOf 75 = .ok (.ifCond .eq 20, 3) := by decide +kernel
theorem dX0_targetOf_78 : decode cX0_targetOf 78 = .ok (.aload_n 0, 1) := by decide +kernel
theorem dX0_targetOf_79 : decode cX0_targetOf 79 = .ok (.iload_n 1, 1) := by decide +kernel
theorem dX0_targetOf_80 : decode cX0_targetOf 80 = .ok (.iload 5, 2) := by decide +kernel
theorem dX0_targetOf_82 : decode cX0_targetOf 82 = .ok (.invokevirtual 29, 3) := by decide +kernel
theorem dX0_targetOf_85 : decode cX0_targetOf 85 = .ok (.invokestatic 57, 3) := by decide +kernel
theorem dX0_targetOf_88 : decode cX0_targetOf 88 = .ok (.ifCond .eq 7, 3) := by decide +kernel
theorem dX0_targetOf_91 : decode cX0_targetOf 91 = .ok (.iconst 1, 1) := by decide +kernel
theorem dX0_targetOf_92 : decode cX0_targetOf 92 = .ok (.goto 4, 3) := by decide +kernel
theorem dX0_targetOf_95 : decode cX0_targetOf 95 = .ok (.iconst 0, 1) := by decide +kernel
theorem dX0_targetOf_96 : decode cX0_targetOf 96 = .ok (.istore 6, 2) := by decide +kernel
theorem dX0_targetOf_98 : decode cX0_targetOf 98 = .ok (.iload 6, 2) := by decide +kernel
theorem dX0_targetOf_100 : decode cX0_targetOf 100 = .ok (.ifCond .eq 7, 3) := by decide +kernel
theorem dX0_targetOf_103 : decode cX0_targetOf 103 = .ok (.iconst (-1), 1) := by decide +kernel
theorem dX0_targetOf_104 : decode cX0_targetOf 104 = .ok (.goto 5, 3) := by decide +kernel
theorem dX0_targetOf_107 : decode cX0_targetOf 107 = .ok (.iload 5, 2) := by decide +kernel
theorem dX0_targetOf_109 : decode cX0_targetOf 109 = .ok (.ireturn, 1) := by decide +kernel
set_option maxRecDepth 20000 in
theorem ggX0_isWayFree_X0_squareAt : GoodIn wsX0_isWayFree wsX0_squareAt := goodIn_r _ [9] (by decide +kernel) (by decide +kernel)
set_option maxRecDepth 20000 in
theorem gX0_isWayFree_X0_squareAt : GoodIn wsX0_isWayFree (wsV RX0 29 RX0 yX0_squareAt wsX0_squareAt) := goodIn_app (goodIn_of _ (by decide +kernel)) ggX0_isWayFree_X0_squareAt
set_option maxRecDepth 20000 in
theorem ggX0_isWayFree_X1_otherTeam : GoodIn wsX0_isWayFree wsX1_otherTeam := goodIn_r _ [12] (by decide +kernel) (by decide +kernel)
set_option maxRecDepth 20000 in
theorem gX0_isWayFree_X1_otherTeam_n65 : GoodIn wsX0_isWayFree (wsX1_otherTeam) := ggX0_isWayFree_X1_otherTeam
set_option maxRecDepth 20000 in
theorem ggX0_isWayFree_X0_countOn : GoodIn wsX0_isWayFree wsX0_countOn := goodIn_r _ [16, 17, 18, 19] (by decide +kernel) (by decide +kernel)
set_option maxRecDepth 20000 in
theorem gX0_isWayFree_X0_countOn : GoodIn wsX0_isWayFree (wsV RX0 68 RX0 yX0_countOn wsX0_countOn) := goodIn_app (goodIn_of _ (by decide +kernel)) ggX0_isWayFree_X0_countOn
theorem dX0_isWayFree_0 : decode cX0_isWayFree 0 = .ok (.iload_n 3, 1) := by decide +kernel
theorem dX0_isWayFree_1 : decode cX0_isWayFree 1 = .ok (.bipush 64, 2) := by decide +kernel
theorem dX0_isWayFree_3 : decode cX0_isWayFree 3 = .ok (.invokestatic 60, 3) := by decide +kernel
theorem dX0_isWayFree_6 : decode cX0_isWayFree 6 = .ok (.istore 4, 2) := by decide +kernel
theorem dX0_isWayFree_8 : decode cX0_isWayFree 8 = .ok (.iload_n 2, 1) := by decide +kernel
theorem dX0_isWayFree_9 : decode cX0_isWayFree 9 = .ok (.iconst 1, 1) := by decide +kernel
theorem dX0_isWayFree_10 : decode cX0_isWayFree 10 = .ok (.iadd, 1) := by decide +kernel
theorem dX0_isWayFree_11 : decode cX0_isWayFree 11 = .ok (.istore 5, 2) := by decide +kernel
theorem dX0_isWayFree_13 : decode cX0_isWayFree 13 = .ok (.iload 5, 2) := by decide +kernel
theorem dX0_isWayFree_15 : decode cX0_isWayFree 15 = .ok (.iload 4, 2) := by decide +kernel
theorem dX0_isWayFree_17 : decode cX0_isWayFree 17 = .ok (.if_icmp .gt 30, 3) := by decide +kernel
theorem dX0_isWayFree_20 : decode cX0_isWayFree 20 = .ok (.aload_n 0, 1) := by decide +kernel
theorem dX0_isWayFree_21 : decode cX0_isWayFree 21 = .ok (.aload_n 0, 1) := by decide +kernel
theorem dX0_isWayFree_22 : decode cX0_isWayFree 22 = .ok (.iload_n 1, 1) := by decide +kernel
theorem dX0_isWayFree_23 : decode cX0_isWayFree 23 = .ok (.iload 5, 2) := by decide +kernel
theorem dX0_isWayFree_25 : decode cX0_isWayFree 25 = .ok (.invokevirtual 29, 3) := by decide +kernel
theorem dX0_isWayFree_28 : decode cX0_isWayFree 28 = .ok (.iload_n 1, 1) := by decide +kernel
theorem dX0_isWayFree_29 : decode cX0_isWayFree 29 = .ok (.invokestatic 65, 3) := by decide +kernel
theorem dX0_isWayFree_32 : decode cX0_isWayFree 32 = .ok (.invokevirtual 68, 3) := by decide +kernel
theorem dX0_isWayFree_35 : decode cX0_isWayFree 35 = .ok (.iconst 2, 1) := by decide +kernel
theorem dX0_isWayFree_36 : decode cX0_isWayFree 36 = .ok (.if_icmp .lt 5, 3) := by decide +kernel
theorem dX0_isWayFree_39 : decode cX0_isWayFree 39 = .ok (.iconst 0, 1) := by decide +kernel
theorem dX0_isWayFree_40 : decode cX0_isWayFree 40 = .ok (.ireturn, 1) := by decide +kernel
theorem dX0_isWayFree_41 : decode cX0_isWayFree 41 = .ok (.iinc 5 1, 3) := by decide +kernel
theorem dX0_isWayFree_44 : decode cX0_isWayFree 44 = .ok (.goto (-31), 3) := by decide +kernel
theorem dX0_isWayFree_47 : decode cX0_isWayFree 47 = .ok (.iconst 1, 1) := by decide +kernel
theorem dX0_isWayFree_48 : decode cX0_isWayFree 48 = .ok (.ireturn, 1) := by decide +kernel
set_option maxRecDepth 20000 in
theorem ggX0_isCapture_X0_squareAt : GoodIn wsX0_isCapture wsX0_squareAt := goodIn_r _ [5] (by decide +kernel) (by decide +kernel)
set_option maxRecDepth 20000 in
theorem gX0_isCapture_X0_squareAt : GoodIn wsX0_isCapture (wsV RX0 29 RX0 yX0_squareAt wsX0_squareAt) := goodIn_app (goodIn_of _ (by decide +kernel)) ggX0_isCapture_X0_squareAt
set_option maxRecDepth 20000 in
theorem ggX0_isCapture_X1_otherTeam : GoodIn wsX0_isCapture wsX1_otherTeam := goodIn_r _ [8] (by decide +kernel) (by decide +kernel)
set_option maxRecDepth 20000 in
theorem gX0_isCapture_X1_otherTeam_n65 : GoodIn wsX0_isCapture (wsX1_otherTeam) := ggX0_isCapture_X1_otherTeam
set_option maxRecDepth 20000 in
theorem ggX0_isCapture_X0_countOn : GoodIn wsX0_isCapture wsX0_countOn := goodIn_r _ [12, 13, 14, 15] (by decide +kernel) (by decide +kernel)
set_option maxRecDepth 20000 in
theorem gX0_isCapture_X0_countOn : GoodIn wsX0_isCapture (wsV RX0 68 RX0 yX0_countOn wsX0_countOn) := goodIn_app (goodIn_of _ (by decide +kernel)) ggX0_isCapture_X0_countOn
theorem dX0_isCapture_0 : decode cX0_isCapture 0 = .ok (.aload_n 0, 1) := by decide +kernel
theorem dX0_isCapture_1 : decode cX0_isCapture 1 = .ok (.aload_n 0, 1) := by decide +kernel
theorem dX0_isCapture_2 : decode cX0_isCapture 2 = .ok (.iload_n 1, 1) := by decide +kernel
theorem dX0_isCapture_3 : decode cX0_isCapture 3 = .ok (.iload_n 2, 1) := by decide +kernel
theorem dX0_isCapture_4 : decode cX0_isCapture 4 = .ok (.invokevirtual 29, 3) := by decide +kernel
theorem dX0_isCapture_7 : decode cX0_isCapture 7 = .ok (.iload_n 1, 1) := by decide +kernel
theorem dX0_isCapture_8 : decode cX0_isCapture 8 = .ok (.invokestatic 65, 3) := by decide +kernel
theorem dX0_isCapture_11 : decode cX0_isCapture 11 = .ok (.invokevirtual 68, 3) := by decide +kernel
theorem dX0_isCapture_14 : decode cX0_isCapture 14 = .ok (.iconst 1, 1) := by decide +kernel
theorem dX0_isCapture_15 : decode cX0_isCapture 15 = .ok (.if_icmp .ne 7, 3) := by decide +kernel
theorem dX0_isCapture_18 : decode cX0_isCapture 18 = .ok (.iconst 1, 1) := by decide +kernel
theorem dX0_isCapture_19 : decode cX0_isCapture 19 = .ok (.goto 4, 3) := by decide +kernel
theorem dX0_isCapture_22 : decode cX0_isCapture 22 = .ok (.iconst 0, 1) := by decide +kernel
theorem dX0_isCapture_23 : decode cX0_isCapture 23 = .ok (.ireturn, 1) := by decide +kernel
set_option maxRecDepth 20000 in
theorem ggX0_movableSet_X0_targetOf : GoodIn wsX0_movableSet wsX0_targetOf := goodIn_r _ [5, 6, 7, 8, 4, 9, 10, 11, 12, 13, 14, 15, 16, 17, 18, 19, 20, 21, 22, 23, 24, 25, 26, 27, 28, 29, 30, 31, 32, 33, 34, 35, 36, 37, 38, 39, 40, 41, 42] (by decide +kernel) (by decide +kernel)
set_option maxRecDepth 20000 in
theorem gX0_movableSet_X0_targetOf : GoodIn wsX0_movableSet (wsV RX0 71 RX0 yX0_targetOf wsX0_targetOf) := goodIn_app (goodIn_of _ (by decide +kernel)) ggX0_movableSet_X0_targetOf
theorem dX0_movableSet_0 : decode cX0_movableSet 0 = .ok (.iconst 0, 1) := by decide +kernel
theorem dX0_movableSet_1 : decode cX0_movableSet 1 = .ok (.istore_n 3, 1) := by decide +kernel
theorem dX0_movableSet_2 : decode cX0_movableSet 2 = .ok (.iconst 0, 1) := by decide +kernel
theorem dX0_movableSet_3 : decode cX0_movableSet 3 = .ok (.istore 4, 2) := by decide +kernel
theorem dX0_movableSet_5 : decode cX0_movableSet 5 = .ok (.iload 4, 2) := by decide +kernel
theorem dX0_movableSet_7 : decode cX0_movableSet 7 = .ok (.iconst 4, 1) := by decide +kernel
theorem dX0_movableSet_8 : decode cX0_movableSet 8 = .ok (.if_icmp .ge 28, 3) := by decide +kernel
theorem dX0_movableSet_11 : decode cX0_movableSet 11 = .ok (.aload_n 0, 1) := by decide +kernel
theorem dX0_movableSet_12 : decode cX0_movableSet 12 = .ok (.iload_n 1, 1) := by decide +kernel
theorem dX0_movableSet_13 : decode cX0_movableSet 13 = .ok (.iload 4, 2) := by decide +kernel
theorem dX0_movableSet_15 : decode cX0_movableSet 15 = .ok (.iload_n 2, 1) := by decide +kernel
theorem dX0_movableSet_16 : decode cX0_movableSet 16 = .ok (.invokevirtual 71, 3) := by decide +kernel
theorem dX0_movableSet_19 : decode cX0_movableSet 19 = .ok (.iconst (-1), 1) := by decide +kernel
theorem dX0_movableSet_20 : decode cX0_movableSet 20 = .ok (.if_icmp .eq 10, 3) := by decide +kernel
theorem dX0_movableSet_23 : decode cX0_movableSet 23 = .ok (.iload_n 3, 1) := by decide +kernel
theorem dX0_movableSet_24 : decode cX0_movableSet 24 = .ok (.iconst 1, 1) := by decide +kernel
theorem dX0_movableSet_25 : decode cX0_movableSet 25 = .ok (.iload 4, 2) := by decide +kernel
theorem dX0_movableSet_27 : decode cX0_movableSet 27 = .ok (.ishl, 1) := by decide +kernel
theorem dX0_movableSet_28 : decode cX0_movableSet 28 = .ok (.ior, 1) := by decide +kernel
theorem dX0_movableSet_29 : decode cX0_movableSet 29 = .ok (.istore_n 3, 1) := by decide +kernel
theorem dX0_movableSet_30 : decode cX0_movableSet 30 = .ok (.iinc 4 1, 3) := by decide +kernel
theorem dX0_movableSet_33 : decode cX0_movableSet 33 = .ok (.goto (-28), 3) := by decide +kernel
theorem dX0_movableSet_36 : decode cX0_movableSet 36 = .ok (.iload_n 3, 1) := by decide +kernel
theorem dX0_movableSet_37 : decode cX0_movableSet 37 = .ok (.ireturn, 1) := by decide +kernel
set_option maxRecDepth 20000 in
theorem ggX0_canDo_X0_targetOf : GoodIn wsX0_canDo wsX0_targetOf := goodIn_r _ [5, 6, 7, 8, 4, 9, 10, 11, 12, 13, 14, 15, 16, 17, 18, 19, 20, 21, 22, 23, 24, 25, 26, 27, 28, 29, 30, 31, 32, 33, 34, 35, 36, 37, 38, 39, 40, 45, 46] (by decide +kernel) (by decide +kernel)
set_option maxRecDepth 20000 in
theorem gX0_canDo_X0_targetOf : GoodIn wsX0_canDo (wsV RX0 71 RX0 yX0_targetOf wsX0_targetOf) := goodIn_app (goodIn_of _ (by decide +kernel)) ggX0_canDo_X0_targetOf
set_option maxRecDepth 20000 in
theorem ggX0_canDo_X0_isDone : GoodIn wsX0_canDo wsX0_isDone := goodIn_r _ [44, 35, 36, 37, 4, 38, 24, 25, 26, 27, 28, 12, 29, 30, 31, 32, 33, 34, 45, 46] (by decide +kernel) (by decide +kernel)
set_option maxRecDepth 20000 in
theorem gX0_canDo_X0_isDone : GoodIn wsX0_canDo (wsV RX0 75 RX0 yX0_isDone wsX0_isDone) := goodIn_app (goodIn_of _ (by decide +kernel)) ggX0_canDo_X0_isDone
theorem dX0_canDo_0 : decode cX0_canDo 0 = .ok (.iconst 0, 1) := by decide +kernel
theorem dX0_canDo_1 : decode cX0_canDo 1 = .ok (.istore 4, 2) := by decide +kernel
theorem dX0_canDo_3 : decode cX0_canDo 3 = .ok (.iload 4, 2) := by decide +kernel
theorem dX0_canDo_5 : decode cX0_canDo 5 = .ok (.iconst 4, 1) := by decide +kernel
theorem dX0_canDo_6 : decode cX0_canDo 6 = .ok (.if_icmp .ge 38, 3) := by decide +kernel
theorem dX0_canDo_9 : decode cX0_canDo 9 = .ok (.aload_n 0, 1) := by decide +kernel
theorem dX0_canDo_10 : decode cX0_canDo 10 = .ok (.iload_n 2, 1) := by decide +kernel
theorem dX0_canDo_11 : decode cX0_canDo 11 = .ok (.iload 4, 2) := by decide +kernel
theorem dX0_canDo_13 : decode cX0_canDo 13 = .ok (.iload_n 3, 1) := by decide +kernel
theorem dX0_canDo_14 : decode cX0_canDo 14 = .ok (.invokevirtual 71, 3) := by decide +kernel
theorem dX0_canDo_17 : decode cX0_canDo 17 = .ok (.istore 5, 2) := by decide +kernel
theorem dX0_canDo_19 : decode cX0_canDo 19 = .ok (.iload 5, 2) := by decide +kernel
theorem dX0_canDo_21 : decode cX0_canDo 21 = .ok (.iconst (-1), 1) := by decide +kernel
theorem dX0_canDo_22 : decode cX0_canDo 22 = .ok (.if_icmp .eq 16, 3) := by decide +kernel
theorem dX0_canDo_25 : decode cX0_canDo 25 = .ok (.aload_n 0, 1) := by decide +kernel
theorem dX0_canDo_26 : decode cX0_canDo 26 = .ok (.iload_n 1, 1) := by decide +kernel
theorem dX0_canDo_27 : decode cX0_canDo 27 = .ok (.iload_n 2, 1) := by decide +kernel
theorem dX0_canDo_28 : decode cX0_canDo 28 = .ok (.iload 5, 2) := by decide +kernel
theorem dX0_canDo_30 : decode cX0_canDo 30 = .ok (.invokevirtual 75, 3) := by decide +kernel
theorem dX0_canDo_33 : decode cX0_canDo 33 = .ok (.ifCond .eq 5, 3) := by decide +kernel
theorem dX0_canDo_36 : decode cX0_canDo 36 = .ok (.iconst 1, 1) := by decide +kernel
theorem dX0_canDo_37 : decode cX0_canDo 37 = .ok (.ireturn, 1) := by decide +kernel
theorem dX0_canDo_38 : decode cX0_canDo 38 = .ok (.iinc 4 1, 3) := by decide +kernel
theorem dX0_canDo_41 : decode cX0_canDo 41 = .ok (.goto (-38), 3) := by decide +kernel
theorem dX0_canDo_44 : decode cX0_canDo 44 = .ok (.iconst 0, 1) := by decide +kernel
theorem dX0_canDo_45 : decode cX0_canDo 45 = .ok (.ireturn, 1) := by decide +kernel
set_option maxRecDepth 20000 in
theorem ggX0_isDone_X0_isCapture : GoodIn wsX0_isDone wsX0_isCapture := goodIn_r _ [5, 6, 7, 8, 4, 9, 10, 11, 12, 13, 14, 15, 16, 17, 18, 19] (by decide +kernel) (by decide +kernel)
set_option maxRecDepth 20000 in
theorem gX0_isDone_X0_isCapture : GoodIn wsX0_isDone (wsV RX0 53 RX0 yX0_isCapture wsX0_isCapture) := goodIn_app (goodIn_of _ (by decide +kernel)) ggX0_isDone_X0_isCapture
theorem dX0_isDone_0 : decode cX0_isDone 0 = .ok (.iload_n 1, 1) := by decide +kernel
theorem dX0_isDone_1 : decode cX0_isDone 1 = .ok (.tableswitch 63 0 3 #[31, 33, 40, 52], 31) := by decide +kernel
theorem dX0_isDone_32 : decode cX0_isDone 32 = .ok (.iconst 1, 1) := by decide +kernel
theorem dX0_isDone_33 : decode cX0_isDone 33 = .ok (.ireturn, 1) := by decide +kernel
theorem dX0_isDone_34 : decode cX0_isDone 34 = .ok (.aload_n 0, 1) := by decide +kernel
theorem dX0_isDone_35 : decode cX0_isDone 35 = .ok (.iload_n 2, 1) := by decide +kernel
theorem dX0_isDone_36 : decode cX0_isDone 36 = .ok (.iload_n 3, 1) := by decide +kernel
theorem dX0_isDone_37 : decode cX0_isDone 37 = .ok (.invokevirtual 53, 3) := by decide +kernel
theorem dX0_isDone_40 : decode cX0_isDone 40 = .ok (.ireturn, 1) := by decide +kernel
theorem dX0_isDone_41 : decode cX0_isDone 41 = .ok (.iload_n 3, 1) := by decide +kernel
theorem dX0_isDone_42 : decode cX0_isDone 42 = .ok (.bipush 72, 2) := by decide +kernel
theorem dX0_isDone_44 : decode cX0_isDone 44 = .ok (.if_icmp .ne 7, 3) := by decide +kernel
theorem dX0_isDone_47 : decode cX0_isDone 47 = .ok (.iconst 1, 1) := by decide +kernel
theorem dX0_isDone_48 : decode cX0_isDone 48 = .ok (.goto 4, 3) := by decide +kernel
theorem dX0_isDone_51 : decode cX0_isDone 51 = .ok (.iconst 0, 1) := by decide +kernel
theorem dX0_isDone_52 : decode cX0_isDone 52 = .ok (.ireturn, 1) := by decide +kernel
theorem dX0_isDone_53 : decode cX0_isDone 53 = .ok (.iload_n 3, 1) := by decide +kernel
theorem dX0_isDone_54 : decode cX0_isDone 54 = .ok (.iconst 1, 1) := by decide +kernel
theorem dX0_isDone_55 : decode cX0_isDone 55 = .ok (.if_icmp .ne 7, 3) := by decide +kernel
theorem dX0_isDone_58 : decode cX0_isDone 58 = .ok (.iconst 1, 1) := by decide +kernel
theorem dX0_isDone_59 : decode cX0_isDone 59 = .ok (.goto 4, 3) := by decide +kernel
theorem dX0_isDone_62 : decode cX0_isDone 62 = .ok (.iconst 0, 1) := by decide +kernel
theorem dX0_isDone_63 : decode cX0_isDone 63 = .ok (.ireturn, 1) := by decide +kernel
theorem dX0_isDone_64 : decode cX0_isDone 64 = .ok (.iconst 0, 1) := by decide +kernel
theorem dX0_isDone_65 : decode cX0_isDone 65 = .ok (.ireturn, 1) := by decide +kernel
set_option maxRecDepth 20000 in
theorem ggX0_canCaptureOn_X0_targetOf : GoodIn wsX0_canCaptureOn wsX0_targetOf := goodIn_r _ [5, 6, 7, 8, 4, 9, 10, 11, 12, 13, 14, 15, 16, 17, 18, 19, 20, 21, 22, 23, 24, 25, 26, 27, 28, 29, 30, 31, 32, 33, 34, 35, 36, 37, 38, 39, 40, 41, 42] (by decide +kernel) (by decide +kernel)
set_option maxRecDepth 20000 in
theorem gX0_canCaptureOn_X0_targetOf : GoodIn wsX0_canCaptureOn (wsV RX0 71 RX0 yX0_targetOf wsX0_targetOf) := goodIn_app (goodIn_of _ (by decide +kernel)) ggX0_canCaptureOn_X0_targetOf
set_option maxRecDepth 20000 in
theorem ggX0_canCaptureOn_X0_isCapture : GoodIn wsX0_canCaptureOn wsX0_isCapture := goodIn_r _ [38, 24, 25, 26, 4, 27, 28, 12, 29, 30, 31, 32, 33, 34, 41, 42] (by decide +kernel) (by decide +kernel)
set_option maxRecDepth 20000 in
theorem gX0_canCaptureOn_X0_isCapture : GoodIn wsX0_canCaptureOn (wsV RX0 53 RX0 yX0_isCapture wsX0_isCapture) := goodIn_app (goodIn_of _ (by decide +kernel)) ggX0_canCaptureOn_X0_isCapture
set_option maxRecDepth 20000 in
theorem ggX0_canCaptureOn_X0_squareAt : GoodIn wsX0_canCaptureOn wsX0_squareAt := goodIn_r _ [27] (by decide +kernel) (by decide +kernel)
set_option maxRecDepth 20000 in
theorem gX0_canCaptureOn_X0_squareAt : GoodIn wsX0_canCaptureOn (wsV RX0 29 RX0 yX0_squareAt wsX0_squareAt) := goodIn_app (goodIn_of _ (by decide +kernel)) ggX0_canCaptureOn_X0_squareAt
theorem dX0_canCaptureOn_0 : decode cX0_canCaptureOn 0 = .ok (.iconst 0, 1) := by decide +kernel
theorem dX0_canCaptureOn_1 : decode cX0_canCaptureOn 1 = .ok (.istore 4, 2) := by decide +kernel
theorem dX0_canCaptureOn_3 : decode cX0_canCaptureOn 3 = .ok (.iload 4, 2) := by decide +kernel
theorem dX0_canCaptureOn_5 : decode cX0_canCaptureOn 5 = .ok (.iconst 4, 1) := by decide +kernel
theorem dX0_canCaptureOn_6 : decode cX0_canCaptureOn 6 = .ok (.if_icmp .ge 48, 3) := by decide +kernel
theorem dX0_canCaptureOn_9 : decode cX0_canCaptureOn 9 = .ok (.aload_n 0, 1) := by decide +kernel
theorem dX0_canCaptureOn_10 : decode cX0_canCaptureOn 10 = .ok (.iload_n 2, 1) := by decide +kernel
theorem dX0_canCaptureOn_11 : decode cX0_canCaptureOn 11 = .ok (.iload 4, 2) := by decide +kernel
theorem dX0_canCaptureOn_13 : decode cX0_canCaptureOn 13 = .ok (.iload_n 3, 1) := by decide +kernel
theorem dX0_canCaptureOn_14 : decode cX0_canCaptureOn 14 = .ok (.invokevirtual 71, 3) := by decide +kernel
theorem dX0_canCaptureOn_17 : decode cX0_canCaptureOn 17 = .ok (.istore 5, 2) := by decide +kernel
theorem dX0_canCaptureOn_19 : decode cX0_canCaptureOn 19 = .ok (.iload 5, 2) := by decide +kernel
theorem dX0_canCaptureOn_21 : decode cX0_canCaptureOn 21 = .ok (.iconst (-1), 1) := by decide +kernel
theorem dX0_canCaptureOn_22 : decode cX0_canCaptureOn 22 = .ok (.if_icmp .eq 26, 3) := by decide +kernel
theorem dX0_canCaptureOn_25 : decode cX0_canCaptureOn 25 = .ok (.aload_n 0, 1) := by decide +kernel
theorem dX0_canCaptureOn_26 : decode cX0_canCaptureOn 26 = .ok (.iload_n 2, 1) := by decide +kernel
theorem dX0_canCaptureOn_27 : decode cX0_canCaptureOn 27 = .ok (.iload 5, 2) := by decide +kernel
theorem dX0_canCaptureOn_29 : decode cX0_canCaptureOn 29 = .ok (.invokevirtual 53, 3) := by decide +kernel
theorem dX0_canCaptureOn_32 : decode cX0_canCaptureOn 32 = .ok (.ifCond .eq 16, 3) := by decide +kernel
theorem dX0_canCaptureOn_35 : decode cX0_canCaptureOn 35 = .ok (.aload_n 0, 1) := by decide +kernel
theorem dX0_canCaptureOn_36 : decode cX0_canCaptureOn 36 = .ok (.iload_n 2, 1) := by decide +kernel
theorem dX0_canCaptureOn_37 : decode cX0_canCaptureOn 37 = .ok (.iload 5, 2) := by decide +kernel
theorem dX0_canCaptureOn_39 : decode cX0_canCaptureOn 39 = .ok (.invokevirtual 29, 3) := by decide +kernel
theorem dX0_canCaptureOn_42 : decode cX0_canCaptureOn 42 = .ok (.iload_n 1, 1) := by decide +kernel
theorem dX0_canCaptureOn_43 : decode cX0_canCaptureOn 43 = .ok (.if_icmp .ne 5, 3) := by decide +kernel
theorem dX0_canCaptureOn_46 : decode cX0_canCaptureOn 46 = .ok (.iconst 1, 1) := by decide +kernel
theorem dX0_canCaptureOn_47 : decode cX0_canCaptureOn 47 = .ok (.ireturn, 1) := by decide +kernel
theorem dX0_canCaptureOn_48 : decode cX0_canCaptureOn 48 = .ok (.iinc 4 1, 3) := by decide +kernel
theorem dX0_canCaptureOn_51 : decode cX0_canCaptureOn 51 = .ok (.goto (-48), 3) := by decide +kernel
theorem dX0_canCaptureOn_54 : decode cX0_canCaptureOn 54 = .ok (.iconst 0, 1) := by decide +kernel
theorem dX0_canCaptureOn_55 : decode cX0_canCaptureOn 55 = .ok (.ireturn, 1) := by decide +kernel
set_option maxRecDepth 20000 in
theorem ggX1_init_X0_init : GoodIn wsX1_init wsX0_init := goodIn_r _ [16, 17, 2, 3, 8, 18, 19, 20, 21] (by decide +kernel) (by decide +kernel)
set_option maxRecDepth 20000 in
theorem gX1_init_X0_init : GoodIn wsX1_init (wsX0_init) := ggX1_init_X0_init
theorem dX1_init_0 : decode cX1_init 0 = .ok (.aload_n 0, 1) := by decide +kernel
theorem dX1_init_1 : decode cX1_init 1 = .ok (.invokespecial 1, 3) := by decide +kernel
theorem dX1_init_4 : decode cX1_init 4 = .ok (.aload_n 0, 1) := by decide +kernel
theorem dX1_init_5 : decode cX1_init 5 = .ok (.new 7, 3) := by decide +kernel
theorem dX1_init_8 : decode cX1_init 8 = .ok (.dup, 1) := by decide +kernel
theorem dX1_init_9 : decode cX1_init 9 = .ok (.invokespecial 9, 3) := by decide +kernel
theorem dX1_init_12 : decode cX1_init 12 = .ok (.putfield 10, 3) := by decide +kernel
theorem dX1_init_15 : decode cX1_init 15 = .ok (.aload_n 0, 1) := by decide +kernel
theorem dX1_init_16 : decode cX1_init 16 = .ok (.iconst 4, 1) := by decide +kernel
theorem dX1_init_17 : decode cX1_init 17 = .ok (.newarray .int, 2) := by decide +kernel
theorem dX1_init_19 : decode cX1_init 19 = .ok (.putfield 16, 3) := by decide +kernel
theorem dX1_init_22 : decode cX1_init 22 = .ok (.aload_n 0, 1) := by decide +kernel
theorem dX1_init_23 : decode cX1_init 23 = .ok (.iconst 0, 1) := by decide +kernel
theorem dX1_init_24 : decode cX1_init 24 = .ok (.putfield 20, 3) := by decide +kernel
theorem dX1_init_27 : decode cX1_init 27 = .ok (.aload_n 0, 1) := by decide +kernel
theorem dX1_init_28 : decode cX1_init 28 = .ok (.iconst 0, 1) := by decide +kernel
theorem dX1_init_29 : decode cX1_init 29 = .ok (.putfield 24, 3) := by decide +kernel
theorem dX1_init_32 : decode cX1_init 32 = .ok (.aload_n 0, 1) := by decide +kernel
theorem dX1_init_33 : decode cX1_init 33 = .ok (.iconst 0, 1) := by decide +kernel
theorem dX1_init_34 : decode cX1_init 34 = .ok (.putfield 27, 3) := by decide +kernel
theorem dX1_init_37 : decode cX1_init 37 = .ok (.aload_n 0, 1) := by decide +kernel
theorem dX1_init_38 : decode cX1_init 38 = .ok (.iconst 0, 1) := by decide +kernel
theorem dX1_init_39 : decode cX1_init 39 = .ok (.putfield 30, 3) := by decide +kernel
theorem dX1_init_42 : decode cX1_init 42 = .ok (.return_, 1) := by decide +kernel
set_option maxRecDepth 20000 in
theorem ggX1_throwShells_X1_requireThrowDue : GoodIn wsX1_throwShells wsX1_requireThrowDue := goodIn_ca (goodIn_r _ [12, 13, 14, 7, 77, 78, 79, 80, 81, 82] (by decide +kernel) (by decide +kernel)) (goodIn_sub (fun _ h => List.mem_cons_of_mem _ (List.mem_append_right _ h)) (by decide +kernel))
set_option maxRecDepth 20000 in
theorem gX1_throwShells_X1_requireThrowDue : GoodIn wsX1_throwShells (wsV RX1 40 RX1 yX1_requireThrowDue wsX1_requireThrowDue) := goodIn_app (goodIn_of _ (by decide +kernel)) ggX1_throwShells_X1_requireThrowDue
set_option maxRecDepth 20000 in
theorem ggX1_throwShells_X1_worthOf : GoodIn wsX1_throwShells wsX1_worthOf := goodIn_r _ [17] (by decide +kernel) (by decide +kernel)
set_option maxRecDepth 20000 in
theorem gX1_throwShells_X1_worthOf : GoodIn wsX1_throwShells (va_wsS RX1 43 yX1_worthOf wsX1_worthOf) := goodIn_app (goodIn_of _ (by decide +kernel)) ggX1_throwShells_X1_worthOf
set_option maxRecDepth 20000 in
theorem ggX1_throwShells_X1_isGraceTooMany : GoodIn wsX1_throwShells wsX1_isGraceTooMany := goodIn_r _ [20, 21, 22, 11, 23] (by decide +kernel) (by decide +kernel)
set_option maxRecDepth 20000 in
theorem gX1_throwShells_X1_isGraceTooMany : GoodIn wsX1_throwShells (va_wsS RX1 47 yX1_isGraceTooMany wsX1_isGraceTooMany) := goodIn_app (goodIn_of _ (by decide +kernel)) ggX1_throwShells_X1_isGraceTooMany
set_option maxRecDepth 20000 in
theorem ggX1_throwShells_X1_passTurn : GoodIn wsX1_throwShells wsX1_passTurn := goodIn_r _ [27, 5, 3, 77, 78, 79, 80, 81, 82] (by decide +kernel) (by decide +kernel)
set_option maxRecDepth 20000 in
theorem gX1_throwShells_X1_passTurn : GoodIn wsX1_throwShells (wsV RX1 51 RX1 yX1_passTurn wsX1_passTurn) := goodIn_app (goodIn_of _ (by decide +kernel)) ggX1_throwShells_X1_passTurn
set_option maxRecDepth 20000 in
theorem ggX1_throwShells_X1_isGrace : GoodIn wsX1_throwShells wsX1_isGrace := goodIn_r _ [23] (by decide +kernel) (by decide +kernel)
set_option maxRecDepth 20000 in
theorem gX1_throwShells_X1_isGrace : GoodIn wsX1_throwShells (va_wsS RX1 54 yX1_isGrace wsX1_isGrace) := goodIn_app (goodIn_of _ (by decide +kernel)) ggX1_throwShells_X1_isGrace
set_option maxRecDepth 20000 in
theorem ggX1_throwShells_X0_moverFor : GoodIn wsX1_throwShells wsX0_moverFor := goodIn_r _ [32, 33, 34, 35, 31, 36, 37, 38, 39, 40, 41, 42, 11, 43, 83, 84] (by decide +kernel) (by decide +kernel)
set_option maxRecDepth 20000 in
theorem gX1_throwShells_X0_moverFor : GoodIn wsX1_throwShells (wsV RX1 58 RX0 yX0_moverFor wsX0_moverFor) := goodIn_app (goodIn_of _ (by decide +kernel)) ggX1_throwShells_X0_moverFor
set_option maxRecDepth 20000 in
theorem ggX1_throwShells_X0_movableSet : GoodIn wsX1_throwShells wsX0_movableSet := goodIn_r _ [47, 48, 49, 50, 31, 51, 37, 38, 39, 40, 41, 22, 11, 23, 16, 17, 52, 53, 54, 55, 56, 57, 58, 59, 60, 61, 62, 63, 64, 65, 66, 67, 68, 69, 70, 71, 72, 73, 74, 75, 76, 83, 84] (by decide +kernel) (by decide +kernel)
set_option maxRecDepth 20000 in
theorem gX1_throwShells_X0_movableSet : GoodIn wsX1_throwShells (wsV RX1 61 RX0 yX0_movableSet wsX0_movableSet) := goodIn_app (goodIn_of _ (by decide +kernel)) ggX1_throwShells_X0_movableSet
theorem dX1_throwShells_0 : decode cX1_throwShells 0 = .ok (.iload_n 1, 1) := by decide +kernel
theorem dX1_throwShells_1 : decode cX1_throwShells 1 = .ok (.ifCond .lt 9, 3) := by decide +kernel
theorem dX1_throwShells_4 : decode cX1_throwShells 4 = .ok (.iload_n 1, 1) := by decide +kernel
theorem dX1_throwShells_5 : decode cX1_throwShells 5 = .ok (.bipush 6, 2) := by decide +kernel
theorem dX1_throwShells_7 : decode cX1_throwShells 7 = .ok (.if_icmp .le 13, 3) := by decide +kernel
theorem dX1_throwShells_10 : decode cX1_throwShells 10 = .ok (.new 33, 3) := by decide +kernel
theorem dX1_throwShells_13 : decode cX1_throwShells 13 = .ok (.dup, 1) := by decide +kernel
theorem dX1_throwShells_14 : decode cX1_throwShells 14 = .ok (.ldc 35, 2) := by decide +kernel
theorem dX1_throwShells_16 : decode cX1_throwShells 16 = .ok (.invokespecial 37, 3) := by decide +kernel
theorem dX1_throwShells_19 : decode cX1_throwShells 19 = .ok (.athrow, 1) := by decide +kernel
theorem dX1_throwShells_20 : decode cX1_throwShells 20 = .ok (.aload_n 0, 1) := by decide +kernel
theorem dX1_throwShells_21 : decode cX1_throwShells 21 = .ok (.invokevirtual 40, 3) := by decide +kernel
theorem dX1_throwShells_24 : decode cX1_throwShells 24 = .ok (.iload_n 1, 1) := by decide +kernel
theorem dX1_throwShells_25 : decode cX1_throwShells 25 = .ok (.invokestatic 43, 3) := by decide +kernel
theorem dX1_throwShells_28 : decode cX1_throwShells 28 = .ok (.istore_n 2, 1) := by decide +kernel
theorem dX1_throwShells_29 : decode cX1_throwShells 29 = .ok (.iload_n 1, 1) := by decide +kernel
theorem dX1_throwShells_30 : decode cX1_throwShells 30 = .ok (.aload_n 0, 1) := by decide +kernel
theorem dX1_throwShells_31 : decode cX1_throwShells 31 = .ok (.getfield 24, 3) := by decide +kernel
theorem dX1_throwShells_34 : decode cX1_throwShells 34 = .ok (.invokestatic 47, 3) := by decide +kernel
theorem dX1_throwShells_37 : decode cX1_throwShells 37 = .ok (.ifCond .eq 10, 3) := by decide +kernel
theorem dX1_throwShells_40 : decode cX1_throwShells 40 = .ok (.aload_n 0, 1) := by decide +kernel
theorem dX1_throwShells_41 : decode cX1_throwShells 41 = .ok (.invokevirtual 51, 3) := by decide +kernel
theorem dX1_throwShells_44 : decode cX1_throwShells 44 = .ok (.iload_n 2, 1) := by decide +kernel
theorem dX1_throwShells_45 : decode cX1_throwShells 45 = .ok (.ineg, 1) := by decide +kernel
theorem dX1_throwShells_46 : decode cX1_throwShells 46 = .ok (.ireturn, 1) := by decide +kernel
theorem dX1_throwShells_47 : decode cX1_throwShells 47 = .ok (.aload_n 0, 1) := by decide +kernel
theorem dX1_throwShells_48 : decode cX1_throwShells 48 = .ok (.iload_n 1, 1) := by decide +kernel
theorem dX1_throwShells_49 : decode cX1_throwShells 49 = .ok (.invokestatic 54, 3) := by decide +kernel
theorem dX1_throwShells_52 : decode cX1_throwShells 52 = .ok (.ifCond .eq 12, 3) := by decide +kernel
theorem dX1_throwShells_55 : decode cX1_throwShells 55 = .ok (.aload_n 0, 1) := by decide +kernel
theorem dX1_throwShells_56 : decode cX1_throwShells 56 = .ok (.getfield 24, 3) := by decide +kernel
theorem dX1_throwShells_59 : decode cX1_throwShells 59 = .ok (.iconst 1, 1) := by decide +kernel
theorem dX1_throwShells_60 : decode cX1_throwShells 60 = .ok (.iadd, 1) := by decide +kernel
theorem dX1_throwShells_61 : decode cX1_throwShells 61 = .ok (.goto 4, 3) := by decide +kernel
theorem dX1_throwShells_64 : decode cX1_throwShells 64 = .ok (.iconst 0, 1) := by decide +kernel
theorem dX1_throwShells_65 : decode cX1_throwShells 65 = .ok (.putfield 24, 3) := by decide +kernel
theorem dX1_throwShells_68 : decode cX1_throwShells 68 = .ok (.aload_n 0, 1) := by decide +kernel
theorem dX1_throwShells_69 : decode cX1_throwShells 69 = .ok (.getfield 10, 3) := by decide +kernel
theorem dX1_throwShells_72 : decode cX1_throwShells 72 = .ok (.aload_n 0, 1) := by decide +kernel
theorem dX1_throwShells_73 : decode cX1_throwShells 73 = .ok (.getfield 10, 3) := by decide +kernel
theorem dX1_throwShells_76 : decode cX1_throwShells 76 = .ok (.aload_n 0, 1) := by decide +kernel
theorem dX1_throwShells_77 : decode cX1_throwShells 77 = .ok (.getfield 20, 3) := by decide +kernel
theorem dX1_throwShells_80 : decode cX1_throwShells 80 = .ok (.invokevirtual 58, 3) := by decide +kernel
theorem dX1_throwShells_83 : decode cX1_throwShells 83 = .ok (.iload_n 1, 1) := by decide +kernel
theorem dX1_throwShells_84 : decode cX1_throwShells 84 = .ok (.invokevirtual 61, 3) := by decide +kernel
theorem dX1_throwShells_87 : decode cX1_throwShells 87 = .ok (.ifCond .ne 17, 3) := by decide +kernel
theorem dX1_throwShells_90 : decode cX1_throwShells 90 = .ok (.iload_n 1, 1) := by decide +kernel
theorem dX1_throwShells_91 : decode cX1_throwShells 91 = .ok (.invokestatic 54, 3) := by decide +kernel
theorem dX1_throwShells_94 : decode cX1_throwShells 94 = .ok (.ifCond .ne 7, 3) := by decide +kernel
theorem dX1_throwShells_97 : decode cX1_throwShells 97 = .ok (.aload_n 0, 1) := by decide +kernel
theorem dX1_throwShells_98 : decode cX1_throwShells 98 = .ok (.invokevirtual 51, 3) := by decide +kernel
theorem dX1_throwShells_101 : decode cX1_throwShells 101 = .ok (.iload_n 2, 1) := by decide +kernel
theorem dX1_throwShells_102 : decode cX1_throwShells 102 = .ok (.ineg, 1) := by decide +kernel
theorem dX1_throwShells_103 : decode cX1_throwShells 103 = .ok (.ireturn, 1) := by decide +kernel
theorem dX1_throwShells_104 : decode cX1_throwShells 104 = .ok (.aload_n 0, 1) := by decide +kernel
theorem dX1_throwShells_105 : decode cX1_throwShells 105 = .ok (.iload_n 1, 1) := by decide +kernel
theorem dX1_throwShells_106 : decode cX1_throwShells 106 = .ok (.putfield 30, 3) := by decide +kernel
theorem dX1_throwShells_109 : decode cX1_throwShells 109 = .ok (.aload_n 0, 1) := by decide +kernel
theorem dX1_throwShells_110 : decode cX1_throwShells 110 = .ok (.iconst 1, 1) := by decide +kernel
theorem dX1_throwShells_111 : decode cX1_throwShells 111 = .ok (.putfield 27, 3) := by decide +kernel
theorem dX1_throwShells_114 : decode cX1_throwShells 114 = .ok (.iload_n 2, 1) := by decide +kernel
theorem dX1_throwShells_115 : decode cX1_throwShells 115 = .ok (.ireturn, 1) := by decide +kernel
set_option maxRecDepth 20000 in
theorem ggX1_move_X1_requirePiece : GoodIn wsX1_move wsX1_requirePiece := goodIn_ca (goodIn_r _ [9, 10, 11] (by decide +kernel) (by decide +kernel)) (goodIn_sub (fun _ h => List.mem_cons_of_mem _ (List.mem_append_right _ h)) (by decide +kernel))
set_option maxRecDepth 20000 in
theorem gX1_move_X1_requirePiece : GoodIn wsX1_move (va_wsS RX1 65 yX1_requirePiece wsX1_requirePiece) := goodIn_app (goodIn_of _ (by decide +kernel)) ggX1_move_X1_requirePiece
set_option maxRecDepth 20000 in
theorem ggX1_move_X1_requireMoveDue : GoodIn wsX1_move wsX1_requireMoveDue := goodIn_ca (goodIn_r _ [15, 1, 2, 16, 103, 104, 105, 106, 107, 108] (by decide +kernel) (by decide +kernel)) (goodIn_sub (fun _ h => List.mem_cons_of_mem _ (List.mem_append_left _ (List.mem_append_right _ h))) (by decide +kernel))
set_option maxRecDepth 20000 in
theorem gX1_move_X1_requireMoveDue : GoodIn wsX1_move (wsV RX1 69 RX1 yX1_requireMoveDue wsX1_requireMoveDue) := goodIn_app (goodIn_of _ (by decide +kernel)) ggX1_move_X1_requireMoveDue
set_option maxRecDepth 20000 in
theorem ggX1_move_X0_moverFor : GoodIn wsX1_move wsX0_moverFor := goodIn_r _ [21, 22, 23, 24, 20, 25, 26, 27, 28, 29, 30, 31, 8, 32, 109, 110] (by decide +kernel) (by decide +kernel)
set_option maxRecDepth 20000 in
theorem gX1_move_X0_moverFor : GoodIn wsX1_move (wsV RX1 58 RX0 yX0_moverFor wsX0_moverFor) := goodIn_app (goodIn_of _ (by decide +kernel)) ggX1_move_X0_moverFor
set_option maxRecDepth 20000 in
theorem ggX1_move_X0_targetOf : GoodIn wsX1_move wsX0_targetOf := goodIn_r _ [36, 26, 27, 28, 20, 29, 30, 37, 8, 38, 39, 40, 41, 42, 43, 44, 45, 46, 47, 48, 49, 50, 51, 52, 53, 54, 55, 56, 57, 58, 59, 60, 61, 62, 63, 64, 65, 109, 110] (by decide +kernel) (by decide +kernel)
set_option maxRecDepth 20000 in
theorem gX1_move_X0_targetOf : GoodIn wsX1_move (wsV RX1 72 RX0 yX0_targetOf wsX0_targetOf) := goodIn_app (goodIn_of _ (by decide +kernel)) ggX1_move_X0_targetOf
set_option maxRecDepth 20000 in
theorem ggX1_move_X0_isCapture : GoodIn wsX1_move wsX0_isCapture := goodIn_r _ [63, 49, 50, 51, 20, 52, 53, 8, 54, 55, 56, 57, 58, 59, 109, 110] (by decide +kernel) (by decide +kernel)
set_option maxRecDepth 20000 in
theorem gX1_move_X0_isCapture : GoodIn wsX1_move (wsV RX1 81 RX0 yX0_isCapture wsX0_isCapture) := goodIn_app (goodIn_of _ (by decide +kernel)) ggX1_move_X0_isCapture
set_option maxRecDepth 20000 in
theorem ggX1_move_X1_otherTeam : GoodIn wsX1_move wsX1_otherTeam := goodIn_r _ [54] (by decide +kernel) (by decide +kernel)
set_option maxRecDepth 20000 in
theorem gX1_move_X1_otherTeam : GoodIn wsX1_move (va_wsS RX1 84 yX1_otherTeam wsX1_otherTeam) := goodIn_app (goodIn_of _ (by decide +kernel)) ggX1_move_X1_otherTeam
set_option maxRecDepth 20000 in
theorem ggX1_move_X0_squareAt : GoodIn wsX1_move wsX0_squareAt := goodIn_r _ [52] (by decide +kernel) (by decide +kernel)
set_option maxRecDepth 20000 in
theorem gX1_move_X0_squareAt : GoodIn wsX1_move (wsV RX1 87 RX0 yX0_squareAt wsX0_squareAt) := goodIn_app (goodIn_of _ (by decide +kernel)) ggX1_move_X0_squareAt
set_option maxRecDepth 20000 in
theorem ggX1_move_X0_sendToYard : GoodIn wsX1_move wsX0_sendToYard := goodIn_r _ [72, 26, 27, 28, 20, 29, 30, 49, 50, 51, 52, 73, 74, 75, 76, 77, 8, 78, 79, 80, 81, 82, 59, 109, 110] (by decide +kernel) (by decide +kernel)
set_option maxRecDepth 20000 in
theorem gX1_move_X0_sendToYard : GoodIn wsX1_move (wsV RX1 90 RX0 yX0_sendToYard wsX0_sendToYard) := goodIn_app (goodIn_of _ (by decide +kernel)) ggX1_move_X0_sendToYard
set_option maxRecDepth 20000 in
theorem ggX1_move_X1_countCapture : GoodIn wsX1_move wsX1_countCapture := goodIn_r _ [86, 87, 103, 104, 105, 106, 107, 108] (by decide +kernel) (by decide +kernel)
set_option maxRecDepth 20000 in
theorem gX1_move_X1_countCapture : GoodIn wsX1_move (wsV RX1 94 RX1 yX1_countCapture wsX1_countCapture) := goodIn_app (goodIn_of _ (by decide +kernel)) ggX1_move_X1_countCapture
set_option maxRecDepth 20000 in
theorem ggX1_move_X0_place : GoodIn wsX1_move wsX0_place := goodIn_r _ [76, 30, 49, 50, 51, 20, 52, 77, 8, 78, 79, 80, 81, 82, 59, 109, 110] (by decide +kernel) (by decide +kernel)
set_option maxRecDepth 20000 in
theorem gX1_move_X0_place : GoodIn wsX1_move (wsV RX1 97 RX0 yX0_place wsX0_place) := goodIn_app (goodIn_of _ (by decide +kernel)) ggX1_move_X0_place
set_option maxRecDepth 20000 in
theorem ggX1_move_X1_endMove : GoodIn wsX1_move wsX1_endMove := goodIn_r _ [92, 3, 4, 16, 5, 93, 94, 95, 20, 96, 22, 23, 24, 25, 26, 27, 28, 29, 30, 31, 8, 32, 97, 37, 38, 98, 99, 100, 101, 102, 103, 104, 105, 106, 107, 108, 109, 110] (by decide +kernel) (by decide +kernel)
set_option maxRecDepth 20000 in
theorem gX1_move_X1_endMove : GoodIn wsX1_move (wsV RX1 101 RX1 yX1_endMove wsX1_endMove) := goodIn_app (goodIn_of _ (by decide +kernel)) ggX1_move_X1_endMove
theorem dX1_move_0 : decode cX1_move 0 = .ok (.iload_n 1, 1) := by decide +kernel
theorem dX1_move_1 : decode cX1_move 1 = .ok (.invokestatic 65, 3) := by decide +kernel
theorem dX1_move_4 : decode cX1_move 4 = .ok (.aload_n 0, 1) := by decide +kernel
theorem dX1_move_5 : decode cX1_move 5 = .ok (.invokevirtual 69, 3) := by decide +kernel
theorem dX1_move_8 : decode cX1_move 8 = .ok (.aload_n 0, 1) := by decide +kernel
theorem dX1_move_9 : decode cX1_move 9 = .ok (.getfield 10, 3) := by decide +kernel
theorem dX1_move_12 : decode cX1_move 12 = .ok (.aload_n 0, 1) := by decide +kernel
theorem dX1_move_13 : decode cX1_move 13 = .ok (.getfield 20, 3) := by decide +kernel
theorem dX1_move_16 : decode cX1_move 16 = .ok (.invokevirtual 58, 3) := by decide +kernel
theorem dX1_move_19 : decode cX1_move 19 = .ok (.istore_n 2, 1) := by decide +kernel
theorem dX1_move_20 : decode cX1_move 20 = .ok (.aload_n 0, 1) := by decide +kernel
theorem dX1_move_21 : decode cX1_move 21 = .ok (.getfield 10, 3) := by decide +kernel
theorem dX1_move_24 : decode cX1_move 24 = .ok (.iload_n 2, 1) := by decide +kernel
theorem dX1_move_25 : decode cX1_move 25 = .ok (.iload_n 1, 1) := by decide +kernel
theorem dX1_move_26 : decode cX1_move 26 = .ok (.aload_n 0, 1) := by decide +kernel
theorem dX1_move_27 : decode cX1_move 27 = .ok (.getfield 30, 3) := by decide +kernel
theorem dX1_move_30 : decode cX1_move 30 = .ok (.invokevirtual 72, 3) := by decide +kernel
theorem dX1_move_33 : decode cX1_move 33 = .ok (.istore_n 3, 1) := by decide +kernel
theorem dX1_move_34 : decode cX1_move 34 = .ok (.iload_n 3, 1) := by decide +kernel
theorem dX1_move_35 : decode cX1_move 35 = .ok (.iconst (-1), 1) := by decide +kernel
theorem dX1_move_36 : decode cX1_move 36 = .ok (.if_icmp .ne 13, 3) := by decide +kernel
theorem dX1_move_39 : decode cX1_move 39 = .ok (.new 76, 3) := by decide +kernel
theorem dX1_move_42 : decode cX1_move 42 = .ok (.dup, 1) := by decide +kernel
theorem dX1_move_43 : decode cX1_move 43 = .ok (.ldc 78, 2) := by decide +kernel
theorem dX1_move_45 : decode cX1_move 45 = .ok (.invokespecial 80, 3) := by decide +kernel
theorem dX1_move_48 : decode cX1_move 48 = .ok (.athrow, 1) := by decide +kernel
theorem dX1_move_49 : decode cX1_move 49 = .ok (.aload_n 0, 1) := by decide +kernel
theorem dX1_move_50 : decode cX1_move 50 = .ok (.getfield 10, 3) := by decide +kernel
theorem dX1_move_53 : decode cX1_move 53 = .ok (.iload_n 2, 1) := by decide +kernel
theorem dX1_move_54 : decode cX1_move 54 = .ok (.iload_n 3, 1) := by decide +kernel
theorem dX1_move_55 : decode cX1_move 55 = .ok (.invokevirtual 81, 3) := by decide +kernel
theorem dX1_move_58 : decode cX1_move 58 = .ok (.istore 4, 2) := by decide +kernel
theorem dX1_move_60 : decode cX1_move 60 = .ok (.iload 4, 2) := by decide +kernel
theorem dX1_move_62 : decode cX1_move 62 = .ok (.ifCond .eq 31, 3) := by decide +kernel
theorem dX1_move_65 : decode cX1_move 65 = .ok (.aload_n 0, 1) := by decide +kernel
theorem dX1_move_66 : decode cX1_move 66 = .ok (.getfield 10, 3) := by decide +kernel
theorem dX1_move_69 : decode cX1_move 69 = .ok (.iload_n 2, 1) := by decide +kernel
theorem dX1_move_70 : decode cX1_move 70 = .ok (.invokestatic 84, 3) := by decide +kernel
theorem dX1_move_73 : decode cX1_move 73 = .ok (.aload_n 0, 1) := by decide +kernel
theorem dX1_move_74 : decode cX1_move 74 = .ok (.getfield 10, 3) := by decide +kernel
theorem dX1_move_77 : decode cX1_move 77 = .ok (.iload_n 2, 1) := by decide +kernel
theorem dX1_move_78 : decode cX1_move 78 = .ok (.iload_n 3, 1) := by decide +kernel
theorem dX1_move_79 : decode cX1_move 79 = .ok (.invokevirtual 87, 3) := by decide +kernel
theorem dX1_move_82 : decode cX1_move 82 = .ok (.invokevirtual 90, 3) := by decide +kernel
theorem dX1_move_85 : decode cX1_move 85 = .ok (.aload_n 0, 1) := by decide +kernel
theorem dX1_move_86 : decode cX1_move 86 = .ok (.aload_n 0, 1) := by decide +kernel
theorem dX1_move_87 : decode cX1_move 87 = .ok (.getfield 20, 3) := by decide +kernel
theorem dX1_move_90 : decode cX1_move 90 = .ok (.invokevirtual 94, 3) := by decide +kernel
theorem dX1_move_93 : decode cX1_move 93 = .ok (.aload_n 0, 1) := by decide +kernel
theorem dX1_move_94 : decode cX1_move 94 = .ok (.getfield 10, 3) := by decide +kernel
theorem dX1_move_97 : decode cX1_move 97 = .ok (.iload_n 2, 1) := by decide +kernel
theorem dX1_move_98 : decode cX1_move 98 = .ok (.iload_n 1, 1) := by decide +kernel
theorem dX1_move_99 : decode cX1_move 99 = .ok (.iload_n 3, 1) := by decide +kernel
theorem dX1_move_100 : decode cX1_move 100 = .ok (.invokevirtual 97, 3) := by decide +kernel
theorem dX1_move_103 : decode cX1_move 103 = .ok (.aload_n 0, 1) := by decide +kernel
theorem dX1_move_104 : decode cX1_move 104 = .ok (.iload 4, 2) := by decide +kernel
theorem dX1_move_106 : decode cX1_move 106 = .ok (.invokevirtual 101, 3) := by decide +kernel
theorem dX1_move_109 : decode cX1_move 109 = .ok (.iload 4, 2) := by decide +kernel
theorem dX1_move_111 : decode cX1_move 111 = .ok (.ifCond .eq 10, 3) := by decide +kernel
theorem dX1_move_114 : decode cX1_move 114 = .ok (.iload_n 3, 1) := by decide +kernel
theorem dX1_move_115 : decode cX1_move 115 = .ok (.bipush 100, 2) := by decide +kernel
theorem dX1_move_117 : decode cX1_move 117 = .ok (.iadd, 1) := by decide +kernel
theorem dX1_move_118 : decode cX1_move 118 = .ok (.goto 4, 3) := by decide +kernel
theorem dX1_move_121 : decode cX1_move 121 = .ok (.iload_n 3, 1) := by decide +kernel
theorem dX1_move_122 : decode cX1_move 122 = .ok (.ireturn, 1) := by decide +kernel
theorem dX1_phase_0 : decode cX1_phase 0 = .ok (.aload_n 0, 1) := by decide +kernel
theorem dX1_phase_1 : decode cX1_phase 1 = .ok (.getfield 27, 3) := by decide +kernel
theorem dX1_phase_4 : decode cX1_phase 4 = .ok (.ireturn, 1) := by decide +kernel
theorem dX1_onTurn_0 : decode cX1_onTurn 0 = .ok (.aload_n 0, 1) := by decide +kernel
theorem dX1_onTurn_1 : decode cX1_onTurn 1 = .ok (.getfield 20, 3) := by decide +kernel
theorem dX1_onTurn_4 : decode cX1_onTurn 4 = .ok (.ireturn, 1) := by decide +kernel
set_option maxRecDepth 20000 in
theorem ggX1_mover_X0_moverFor : GoodIn wsX1_mover wsX0_moverFor := goodIn_r _ [7, 8, 9, 10, 6, 11, 12, 13, 14, 15, 16, 17, 18, 19, 26, 27] (by decide +kernel) (by decide +kernel)
set_option maxRecDepth 20000 in
theorem gX1_mover_X0_moverFor : GoodIn wsX1_mover (wsV RX1 58 RX0 yX0_moverFor wsX0_moverFor) := goodIn_app (goodIn_of _ (by decide +kernel)) ggX1_mover_X0_moverFor
theorem dX1_mover_0 : decode cX1_mover 0 = .ok (.aload_n 0, 1) := by decide +kernel
theorem dX1_mover_1 : decode cX1_mover 1 = .ok (.getfield 10, 3) := by decide +kernel
theorem dX1_mover_4 : decode cX1_mover 4 = .ok (.aload_n 0, 1) := by decide +kernel
theorem dX1_mover_5 : decode cX1_mover 5 = .ok (.getfield 20, 3) := by decide +kernel
theorem dX1_mover_8 : decode cX1_mover 8 = .ok (.invokevirtual 58, 3) := by decide +kernel
theorem dX1_mover_11 : decode cX1_mover 11 = .ok (.ireturn, 1) := by decide +kernel
set_option maxRecDepth 20000 in
theorem ggX1_movable_X1_requireMoveDue : GoodIn wsX1_movable wsX1_requireMoveDue := goodIn_ca (goodIn_r _ [8, 9, 10, 11, 65, 66, 67, 68, 69, 70] (by decide +kernel) (by decide +kernel)) (goodIn_sub (fun _ h => List.mem_cons_of_mem _ (List.mem_append_right _ h)) (by decide +kernel))
set_option maxRecDepth 20000 in
theorem gX1_movable_X1_requireMoveDue : GoodIn wsX1_movable (wsV RX1 69 RX1 yX1_requireMoveDue wsX1_requireMoveDue) := goodIn_app (goodIn_of _ (by decide +kernel)) ggX1_movable_X1_requireMoveDue
set_option maxRecDepth 20000 in
theorem ggX1_movable_X0_moverFor : GoodIn wsX1_movable wsX0_moverFor := goodIn_r _ [16, 17, 18, 19, 15, 20, 21, 22, 23, 24, 25, 26, 7, 27, 71, 72] (by decide +kernel) (by decide +kernel)
set_option maxRecDepth 20000 in
theorem gX1_movable_X0_moverFor : GoodIn wsX1_movable (wsV RX1 58 RX0 yX0_moverFor wsX0_moverFor) := goodIn_app (goodIn_of _ (by decide +kernel)) ggX1_movable_X0_moverFor
set_option maxRecDepth 20000 in
theorem ggX1_movable_X0_movableSet : GoodIn wsX1_movable wsX0_movableSet := goodIn_r _ [31, 32, 33, 34, 15, 35, 21, 22, 23, 24, 25, 36, 7, 37, 38, 39, 40, 41, 42, 43, 44, 45, 46, 47, 48, 49, 50, 51, 52, 53, 54, 55, 56, 57, 58, 59, 60, 61, 62, 63, 64, 71, 72] (by decide +kernel) (by decide +kernel)
set_option maxRecDepth 20000 in
theorem gX1_movable_X0_movableSet : GoodIn wsX1_movable (wsV RX1 61 RX0 yX0_movableSet wsX0_movableSet) := goodIn_app (goodIn_of _ (by decide +kernel)) ggX1_movable_X0_movableSet
theorem dX1_movable_0 : decode cX1_movable 0 = .ok (.aload_n 0, 1) := by decide +kernel
theorem dX1_movable_1 : decode cX1_movable 1 = .ok (.invokevirtual 69, 3) := by decide +kernel
theorem dX1_movable_4 : decode cX1_movable 4 = .ok (.aload_n 0, 1) := by decide +kernel
theorem dX1_movable_5 : decode cX1_movable 5 = .ok (.getfield 10, 3) := by decide +kernel
theorem dX1_movable_8 : decode cX1_movable 8 = .ok (.aload_n 0, 1) := by decide +kernel
theorem dX1_movable_9 : decode cX1_movable 9 = .ok (.getfield 10, 3) := by decide +kernel
theorem dX1_movable_12 : decode cX1_movable 12 = .ok (.aload_n 0, 1) := by decide +kernel
theorem dX1_movable_13 : decode cX1_movable 13 = .ok (.getfield 20, 3) := by decide +kernel
theorem dX1_movable_16 : decode cX1_movable 16 = .ok (.invokevirtual 58, 3) := by decide +kernel
theorem dX1_movable_19 : decode cX1_movable 19 = .ok (.aload_n 0, 1) := by decide +kernel
theorem dX1_movable_20 : decode cX1_movable 20 = .ok (.getfield 30, 3) := by decide +kernel
theorem dX1_movable_23 : decode cX1_movable 23 = .ok (.invokevirtual 61, 3) := by decide +kernel
theorem dX1_movable_26 : decode cX1_movable 26 = .ok (.ireturn, 1) := by decide +kernel
theorem dX1_graces_0 : decode cX1_graces 0 = .ok (.aload_n 0, 1) := by decide +kernel
theorem dX1_graces_1 : decode cX1_graces 1 = .ok (.getfield 24, 3) := by decide +kernel
theorem dX1_graces_4 : decode cX1_graces 4 = .ok (.ireturn, 1) := by decide +kernel
set_option maxRecDepth 20000 in
theorem ggX1_position_X1_requirePlayer : GoodIn wsX1_position wsX1_requirePlayer := goodIn_ca (goodIn_r _ [5, 6, 7] (by decide +kernel) (by decide +kernel)) (goodIn_sub (fun _ h => List.mem_cons_of_mem _ (List.mem_append_right _ h)) (by decide +kernel))
set_option maxRecDepth 20000 in
theorem gX1_position_X1_requirePlayer : GoodIn wsX1_position (va_wsS RX1 105 yX1_requirePlayer wsX1_requirePlayer) := goodIn_app (goodIn_of _ (by decide +kernel)) ggX1_position_X1_requirePlayer
set_option maxRecDepth 20000 in
theorem ggX1_position_X1_requirePiece : GoodIn wsX1_position wsX1_requirePiece := goodIn_ca (goodIn_r _ [10, 6, 7] (by decide +kernel) (by decide +kernel)) (goodIn_sub (fun _ h => List.mem_cons_of_mem _ (List.mem_append_right _ h)) (by decide +kernel))
set_option maxRecDepth 20000 in
theorem gX1_position_X1_requirePiece : GoodIn wsX1_position (va_wsS RX1 65 yX1_requirePiece wsX1_requirePiece) := goodIn_app (goodIn_of _ (by decide +kernel)) ggX1_position_X1_requirePiece
set_option maxRecDepth 20000 in
theorem ggX1_position_X0_positionOf : GoodIn wsX1_position wsX0_positionOf := goodIn_r _ [15, 16, 23, 24] (by decide +kernel) (by decide +kernel)
set_option maxRecDepth 20000 in
theorem gX1_position_X0_positionOf : GoodIn wsX1_position (wsV RX1 108 RX0 yX0_positionOf wsX0_positionOf) := goodIn_app (goodIn_of _ (by decide +kernel)) ggX1_position_X0_positionOf
theorem dX1_position_0 : decode cX1_position 0 = .ok (.iload_n 1, 1) := by decide +kernel
theorem dX1_position_1 : decode cX1_position 1 = .ok (.invokestatic 105, 3) := by decide +kernel
theorem dX1_position_4 : decode cX1_position 4 = .ok (.iload_n 2, 1) := by decide +kernel
theorem dX1_position_5 : decode cX1_position 5 = .ok (.invokestatic 65, 3) := by decide +kernel
theorem dX1_position_8 : decode cX1_position 8 = .ok (.aload_n 0, 1) := by decide +kernel
theorem dX1_position_9 : decode cX1_position 9 = .ok (.getfield 10, 3) := by decide +kernel
theorem dX1_position_12 : decode cX1_position 12 = .ok (.iload_n 1, 1) := by decide +kernel
theorem dX1_position_13 : decode cX1_position 13 = .ok (.iload_n 2, 1) := by decide +kernel
theorem dX1_position_14 : decode cX1_position 14 = .ok (.invokevirtual 108, 3) := by decide +kernel
theorem dX1_position_17 : decode cX1_position 17 = .ok (.ireturn, 1) := by decide +kernel
set_option maxRecDepth 20000 in
theorem ggX1_square_X1_requirePlayer : GoodIn wsX1_square wsX1_requirePlayer := goodIn_ca (goodIn_r _ [5, 6, 7] (by decide +kernel) (by decide +kernel)) (goodIn_sub (fun _ h => List.mem_cons_of_mem _ (List.mem_append_right _ h)) (by decide +kernel))
set_option maxRecDepth 20000 in
theorem gX1_square_X1_requirePlayer : GoodIn wsX1_square (va_wsS RX1 105 yX1_requirePlayer wsX1_requirePlayer) := goodIn_app (goodIn_of _ (by decide +kernel)) ggX1_square_X1_requirePlayer
set_option maxRecDepth 20000 in
theorem ggX1_square_X1_requirePiece : GoodIn wsX1_square wsX1_requirePiece := goodIn_ca (goodIn_r _ [10, 6, 7] (by decide +kernel) (by decide +kernel)) (goodIn_sub (fun _ h => List.mem_cons_of_mem _ (List.mem_append_right _ h)) (by decide +kernel))
set_option maxRecDepth 20000 in
theorem gX1_square_X1_requirePiece : GoodIn wsX1_square (va_wsS RX1 65 yX1_requirePiece wsX1_requirePiece) := goodIn_app (goodIn_of _ (by decide +kernel)) ggX1_square_X1_requirePiece
set_option maxRecDepth 20000 in
theorem ggX1_square_X0_positionOf : GoodIn wsX1_square wsX0_positionOf := goodIn_r _ [15, 16, 27, 28] (by decide +kernel) (by decide +kernel)
set_option maxRecDepth 20000 in
theorem gX1_square_X0_positionOf : GoodIn wsX1_square (wsV RX1 108 RX0 yX0_positionOf wsX0_positionOf) := goodIn_app (goodIn_of _ (by decide +kernel)) ggX1_square_X0_positionOf
set_option maxRecDepth 20000 in
theorem ggX1_square_X0_squareAt : GoodIn wsX1_square wsX0_squareAt := goodIn_r _ [20] (by decide +kernel) (by decide +kernel)
set_option maxRecDepth 20000 in
theorem gX1_square_X0_squareAt : GoodIn wsX1_square (wsV RX1 87 RX0 yX0_squareAt wsX0_squareAt) := goodIn_app (goodIn_of _ (by decide +kernel)) ggX1_square_X0_squareAt
theorem dX1_square_0 : decode cX1_square 0 = .ok (.iload_n 1, 1) := by decide +kernel
theorem dX1_square_1 : decode cX1_square 1 = .ok (.invokestatic 105, 3) := by decide +kernel
theorem dX1_square_4 : decode cX1_square 4 = .ok (.iload_n 2, 1) := by decide +kernel
theorem dX1_square_5 : decode cX1_square 5 = .ok (.invokestatic 65, 3) := by decide +kernel
theorem dX1_square_8 : decode cX1_square 8 = .ok (.aload_n 0, 1) := by decide +kernel
theorem dX1_square_9 : decode cX1_square 9 = .ok (.getfield 10, 3) := by decide +kernel
theorem dX1_square_12 : decode cX1_square 12 = .ok (.iload_n 1, 1) := by decide +kernel
theorem dX1_square_13 : decode cX1_square 13 = .ok (.aload_n 0, 1) := by decide +kernel
theorem dX1_square_14 : decode cX1_square 14 = .ok (.getfield 10, 3) := by decide +kernel
theorem dX1_square_17 : decode cX1_square 17 = .ok (.iload_n 1, 1) := by decide +kernel
theorem dX1_square_18 : decode cX1_square 18 = .ok (.iload_n 2, 1) := by decide +kernel
theorem dX1_square_19 : decode cX1_square 19 = .ok (.invokevirtual 108, 3) := by decide +kernel
theorem dX1_square_22 : decode cX1_square 22 = .ok (.invokevirtual 87, 3) := by decide +kernel
theorem dX1_square_25 : decode cX1_square 25 = .ok (.ireturn, 1) := by decide +kernel
set_option maxRecDepth 20000 in
theorem ggX1_standing_X1_requireSquare : GoodIn wsX1_standing wsX1_requireSquare := goodIn_ca (goodIn_r _ [5, 6, 7] (by decide +kernel) (by decide +kernel)) (goodIn_sub (fun _ h => List.mem_cons_of_mem _ (List.mem_append_left _ (List.mem_append_right _ h))) (by decide +kernel))
set_option maxRecDepth 20000 in
theorem gX1_standing_X1_requireSquare : GoodIn wsX1_standing (va_wsS RX1 111 yX1_requireSquare wsX1_requireSquare) := goodIn_app (goodIn_of _ (by decide +kernel)) ggX1_standing_X1_requireSquare
set_option maxRecDepth 20000 in
theorem ggX1_standing_X1_requireTeam : GoodIn wsX1_standing wsX1_requireTeam := goodIn_ca (goodIn_r _ [10, 11, 12] (by decide +kernel) (by decide +kernel)) (goodIn_sub (fun _ h => List.mem_cons_of_mem _ (List.mem_append_right _ h)) (by decide +kernel))
set_option maxRecDepth 20000 in
theorem gX1_standing_X1_requireTeam : GoodIn wsX1_standing (va_wsS RX1 114 yX1_requireTeam wsX1_requireTeam) := goodIn_app (goodIn_of _ (by decide +kernel)) ggX1_standing_X1_requireTeam
set_option maxRecDepth 20000 in
theorem ggX1_standing_X0_countOn : GoodIn wsX1_standing wsX0_countOn := goodIn_r _ [17, 18, 25, 26] (by decide +kernel) (by decide +kernel)
set_option maxRecDepth 20000 in
theorem gX1_standing_X0_countOn : GoodIn wsX1_standing (wsV RX1 117 RX0 yX0_countOn wsX0_countOn) := goodIn_app (goodIn_of _ (by decide +kernel)) ggX1_standing_X0_countOn
theorem dX1_standing_0 : decode cX1_standing 0 = .ok (.iload_n 1, 1) := by decide +kernel
theorem dX1_standing_1 : decode cX1_standing 1 = .ok (.invokestatic 111, 3) := by decide +kernel
theorem dX1_standing_4 : decode cX1_standing 4 = .ok (.iload_n 2, 1) := by decide +kernel
theorem dX1_standing_5 : decode cX1_standing 5 = .ok (.invokestatic 114, 3) := by decide +kernel
theorem dX1_standing_8 : decode cX1_standing 8 = .ok (.aload_n 0, 1) := by decide +kernel
theorem dX1_standing_9 : decode cX1_standing 9 = .ok (.getfield 10, 3) := by decide +kernel
theorem dX1_standing_12 : decode cX1_standing 12 = .ok (.iload_n 1, 1) := by decide +kernel
theorem dX1_standing_13 : decode cX1_standing 13 = .ok (.iload_n 2, 1) := by decide +kernel
theorem dX1_standing_14 : decode cX1_standing 14 = .ok (.invokevirtual 117, 3) := by decide +kernel
theorem dX1_standing_17 : decode cX1_standing 17 = .ok (.ireturn, 1) := by decide +kernel
set_option maxRecDepth 20000 in
theorem ggX1_isSafe_X1_requireSquare : GoodIn wsX1_isSafe wsX1_requireSquare := goodIn_ca (goodIn_r _ [4, 5, 6] (by decide +kernel) (by decide +kernel)) (goodIn_sub (fun _ h => List.mem_cons_of_mem _ (List.mem_append_right _ h)) (by decide +kernel))
set_option maxRecDepth 20000 in
theorem gX1_isSafe_X1_requireSquare : GoodIn wsX1_isSafe (va_wsS RX1 111 yX1_requireSquare wsX1_requireSquare) := goodIn_app (goodIn_of _ (by decide +kernel)) ggX1_isSafe_X1_requireSquare
set_option maxRecDepth 20000 in
theorem ggX1_isSafe_X1_isSafeSquare : GoodIn wsX1_isSafe wsX1_isSafeSquare := goodIn_r _ [9] (by decide +kernel) (by decide +kernel)
set_option maxRecDepth 20000 in
theorem gX1_isSafe_X1_isSafeSquare : GoodIn wsX1_isSafe (va_wsS RX1 120 yX1_isSafeSquare wsX1_isSafeSquare) := goodIn_app (goodIn_of _ (by decide +kernel)) ggX1_isSafe_X1_isSafeSquare
theorem dX1_isSafe_0 : decode cX1_isSafe 0 = .ok (.iload_n 1, 1) := by decide +kernel
theorem dX1_isSafe_1 : decode cX1_isSafe 1 = .ok (.invokestatic 111, 3) := by decide +kernel
theorem dX1_isSafe_4 : decode cX1_isSafe 4 = .ok (.iload_n 1, 1) := by decide +kernel
theorem dX1_isSafe_5 : decode cX1_isSafe 5 = .ok (.invokestatic 120, 3) := by decide +kernel
theorem dX1_isSafe_8 : decode cX1_isSafe 8 = .ok (.ireturn, 1) := by decide +kernel
set_option maxRecDepth 20000 in
theorem ggX1_home_X1_requirePlayer : GoodIn wsX1_home wsX1_requirePlayer := goodIn_ca (goodIn_r _ [5, 6, 7] (by decide +kernel) (by decide +kernel)) (goodIn_sub (fun _ h => List.mem_cons_of_mem _ (List.mem_append_right _ h)) (by decide +kernel))
set_option maxRecDepth 20000 in
theorem gX1_home_X1_requirePlayer : GoodIn wsX1_home (va_wsS RX1 105 yX1_requirePlayer wsX1_requirePlayer) := goodIn_app (goodIn_of _ (by decide +kernel)) ggX1_home_X1_requirePlayer
set_option maxRecDepth 20000 in
theorem ggX1_home_X0_countHome : GoodIn wsX1_home wsX0_countHome := goodIn_r _ [12, 13, 14, 15, 11, 16, 17, 24, 25] (by decide +kernel) (by decide +kernel)
set_option maxRecDepth 20000 in
theorem gX1_home_X0_countHome : GoodIn wsX1_home (wsV RX1 123 RX0 yX0_countHome wsX0_countHome) := goodIn_app (goodIn_of _ (by decide +kernel)) ggX1_home_X0_countHome
theorem dX1_home_0 : decode cX1_home 0 = .ok (.iload_n 1, 1) := by decide +kernel
theorem dX1_home_1 : decode cX1_home 1 = .ok (.invokestatic 105, 3) := by decide +kernel
theorem dX1_home_4 : decode cX1_home 4 = .ok (.aload_n 0, 1) := by decide +kernel
theorem dX1_home_5 : decode cX1_home 5 = .ok (.getfield 10, 3) := by decide +kernel
theorem dX1_home_8 : decode cX1_home 8 = .ok (.iload_n 1, 1) := by decide +kernel
theorem dX1_home_9 : decode cX1_home 9 = .ok (.invokevirtual 123, 3) := by decide +kernel
theorem dX1_home_12 : decode cX1_home 12 = .ok (.ireturn, 1) := by decide +kernel
set_option maxRecDepth 20000 in
theorem ggX1_captures_X1_requirePlayer : GoodIn wsX1_captures wsX1_requirePlayer := goodIn_ca (goodIn_r _ [5, 6, 7] (by decide +kernel) (by decide +kernel)) (goodIn_sub (fun _ h => List.mem_cons_of_mem _ (List.mem_append_right _ h)) (by decide +kernel))
set_option maxRecDepth 20000 in
theorem gX1_captures_X1_requirePlayer : GoodIn wsX1_captures (va_wsS RX1 105 yX1_requirePlayer wsX1_requirePlayer) := goodIn_app (goodIn_of _ (by decide +kernel)) ggX1_captures_X1_requirePlayer
theorem dX1_captures_0 : decode cX1_captures 0 = .ok (.iload_n 1, 1) := by decide +kernel
theorem dX1_captures_1 : decode cX1_captures 1 = .ok (.invokestatic 105, 3) := by decide +kernel
theorem dX1_captures_4 : decode cX1_captures 4 = .ok (.iload_n 1, 1) := by decide +kernel
theorem dX1_captures_5 : decode cX1_captures 5 = .ok (.ifCond .lt 21, 3) := by decide +kernel
theorem dX1_captures_8 : decode cX1_captures 8 = .ok (.iload_n 1, 1) := by decide +kernel
theorem dX1_captures_9 : decode cX1_captures 9 = .ok (.aload_n 0, 1) := by decide +kernel
theorem dX1_captures_10 : decode cX1_captures 10 = .ok (.getfield 16, 3) := by decide +kernel
theorem dX1_captures_13 : decode cX1_captures 13 = .ok (.arraylength, 1) := by decide +kernel
theorem dX1_captures_14 : decode cX1_captures 14 = .ok (.if_icmp .ge 12, 3) := by decide +kernel
theorem dX1_captures_17 : decode cX1_captures 17 = .ok (.aload_n 0, 1) := by decide +kernel
theorem dX1_captures_18 : decode cX1_captures 18 = .ok (.getfield 16, 3) := by decide +kernel
theorem dX1_captures_21 : decode cX1_captures 21 = .ok (.iload_n 1, 1) := by decide +kernel
theorem dX1_captures_22 : decode cX1_captures 22 = .ok (.iaload, 1) := by decide +kernel
theorem dX1_captures_23 : decode cX1_captures 23 = .ok (.goto 4, 3) := by decide +kernel
theorem dX1_captures_26 : decode cX1_captures 26 = .ok (.iconst 0, 1) := by decide +kernel
theorem dX1_captures_27 : decode cX1_captures 27 = .ok (.ireturn, 1) := by decide +kernel
set_option maxRecDepth 20000 in
theorem ggX1_winner_X1_teamOf : GoodIn wsX1_winner wsX1_teamOf := goodIn_r _ [6] (by decide +kernel) (by decide +kernel)
set_option maxRecDepth 20000 in
theorem gX1_winner_X1_teamOf : GoodIn wsX1_winner (va_wsS RX1 126 yX1_teamOf wsX1_teamOf) := goodIn_app (goodIn_of _ (by decide +kernel)) ggX1_winner_X1_teamOf
theorem dX1_winner_0 : decode cX1_winner 0 = .ok (.aload_n 0, 1) := by decide +kernel
theorem dX1_winner_1 : decode cX1_winner 1 = .ok (.getfield 27, 3) := by decide +kernel
theorem dX1_winner_4 : decode cX1_winner 4 = .ok (.iconst 2, 1) := by decide +kernel
theorem dX1_winner_5 : decode cX1_winner 5 = .ok (.if_icmp .ne 13, 3) := by decide +kernel
theorem dX1_winner_8 : decode cX1_winner 8 = .ok (.aload_n 0, 1) := by decide +kernel
theorem dX1_winner_9 : decode cX1_winner 9 = .ok (.getfield 20, 3) := by decide +kernel
theorem dX1_winner_12 : decode cX1_winner 12 = .ok (.invokestatic 126, 3) := by decide +kernel
theorem dX1_winner_15 : decode cX1_winner 15 = .ok (.goto 4, 3) := by decide +kernel
theorem dX1_winner_18 : decode cX1_winner 18 = .ok (.iconst (-1), 1) := by decide +kernel
theorem dX1_winner_19 : decode cX1_winner 19 = .ok (.ireturn, 1) := by decide +kernel
set_option maxRecDepth 20000 in
theorem ggX1_distance_X1_requireTeam : GoodIn wsX1_distance wsX1_requireTeam := goodIn_ca (goodIn_r _ [5, 6, 7] (by decide +kernel) (by decide +kernel)) (goodIn_sub (fun _ h => List.mem_cons_of_mem _ (List.mem_append_right _ h)) (by decide +kernel))
set_option maxRecDepth 20000 in
theorem gX1_distance_X1_requireTeam : GoodIn wsX1_distance (va_wsS RX1 114 yX1_requireTeam wsX1_requireTeam) := goodIn_app (goodIn_of _ (by decide +kernel)) ggX1_distance_X1_requireTeam
set_option maxRecDepth 20000 in
theorem ggX1_distance_X0_distanceOf : GoodIn wsX1_distance wsX0_distanceOf := goodIn_r _ [12, 13, 14, 15, 11, 16, 17, 24, 25] (by decide +kernel) (by decide +kernel)
set_option maxRecDepth 20000 in
theorem gX1_distance_X0_distanceOf : GoodIn wsX1_distance (wsV RX1 129 RX0 yX0_distanceOf wsX0_distanceOf) := goodIn_app (goodIn_of _ (by decide +kernel)) ggX1_distance_X0_distanceOf
theorem dX1_distance_0 : decode cX1_distance 0 = .ok (.iload_n 1, 1) := by decide +kernel
theorem dX1_distance_1 : decode cX1_distance 1 = .ok (.invokestatic 114, 3) := by decide +kernel
theorem dX1_distance_4 : decode cX1_distance 4 = .ok (.aload_n 0, 1) := by decide +kernel
theorem dX1_distance_5 : decode cX1_distance 5 = .ok (.getfield 10, 3) := by decide +kernel
theorem dX1_distance_8 : decode cX1_distance 8 = .ok (.iload_n 1, 1) := by decide +kernel
theorem dX1_distance_9 : decode cX1_distance 9 = .ok (.invokevirtual 129, 3) := by decide +kernel
theorem dX1_distance_12 : decode cX1_distance 12 = .ok (.aload_n 0, 1) := by decide +kernel
theorem dX1_distance_13 : decode cX1_distance 13 = .ok (.getfield 10, 3) := by decide +kernel
theorem dX1_distance_16 : decode cX1_distance 16 = .ok (.iload_n 1, 1) := by decide +kernel
theorem dX1_distance_17 : decode cX1_distance 17 = .ok (.iconst 2, 1) := by decide +kernel
theorem dX1_distance_18 : decode cX1_distance 18 = .ok (.iadd, 1) := by decide +kernel
theorem dX1_distance_19 : decode cX1_distance 19 = .ok (.invokevirtual 129, 3) := by decide +kernel
theorem dX1_distance_22 : decode cX1_distance 22 = .ok (.iadd, 1) := by decide +kernel
theorem dX1_distance_23 : decode cX1_distance 23 = .ok (.ireturn, 1) := by decide +kernel
set_option maxRecDepth 20000 in
theorem ggX1_ways_X1_requireThrowDue : GoodIn wsX1_ways wsX1_requireThrowDue := goodIn_ca (goodIn_r _ [10, 11, 12, 13, 79, 80, 81, 82, 83, 84] (by decide +kernel) (by decide +kernel)) (goodIn_sub (fun _ h => List.mem_cons_of_mem _ (List.mem_append_right _ h)) (by decide +kernel))
set_option maxRecDepth 20000 in
theorem gX1_ways_X1_requireThrowDue : GoodIn wsX1_ways (wsV RX1 40 RX1 yX1_requireThrowDue wsX1_requireThrowDue) := goodIn_app (goodIn_of _ (by decide +kernel)) ggX1_ways_X1_requireThrowDue
set_option maxRecDepth 20000 in
theorem ggX1_ways_X0_moverFor : GoodIn wsX1_ways wsX0_moverFor := goodIn_r _ [18, 19, 20, 21, 17, 22, 23, 24, 25, 26, 27, 28, 9, 29, 85, 86] (by decide +kernel) (by decide +kernel)
set_option maxRecDepth 20000 in
theorem gX1_ways_X0_moverFor : GoodIn wsX1_ways (wsV RX1 58 RX0 yX0_moverFor wsX0_moverFor) := goodIn_app (goodIn_of _ (by decide +kernel)) ggX1_ways_X0_moverFor
set_option maxRecDepth 20000 in
theorem ggX1_ways_X1_isGraceTooMany : GoodIn wsX1_ways wsX1_isGraceTooMany := goodIn_r _ [32, 33, 34, 9, 35] (by decide +kernel) (by decide +kernel)
set_option maxRecDepth 20000 in
theorem gX1_ways_X1_isGraceTooMany : GoodIn wsX1_ways (va_wsS RX1 47 yX1_isGraceTooMany wsX1_isGraceTooMany) := goodIn_app (goodIn_of _ (by decide +kernel)) ggX1_ways_X1_isGraceTooMany
set_option maxRecDepth 20000 in
theorem ggX1_ways_X0_canDo : GoodIn wsX1_ways wsX0_canDo := goodIn_r _ [39, 40, 41, 42, 17, 43, 23, 24, 25, 26, 27, 34, 9, 35, 44, 45, 46, 47, 48, 49, 50, 51, 52, 53, 54, 55, 56, 57, 58, 59, 60, 61, 62, 63, 64, 65, 66, 67, 68, 69, 70, 71, 72, 73, 74, 85, 86] (by decide +kernel) (by decide +kernel)
set_option maxRecDepth 20000 in
theorem gX1_ways_X0_canDo : GoodIn wsX1_ways (wsV RX1 134 RX0 yX0_canDo wsX0_canDo) := goodIn_app (goodIn_of _ (by decide +kernel)) ggX1_ways_X0_canDo
set_option maxRecDepth 20000 in
theorem ggX1_ways_X1_waysOf : GoodIn wsX1_ways wsX1_waysOf := goodIn_r _ [77, 78] (by decide +kernel) (by decide +kernel)
set_option maxRecDepth 20000 in
theorem gX1_ways_X1_waysOf : GoodIn wsX1_ways (va_wsS RX1 138 yX1_waysOf wsX1_waysOf) := goodIn_app (goodIn_of _ (by decide +kernel)) ggX1_ways_X1_waysOf
theorem dX1_ways_0 : decode cX1_ways 0 = .ok (.iload_n 1, 1) := by decide +kernel
theorem dX1_ways_1 : decode cX1_ways 1 = .ok (.ifCond .lt 8, 3) := by decide +kernel
theorem dX1_ways_4 : decode cX1_ways 4 = .ok (.iload_n 1, 1) := by decide +kernel
theorem dX1_ways_5 : decode cX1_ways 5 = .ok (.iconst 3, 1) := by decide +kernel
theorem dX1_ways_6 : decode cX1_ways 6 = .ok (.if_icmp .le 13, 3) := by decide +kernel
theorem dX1_ways_9 : decode cX1_ways 9 = .ok (.new 33, 3) := by decide +kernel
theorem dX1_ways_12 : decode cX1_ways 12 = .ok (.dup, 1) := by decide +kernel
theorem dX1_ways_13 : decode cX1_ways 13 = .ok (.ldc 132, 2) := by decide +kernel
theorem dX1_ways_15 : decode cX1_ways 15 = .ok (.invokespecial 37, 3) := by decide +kernel
theorem dX1_ways_18 : decode cX1_ways 18 = .ok (.athrow, 1) := by decide +kernel
theorem dX1_ways_19 : decode cX1_ways 19 = .ok (.aload_n 0, 1) := by decide +kernel
theorem dX1_ways_20 : decode cX1_ways 20 = .ok (.invokevirtual 40, 3) := by decide +kernel
theorem dX1_ways_23 : decode cX1_ways 23 = .ok (.aload_n 0, 1) := by decide +kernel
theorem dX1_ways_24 : decode cX1_ways 24 = .ok (.getfield 10, 3) := by decide +kernel
theorem dX1_ways_27 : decode cX1_ways 27 = .ok (.aload_n 0, 1) := by decide +kernel
theorem dX1_ways_28 : decode cX1_ways 28 = .ok (.getfield 20, 3) := by decide +kernel
theorem dX1_ways_31 : decode cX1_ways 31 = .ok (.invokevirtual 58, 3) := by decide +kernel
theorem dX1_ways_34 : decode cX1_ways 34 = .ok (.istore_n 2, 1) := by decide +kernel
theorem dX1_ways_35 : decode cX1_ways 35 = .ok (.iconst 0, 1) := by decide +kernel
theorem dX1_ways_36 : decode cX1_ways 36 = .ok (.istore_n 3, 1) := by decide +kernel
theorem dX1_ways_37 : decode cX1_ways 37 = .ok (.iconst 0, 1) := by decide +kernel
theorem dX1_ways_38 : decode cX1_ways 38 = .ok (.istore 4, 2) := by decide +kernel
theorem dX1_ways_40 : decode cX1_ways 40 = .ok (.iload 4, 2) := by decide +kernel
theorem dX1_ways_42 : decode cX1_ways 42 = .ok (.bipush 6, 2) := by decide +kernel
theorem dX1_ways_44 : decode cX1_ways 44 = .ok (.if_icmp .gt 43, 3) := by decide +kernel
theorem dX1_ways_47 : decode cX1_ways 47 = .ok (.iload 4, 2) := by decide +kernel
theorem dX1_ways_49 : decode cX1_ways 49 = .ok (.aload_n 0, 1) := by decide +kernel
theorem dX1_ways_50 : decode cX1_ways 50 = .ok (.getfield 24, 3) := by decide +kernel
theorem dX1_ways_53 : decode cX1_ways 53 = .ok (.invokestatic 47, 3) := by decide +kernel
theorem dX1_ways_56 : decode cX1_ways 56 = .ok (.ifCond .ne 25, 3) := by decide +kernel
theorem dX1_ways_59 : decode cX1_ways 59 = .ok (.aload_n 0, 1) := by decide +kernel
theorem dX1_ways_60 : decode cX1_ways 60 = .ok (.getfield 10, 3) := by decide +kernel
theorem dX1_ways_63 : decode cX1_ways 63 = .ok (.iload_n 1, 1) := by decide +kernel
theorem dX1_ways_64 : decode cX1_ways 64 = .ok (.iload_n 2, 1) := by decide +kernel
theorem dX1_ways_65 : decode cX1_ways 65 = .ok (.iload 4, 2) := by decide +kernel
theorem dX1_ways_67 : decode cX1_ways 67 = .ok (.invokevirtual 134, 3) := by decide +kernel
theorem dX1_ways_70 : decode cX1_ways 70 = .ok (.ifCond .eq 11, 3) := by decide +kernel
theorem dX1_ways_73 : decode cX1_ways 73 = .ok (.iload_n 3, 1) := by decide +kernel
theorem dX1_ways_74 : decode cX1_ways 74 = .ok (.iload 4, 2) := by decide +kernel
theorem dX1_ways_76 : decode cX1_ways 76 = .ok (.invokestatic 138, 3) := by decide +kernel
theorem dX1_ways_79 : decode cX1_ways 79 = .ok (.iadd, 1) := by decide +kernel
theorem dX1_ways_80 : decode cX1_ways 80 = .ok (.istore_n 3, 1) := by decide +kernel
theorem dX1_ways_81 : decode cX1_ways 81 = .ok (.iinc 4 1, 3) := by decide +kernel
theorem dX1_ways_84 : decode cX1_ways 84 = .ok (.goto (-44), 3) := by decide +kernel
theorem dX1_ways_87 : decode cX1_ways 87 = .ok (.iload_n 3, 1) := by decide +kernel
theorem dX1_ways_88 : decode cX1_ways 88 = .ok (.ireturn, 1) := by decide +kernel
set_option maxRecDepth 20000 in
theorem ggX1_threat_X1_requirePlayer : GoodIn wsX1_threat wsX1_requirePlayer := goodIn_ca (goodIn_r _ [7, 8, 9] (by decide +kernel) (by decide +kernel)) (goodIn_sub (fun _ h => List.mem_cons_of_mem _ (List.mem_append_right _ h)) (by decide +kernel))
set_option maxRecDepth 20000 in
theorem gX1_threat_X1_requirePlayer : GoodIn wsX1_threat (va_wsS RX1 105 yX1_requirePlayer wsX1_requirePlayer) := goodIn_app (goodIn_of _ (by decide +kernel)) ggX1_threat_X1_requirePlayer
set_option maxRecDepth 20000 in
theorem ggX1_threat_X1_requirePiece : GoodIn wsX1_threat wsX1_requirePiece := goodIn_ca (goodIn_r _ [12, 8, 9] (by decide +kernel) (by decide +kernel)) (goodIn_sub (fun _ h => List.mem_cons_of_mem _ (List.mem_append_right _ h)) (by decide +kernel))
set_option maxRecDepth 20000 in
theorem gX1_threat_X1_requirePiece : GoodIn wsX1_threat (va_wsS RX1 65 yX1_requirePiece wsX1_requirePiece) := goodIn_app (goodIn_of _ (by decide +kernel)) ggX1_threat_X1_requirePiece
set_option maxRecDepth 20000 in
theorem ggX1_threat_X1_teamOf : GoodIn wsX1_threat wsX1_teamOf := goodIn_r _ [15] (by decide +kernel) (by decide +kernel)
set_option maxRecDepth 20000 in
theorem gX1_threat_X1_teamOf : GoodIn wsX1_threat (va_wsS RX1 126 yX1_teamOf wsX1_teamOf) := goodIn_app (goodIn_of _ (by decide +kernel)) ggX1_threat_X1_teamOf
set_option maxRecDepth 20000 in
theorem ggX1_threat_X0_positionOf : GoodIn wsX1_threat wsX0_positionOf := goodIn_r _ [20, 21, 81, 82] (by decide +kernel) (by decide +kernel)
set_option maxRecDepth 20000 in
theorem gX1_threat_X0_positionOf : GoodIn wsX1_threat (wsV RX1 108 RX0 yX0_positionOf wsX0_positionOf) := goodIn_app (goodIn_of _ (by decide +kernel)) ggX1_threat_X0_positionOf
set_option maxRecDepth 20000 in
theorem ggX1_threat_X0_squareAt : GoodIn wsX1_threat wsX0_squareAt := goodIn_r _ [25] (by decide +kernel) (by decide +kernel)
set_option maxRecDepth 20000 in
theorem gX1_threat_X0_squareAt : GoodIn wsX1_threat (wsV RX1 87 RX0 yX0_squareAt wsX0_squareAt) := goodIn_app (goodIn_of _ (by decide +kernel)) ggX1_threat_X0_squareAt
set_option maxRecDepth 20000 in
theorem ggX1_threat_X0_moverFor : GoodIn wsX1_threat wsX0_moverFor := goodIn_r _ [29, 30, 31, 32, 19, 33, 34, 17, 18, 20, 21, 35, 6, 36, 81, 82] (by decide +kernel) (by decide +kernel)
set_option maxRecDepth 20000 in
theorem gX1_threat_X0_moverFor : GoodIn wsX1_threat (wsV RX1 58 RX0 yX0_moverFor wsX0_moverFor) := goodIn_app (goodIn_of _ (by decide +kernel)) ggX1_threat_X0_moverFor
set_option maxRecDepth 20000 in
theorem ggX1_threat_X0_canCaptureOn : GoodIn wsX1_threat wsX0_canCaptureOn := goodIn_r _ [40, 41, 42, 43, 19, 44, 34, 17, 18, 20, 21, 45, 6, 46, 47, 48, 49, 50, 51, 52, 53, 54, 55, 56, 57, 23, 24, 25, 58, 59, 60, 61, 62, 63, 64, 65, 66, 67, 68, 69, 70, 81, 82] (by decide +kernel) (by decide +kernel)
set_option maxRecDepth 20000 in
theorem gX1_threat_X0_canCaptureOn : GoodIn wsX1_threat (wsV RX1 143 RX0 yX0_canCaptureOn wsX0_canCaptureOn) := goodIn_app (goodIn_of _ (by decide +kernel)) ggX1_threat_X0_canCaptureOn
set_option maxRecDepth 20000 in
theorem ggX1_threat_X1_waysOf : GoodIn wsX1_threat wsX1_waysOf := goodIn_r _ [73, 74] (by decide +kernel) (by decide +kernel)
set_option maxRecDepth 20000 in
theorem gX1_threat_X1_waysOf : GoodIn wsX1_threat (va_wsS RX1 138 yX1_waysOf wsX1_waysOf) := goodIn_app (goodIn_of _ (by decide +kernel)) ggX1_threat_X1_waysOf
theorem dX1_threat_0 : decode cX1_threat 0 = .ok (.iload_n 1, 1) := by decide +kernel
theorem dX1_threat_1 : decode cX1_threat 1 = .ok (.invokestatic 105, 3) := by decide +kernel
theorem dX1_threat_4 : decode cX1_threat 4 = .ok (.iload_n 2, 1) := by decide +kernel
theorem dX1_threat_5 : decode cX1_threat 5 = .ok (.invokestatic 65, 3) := by decide +kernel
theorem dX1_threat_8 : decode cX1_threat 8 = .ok (.iload_n 3, 1) := by decide +kernel
theorem dX1_threat_9 : decode cX1_threat 9 = .ok (.ifCond .lt 19, 3) := by decide +kernel
theorem dX1_threat_12 : decode cX1_threat 12 = .ok (.iload_n 3, 1) := by decide +kernel
theorem dX1_threat_13 : decode cX1_threat 13 = .ok (.iconst 4, 1) := by decide +kernel
theorem dX1_threat_14 : decode cX1_threat 14 = .ok (.if_icmp .ge 14, 3) := by decide +kernel
theorem dX1_threat_17 : decode cX1_threat 17 = .ok (.iload_n 3, 1) := by decide +kernel
theorem dX1_threat_18 : decode cX1_threat 18 = .ok (.invokestatic 126, 3) := by decide +kernel
theorem dX1_threat_21 : decode cX1_threat 21 = .ok (.iload_n 1, 1) := by decide +kernel
theorem dX1_threat_22 : decode cX1_threat 22 = .ok (.invokestatic 126, 3) := by decide +kernel
theorem dX1_threat_25 : decode cX1_threat 25 = .ok (.if_icmp .ne 13, 3) := by decide +kernel
theorem dX1_threat_28 : decode cX1_threat 28 = .ok (.new 33, 3) := by decide +kernel
theorem dX1_threat_31 : decode cX1_threat 31 = .ok (.dup, 1) := by decide +kernel
theorem dX1_threat_32 : decode cX1_threat 32 = .ok (.ldc 141, 2) := by decide +kernel
theorem dX1_threat_34 : decode cX1_threat 34 = .ok (.invokespecial 37, 3) := by decide +kernel
theorem dX1_threat_37 : decode cX1_threat 37 = .ok (.athrow, 1) := by decide +kernel
theorem dX1_threat_38 : decode cX1_threat 38 = .ok (.aload_n 0, 1) := by decide +kernel
theorem dX1_threat_39 : decode cX1_threat 39 = .ok (.getfield 10, 3) := by decide +kernel
theorem dX1_threat_42 : decode cX1_threat 42 = .ok (.iload_n 1, 1) := by decide +kernel
theorem dX1_threat_43 : decode cX1_threat 43 = .ok (.aload_n 0, 1) := by decide +kernel
theorem dX1_threat_44 : decode cX1_threat 44 = .ok (.getfield 10, 3) := by decide +kernel
theorem dX1_threat_47 : decode cX1_threat 47 = .ok (.iload_n 1, 1) := by decide +kernel
theorem dX1_threat_48 : decode cX1_threat 48 = .ok (.iload_n 2, 1) := by decide +kernel
theorem dX1_threat_49 : decode cX1_threat 49 = .ok (.invokevirtual 108, 3) := by decide +kernel
theorem dX1_threat_52 : decode cX1_threat 52 = .ok (.invokevirtual 87, 3) := by decide +kernel
theorem dX1_threat_55 : decode cX1_threat 55 = .ok (.istore 4, 2) := by decide +kernel
theorem dX1_threat_57 : decode cX1_threat 57 = .ok (.aload_n 0, 1) := by decide +kernel
theorem dX1_threat_58 : decode cX1_threat 58 = .ok (.getfield 10, 3) := by decide +kernel
theorem dX1_threat_61 : decode cX1_threat 61 = .ok (.iload_n 3, 1) := by decide +kernel
theorem dX1_threat_62 : decode cX1_threat 62 = .ok (.invokevirtual 58, 3) := by decide +kernel
theorem dX1_threat_65 : decode cX1_threat 65 = .ok (.istore 5, 2) := by decide +kernel
theorem dX1_threat_67 : decode cX1_threat 67 = .ok (.iconst 0, 1) := by decide +kernel
theorem dX1_threat_68 : decode cX1_threat 68 = .ok (.istore 6, 2) := by decide +kernel
theorem dX1_threat_70 : decode cX1_threat 70 = .ok (.iconst 0, 1) := by decide +kernel
theorem dX1_threat_71 : decode cX1_threat 71 = .ok (.istore 7, 2) := by decide +kernel
theorem dX1_threat_73 : decode cX1_threat 73 = .ok (.iload 7, 2) := by decide +kernel
theorem dX1_threat_75 : decode cX1_threat 75 = .ok (.bipush 6, 2) := by decide +kernel
theorem dX1_threat_77 : decode cX1_threat 77 = .ok (.if_icmp .gt 35, 3) := by decide +kernel
theorem dX1_threat_80 : decode cX1_threat 80 = .ok (.aload_n 0, 1) := by decide +kernel
theorem dX1_threat_81 : decode cX1_threat 81 = .ok (.getfield 10, 3) := by decide +kernel
theorem dX1_threat_84 : decode cX1_threat 84 = .ok (.iload 4, 2) := by decide +kernel
theorem dX1_threat_86 : decode cX1_threat 86 = .ok (.iload 5, 2) := by decide +kernel
theorem dX1_threat_88 : decode cX1_threat 88 = .ok (.iload 7, 2) := by decide +kernel
theorem dX1_threat_90 : decode cX1_threat 90 = .ok (.invokevirtual 143, 3) := by decide +kernel
theorem dX1_threat_93 : decode cX1_threat 93 = .ok (.ifCond .eq 13, 3) := by decide +kernel
theorem dX1_threat_96 : decode cX1_threat 96 = .ok (.iload 6, 2) := by decide +kernel
theorem dX1_threat_98 : decode cX1_threat 98 = .ok (.iload 7, 2) := by decide +kernel
theorem dX1_threat_100 : decode cX1_threat 100 = .ok (.invokestatic 138, 3) := by decide +kernel
theorem dX1_threat_103 : decode cX1_threat 103 = .ok (.iadd, 1) := by decide +kernel
theorem dX1_threat_104 : decode cX1_threat 104 = .ok (.istore 6, 2) := by decide +kernel
theorem dX1_threat_106 : decode cX1_threat 106 = .ok (.iinc 7 1, 3) := by decide +kernel
theorem dX1_threat_109 : decode cX1_threat 109 = .ok (.goto (-36), 3) := by decide +kernel
theorem dX1_threat_112 : decode cX1_threat 112 = .ok (.iload 6, 2) := by decide +kernel
theorem dX1_threat_114 : decode cX1_threat 114 = .ok (.ireturn, 1) := by decide +kernel
set_option maxRecDepth 20000 in
theorem ggX1_captureChance_X1_requireThrowDue : GoodIn wsX1_captureChance wsX1_requireThrowDue := goodIn_ca (goodIn_r _ [8, 9, 10, 11, 113, 114, 115, 116, 117, 118] (by decide +kernel) (by decide +kernel)) (goodIn_sub (fun _ h => List.mem_cons_of_mem _ (List.mem_append_right _ h)) (by decide +kernel))
set_option maxRecDepth 20000 in
theorem gX1_captureChance_X1_requireThrowDue : GoodIn wsX1_captureChance (wsV RX1 40 RX1 yX1_requireThrowDue wsX1_requireThrowDue) := goodIn_app (goodIn_of _ (by decide +kernel)) ggX1_captureChance_X1_requireThrowDue
set_option maxRecDepth 20000 in
theorem ggX1_captureChance_X1_chanceWithin : GoodIn wsX1_captureChance wsX1_chanceWithin := goodIn_r _ [15, 16, 17, 7, 18, 19, 20, 21, 22, 23, 24, 25, 26, 27, 28, 29, 30, 31, 32, 33, 34, 35, 36, 37, 38, 39, 40, 41, 42, 43, 44, 45, 46, 47, 48, 49, 50, 51, 52, 53, 54, 55, 56, 57, 58, 59, 60, 61, 62, 63, 64, 65, 66, 67, 68, 69, 70, 71, 72, 73, 74, 75, 76, 77, 78, 79, 80, 81, 82, 83, 84, 85, 86, 87, 88, 89, 90, 91, 92, 93, 94, 95, 96, 97, 98, 99, 100, 12, 13, 14, 101, 102, 103, 104, 105, 106, 107, 108, 109, 110, 111, 112, 113, 114, 115, 116, 117, 118, 119, 120] (by decide +kernel) (by decide +kernel)
set_option maxRecDepth 20000 in
theorem gX1_captureChance_X1_chanceWithin : GoodIn wsX1_captureChance (wsV RX1 148 RX1 yX1_chanceWithin wsX1_chanceWithin) := goodIn_app (goodIn_of _ (by decide +kernel)) ggX1_captureChance_X1_chanceWithin
theorem dX1_captureChance_0 : decode cX1_captureChance 0 = .ok (.iload_n 1, 1) := by decide +kernel
theorem dX1_captureChance_1 : decode cX1_captureChance 1 = .ok (.iconst 1, 1) := by decide +kernel
theorem dX1_captureChance_2 : decode cX1_captureChance 2 = .ok (.if_icmp .lt 8, 3) := by decide +kernel
theorem dX1_captureChance_5 : decode cX1_captureChance 5 = .ok (.iload_n 1, 1) := by decide +kernel
theorem dX1_captureChance_6 : decode cX1_captureChance 6 = .ok (.iconst 3, 1) := by decide +kernel
theorem dX1_captureChance_7 : decode cX1_captureChance 7 = .ok (.if_icmp .le 13, 3) := by decide +kernel
theorem dX1_captureChance_10 : decode cX1_captureChance 10 = .ok (.new 33, 3) := by decide +kernel
theorem dX1_captureChance_13 : decode cX1_captureChance 13 = .ok (.dup, 1) := by decide +kernel
theorem dX1_captureChance_14 : decode cX1_captureChance 14 = .ok (.ldc 146, 2) := by decide +kernel
theorem dX1_captureChance_16 : decode cX1_captureChance 16 = .ok (.invokespecial 37, 3) := by decide +kernel
theorem dX1_captureChance_19 : decode cX1_captureChance 19 = .ok (.athrow, 1) := by decide +kernel
theorem dX1_captureChance_20 : decode cX1_captureChance 20 = .ok (.aload_n 0, 1) := by decide +kernel
theorem dX1_captureChance_21 : decode cX1_captureChance 21 = .ok (.invokevirtual 40, 3) := by decide +kernel
theorem dX1_captureChance_24 : decode cX1_captureChance 24 = .ok (.aload_n 0, 1) := by decide +kernel
theorem dX1_captureChance_25 : decode cX1_captureChance 25 = .ok (.iload_n 1, 1) := by decide +kernel
theorem dX1_captureChance_26 : decode cX1_captureChance 26 = .ok (.aload_n 0, 1) := by decide +kernel
theorem dX1_captureChance_27 : decode cX1_captureChance 27 = .ok (.getfield 24, 3) := by decide +kernel
theorem dX1_captureChance_30 : decode cX1_captureChance 30 = .ok (.invokevirtual 148, 3) := by decide +kernel
theorem dX1_captureChance_33 : decode cX1_captureChance 33 = .ok (.ireturn, 1) := by decide +kernel
theorem dX1_requirePlayer_0 : decode cX1_requirePlayer 0 = .ok (.iload_n 0, 1) := by decide +kernel
theorem dX1_requirePlayer_1 : decode cX1_requirePlayer 1 = .ok (.ifCond .lt 8, 3) := by decide +kernel
theorem dX1_requirePlayer_4 : decode cX1_requirePlayer 4 = .ok (.iload_n 0, 1) := by decide +kernel
theorem dX1_requirePlayer_5 : decode cX1_requirePlayer 5 = .ok (.iconst 4, 1) := by decide +kernel
theorem dX1_requirePlayer_6 : decode cX1_requirePlayer 6 = .ok (.if_icmp .lt 13, 3) := by decide +kernel
theorem dX1_requirePlayer_9 : decode cX1_requirePlayer 9 = .ok (.new 151, 3) := by decide +kernel
theorem dX1_requirePlayer_12 : decode cX1_requirePlayer 12 = .ok (.dup, 1) := by decide +kernel
theorem dX1_requirePlayer_13 : decode cX1_requirePlayer 13 = .ok (.ldc 153, 2) := by decide +kernel
theorem dX1_requirePlayer_15 : decode cX1_requirePlayer 15 = .ok (.invokespecial 155, 3) := by decide +kernel
theorem dX1_requirePlayer_18 : decode cX1_requirePlayer 18 = .ok (.athrow, 1) := by decide +kernel
theorem dX1_requirePlayer_19 : decode cX1_requirePlayer 19 = .ok (.return_, 1) := by decide +kernel
theorem dX1_requirePiece_0 : decode cX1_requirePiece 0 = .ok (.iload_n 0, 1) := by decide +kernel
theorem dX1_requirePiece_1 : decode cX1_requirePiece 1 = .ok (.ifCond .lt 8, 3) := by decide +kernel
theorem dX1_requirePiece_4 : decode cX1_requirePiece 4 = .ok (.iload_n 0, 1) := by decide +kernel
theorem dX1_requirePiece_5 : decode cX1_requirePiece 5 = .ok (.iconst 4, 1) := by decide +kernel
theorem dX1_requirePiece_6 : decode cX1_requirePiece 6 = .ok (.if_icmp .lt 13, 3) := by decide +kernel
theorem dX1_requirePiece_9 : decode cX1_requirePiece 9 = .ok (.new 151, 3) := by decide +kernel
theorem dX1_requirePiece_12 : decode cX1_requirePiece 12 = .ok (.dup, 1) := by decide +kernel
theorem dX1_requirePiece_13 : decode cX1_requirePiece 13 = .ok (.ldc 156, 2) := by decide +kernel
theorem dX1_requirePiece_15 : decode cX1_requirePiece 15 = .ok (.invokespecial 155, 3) := by decide +kernel
theorem dX1_requirePiece_18 : decode cX1_requirePiece 18 = .ok (.athrow, 1) := by decide +kernel
theorem dX1_requirePiece_19 : decode cX1_requirePiece 19 = .ok (.return_, 1) := by decide +kernel
theorem dX1_requireSquare_0 : decode cX1_requireSquare 0 = .ok (.iload_n 0, 1) := by decide +kernel
theorem dX1_requireSquare_1 : decode cX1_requireSquare 1 = .ok (.ifCond .lt 9, 3) := by decide +kernel
theorem dX1_requireSquare_4 : decode cX1_requireSquare 4 = .ok (.iload_n 0, 1) := by decide +kernel
theorem dX1_requireSquare_5 : decode cX1_requireSquare 5 = .ok (.bipush 68, 2) := by decide +kernel
theorem dX1_requireSquare_7 : decode cX1_requireSquare 7 = .ok (.if_icmp .lt 13, 3) := by decide +kernel
theorem dX1_requireSquare_10 : decode cX1_requireSquare 10 = .ok (.new 151, 3) := by decide +kernel
theorem dX1_requireSquare_13 : decode cX1_requireSquare 13 = .ok (.dup, 1) := by decide +kernel
theorem dX1_requireSquare_14 : decode cX1_requireSquare 14 = .ok (.ldc 158, 2) := by decide +kernel
theorem dX1_requireSquare_16 : decode cX1_requireSquare 16 = .ok (.invokespecial 155, 3) := by decide +kernel
theorem dX1_requireSquare_19 : decode cX1_requireSquare 19 = .ok (.athrow, 1) := by decide +kernel
theorem dX1_requireSquare_20 : decode cX1_requireSquare 20 = .ok (.return_, 1) := by decide +kernel
theorem dX1_requireTeam_0 : decode cX1_requireTeam 0 = .ok (.iload_n 0, 1) := by decide +kernel
theorem dX1_requireTeam_1 : decode cX1_requireTeam 1 = .ok (.ifCond .lt 8, 3) := by decide +kernel
theorem dX1_requireTeam_4 : decode cX1_requireTeam 4 = .ok (.iload_n 0, 1) := by decide +kernel
theorem dX1_requireTeam_5 : decode cX1_requireTeam 5 = .ok (.iconst 2, 1) := by decide +kernel
theorem dX1_requireTeam_6 : decode cX1_requireTeam 6 = .ok (.if_icmp .lt 13, 3) := by decide +kernel
theorem dX1_requireTeam_9 : decode cX1_requireTeam 9 = .ok (.new 33, 3) := by decide +kernel
theorem dX1_requireTeam_12 : decode cX1_requireTeam 12 = .ok (.dup, 1) := by decide +kernel
theorem dX1_requireTeam_13 : decode cX1_requireTeam 13 = .ok (.ldc 160, 2) := by decide +kernel
theorem dX1_requireTeam_15 : decode cX1_requireTeam 15 = .ok (.invokespecial 37, 3) := by decide +kernel
theorem dX1_requireTeam_18 : decode cX1_requireTeam 18 = .ok (.athrow, 1) := by decide +kernel
theorem dX1_requireTeam_19 : decode cX1_requireTeam 19 = .ok (.return_, 1) := by decide +kernel
theorem dX1_requireThrowDue_0 : decode cX1_requireThrowDue 0 = .ok (.aload_n 0, 1) := by decide +kernel
theorem dX1_requireThrowDue_1 : decode cX1_requireThrowDue 1 = .ok (.getfield 27, 3) := by decide +kernel
theorem dX1_requireThrowDue_4 : decode cX1_requireThrowDue 4 = .ok (.ifCond .eq 13, 3) := by decide +kernel
theorem dX1_requireThrowDue_7 : decode cX1_requireThrowDue 7 = .ok (.new 76, 3) := by decide +kernel
theorem dX1_requireThrowDue_10 : decode cX1_requireThrowDue 10 = .ok (.dup, 1) := by decide +kernel
theorem dX1_requireThrowDue_11 : decode cX1_requireThrowDue 11 = .ok (.ldc 162, 2) := by decide +kernel
theorem dX1_requireThrowDue_13 : decode cX1_requireThrowDue 13 = .ok (.invokespecial 80, 3) := by decide +kernel
theorem dX1_requireThrowDue_16 : decode cX1_requireThrowDue 16 = .ok (.athrow, 1) := by decide +kernel
theorem dX1_requireThrowDue_17 : decode cX1_requireThrowDue 17 = .ok (.return_, 1) := by decide +kernel
theorem dX1_requireMoveDue_0 : decode cX1_requireMoveDue 0 = .ok (.aload_n 0, 1) := by decide +kernel
theorem dX1_requireMoveDue_1 : decode cX1_requireMoveDue 1 = .ok (.getfield 27, 3) := by decide +kernel
theorem dX1_requireMoveDue_4 : decode cX1_requireMoveDue 4 = .ok (.iconst 1, 1) := by decide +kernel
theorem dX1_requireMoveDue_5 : decode cX1_requireMoveDue 5 = .ok (.if_icmp .eq 13, 3) := by decide +kernel
theorem dX1_requireMoveDue_8 : decode cX1_requireMoveDue 8 = .ok (.new 76, 3) := by decide +kernel
theorem dX1_requireMoveDue_11 : decode cX1_requireMoveDue 11 = .ok (.dup, 1) := by decide +kernel
theorem dX1_requireMoveDue_12 : decode cX1_requireMoveDue 12 = .ok (.ldc 164, 2) := by decide +kernel
theorem dX1_requireMoveDue_14 : decode cX1_requireMoveDue 14 = .ok (.invokespecial 80, 3) := by decide +kernel
theorem dX1_requireMoveDue_17 : decode cX1_requireMoveDue 17 = .ok (.athrow, 1) := by decide +kernel
theorem dX1_requireMoveDue_18 : decode cX1_requireMoveDue 18 = .ok (.return_, 1) := by decide +kernel
theorem dX1_passTurn_0 : decode cX1_passTurn 0 = .ok (.aload_n 0, 1) := by decide +kernel
theorem dX1_passTurn_1 : decode cX1_passTurn 1 = .ok (.aload_n 0, 1) := by decide +kernel
theorem dX1_passTurn_2 : decode cX1_passTurn 2 = .ok (.getfield 20, 3) := by decide +kernel
theorem dX1_passTurn_5 : decode cX1_passTurn 5 = .ok (.iconst 1, 1) := by decide +kernel
theorem dX1_passTurn_6 : decode cX1_passTurn 6 = .ok (.iadd, 1) := by decide +kernel
theorem dX1_passTurn_7 : decode cX1_passTurn 7 = .ok (.iconst 4, 1) := by decide +kernel
theorem dX1_passTurn_8 : decode cX1_passTurn 8 = .ok (.irem, 1) := by decide +kernel
theorem dX1_passTurn_9 : decode cX1_passTurn 9 = .ok (.putfield 20, 3) := by decide +kernel
theorem dX1_passTurn_12 : decode cX1_passTurn 12 = .ok (.aload_n 0, 1) := by decide +kernel
theorem dX1_passTurn_13 : decode cX1_passTurn 13 = .ok (.iconst 0, 1) := by decide +kernel
theorem dX1_passTurn_14 : decode cX1_passTurn 14 = .ok (.putfield 24, 3) := by decide +kernel
theorem dX1_passTurn_17 : decode cX1_passTurn 17 = .ok (.return_, 1) := by decide +kernel
set_option maxRecDepth 20000 in
theorem ggX1_endMove_X0_isTeamHome : GoodIn wsX1_endMove wsX0_isTeamHome := goodIn_r _ [9, 10, 11, 12, 8, 13, 14, 15, 16, 17, 18, 19, 20, 21, 36, 37] (by decide +kernel) (by decide +kernel)
set_option maxRecDepth 20000 in
theorem gX1_endMove_X0_isTeamHome : GoodIn wsX1_endMove (wsV RX1 166 RX0 yX0_isTeamHome wsX0_isTeamHome) := goodIn_app (goodIn_of _ (by decide +kernel)) ggX1_endMove_X0_isTeamHome
set_option maxRecDepth 20000 in
theorem ggX1_endMove_X1_isGrace : GoodIn wsX1_endMove wsX1_isGrace := goodIn_r _ [24] (by decide +kernel) (by decide +kernel)
set_option maxRecDepth 20000 in
theorem gX1_endMove_X1_isGrace : GoodIn wsX1_endMove (va_wsS RX1 54 yX1_isGrace wsX1_isGrace) := goodIn_app (goodIn_of _ (by decide +kernel)) ggX1_endMove_X1_isGrace
set_option maxRecDepth 20000 in
theorem ggX1_endMove_X1_passTurn : GoodIn wsX1_endMove wsX1_passTurn := goodIn_r _ [28, 2, 29, 30, 31, 32, 33, 34, 35] (by decide +kernel) (by decide +kernel)
set_option maxRecDepth 20000 in
theorem gX1_endMove_X1_passTurn : GoodIn wsX1_endMove (wsV RX1 51 RX1 yX1_passTurn wsX1_passTurn) := goodIn_app (goodIn_of _ (by decide +kernel)) ggX1_endMove_X1_passTurn
theorem dX1_endMove_0 : decode cX1_endMove 0 = .ok (.aload_n 0, 1) := by decide +kernel
theorem dX1_endMove_1 : decode cX1_endMove 1 = .ok (.getfield 10, 3) := by decide +kernel
theorem dX1_endMove_4 : decode cX1_endMove 4 = .ok (.aload_n 0, 1) := by decide +kernel
theorem dX1_endMove_5 : decode cX1_endMove 5 = .ok (.getfield 20, 3) := by decide +kernel
theorem dX1_endMove_8 : decode cX1_endMove 8 = .ok (.invokevirtual 166, 3) := by decide +kernel
theorem dX1_endMove_11 : decode cX1_endMove 11 = .ok (.ifCond .eq 9, 3) := by decide +kernel
theorem dX1_endMove_14 : decode cX1_endMove 14 = .ok (.aload_n 0, 1) := by decide +kernel
theorem dX1_endMove_15 : decode cX1_endMove 15 = .ok (.iconst 2, 1) := by decide +kernel
theorem dX1_endMove_16 : decode cX1_endMove 16 = .ok (.putfield 27, 3) := by decide +kernel
theorem dX1_endMove_19 : decode cX1_endMove 19 = .ok (.return_, 1) := by decide +kernel
theorem dX1_endMove_20 : decode cX1_endMove 20 = .ok (.aload_n 0, 1) := by decide +kernel
theorem dX1_endMove_21 : decode cX1_endMove 21 = .ok (.iconst 0, 1) := by decide +kernel
theorem dX1_endMove_22 : decode cX1_endMove 22 = .ok (.putfield 27, 3) := by decide +kernel
theorem dX1_endMove_25 : decode cX1_endMove 25 = .ok (.iload_n 1, 1) := by decide +kernel
theorem dX1_endMove_26 : decode cX1_endMove 26 = .ok (.ifCond .ne 17, 3) := by decide +kernel
theorem dX1_endMove_29 : decode cX1_endMove 29 = .ok (.aload_n 0, 1) := by decide +kernel
theorem dX1_endMove_30 : decode cX1_endMove 30 = .ok (.getfield 30, 3) := by decide +kernel
theorem dX1_endMove_33 : decode cX1_endMove 33 = .ok (.invokestatic 54, 3) := by decide +kernel
theorem dX1_endMove_36 : decode cX1_endMove 36 = .ok (.ifCond .ne 7, 3) := by decide +kernel
theorem dX1_endMove_39 : decode cX1_endMove 39 = .ok (.aload_n 0, 1) := by decide +kernel
theorem dX1_endMove_40 : decode cX1_endMove 40 = .ok (.invokevirtual 51, 3) := by decide +kernel
theorem dX1_endMove_43 : decode cX1_endMove 43 = .ok (.return_, 1) := by decide +kernel
theorem dX1_countCapture_0 : decode cX1_countCapture 0 = .ok (.iload_n 1, 1) := by decide +kernel
theorem dX1_countCapture_1 : decode cX1_countCapture 1 = .ok (.ifCond .lt 22, 3) := by decide +kernel
theorem dX1_countCapture_4 : decode cX1_countCapture 4 = .ok (.iload_n 1, 1) := by decide +kernel
theorem dX1_countCapture_5 : decode cX1_countCapture 5 = .ok (.aload_n 0, 1) := by decide +kernel
theorem dX1_countCapture_6 : decode cX1_countCapture 6 = .ok (.getfield 16, 3) := by decide +kernel
theorem dX1_countCapture_9 : decode cX1_countCapture 9 = .ok (.arraylength, 1) := by decide +kernel
theorem dX1_countCapture_10 : decode cX1_countCapture 10 = .ok (.if_icmp .ge 13, 3) := by decide +kernel
theorem dX1_countCapture_13 : decode cX1_countCapture 13 = .ok (.aload_n 0, 1) := by decide +kernel
theorem dX1_countCapture_14 : decode cX1_countCapture 14 = .ok (.getfield 16, 3) := by decide +kernel
theorem dX1_countCapture_17 : decode cX1_countCapture 17 = .ok (.iload_n 1, 1) := by decide +kernel
theorem dX1_countCapture_18 : decode cX1_countCapture 18 = .ok (.dup2, 1) := by decide +kernel
theorem dX1_countCapture_19 : decode cX1_countCapture 19 = .ok (.iaload, 1) := by decide +kernel
theorem dX1_countCapture_20 : decode cX1_countCapture 20 = .ok (.iconst 1, 1) := by decide +kernel
theorem dX1_countCapture_21 : decode cX1_countCapture 21 = .ok (.iadd, 1) := by decide +kernel
theorem dX1_countCapture_22 : decode cX1_countCapture 22 = .ok (.iastore, 1) := by decide +kernel
theorem dX1_countCapture_23 : decode cX1_countCapture 23 = .ok (.return_, 1) := by decide +kernel
set_option maxRecDepth 20000 in
theorem ggX1_chanceWithin_X1_waysOf : GoodIn wsX1_chanceWithin wsX1_waysOf := goodIn_r _ [4, 5] (by decide +kernel) (by decide +kernel)
set_option maxRecDepth 20000 in
theorem gX1_chanceWithin_X1_waysOf : GoodIn wsX1_chanceWithin (va_wsS RX1 138 yX1_waysOf wsX1_waysOf) := goodIn_app (goodIn_of _ (by decide +kernel)) ggX1_chanceWithin_X1_waysOf
set_option maxRecDepth 20000 in
theorem ggX1_chanceWithin_X1_chanceAfter : GoodIn wsX1_chanceWithin wsX1_chanceAfter := goodIn_r _ [9, 10, 11, 12, 13, 3, 14, 15, 16, 17, 18, 19, 20, 21, 22, 23, 24, 25, 26, 27, 28, 29, 30, 31, 32, 33, 34, 35, 36, 37, 38, 39, 40, 41, 42, 43, 44, 45, 46, 47, 48, 49, 50, 51, 52, 53, 54, 55, 56, 57, 58, 59, 60, 61, 62, 63, 64, 65, 66, 67, 68, 69, 70, 71, 72, 73, 74, 75, 76, 77, 78, 79, 80, 81, 82, 83, 84, 85, 86, 87, 88, 89, 90, 91, 92, 93, 94, 95, 96, 97, 98, 99, 100, 101, 0, 1, 2, 4, 5, 6, 7, 8, 102, 103, 104, 105, 106, 107, 108, 109] (by decide +kernel) (by decide +kernel)
set_option maxRecDepth 20000 in
theorem gX1_chanceWithin_X1_chanceAfter : GoodIn wsX1_chanceWithin (wsV RX1 169 RX1 yX1_chanceAfter wsX1_chanceAfter) := goodIn_app (goodIn_of _ (by decide +kernel)) ggX1_chanceWithin_X1_chanceAfter
theorem dX1_chanceWithin_0 : decode cX1_chanceWithin 0 = .ok (.iload_n 1, 1) := by decide +kernel
theorem dX1_chanceWithin_1 : decode cX1_chanceWithin 1 = .ok (.ifCond .gt 5, 3) := by decide +kernel
theorem dX1_chanceWithin_4 : decode cX1_chanceWithin 4 = .ok (.iconst 0, 1) := by decide +kernel
theorem dX1_chanceWithin_5 : decode cX1_chanceWithin 5 = .ok (.ireturn, 1) := by decide +kernel
theorem dX1_chanceWithin_6 : decode cX1_chanceWithin 6 = .ok (.iconst 0, 1) := by decide +kernel
theorem dX1_chanceWithin_7 : decode cX1_chanceWithin 7 = .ok (.istore_n 3, 1) := by decide +kernel
theorem dX1_chanceWithin_8 : decode cX1_chanceWithin 8 = .ok (.iconst 0, 1) := by decide +kernel
theorem dX1_chanceWithin_9 : decode cX1_chanceWithin 9 = .ok (.istore 4, 2) := by decide +kernel
theorem dX1_chanceWithin_11 : decode cX1_chanceWithin 11 = .ok (.iload 4, 2) := by decide +kernel
theorem dX1_chanceWithin_13 : decode cX1_chanceWithin 13 = .ok (.bipush 6, 2) := by decide +kernel
theorem dX1_chanceWithin_15 : decode cX1_chanceWithin 15 = .ok (.if_icmp .gt 28, 3) := by decide +kernel
theorem dX1_chanceWithin_18 : decode cX1_chanceWithin 18 = .ok (.iload_n 3, 1) := by decide +kernel
theorem dX1_chanceWithin_19 : decode cX1_chanceWithin 19 = .ok (.iload 4, 2) := by decide +kernel
theorem dX1_chanceWithin_21 : decode cX1_chanceWithin 21 = .ok (.invokestatic 138, 3) := by decide +kernel
theorem dX1_chanceWithin_24 : decode cX1_chanceWithin 24 = .ok (.aload_n 0, 1) := by decide +kernel
theorem dX1_chanceWithin_25 : decode cX1_chanceWithin 25 = .ok (.iload 4, 2) := by decide +kernel
theorem dX1_chanceWithin_27 : decode cX1_chanceWithin 27 = .ok (.iload_n 1, 1) := by decide +kernel
theorem dX1_chanceWithin_28 : decode cX1_chanceWithin 28 = .ok (.iconst 1, 1) := by decide +kernel
theorem dX1_chanceWithin_29 : decode cX1_chanceWithin 29 = .ok (.isub, 1) := by decide +kernel
theorem dX1_chanceWithin_30 : decode cX1_chanceWithin 30 = .ok (.iload_n 2, 1) := by decide +kernel
theorem dX1_chanceWithin_31 : decode cX1_chanceWithin 31 = .ok (.invokevirtual 169, 3) := by decide +kernel
theorem dX1_chanceWithin_34 : decode cX1_chanceWithin 34 = .ok (.imul, 1) := by decide +kernel
theorem dX1_chanceWithin_35 : decode cX1_chanceWithin 35 = .ok (.iadd, 1) := by decide +kernel
theorem dX1_chanceWithin_36 : decode cX1_chanceWithin 36 = .ok (.istore_n 3, 1) := by decide +kernel
theorem dX1_chanceWithin_37 : decode cX1_chanceWithin 37 = .ok (.iinc 4 1, 3) := by decide +kernel
theorem dX1_chanceWithin_40 : decode cX1_chanceWithin 40 = .ok (.goto (-29), 3) := by decide +kernel
theorem dX1_chanceWithin_43 : decode cX1_chanceWithin 43 = .ok (.iload_n 3, 1) := by decide +kernel
theorem dX1_chanceWithin_44 : decode cX1_chanceWithin 44 = .ok (.ireturn, 1) := by decide +kernel
set_option maxRecDepth 20000 in
theorem ggX1_chanceAfter_X1_isGraceTooMany : GoodIn wsX1_chanceAfter wsX1_isGraceTooMany := goodIn_r _ [6, 7, 8, 5, 9] (by decide +kernel) (by decide +kernel)
set_option maxRecDepth 20000 in
theorem gX1_chanceAfter_X1_isGraceTooMany : GoodIn wsX1_chanceAfter (va_wsS RX1 47 yX1_isGraceTooMany wsX1_isGraceTooMany) := goodIn_app (goodIn_of _ (by decide +kernel)) ggX1_chanceAfter_X1_isGraceTooMany
set_option maxRecDepth 20000 in
theorem ggX1_chanceAfter_X0_moverFor : GoodIn wsX1_chanceAfter wsX0_moverFor := goodIn_r _ [14, 15, 16, 17, 13, 18, 19, 20, 21, 22, 23, 24, 5, 25, 108, 109] (by decide +kernel) (by decide +kernel)
set_option maxRecDepth 20000 in
theorem gX1_chanceAfter_X0_moverFor : GoodIn wsX1_chanceAfter (wsV RX1 58 RX0 yX0_moverFor wsX0_moverFor) := goodIn_app (goodIn_of _ (by decide +kernel)) ggX1_chanceAfter_X0_moverFor
set_option maxRecDepth 20000 in
theorem ggX1_chanceAfter_X0_canDo : GoodIn wsX1_chanceAfter wsX0_canDo := goodIn_r _ [29, 30, 31, 32, 13, 33, 19, 20, 21, 22, 23, 8, 5, 9, 34, 35, 36, 37, 38, 39, 40, 41, 42, 43, 44, 45, 46, 47, 48, 49, 50, 51, 52, 53, 54, 55, 56, 57, 58, 59, 60, 61, 62, 63, 64, 108, 109] (by decide +kernel) (by decide +kernel)
set_option maxRecDepth 20000 in
theorem gX1_chanceAfter_X0_canDo : GoodIn wsX1_chanceAfter (wsV RX1 134 RX0 yX0_canDo wsX0_canDo) := goodIn_app (goodIn_of _ (by decide +kernel)) ggX1_chanceAfter_X0_canDo
set_option maxRecDepth 20000 in
theorem ggX1_chanceAfter_X1_certainty : GoodIn wsX1_chanceAfter wsX1_certainty := goodIn_r _ [67] (by decide +kernel) (by decide +kernel)
set_option maxRecDepth 20000 in
theorem gX1_chanceAfter_X1_certainty : GoodIn wsX1_chanceAfter (va_wsS RX1 172 yX1_certainty wsX1_certainty) := goodIn_app (goodIn_of _ (by decide +kernel)) ggX1_chanceAfter_X1_certainty
set_option maxRecDepth 20000 in
theorem ggX1_chanceAfter_X1_isGrace : GoodIn wsX1_chanceAfter wsX1_isGrace := goodIn_r _ [9] (by decide +kernel) (by decide +kernel)
set_option maxRecDepth 20000 in
theorem gX1_chanceAfter_X1_isGrace : GoodIn wsX1_chanceAfter (va_wsS RX1 54 yX1_isGrace wsX1_isGrace) := goodIn_app (goodIn_of _ (by decide +kernel)) ggX1_chanceAfter_X1_isGrace
set_option maxRecDepth 20000 in
theorem ggX1_chanceAfter_X1_chanceAfterGrace : GoodIn wsX1_chanceAfter wsX1_chanceAfterGrace := goodIn_r _ [71, 1, 2, 72, 73, 42, 74, 10, 11, 12, 13, 14, 15, 16, 17, 18, 19, 20, 21, 22, 23, 24, 5, 25, 75, 76, 77, 78, 30, 31, 32, 33, 8, 9, 34, 35, 36, 37, 38, 39, 40, 41, 43, 44, 45, 46, 47, 48, 49, 50, 51, 52, 53, 54, 55, 56, 57, 58, 59, 60, 79, 80, 81, 82, 83, 84, 85, 86, 87, 88, 89, 90, 91, 92, 93, 0, 3, 4, 6, 7, 26, 27, 28, 29, 61, 62, 63, 64, 65, 66, 67, 68, 69, 70, 94, 95, 96, 97, 98, 99, 100, 101, 102, 103, 104, 105, 106, 107, 108, 109] (by decide +kernel) (by decide +kernel)
set_option maxRecDepth 20000 in
theorem gX1_chanceAfter_X1_chanceAfterGrace : GoodIn wsX1_chanceAfter (wsV RX1 175 RX1 yX1_chanceAfterGrace wsX1_chanceAfterGrace) := goodIn_app (goodIn_of _ (by decide +kernel)) ggX1_chanceAfter_X1_chanceAfterGrace
theorem dX1_chanceAfter_0 : decode cX1_chanceAfter 0 = .ok (.iload_n 1, 1) := by decide +kernel
theorem dX1_chanceAfter_1 : decode cX1_chanceAfter 1 = .ok (.iload_n 3, 1) := by decide +kernel
theorem dX1_chanceAfter_2 : decode cX1_chanceAfter 2 = .ok (.invokestatic 47, 3) := by decide +kernel
theorem dX1_chanceAfter_5 : decode cX1_chanceAfter 5 = .ok (.ifCond .eq 5, 3) := by decide +kernel
theorem dX1_chanceAfter_8 : decode cX1_chanceAfter 8 = .ok (.iconst 0, 1) := by decide +kernel
theorem dX1_chanceAfter_9 : decode cX1_chanceAfter 9 = .ok (.ireturn, 1) := by decide +kernel
theorem dX1_chanceAfter_10 : decode cX1_chanceAfter 10 = .ok (.aload_n 0, 1) := by decide +kernel
theorem dX1_chanceAfter_11 : decode cX1_chanceAfter 11 = .ok (.getfield 10, 3) := by decide +kernel
theorem dX1_chanceAfter_14 : decode cX1_chanceAfter 14 = .ok (.iconst 1, 1) := by decide +kernel
theorem dX1_chanceAfter_15 : decode cX1_chanceAfter 15 = .ok (.aload_n 0, 1) := by decide +kernel
theorem dX1_chanceAfter_16 : decode cX1_chanceAfter 16 = .ok (.getfield 10, 3) := by decide +kernel
theorem dX1_chanceAfter_19 : decode cX1_chanceAfter 19 = .ok (.aload_n 0, 1) := by decide +kernel
theorem dX1_chanceAfter_20 : decode cX1_chanceAfter 20 = .ok (.getfield 20, 3) := by decide +kernel
theorem dX1_chanceAfter_23 : decode cX1_chanceAfter 23 = .ok (.invokevirtual 58, 3) := by decide +kernel
theorem dX1_chanceAfter_26 : decode cX1_chanceAfter 26 = .ok (.iload_n 1, 1) := by decide +kernel
theorem dX1_chanceAfter_27 : decode cX1_chanceAfter 27 = .ok (.invokevirtual 134, 3) := by decide +kernel
theorem dX1_chanceAfter_30 : decode cX1_chanceAfter 30 = .ok (.ifCond .eq 8, 3) := by decide +kernel
theorem dX1_chanceAfter_33 : decode cX1_chanceAfter 33 = .ok (.iload_n 2, 1) := by decide +kernel
theorem dX1_chanceAfter_34 : decode cX1_chanceAfter 34 = .ok (.invokestatic 172, 3) := by decide +kernel
theorem dX1_chanceAfter_37 : decode cX1_chanceAfter 37 = .ok (.ireturn, 1) := by decide +kernel
theorem dX1_chanceAfter_38 : decode cX1_chanceAfter 38 = .ok (.iload_n 1, 1) := by decide +kernel
theorem dX1_chanceAfter_39 : decode cX1_chanceAfter 39 = .ok (.invokestatic 54, 3) := by decide +kernel
theorem dX1_chanceAfter_42 : decode cX1_chanceAfter 42 = .ok (.ifCond .eq 7, 3) := by decide +kernel
theorem dX1_chanceAfter_45 : decode cX1_chanceAfter 45 = .ok (.iload_n 2, 1) := by decide +kernel
theorem dX1_chanceAfter_46 : decode cX1_chanceAfter 46 = .ok (.ifCond .gt 5, 3) := by decide +kernel
theorem dX1_chanceAfter_49 : decode cX1_chanceAfter 49 = .ok (.iconst 0, 1) := by decide +kernel
theorem dX1_chanceAfter_50 : decode cX1_chanceAfter 50 = .ok (.ireturn, 1) := by decide +kernel
theorem dX1_chanceAfter_51 : decode cX1_chanceAfter 51 = .ok (.aload_n 0, 1) := by decide +kernel
theorem dX1_chanceAfter_52 : decode cX1_chanceAfter 52 = .ok (.iload_n 1, 1) := by decide +kernel
theorem dX1_chanceAfter_53 : decode cX1_chanceAfter 53 = .ok (.iload_n 2, 1) := by decide +kernel
theorem dX1_chanceAfter_54 : decode cX1_chanceAfter 54 = .ok (.iload_n 3, 1) := by decide +kernel
theorem dX1_chanceAfter_55 : decode cX1_chanceAfter 55 = .ok (.iconst 1, 1) := by decide +kernel
theorem dX1_chanceAfter_56 : decode cX1_chanceAfter 56 = .ok (.iadd, 1) := by decide +kernel
theorem dX1_chanceAfter_57 : decode cX1_chanceAfter 57 = .ok (.invokevirtual 175, 3) := by decide +kernel
theorem dX1_chanceAfter_60 : decode cX1_chanceAfter 60 = .ok (.ireturn, 1) := by decide +kernel
set_option maxRecDepth 20000 in
theorem ggX1_chanceAfterGrace_X0_moverFor : GoodIn wsX1_chanceAfterGrace wsX0_moverFor := goodIn_r _ [11, 12, 13, 14, 10, 15, 16, 17, 18, 19, 20, 21, 22, 23, 108, 109] (by decide +kernel) (by decide +kernel)
set_option maxRecDepth 20000 in
theorem gX1_chanceAfterGrace_X0_moverFor : GoodIn wsX1_chanceAfterGrace (wsV RX1 58 RX0 yX0_moverFor wsX0_moverFor) := goodIn_app (goodIn_of _ (by decide +kernel)) ggX1_chanceAfterGrace_X0_moverFor
set_option maxRecDepth 20000 in
theorem ggX1_chanceAfterGrace_X0_movableSet : GoodIn wsX1_chanceAfterGrace wsX0_movableSet := goodIn_r _ [27, 28, 29, 30, 10, 31, 16, 17, 18, 19, 20, 32, 22, 33, 34, 35, 36, 37, 38, 39, 40, 41, 5, 42, 43, 44, 45, 46, 47, 48, 49, 50, 51, 52, 53, 54, 55, 56, 57, 58, 59, 108, 109] (by decide +kernel) (by decide +kernel)
set_option maxRecDepth 20000 in
theorem gX1_chanceAfterGrace_X0_movableSet : GoodIn wsX1_chanceAfterGrace (wsV RX1 61 RX0 yX0_movableSet wsX0_movableSet) := goodIn_app (goodIn_of _ (by decide +kernel)) ggX1_chanceAfterGrace_X0_movableSet
set_option maxRecDepth 20000 in
theorem ggX1_chanceAfterGrace_X1_chanceWithin : GoodIn wsX1_chanceAfterGrace wsX1_chanceWithin := goodIn_r _ [94, 95, 96, 22, 97, 98, 99, 100, 101, 75, 1, 2, 76, 77, 78, 79, 32, 33, 7, 8, 9, 10, 11, 12, 13, 14, 15, 16, 17, 18, 19, 20, 21, 23, 80, 81, 82, 83, 28, 29, 30, 31, 34, 35, 36, 37, 38, 39, 40, 41, 5, 42, 43, 44, 45, 46, 47, 48, 49, 50, 51, 52, 53, 54, 55, 56, 57, 58, 59, 84, 85, 86, 87, 88, 89, 90, 91, 92, 93, 0, 3, 4, 6, 24, 25, 26, 27, 60, 61, 62, 63, 64, 65, 66, 67, 68, 69, 70, 71, 72, 73, 74, 102, 103, 104, 105, 106, 107, 108, 109] (by decide +kernel) (by decide +kernel)
set_option maxRecDepth 20000 in
theorem gX1_chanceAfterGrace_X1_chanceWithin : GoodIn wsX1_chanceAfterGrace (wsV RX1 148 RX1 yX1_chanceWithin wsX1_chanceWithin) := goodIn_app (goodIn_of _ (by decide +kernel)) ggX1_chanceAfterGrace_X1_chanceWithin
set_option maxRecDepth 20000 in
theorem ggX1_chanceAfterGrace_X0_targetOf : GoodIn wsX1_chanceAfterGrace wsX0_targetOf := goodIn_r _ [31, 16, 17, 18, 10, 19, 20, 32, 22, 33, 34, 35, 36, 37, 38, 39, 40, 41, 5, 42, 43, 44, 45, 46, 47, 48, 49, 50, 51, 52, 53, 54, 55, 56, 57, 58, 59, 108, 109] (by decide +kernel) (by decide +kernel)
set_option maxRecDepth 20000 in
theorem gX1_chanceAfterGrace_X0_targetOf : GoodIn wsX1_chanceAfterGrace (wsV RX1 72 RX0 yX0_targetOf wsX0_targetOf) := goodIn_app (goodIn_of _ (by decide +kernel)) ggX1_chanceAfterGrace_X0_targetOf
set_option maxRecDepth 20000 in
theorem ggX1_chanceAfterGrace_X0_positionOf : GoodIn wsX1_chanceAfterGrace wsX0_positionOf := goodIn_r _ [19, 20, 108, 109] (by decide +kernel) (by decide +kernel)
set_option maxRecDepth 20000 in
theorem gX1_chanceAfterGrace_X0_positionOf : GoodIn wsX1_chanceAfterGrace (wsV RX1 108 RX0 yX0_positionOf wsX0_positionOf) := goodIn_app (goodIn_of _ (by decide +kernel)) ggX1_chanceAfterGrace_X0_positionOf
set_option maxRecDepth 20000 in
theorem ggX1_chanceAfterGrace_X0_place : GoodIn wsX1_chanceAfterGrace wsX0_place := goodIn_r _ [68, 20, 43, 44, 45, 10, 46, 69, 22, 70, 71, 72, 73, 74, 53, 108, 109] (by decide +kernel) (by decide +kernel)
set_option maxRecDepth 20000 in
theorem gX1_chanceAfterGrace_X0_place : GoodIn wsX1_chanceAfterGrace (wsV RX1 97 RX0 yX0_place wsX0_place) := goodIn_app (goodIn_of _ (by decide +kernel)) ggX1_chanceAfterGrace_X0_place
theorem dX1_chanceAfterGrace_0 : decode cX1_chanceAfterGrace 0 = .ok (.aload_n 0, 1) := by decide +kernel
theorem dX1_chanceAfterGrace_1 : decode cX1_chanceAfterGrace 1 = .ok (.getfield 10, 3) := by decide +kernel
theorem dX1_chanceAfterGrace_4 : decode cX1_chanceAfterGrace 4 = .ok (.aload_n 0, 1) := by decide +kernel
theorem dX1_chanceAfterGrace_5 : decode cX1_chanceAfterGrace 5 = .ok (.getfield 20, 3) := by decide +kernel
theorem dX1_chanceAfterGrace_8 : decode cX1_chanceAfterGrace 8 = .ok (.invokevirtual 58, 3) := by decide +kernel
theorem dX1_chanceAfterGrace_11 : decode cX1_chanceAfterGrace 11 = .ok (.istore 4, 2) := by decide +kernel
theorem dX1_chanceAfterGrace_13 : decode cX1_chanceAfterGrace 13 = .ok (.aload_n 0, 1) := by decide +kernel
theorem dX1_chanceAfterGrace_14 : decode cX1_chanceAfterGrace 14 = .ok (.getfield 10, 3) := by decide +kernel
theorem dX1_chanceAfterGrace_17 : decode cX1_chanceAfterGrace 17 = .ok (.iload 4, 2) := by decide +kernel
theorem dX1_chanceAfterGrace_19 : decode cX1_chanceAfterGrace 19 = .ok (.iload_n 1, 1) := by decide +kernel
theorem dX1_chanceAfterGrace_20 : decode cX1_chanceAfterGrace 20 = .ok (.invokevirtual 61, 3) := by decide +kernel
theorem dX1_chanceAfterGrace_23 : decode cX1_chanceAfterGrace 23 = .ok (.ifCond .ne 10, 3) := by decide +kernel
theorem dX1_chanceAfterGrace_26 : decode cX1_chanceAfterGrace 26 = .ok (.aload_n 0, 1) := by decide +kernel
theorem dX1_chanceAfterGrace_27 : decode cX1_chanceAfterGrace 27 = .ok (.iload_n 2, 1) := by decide +kernel
theorem dX1_chanceAfterGrace_28 : decode cX1_chanceAfterGrace 28 = .ok (.iload_n 3, 1) := by decide +kernel
theorem dX1_chanceAfterGrace_29 : decode cX1_chanceAfterGrace 29 = .ok (.invokevirtual 148, 3) := by decide +kernel
theorem dX1_chanceAfterGrace_32 : decode cX1_chanceAfterGrace 32 = .ok (.ireturn, 1) := by decide +kernel
theorem dX1_chanceAfterGrace_33 : decode cX1_chanceAfterGrace 33 = .ok (.iconst 0, 1) := by decide +kernel
theorem dX1_chanceAfterGrace_34 : decode cX1_chanceAfterGrace 34 = .ok (.istore 5, 2) := by decide +kernel
theorem dX1_chanceAfterGrace_36 : decode cX1_chanceAfterGrace 36 = .ok (.iconst 0, 1) := by decide +kernel
theorem dX1_chanceAfterGrace_37 : decode cX1_chanceAfterGrace 37 = .ok (.istore 6, 2) := by decide +kernel
theorem dX1_chanceAfterGrace_39 : decode cX1_chanceAfterGrace 39 = .ok (.iload 6, 2) := by decide +kernel
theorem dX1_chanceAfterGrace_41 : decode cX1_chanceAfterGrace 41 = .ok (.iconst 4, 1) := by decide +kernel
theorem dX1_chanceAfterGrace_42 : decode cX1_chanceAfterGrace 42 = .ok (.if_icmp .ge 81, 3) := by decide +kernel
theorem dX1_chanceAfterGrace_45 : decode cX1_chanceAfterGrace 45 = .ok (.aload_n 0, 1) := by decide +kernel
theorem dX1_chanceAfterGrace_46 : decode cX1_chanceAfterGrace 46 = .ok (.getfield 10, 3) := by decide +kernel
theorem dX1_chanceAfterGrace_49 : decode cX1_chanceAfterGrace 49 = .ok (.iload 4, 2) := by decide +kernel
theorem dX1_chanceAfterGrace_51 : decode cX1_chanceAfterGrace 51 = .ok (.iload 6, 2) := by decide +kernel
theorem dX1_chanceAfterGrace_53 : decode cX1_chanceAfterGrace 53 = .ok (.iload_n 1, 1) := by decide +kernel
theorem dX1_chanceAfterGrace_54 : decode cX1_chanceAfterGrace 54 = .ok (.invokevirtual 72, 3) := by decide +kernel
theorem dX1_chanceAfterGrace_57 : decode cX1_chanceAfterGrace 57 = .ok (.istore 7, 2) := by decide +kernel
theorem dX1_chanceAfterGrace_59 : decode cX1_chanceAfterGrace 59 = .ok (.iload 7, 2) := by decide +kernel
theorem dX1_chanceAfterGrace_61 : decode cX1_chanceAfterGrace 61 = .ok (.iconst (-1), 1) := by decide +kernel
theorem dX1_chanceAfterGrace_62 : decode cX1_chanceAfterGrace 62 = .ok (.if_icmp .eq 55, 3) := by decide +kernel
theorem dX1_chanceAfterGrace_65 : decode cX1_chanceAfterGrace 65 = .ok (.aload_n 0, 1) := by decide +kernel
theorem dX1_chanceAfterGrace_66 : decode cX1_chanceAfterGrace 66 = .ok (.getfield 10, 3) := by decide +kernel
theorem dX1_chanceAfterGrace_69 : decode cX1_chanceAfterGrace 69 = .ok (.iload 4, 2) := by decide +kernel
theorem dX1_chanceAfterGrace_71 : decode cX1_chanceAfterGrace 71 = .ok (.iload 6, 2) := by decide +kernel
theorem dX1_chanceAfterGrace_73 : decode cX1_chanceAfterGrace 73 = .ok (.invokevirtual 108, 3) := by decide +kernel
theorem dX1_chanceAfterGrace_76 : decode cX1_chanceAfterGrace 76 = .ok (.istore 8, 2) := by decide +kernel
theorem dX1_chanceAfterGrace_78 : decode cX1_chanceAfterGrace 78 = .ok (.aload_n 0, 1) := by decide +kernel
theorem dX1_chanceAfterGrace_79 : decode cX1_chanceAfterGrace 79 = .ok (.getfield 10, 3) := by decide +kernel
theorem dX1_chanceAfterGrace_82 : decode cX1_chanceAfterGrace 82 = .ok (.iload 4, 2) := by decide +kernel
theorem dX1_chanceAfterGrace_84 : decode cX1_chanceAfterGrace 84 = .ok (.iload 6, 2) := by decide +kernel
theorem dX1_chanceAfterGrace_86 : decode cX1_chanceAfterGrace 86 = .ok (.iload 7, 2) := by decide +kernel
theorem dX1_chanceAfterGrace_88 : decode cX1_chanceAfterGrace 88 = .ok (.invokevirtual 97, 3) := by decide +kernel
theorem dX1_chanceAfterGrace_91 : decode cX1_chanceAfterGrace 91 = .ok (.iload 5, 2) := by decide +kernel
theorem dX1_chanceAfterGrace_93 : decode cX1_chanceAfterGrace 93 = .ok (.aload_n 0, 1) := by decide +kernel
theorem dX1_chanceAfterGrace_94 : decode cX1_chanceAfterGrace 94 = .ok (.iload_n 2, 1) := by decide +kernel
theorem dX1_chanceAfterGrace_95 : decode cX1_chanceAfterGrace 95 = .ok (.iload_n 3, 1) := by decide +kernel
theorem dX1_chanceAfterGrace_96 : decode cX1_chanceAfterGrace 96 = .ok (.invokevirtual 148, 3) := by decide +kernel
theorem dX1_chanceAfterGrace_99 : decode cX1_chanceAfterGrace 99 = .ok (.invokestatic 178, 3) := by decide +kernel
theorem dX1_chanceAfterGrace_102 : decode cX1_chanceAfterGrace 102 = .ok (.istore 5, 2) := by decide +kernel
theorem dX1_chanceAfterGrace_104 : decode cX1_chanceAfterGrace 104 = .ok (.aload_n 0, 1) := by decide +kernel
theorem dX1_chanceAfterGrace_105 : decode cX1_chanceAfterGrace 105 = .ok (.getfield 10, 3) := by decide +kernel
theorem dX1_chanceAfterGrace_108 : decode cX1_chanceAfterGrace 108 = .ok (.iload 4, 2) := by decide +kernel
theorem dX1_chanceAfterGrace_110 : decode cX1_chanceAfterGrace 110 = .ok (.iload 6, 2) := by decide +kernel
theorem dX1_chanceAfterGrace_112 : decode cX1_chanceAfterGrace 112 = .ok (.iload 8, 2) := by decide +kernel
theorem dX1_chanceAfterGrace_114 : decode cX1_chanceAfterGrace 114 = .ok (.invokevirtual 97, 3) := by decide +kernel
theorem dX1_chanceAfterGrace_117 : decode cX1_chanceAfterGrace 117 = .ok (.iinc 6 1, 3) := by decide +kernel
theorem dX1_chanceAfterGrace_120 : decode cX1_chanceAfterGrace 120 = .ok (.goto (-81), 3) := by decide +kernel
theorem dX1_chanceAfterGrace_123 : decode cX1_chanceAfterGrace 123 = .ok (.iload 5, 2) := by decide +kernel
theorem dX1_chanceAfterGrace_125 : decode cX1_chanceAfterGrace 125 = .ok (.ireturn, 1) := by decide +kernel
theorem dX1_certainty_0 : decode cX1_certainty 0 = .ok (.iconst 1, 1) := by decide +kernel
theorem dX1_certainty_1 : decode cX1_certainty 1 = .ok (.istore_n 1, 1) := by decide +kernel
theorem dX1_certainty_2 : decode cX1_certainty 2 = .ok (.iload_n 0, 1) := by decide +kernel
theorem dX1_certainty_3 : decode cX1_certainty 3 = .ok (.istore_n 2, 1) := by decide +kernel
theorem dX1_certainty_4 : decode cX1_certainty 4 = .ok (.iload_n 2, 1) := by decide +kernel
theorem dX1_certainty_5 : decode cX1_certainty 5 = .ok (.ifCond .le 14, 3) := by decide +kernel
theorem dX1_certainty_8 : decode cX1_certainty 8 = .ok (.iload_n 1, 1) := by decide +kernel
theorem dX1_certainty_9 : decode cX1_certainty 9 = .ok (.bipush 64, 2) := by decide +kernel
theorem dX1_certainty_11 : decode cX1_certainty 11 = .ok (.imul, 1) := by decide +kernel
theorem dX1_certainty_12 : decode cX1_certainty 12 = .ok (.istore_n 1, 1) := by decide +kernel
theorem dX1_certainty_13 : decode cX1_certainty 13 = .ok (.iinc 2 (-1), 3) := by decide +kernel
theorem dX1_certainty_16 : decode cX1_certainty 16 = .ok (.goto (-12), 3) := by decide +kernel
theorem dX1_certainty_19 : decode cX1_certainty 19 = .ok (.iload_n 1, 1) := by decide +kernel
theorem dX1_certainty_20 : decode cX1_certainty 20 = .ok (.ireturn, 1) := by decide +kernel
theorem dX1_teamOf_0 : decode cX1_teamOf 0 = .ok (.iload_n 0, 1) := by decide +kernel
theorem dX1_teamOf_1 : decode cX1_teamOf 1 = .ok (.iconst 2, 1) := by decide +kernel
theorem dX1_teamOf_2 : decode cX1_teamOf 2 = .ok (.irem, 1) := by decide +kernel
theorem dX1_teamOf_3 : decode cX1_teamOf 3 = .ok (.ireturn, 1) := by decide +kernel
theorem dX1_otherTeam_0 : decode cX1_otherTeam 0 = .ok (.iconst 1, 1) := by decide +kernel
theorem dX1_otherTeam_1 : decode cX1_otherTeam 1 = .ok (.iload_n 0, 1) := by decide +kernel
theorem dX1_otherTeam_2 : decode cX1_otherTeam 2 = .ok (.iconst 2, 1) := by decide +kernel
theorem dX1_otherTeam_3 : decode cX1_otherTeam 3 = .ok (.irem, 1) := by decide +kernel
theorem dX1_otherTeam_4 : decode cX1_otherTeam 4 = .ok (.isub, 1) := by decide +kernel
theorem dX1_otherTeam_5 : decode cX1_otherTeam 5 = .ok (.ireturn, 1) := by decide +kernel
theorem dX1_partnerOf_0 : decode cX1_partnerOf 0 = .ok (.iload_n 0, 1) := by decide +kernel
theorem dX1_partnerOf_1 : decode cX1_partnerOf 1 = .ok (.iconst 2, 1) := by decide +kernel
theorem dX1_partnerOf_2 : decode cX1_partnerOf 2 = .ok (.iadd, 1) := by decide +kernel
theorem dX1_partnerOf_3 : decode cX1_partnerOf 3 = .ok (.iconst 4, 1) := by decide +kernel
theorem dX1_partnerOf_4 : decode cX1_partnerOf 4 = .ok (.irem, 1) := by decide +kernel
theorem dX1_partnerOf_5 : decode cX1_partnerOf 5 = .ok (.ireturn, 1) := by decide +kernel
theorem dX1_worthOf_0 : decode cX1_worthOf 0 = .ok (.iload_n 0, 1) := by decide +kernel
theorem dX1_worthOf_1 : decode cX1_worthOf 1 = .ok (.ifCond .ne 6, 3) := by decide +kernel
theorem dX1_worthOf_4 : decode cX1_worthOf 4 = .ok (.bipush 25, 2) := by decide +kernel
theorem dX1_worthOf_6 : decode cX1_worthOf 6 = .ok (.ireturn, 1) := by decide +kernel
theorem dX1_worthOf_7 : decode cX1_worthOf 7 = .ok (.iload_n 0, 1) := by decide +kernel
theorem dX1_worthOf_8 : decode cX1_worthOf 8 = .ok (.iconst 1, 1) := by decide +kernel
theorem dX1_worthOf_9 : decode cX1_worthOf 9 = .ok (.if_icmp .ne 8, 3) := by decide +kernel
theorem dX1_worthOf_12 : decode cX1_worthOf 12 = .ok (.bipush 10, 2) := by decide +kernel
theorem dX1_worthOf_14 : decode cX1_worthOf 14 = .ok (.goto 4, 3) := by decide +kernel
theorem dX1_worthOf_17 : decode cX1_worthOf 17 = .ok (.iload_n 0, 1) := by decide +kernel
theorem dX1_worthOf_18 : decode cX1_worthOf 18 = .ok (.ireturn, 1) := by decide +kernel
theorem dX1_isGrace_0 : decode cX1_isGrace 0 = .ok (.iload_n 0, 1) := by decide +kernel
theorem dX1_isGrace_1 : decode cX1_isGrace 1 = .ok (.iconst 1, 1) := by decide +kernel
theorem dX1_isGrace_2 : decode cX1_isGrace 2 = .ok (.if_icmp .le 9, 3) := by decide +kernel
theorem dX1_isGrace_5 : decode cX1_isGrace 5 = .ok (.iload_n 0, 1) := by decide +kernel
theorem dX1_isGrace_6 : decode cX1_isGrace 6 = .ok (.bipush 6, 2) := by decide +kernel
theorem dX1_isGrace_8 : decode cX1_isGrace 8 = .ok (.if_icmp .ne 7, 3) := by decide +kernel
theorem dX1_isGrace_11 : decode cX1_isGrace 11 = .ok (.iconst 1, 1) := by decide +kernel
theorem dX1_isGrace_12 : decode cX1_isGrace 12 = .ok (.goto 4, 3) := by decide +kernel
theorem dX1_isGrace_15 : decode cX1_isGrace 15 = .ok (.iconst 0, 1) := by decide +kernel
theorem dX1_isGrace_16 : decode cX1_isGrace 16 = .ok (.ireturn, 1) := by decide +kernel
set_option maxRecDepth 20000 in
theorem ggX1_isGraceTooMany_X1_isGrace : GoodIn wsX1_isGraceTooMany wsX1_isGrace := goodIn_r _ [4] (by decide +kernel) (by decide +kernel)
set_option maxRecDepth 20000 in
theorem gX1_isGraceTooMany_X1_isGrace : GoodIn wsX1_isGraceTooMany (va_wsS RX1 54 yX1_isGrace wsX1_isGrace) := goodIn_app (goodIn_of _ (by decide +kernel)) ggX1_isGraceTooMany_X1_isGrace
theorem dX1_isGraceTooMany_0 : decode cX1_isGraceTooMany 0 = .ok (.iload_n 0, 1) := by decide +kernel
theorem dX1_isGraceTooMany_1 : decode cX1_isGraceTooMany 1 = .ok (.invokestatic 54, 3) := by decide +kernel
theorem dX1_isGraceTooMany_4 : decode cX1_isGraceTooMany 4 = .ok (.ifCond .eq 12, 3) := by decide +kernel
theorem dX1_isGraceTooMany_7 : decode cX1_isGraceTooMany 7 = .ok (.iload_n 1, 1) := by decide +kernel
theorem dX1_isGraceTooMany_8 : decode cX1_isGraceTooMany 8 = .ok (.iconst 2, 1) := by decide +kernel
theorem dX1_isGraceTooMany_9 : decode cX1_isGraceTooMany 9 = .ok (.if_icmp .lt 7, 3) := by decide +kernel
theorem dX1_isGraceTooMany_12 : decode cX1_isGraceTooMany 12 = .ok (.iconst 1, 1) := by decide +kernel
theorem dX1_isGraceTooMany_13 : decode cX1_isGraceTooMany 13 = .ok (.goto 4, 3) := by decide +kernel
theorem dX1_isGraceTooMany_16 : decode cX1_isGraceTooMany 16 = .ok (.iconst 0, 1) := by decide +kernel
theorem dX1_isGraceTooMany_17 : decode cX1_isGraceTooMany 17 = .ok (.ireturn, 1) := by decide +kernel
theorem dX1_waysOf_0 : decode cX1_waysOf 0 = .ok (.iload_n 0, 1) := by decide +kernel
theorem dX1_waysOf_1 : decode cX1_waysOf 1 = .ok (.ifCond .lt 19, 3) := by decide +kernel
theorem dX1_waysOf_4 : decode cX1_waysOf 4 = .ok (.iload_n 0, 1) := by decide +kernel
theorem dX1_waysOf_5 : decode cX1_waysOf 5 = .ok (.getstatic 183, 3) := by decide +kernel
theorem dX1_waysOf_8 : decode cX1_waysOf 8 = .ok (.arraylength, 1) := by decide +kernel
theorem dX1_waysOf_9 : decode cX1_waysOf 9 = .ok (.if_icmp .ge 11, 3) := by decide +kernel
theorem dX1_waysOf_12 : decode cX1_waysOf 12 = .ok (.getstatic 183, 3) := by decide +kernel
theorem dX1_waysOf_15 : decode cX1_waysOf 15 = .ok (.iload_n 0, 1) := by decide +kernel
theorem dX1_waysOf_16 : decode cX1_waysOf 16 = .ok (.iaload, 1) := by decide +kernel
theorem dX1_waysOf_17 : decode cX1_waysOf 17 = .ok (.goto 4, 3) := by decide +kernel
theorem dX1_waysOf_20 : decode cX1_waysOf 20 = .ok (.iconst 0, 1) := by decide +kernel
theorem dX1_waysOf_21 : decode cX1_waysOf 21 = .ok (.ireturn, 1) := by decide +kernel
theorem dX1_isSafeSquare_0 : decode cX1_isSafeSquare 0 = .ok (.iload_n 0, 1) := by decide +kernel
theorem dX1_isSafeSquare_1 : decode cX1_isSafeSquare 1 = .ok (.bipush 17, 2) := by decide +kernel
theorem dX1_isSafeSquare_3 : decode cX1_isSafeSquare 3 = .ok (.irem, 1) := by decide +kernel
theorem dX1_isSafeSquare_4 : decode cX1_isSafeSquare 4 = .ok (.istore_n 1, 1) := by decide +kernel
theorem dX1_isSafeSquare_5 : decode cX1_isSafeSquare 5 = .ok (.iload_n 1, 1) := by decide +kernel
theorem dX1_isSafeSquare_6 : decode cX1_isSafeSquare 6 = .ok (.iconst 4, 1) := by decide +kernel
theorem dX1_isSafeSquare_7 : decode cX1_isSafeSquare 7 = .ok (.if_icmp .eq 9, 3) := by decide +kernel
theorem dX1_isSafeSquare_10 : decode cX1_isSafeSquare 10 = .ok (.iload_n 1, 1) := by decide +kernel
theorem dX1_isSafeSquare_11 : decode cX1_isSafeSquare 11 = .ok (.bipush 11, 2) := by decide +kernel
theorem dX1_isSafeSquare_13 : decode cX1_isSafeSquare 13 = .ok (.if_icmp .ne 7, 3) := by decide +kernel
theorem dX1_isSafeSquare_16 : decode cX1_isSafeSquare 16 = .ok (.iconst 1, 1) := by decide +kernel
theorem dX1_isSafeSquare_17 : decode cX1_isSafeSquare 17 = .ok (.goto 4, 3) := by decide +kernel
theorem dX1_isSafeSquare_20 : decode cX1_isSafeSquare 20 = .ok (.iconst 0, 1) := by decide +kernel
theorem dX1_isSafeSquare_21 : decode cX1_isSafeSquare 21 = .ok (.ireturn, 1) := by decide +kernel
theorem dJ9_max_7cf53_0 : decode cJ9_max_7cf53 0 = .ok (.iload_n 0, 1) := by decide +kernel
theorem dJ9_max_7cf53_1 : decode cJ9_max_7cf53 1 = .ok (.iload_n 1, 1) := by decide +kernel
theorem dJ9_max_7cf53_2 : decode cJ9_max_7cf53 2 = .ok (.if_icmp .lt 7, 3) := by decide +kernel
theorem dJ9_max_7cf53_5 : decode cJ9_max_7cf53 5 = .ok (.iload_n 0, 1) := by decide +kernel
theorem dJ9_max_7cf53_6 : decode cJ9_max_7cf53 6 = .ok (.goto 4, 3) := by decide +kernel
theorem dJ9_max_7cf53_9 : decode cJ9_max_7cf53 9 = .ok (.iload_n 1, 1) := by decide +kernel
theorem dJ9_max_7cf53_10 : decode cJ9_max_7cf53 10 = .ok (.ireturn, 1) := by decide +kernel
theorem dJ9_min_7cf53_0 : decode cJ9_min_7cf53 0 = .ok (.iload_n 0, 1) := by decide +kernel
theorem dJ9_min_7cf53_1 : decode cJ9_min_7cf53 1 = .ok (.iload_n 1, 1) := by decide +kernel
theorem dJ9_min_7cf53_2 : decode cJ9_min_7cf53 2 = .ok (.if_icmp .gt 7, 3) := by decide +kernel
theorem dJ9_min_7cf53_5 : decode cJ9_min_7cf53 5 = .ok (.iload_n 0, 1) := by decide +kernel
theorem dJ9_min_7cf53_6 : decode cJ9_min_7cf53 6 = .ok (.goto 4, 3) := by decide +kernel
theorem dJ9_min_7cf53_9 : decode cJ9_min_7cf53 9 = .ok (.iload_n 1, 1) := by decide +kernel
theorem dJ9_min_7cf53_10 : decode cJ9_min_7cf53 10 = .ok (.ireturn, 1) := by decide +kernel
abbrev vwCl : List vw_C := [(RX0, TX0, 2), (RX1, TX1, 6)]
