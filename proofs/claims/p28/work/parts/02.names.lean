def RX0 : String := "Voxelmint$Coin"
def TX0 : u_T := fun k => match k with
  | 0 => ("Voxelmint$Coin", "die", "LVoxelmint$Die;", true)
  | 1 => ("Voxelmint$Coin", "heights", "[I", true)
  | _ => ("Voxelmint$Coin", "genuineHeights", "[I", true)
def tyX0 : Nat → FieldType := fun k => match k with
  | 0 => .object "Voxelmint$Die"
  | 1 => .array .int
  | _ => .array .int
abbrev wsX00 : List Cond := u_ws RX0 TX0 3
theorem nmX0 : ∀ a, a < 3 → ∀ b, b < 3 → a ≠ b → (TX0 a).2.1 ≠ (TX0 b).2.1 := by decide +kernel
theorem tyX0_ok : ∀ k, k < 3 → parseFieldDescriptor (TX0 k).2.2.1 = some (tyX0 k) := by decide +kernel
abbrev cX0_init : ByteArray := prog_2_method_1_code
def yX0_init : MethodName := ⟨RX0, "<init>", "(LVoxelmint$Die;[I[I)V"⟩
def RX1 : String := "Voxelmint$Die"
def TX1 : u_T := fun k => match k with
  | 0 => ("Voxelmint$Die", "firstHeights", "[I", true)
  | 1 => ("Voxelmint$Die", "heights", "[I", true)
  | _ => ("Voxelmint$Die", "struck", "Ljava/util/ArrayList;", true)
def tyX1 : Nat → FieldType := fun k => match k with
  | 0 => .array .int
  | 1 => .array .int
  | _ => .object "java/util/ArrayList"
abbrev wsX10 : List Cond := u_ws RX1 TX1 3
theorem nmX1 : ∀ a, a < 3 → ∀ b, b < 3 → a ≠ b → (TX1 a).2.1 ≠ (TX1 b).2.1 := by decide +kernel
theorem tyX1_ok : ∀ k, k < 3 → parseFieldDescriptor (TX1 k).2.2.1 = some (tyX1 k) := by decide +kernel
abbrev cX1_init : ByteArray := prog_3_method_1_code
def yX1_init : MethodName := ⟨RX1, "<init>", "([I)V"⟩
abbrev cX1_makeCoin : ByteArray := prog_3_method_2_code
def yX1_makeCoin : MethodName := ⟨RX1, "makeCoin", "()LVoxelmint$Coin;"⟩
abbrev cX1_wear : ByteArray := prog_3_method_3_code
def yX1_wear : MethodName := ⟨RX1, "wear", "()V"⟩
def RX2 : String := "Voxelmint$PieceFinder"
def TX2 : u_T := fun k => match k with
  | 0 => ("Voxelmint$PieceFinder", "marks", "[I", true)
  | 1 => ("Voxelmint$PieceFinder", "queue", "[I", true)
  | _ => ("Voxelmint$PieceFinder", "queued", "I", false)
def tyX2 : Nat → FieldType := fun k => match k with
  | 0 => .array .int
  | 1 => .array .int
  | _ => .int
abbrev wsX20 : List Cond := u_ws RX2 TX2 3
theorem nmX2 : ∀ a, a < 3 → ∀ b, b < 3 → a ≠ b → (TX2 a).2.1 ≠ (TX2 b).2.1 := by decide +kernel
theorem tyX2_ok : ∀ k, k < 3 → parseFieldDescriptor (TX2 k).2.2.1 = some (tyX2 k) := by decide +kernel
abbrev cX2_init : ByteArray := prog_4_method_1_code
def yX2_init : MethodName := ⟨RX2, "<init>", "()V"⟩
abbrev cX2_countPieces : ByteArray := prog_4_method_2_code
def yX2_countPieces : MethodName := ⟨RX2, "countPieces", "(LVoxelmint$State;)I"⟩
abbrev cX2_reachRestOfPiece : ByteArray := prog_4_method_3_code
def yX2_reachRestOfPiece : MethodName := ⟨RX2, "reachRestOfPiece", "(LVoxelmint$State;I)V"⟩
abbrev cX2_reachTouching : ByteArray := prog_4_method_4_code
def yX2_reachTouching : MethodName := ⟨RX2, "reachTouching", "(LVoxelmint$State;II)V"⟩
abbrev cX2_reach : ByteArray := prog_4_method_5_code
def yX2_reach : MethodName := ⟨RX2, "reach", "(LVoxelmint$State;II)V"⟩
def RX3 : String := "Voxelmint$State"
def TX3 : u_T := fun k => match k with
  | 0 => ("Voxelmint$State", "number", "I", true)
  | 1 => ("Voxelmint$State", "parent", "LVoxelmint$State;", true)
  | _ => ("Voxelmint$State", "kinds", "[I", true)
def tyX3 : Nat → FieldType := fun k => match k with
  | 0 => .int
  | 1 => .object "Voxelmint$State"
  | _ => .array .int
abbrev wsX30 : List Cond := u_ws RX3 TX3 3
theorem nmX3 : ∀ a, a < 3 → ∀ b, b < 3 → a ≠ b → (TX3 a).2.1 ≠ (TX3 b).2.1 := by decide +kernel
theorem tyX3_ok : ∀ k, k < 3 → parseFieldDescriptor (TX3 k).2.2.1 = some (tyX3 k) := by decide +kernel
abbrev cX3_init : ByteArray := prog_5_method_1_code
def yX3_init : MethodName := ⟨RX3, "<init>", "(ILVoxelmint$State;[I)V"⟩
abbrev cX3_kindAt : ByteArray := prog_5_method_2_code
def yX3_kindAt : MethodName := ⟨RX3, "kindAt", "(II)I"⟩
abbrev cX3_put : ByteArray := prog_5_method_3_code
def yX3_put : MethodName := ⟨RX3, "put", "(III)V"⟩
abbrev cX3_endsRun : ByteArray := prog_5_method_4_code
def yX3_endsRun : MethodName := ⟨RX3, "endsRun", "(II)Z"⟩
abbrev cX3_countRuns : ByteArray := prog_5_method_5_code
def yX3_countRuns : MethodName := ⟨RX3, "countRuns", "(I)I"⟩
abbrev cX3_lengthOfRun : ByteArray := prog_5_method_6_code
def yX3_lengthOfRun : MethodName := ⟨RX3, "lengthOfRun", "(II)I"⟩
abbrev cX3_countBlocksByRuns : ByteArray := prog_5_method_7_code
def yX3_countBlocksByRuns : MethodName := ⟨RX3, "countBlocksByRuns", "(I)I"⟩
abbrev cX3_heightOf : ByteArray := prog_5_method_8_code
def yX3_heightOf : MethodName := ⟨RX3, "heightOf", "(I)I"⟩
abbrev cX3_copyHeights : ByteArray := prog_5_method_9_code
def yX3_copyHeights : MethodName := ⟨RX3, "copyHeights", "()[I"⟩
abbrev cX3_hasColumnAlike : ByteArray := prog_5_method_10_code
def yX3_hasColumnAlike : MethodName := ⟨RX3, "hasColumnAlike", "(LVoxelmint$State;I)Z"⟩
def RX4 : String := "Voxelmint"
def TX4 : u_T := fun k => match k with
  | 0 => ("Voxelmint", "history", "Ljava/util/ArrayList;", true)
  | 1 => ("Voxelmint", "cutDies", "Ljava/util/ArrayList;", true)
  | 2 => ("Voxelmint", "madeCoins", "Ljava/util/ArrayList;", true)
  | 3 => ("Voxelmint", "pieceFinder", "LVoxelmint$PieceFinder;", true)
  | _ => ("Voxelmint", "now", "LVoxelmint$State;", false)
def tyX4 : Nat → FieldType := fun k => match k with
  | 0 => .object "java/util/ArrayList"
  | 1 => .object "java/util/ArrayList"
  | 2 => .object "java/util/ArrayList"
  | 3 => .object "Voxelmint$PieceFinder"
  | _ => .object "Voxelmint$State"
abbrev wsX40 : List Cond := u_ws RX4 TX4 5
theorem nmX4 : ∀ a, a < 5 → ∀ b, b < 5 → a ≠ b → (TX4 a).2.1 ≠ (TX4 b).2.1 := by decide +kernel
theorem tyX4_ok : ∀ k, k < 5 → parseFieldDescriptor (TX4 k).2.2.1 = some (tyX4 k) := by decide +kernel
abbrev cX4_init : ByteArray := prog_1_method_1_code
def yX4_init : MethodName := ⟨RX4, "<init>", "()V"⟩
abbrev cX4_set : ByteArray := prog_1_method_2_code
def yX4_set : MethodName := ⟨RX4, "set", "(III)I"⟩
abbrev cX4_raise : ByteArray := prog_1_method_3_code
def yX4_raise : MethodName := ⟨RX4, "raise", "(III)I"⟩
abbrev cX4_layer : ByteArray := prog_1_method_4_code
def yX4_layer : MethodName := ⟨RX4, "layer", "(II)I"⟩
abbrev cX4_kind : ByteArray := prog_1_method_5_code
def yX4_kind : MethodName := ⟨RX4, "kind", "(II)I"⟩
abbrev cX4_runs : ByteArray := prog_1_method_6_code
def yX4_runs : MethodName := ⟨RX4, "runs", "(I)I"⟩
abbrev cX4_runLength : ByteArray := prog_1_method_7_code
def yX4_runLength : MethodName := ⟨RX4, "runLength", "(II)I"⟩
abbrev cX4_blocks : ByteArray := prog_1_method_8_code
def yX4_blocks : MethodName := ⟨RX4, "blocks", "()I"⟩
abbrev cX4_blocksOneByOne : ByteArray := prog_1_method_9_code
def yX4_blocksOneByOne : MethodName := ⟨RX4, "blocksOneByOne", "()I"⟩
abbrev cX4_pieces : ByteArray := prog_1_method_10_code
def yX4_pieces : MethodName := ⟨RX4, "pieces", "()I"⟩
abbrev cX4_height : ByteArray := prog_1_method_11_code
def yX4_height : MethodName := ⟨RX4, "height", "(I)I"⟩
abbrev cX4_state : ByteArray := prog_1_method_12_code
def yX4_state : MethodName := ⟨RX4, "state", "()I"⟩
abbrev cX4_states : ByteArray := prog_1_method_13_code
def yX4_states : MethodName := ⟨RX4, "states", "()I"⟩
abbrev cX4_visit : ByteArray := prog_1_method_14_code
def yX4_visit : MethodName := ⟨RX4, "visit", "(I)I"⟩
abbrev cX4_undo : ByteArray := prog_1_method_15_code
def yX4_undo : MethodName := ⟨RX4, "undo", "()I"⟩
abbrev cX4_redo : ByteArray := prog_1_method_16_code
def yX4_redo : MethodName := ⟨RX4, "redo", "(I)I"⟩
abbrev cX4_branches : ByteArray := prog_1_method_17_code
def yX4_branches : MethodName := ⟨RX4, "branches", "()I"⟩
abbrev cX4_unlike : ByteArray := prog_1_method_18_code
def yX4_unlike : MethodName := ⟨RX4, "unlike", "(II)I"⟩
abbrev cX4_cut : ByteArray := prog_1_method_19_code
def yX4_cut : MethodName := ⟨RX4, "cut", "()I"⟩
abbrev cX4_strike : ByteArray := prog_1_method_20_code
def yX4_strike : MethodName := ⟨RX4, "strike", "(I)I"⟩
abbrev cX4_forge : ByteArray := prog_1_method_21_code
def yX4_forge : MethodName := ⟨RX4, "forge", "(III)I"⟩
abbrev cX4_dieHeight : ByteArray := prog_1_method_22_code
def yX4_dieHeight : MethodName := ⟨RX4, "dieHeight", "(II)I"⟩
abbrev cX4_coinHeight : ByteArray := prog_1_method_23_code
def yX4_coinHeight : MethodName := ⟨RX4, "coinHeight", "(II)I"⟩
abbrev cX4_grade : ByteArray := prog_1_method_24_code
def yX4_grade : MethodName := ⟨RX4, "grade", "(I)I"⟩
abbrev cX4_isForged : ByteArray := prog_1_method_25_code
def yX4_isForged : MethodName := ⟨RX4, "isForged", "(I)Z"⟩
abbrev cX4_distance : ByteArray := prog_1_method_26_code
def yX4_distance : MethodName := ⟨RX4, "distance", "(II)I"⟩
abbrev cX4_beginState : ByteArray := prog_1_method_27_code
def yX4_beginState : MethodName := ⟨RX4, "beginState", "()V"⟩
abbrev cX4_findChild : ByteArray := prog_1_method_28_code
def yX4_findChild : MethodName := ⟨RX4, "findChild", "(I)LVoxelmint$State;"⟩
abbrev cX4_keepCoin : ByteArray := prog_1_method_29_code
def yX4_keepCoin : MethodName := ⟨RX4, "keepCoin", "(LVoxelmint$Coin;)I"⟩
abbrev cX4_distanceOfRows : ByteArray := prog_1_method_30_code
def yX4_distanceOfRows : MethodName := ⟨RX4, "distanceOfRows", "([I[I)I"⟩
abbrev cX4_isColumn : ByteArray := prog_1_method_31_code
def yX4_isColumn : MethodName := ⟨RX4, "isColumn", "(I)Z"⟩
abbrev cX4_isLevel : ByteArray := prog_1_method_32_code
def yX4_isLevel : MethodName := ⟨RX4, "isLevel", "(I)Z"⟩
abbrev cX4_checkColumn : ByteArray := prog_1_method_33_code
def yX4_checkColumn : MethodName := ⟨RX4, "checkColumn", "(I)V"⟩
abbrev cX4_checkLevel : ByteArray := prog_1_method_34_code
def yX4_checkLevel : MethodName := ⟨RX4, "checkLevel", "(I)V"⟩
abbrev cX4_checkHeight : ByteArray := prog_1_method_35_code
def yX4_checkHeight : MethodName := ⟨RX4, "checkHeight", "(I)V"⟩
abbrev cX4_checkKindOrAir : ByteArray := prog_1_method_36_code
def yX4_checkKindOrAir : MethodName := ⟨RX4, "checkKindOrAir", "(I)V"⟩
abbrev cX4_checkKindOfBlock : ByteArray := prog_1_method_37_code
def yX4_checkKindOfBlock : MethodName := ⟨RX4, "checkKindOfBlock", "(I)V"⟩
abbrev cX4_checkState : ByteArray := prog_1_method_38_code
def yX4_checkState : MethodName := ⟨RX4, "checkState", "(I)V"⟩
abbrev cX4_checkDie : ByteArray := prog_1_method_39_code
def yX4_checkDie : MethodName := ⟨RX4, "checkDie", "(I)V"⟩
abbrev cX4_checkCoin : ByteArray := prog_1_method_40_code
def yX4_checkCoin : MethodName := ⟨RX4, "checkCoin", "(I)V"⟩
abbrev cX4_checkRoomForState : ByteArray := prog_1_method_41_code
def yX4_checkRoomForState : MethodName := ⟨RX4, "checkRoomForState", "()V"⟩
abbrev cX4_checkRoomForCoin : ByteArray := prog_1_method_42_code
def yX4_checkRoomForCoin : MethodName := ⟨RX4, "checkRoomForCoin", "()V"⟩
def RX5 : String := "VoxelmintModel"
def TX5 : u_T := fun k => match k with
  | _ => ("", "", "", false)
def tyX5 : Nat → FieldType := fun k => match k with
  | _ => .int
abbrev wsX50 : List Cond := u_ws RX5 TX5 0
theorem nmX5 : ∀ a, a < 0 → ∀ b, b < 0 → a ≠ b → (TX5 a).2.1 ≠ (TX5 b).2.1 := by decide +kernel
theorem tyX5_ok : ∀ k, k < 0 → parseFieldDescriptor (TX5 k).2.2.1 = some (tyX5 k) := by decide +kernel
def RJx145de : String := "java/io/Serializable"
def TJx145de : u_T := fun k => match k with
  | _ => ("", "", "", false)
def tyJx145de : Nat → FieldType := fun k => match k with
  | _ => .int
abbrev wsJx145de0 : List Cond := u_ws RJx145de TJx145de 0
theorem nmJx145de : ∀ a, a < 0 → ∀ b, b < 0 → a ≠ b → (TJx145de a).2.1 ≠ (TJx145de b).2.1 := by decide +kernel
theorem tyJx145de_ok : ∀ k, k < 0 → parseFieldDescriptor (TJx145de k).2.2.1 = some (tyJx145de k) := by decide +kernel
def RJx8e188 : String := "java/lang/Cloneable"
def TJx8e188 : u_T := fun k => match k with
  | _ => ("", "", "", false)
def tyJx8e188 : Nat → FieldType := fun k => match k with
  | _ => .int
abbrev wsJx8e1880 : List Cond := u_ws RJx8e188 TJx8e188 0
theorem nmJx8e188 : ∀ a, a < 0 → ∀ b, b < 0 → a ≠ b → (TJx8e188 a).2.1 ≠ (TJx8e188 b).2.1 := by decide +kernel
theorem tyJx8e188_ok : ∀ k, k < 0 → parseFieldDescriptor (TJx8e188 k).2.2.1 = some (tyJx8e188 k) := by decide +kernel
def RJxab1ab : String := "java/lang/Iterable"
def TJxab1ab : u_T := fun k => match k with
  | _ => ("", "", "", false)
def tyJxab1ab : Nat → FieldType := fun k => match k with
  | _ => .int
abbrev wsJxab1ab0 : List Cond := u_ws RJxab1ab TJxab1ab 0
theorem nmJxab1ab : ∀ a, a < 0 → ∀ b, b < 0 → a ≠ b → (TJxab1ab a).2.1 ≠ (TJxab1ab b).2.1 := by decide +kernel
theorem tyJxab1ab_ok : ∀ k, k < 0 → parseFieldDescriptor (TJxab1ab k).2.2.1 = some (tyJxab1ab k) := by decide +kernel
def RJ9 : String := "java/lang/Math"
def TJ9 : u_T := fun k => match k with
  | _ => ("", "", "", false)
def tyJ9 : Nat → FieldType := fun k => match k with
  | _ => .int
abbrev wsJ90 : List Cond := u_ws RJ9 TJ9 0
theorem nmJ9 : ∀ a, a < 0 → ∀ b, b < 0 → a ≠ b → (TJ9 a).2.1 ≠ (TJ9 b).2.1 := by decide +kernel
theorem tyJ9_ok : ∀ k, k < 0 → parseFieldDescriptor (TJ9 k).2.2.1 = some (tyJ9 k) := by decide +kernel
abbrev cJ9_abs_0f7a4 : ByteArray := prog_15_method_59_code
def yJ9_abs_0f7a4 : MethodName := ⟨RJ9, "abs", "(I)I"⟩
abbrev cJ9_max_7cf53 : ByteArray := prog_15_method_65_code
def yJ9_max_7cf53 : MethodName := ⟨RJ9, "max", "(II)I"⟩
abbrev cJ9_min_7cf53 : ByteArray := prog_15_method_69_code
def yJ9_min_7cf53 : MethodName := ⟨RJ9, "min", "(II)I"⟩
def RJ0 : String := "java/lang/String"
def TJ0 : u_T := fun k => match k with
  | _ => ("", "", "", false)
def tyJ0 : Nat → FieldType := fun k => match k with
  | _ => .int
abbrev wsJ00 : List Cond := u_ws RJ0 TJ0 0
theorem nmJ0 : ∀ a, a < 0 → ∀ b, b < 0 → a ≠ b → (TJ0 a).2.1 ≠ (TJ0 b).2.1 := by decide +kernel
theorem tyJ0_ok : ∀ k, k < 0 → parseFieldDescriptor (TJ0 k).2.2.1 = some (tyJ0 k) := by decide +kernel
def RJ10 : String := "java/lang/System"
def TJ10 : u_T := fun k => match k with
  | _ => ("", "", "", false)
def tyJ10 : Nat → FieldType := fun k => match k with
  | _ => .int
abbrev wsJ100 : List Cond := u_ws RJ10 TJ10 0
theorem nmJ10 : ∀ a, a < 0 → ∀ b, b < 0 → a ≠ b → (TJ10 a).2.1 ≠ (TJ10 b).2.1 := by decide +kernel
theorem tyJ10_ok : ∀ k, k < 0 → parseFieldDescriptor (TJ10 k).2.2.1 = some (tyJ10 k) := by decide +kernel
def RJxa1e45 : String := "java/util/AbstractCollection"
def TJxa1e45 : u_T := fun k => match k with
  | _ => ("", "", "", false)
def tyJxa1e45 : Nat → FieldType := fun k => match k with
  | _ => .int
abbrev wsJxa1e450 : List Cond := u_ws RJxa1e45 TJxa1e45 0
theorem nmJxa1e45 : ∀ a, a < 0 → ∀ b, b < 0 → a ≠ b → (TJxa1e45 a).2.1 ≠ (TJxa1e45 b).2.1 := by decide +kernel
theorem tyJxa1e45_ok : ∀ k, k < 0 → parseFieldDescriptor (TJxa1e45 k).2.2.1 = some (tyJxa1e45 k) := by decide +kernel
abbrev cJxa1e45_init_da8c8 : ByteArray := prog_20_method_1_code
def yJxa1e45_init_da8c8 : MethodName := ⟨RJxa1e45, "<init>", "()V"⟩
def RJxc12de : String := "java/util/AbstractList"
def TJxc12de : u_T := fun k => match k with
  | _ => ("", "", "", false)
def tyJxc12de : Nat → FieldType := fun k => match k with
  | _ => .int
abbrev wsJxc12de0 : List Cond := u_ws RJxc12de TJxc12de 0
theorem nmJxc12de : ∀ a, a < 0 → ∀ b, b < 0 → a ≠ b → (TJxc12de a).2.1 ≠ (TJxc12de b).2.1 := by decide +kernel
theorem tyJxc12de_ok : ∀ k, k < 0 → parseFieldDescriptor (TJxc12de k).2.2.1 = some (tyJxc12de k) := by decide +kernel
abbrev cJxc12de_init_da8c8 : ByteArray := prog_21_method_1_code
def yJxc12de_init_da8c8 : MethodName := ⟨RJxc12de, "<init>", "()V"⟩
def RJx4a65c : String := "java/util/ArrayList"
def TJx4a65c : u_T := fun k => match k with
  | 0 => ("java/util/AbstractList", "modCount", "I", false)
  | 1 => ("java/util/ArrayList", "elementData", "[Ljava/lang/Object;", false)
  | _ => ("java/util/ArrayList", "size", "I", false)
def tyJx4a65c : Nat → FieldType := fun k => match k with
  | 0 => .int
  | 1 => .array (.object "java/lang/Object")
  | _ => .int
abbrev wsJx4a65c0 : List Cond := u_ws RJx4a65c TJx4a65c 3
theorem nmJx4a65c : ∀ a, a < 3 → ∀ b, b < 3 → a ≠ b → (TJx4a65c a).2.1 ≠ (TJx4a65c b).2.1 := by decide +kernel
theorem tyJx4a65c_ok : ∀ k, k < 3 → parseFieldDescriptor (TJx4a65c k).2.2.1 = some (tyJx4a65c k) := by decide +kernel
abbrev cJx4a65c_init_da8c8 : ByteArray := prog_22_method_2_code
def yJx4a65c_init_da8c8 : MethodName := ⟨RJx4a65c, "<init>", "()V"⟩
abbrev cJx4a65c_grow_92f84 : ByteArray := prog_22_method_6_code
def yJx4a65c_grow_92f84 : MethodName := ⟨RJx4a65c, "grow", "(I)[Ljava/lang/Object;"⟩
abbrev cJx4a65c_grow_d5877 : ByteArray := prog_22_method_7_code
def yJx4a65c_grow_d5877 : MethodName := ⟨RJx4a65c, "grow", "()[Ljava/lang/Object;"⟩
abbrev cJx4a65c_size_8abf5 : ByteArray := prog_22_method_8_code
def yJx4a65c_size_8abf5 : MethodName := ⟨RJx4a65c, "size", "()I"⟩
abbrev cJx4a65c_elementData_915e3 : ByteArray := prog_22_method_18_code
def yJx4a65c_elementData_915e3 : MethodName := ⟨RJx4a65c, "elementData", "(I)Ljava/lang/Object;"⟩
abbrev cJx4a65c_get_915e3 : ByteArray := prog_22_method_20_code
def yJx4a65c_get_915e3 : MethodName := ⟨RJx4a65c, "get", "(I)Ljava/lang/Object;"⟩
abbrev cJx4a65c_add_72be8 : ByteArray := prog_22_method_24_code
def yJx4a65c_add_72be8 : MethodName := ⟨RJx4a65c, "add", "(Ljava/lang/Object;[Ljava/lang/Object;I)V"⟩
abbrev cJx4a65c_add_9ea2d : ByteArray := prog_22_method_25_code
def yJx4a65c_add_9ea2d : MethodName := ⟨RJx4a65c, "add", "(Ljava/lang/Object;)Z"⟩
def RJ7 : String := "java/util/Arrays"
def TJ7 : u_T := fun k => match k with
  | _ => ("", "", "", false)
def tyJ7 : Nat → FieldType := fun k => match k with
  | _ => .int
abbrev wsJ70 : List Cond := u_ws RJ7 TJ7 0
theorem nmJ7 : ∀ a, a < 0 → ∀ b, b < 0 → a ≠ b → (TJ7 a).2.1 ≠ (TJ7 b).2.1 := by decide +kernel
theorem tyJ7_ok : ∀ k, k < 0 → parseFieldDescriptor (TJ7 k).2.2.1 = some (tyJ7 k) := by decide +kernel
abbrev cJ7_fill_53178 : ByteArray := prog_23_method_103_code
def yJ7_fill_53178 : MethodName := ⟨RJ7, "fill", "([II)V"⟩
abbrev cJ7_copyOf_1904c : ByteArray := prog_23_method_119_code
def yJ7_copyOf_1904c : MethodName := ⟨RJ7, "copyOf", "([Ljava/lang/Object;I)[Ljava/lang/Object;"⟩
abbrev cJ7_copyOf_6403c : ByteArray := prog_23_method_120_code
def yJ7_copyOf_6403c : MethodName := ⟨RJ7, "copyOf", "([Ljava/lang/Object;ILjava/lang/Class;)[Ljava/lang/Object;"⟩
def RJx5ef63 : String := "java/util/Collection"
def TJx5ef63 : u_T := fun k => match k with
  | _ => ("", "", "", false)
def tyJx5ef63 : Nat → FieldType := fun k => match k with
  | _ => .int
abbrev wsJx5ef630 : List Cond := u_ws RJx5ef63 TJx5ef63 0
theorem nmJx5ef63 : ∀ a, a < 0 → ∀ b, b < 0 → a ≠ b → (TJx5ef63 a).2.1 ≠ (TJx5ef63 b).2.1 := by decide +kernel
theorem tyJx5ef63_ok : ∀ k, k < 0 → parseFieldDescriptor (TJx5ef63 k).2.2.1 = some (tyJx5ef63 k) := by decide +kernel
def RJxbd725 : String := "java/util/List"
def TJxbd725 : u_T := fun k => match k with
  | _ => ("", "", "", false)
def tyJxbd725 : Nat → FieldType := fun k => match k with
  | _ => .int
abbrev wsJxbd7250 : List Cond := u_ws RJxbd725 TJxbd725 0
theorem nmJxbd725 : ∀ a, a < 0 → ∀ b, b < 0 → a ≠ b → (TJxbd725 a).2.1 ≠ (TJxbd725 b).2.1 := by decide +kernel
theorem tyJxbd725_ok : ∀ k, k < 0 → parseFieldDescriptor (TJxbd725 k).2.2.1 = some (tyJxbd725 k) := by decide +kernel
def RJ15 : String := "java/util/Objects"
def TJ15 : u_T := fun k => match k with
  | _ => ("", "", "", false)
def tyJ15 : Nat → FieldType := fun k => match k with
  | _ => .int
abbrev wsJ150 : List Cond := u_ws RJ15 TJ15 0
theorem nmJ15 : ∀ a, a < 0 → ∀ b, b < 0 → a ≠ b → (TJ15 a).2.1 ≠ (TJ15 b).2.1 := by decide +kernel
theorem tyJ15_ok : ∀ k, k < 0 → parseFieldDescriptor (TJ15 k).2.2.1 = some (tyJ15 k) := by decide +kernel
abbrev cJ15_checkIndex_7cf53 : ByteArray := prog_26_method_17_code
def yJ15_checkIndex_7cf53 : MethodName := ⟨RJ15, "checkIndex", "(II)I"⟩
def RJxf0a74 : String := "java/util/RandomAccess"
def TJxf0a74 : u_T := fun k => match k with
  | _ => ("", "", "", false)
def tyJxf0a74 : Nat → FieldType := fun k => match k with
  | _ => .int
abbrev wsJxf0a740 : List Cond := u_ws RJxf0a74 TJxf0a74 0
theorem nmJxf0a74 : ∀ a, a < 0 → ∀ b, b < 0 → a ≠ b → (TJxf0a74 a).2.1 ≠ (TJxf0a74 b).2.1 := by decide +kernel
theorem tyJxf0a74_ok : ∀ k, k < 0 → parseFieldDescriptor (TJxf0a74 k).2.2.1 = some (tyJxf0a74 k) := by decide +kernel
def RJxa66e6 : String := "java/util/SequencedCollection"
def TJxa66e6 : u_T := fun k => match k with
  | _ => ("", "", "", false)
def tyJxa66e6 : Nat → FieldType := fun k => match k with
  | _ => .int
abbrev wsJxa66e60 : List Cond := u_ws RJxa66e6 TJxa66e6 0
theorem nmJxa66e6 : ∀ a, a < 0 → ∀ b, b < 0 → a ≠ b → (TJxa66e6 a).2.1 ≠ (TJxa66e6 b).2.1 := by decide +kernel
theorem tyJxa66e6_ok : ∀ k, k < 0 → parseFieldDescriptor (TJxa66e6 k).2.2.1 = some (tyJxa66e6 k) := by decide +kernel
def RJ8 : String := "jdk/internal/util/ArraysSupport"
def TJ8 : u_T := fun k => match k with
  | _ => ("", "", "", false)
def tyJ8 : Nat → FieldType := fun k => match k with
  | _ => .int
abbrev wsJ80 : List Cond := u_ws RJ8 TJ8 0
theorem nmJ8 : ∀ a, a < 0 → ∀ b, b < 0 → a ≠ b → (TJ8 a).2.1 ≠ (TJ8 b).2.1 := by decide +kernel
theorem tyJ8_ok : ∀ k, k < 0 → parseFieldDescriptor (TJ8 k).2.2.1 = some (tyJ8 k) := by decide +kernel
abbrev cJ8_newLength_cabcc : ByteArray := prog_29_method_27_code
def yJ8_newLength_cabcc : MethodName := ⟨RJ8, "newLength", "(III)I"⟩
abbrev cJ8_hugeLength_7cf53 : ByteArray := prog_29_method_28_code
def yJ8_hugeLength_7cf53 : MethodName := ⟨RJ8, "hugeLength", "(II)I"⟩
def RJ3 : String := "jdk/internal/util/Preconditions"
def TJ3 : u_T := fun k => match k with
  | _ => ("", "", "", false)
def tyJ3 : Nat → FieldType := fun k => match k with
  | _ => .int
abbrev wsJ30 : List Cond := u_ws RJ3 TJ3 0
theorem nmJ3 : ∀ a, a < 0 → ∀ b, b < 0 → a ≠ b → (TJ3 a).2.1 ≠ (TJ3 b).2.1 := by decide +kernel
theorem tyJ3_ok : ∀ k, k < 0 → parseFieldDescriptor (TJ3 k).2.2.1 = some (tyJ3 k) := by decide +kernel
abbrev cJ3_checkIndex_8e157 : ByteArray := prog_30_method_11_code
def yJ3_checkIndex_8e157 : MethodName := ⟨RJ3, "checkIndex", "(IILjava/util/function/BiFunction;)I"⟩
def RL : String := "VoxelmintLaw"
abbrev cL_cell : ByteArray := method_2_code
def yL_cell : MethodName := ⟨RL, "cell", "([II)I"⟩
abbrev cL_low : ByteArray := method_3_code
def yL_low : MethodName := ⟨RL, "low", "(II)I"⟩
abbrev cL_set : ByteArray := method_4_code
def yL_set : MethodName := ⟨RL, "set", "(LVoxelmint;III)I"⟩
abbrev cL_raise : ByteArray := method_5_code
def yL_raise : MethodName := ⟨RL, "raise", "(LVoxelmint;III)I"⟩
abbrev cL_layer : ByteArray := method_6_code
def yL_layer : MethodName := ⟨RL, "layer", "(LVoxelmint;II)I"⟩
abbrev cL_kind : ByteArray := method_7_code
def yL_kind : MethodName := ⟨RL, "kind", "(LVoxelmint;II)I"⟩
abbrev cL_runLength : ByteArray := method_8_code
def yL_runLength : MethodName := ⟨RL, "runLength", "(LVoxelmint;II)I"⟩
abbrev cL_visit : ByteArray := method_9_code
def yL_visit : MethodName := ⟨RL, "visit", "(LVoxelmint;I)I"⟩
abbrev cL_undo : ByteArray := method_10_code
def yL_undo : MethodName := ⟨RL, "undo", "(LVoxelmint;)I"⟩
abbrev cL_redo : ByteArray := method_11_code
def yL_redo : MethodName := ⟨RL, "redo", "(LVoxelmint;I)I"⟩
abbrev cL_unlike : ByteArray := method_12_code
def yL_unlike : MethodName := ⟨RL, "unlike", "(LVoxelmint;II)I"⟩
abbrev cL_cut : ByteArray := method_13_code
def yL_cut : MethodName := ⟨RL, "cut", "(LVoxelmint;)I"⟩
abbrev cL_strike : ByteArray := method_14_code
def yL_strike : MethodName := ⟨RL, "strike", "(LVoxelmint;I)I"⟩
abbrev cL_forge : ByteArray := method_15_code
def yL_forge : MethodName := ⟨RL, "forge", "(LVoxelmint;III)I"⟩
abbrev cL_dieHeight : ByteArray := method_16_code
def yL_dieHeight : MethodName := ⟨RL, "dieHeight", "(LVoxelmint;II)I"⟩
abbrev cL_coinHeight : ByteArray := method_17_code
def yL_coinHeight : MethodName := ⟨RL, "coinHeight", "(LVoxelmint;II)I"⟩
abbrev cL_grade : ByteArray := method_18_code
def yL_grade : MethodName := ⟨RL, "grade", "(LVoxelmint;I)I"⟩
abbrev cL_distance : ByteArray := method_19_code
def yL_distance : MethodName := ⟨RL, "distance", "(LVoxelmint;II)I"⟩
abbrev cL_column : ByteArray := method_20_code
def yL_column : MethodName := ⟨RL, "column", "([JII)I"⟩
abbrev cL_lay : ByteArray := method_21_code
def yL_lay : MethodName := ⟨RL, "lay", "([JIII)V"⟩
abbrev cL_grow : ByteArray := method_22_code
def yL_grow : MethodName := ⟨RL, "grow", "([J[I[I)V"⟩
abbrev cL_solid : ByteArray := method_23_code
def yL_solid : MethodName := ⟨RL, "solid", "(I)I"⟩
abbrev cL_height : ByteArray := method_24_code
def yL_height : MethodName := ⟨RL, "height", "(I)I"⟩
abbrev cL_pieces : ByteArray := method_25_code
def yL_pieces : MethodName := ⟨RL, "pieces", "([J[I[I[I)I"⟩
abbrev cL_at : ByteArray := method_26_code
def yL_at : MethodName := ⟨RL, "at", "(JI)I"⟩
abbrev cL_worn : ByteArray := method_27_code
def yL_worn : MethodName := ⟨RL, "worn", "(JI)J"⟩
abbrev cL_far : ByteArray := method_28_code
def yL_far : MethodName := ⟨RL, "far", "(JJ)I"⟩
abbrev cL_changes : ByteArray := method_29_code
def yL_changes : MethodName := ⟨RL, "changes", "(LVoxelmint;III[J[I[I)Z"⟩
abbrev cL_mints : ByteArray := method_30_code
def yL_mints : MethodName := ⟨RL, "mints", "(LVoxelmint;III[J[J[J[I[I[I[I[I)Z"⟩
abbrev cL_isTold : ByteArray := method_31_code
def yL_isTold : MethodName := ⟨RL, "isTold", "(LVoxelmint;I[J[I[J[J[I[I[I[I[I)Z"⟩
abbrev cL_law : ByteArray := code
def yL_law : MethodName := ⟨RL, "law", "([I)Z"⟩
abbrev vwCl : List vw_C := [(RJx4a65c, TJx4a65c, 3), (RX0, TX0, 3), (RX1, TX1, 3), (RX2, TX2, 3), (RX3, TX3, 3), (RX4, TX4, 5)]
