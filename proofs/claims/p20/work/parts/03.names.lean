def RX0 : String := "GemCut$Flaw"
def TX0 : u_T := fun k => match k with
  | 0 => ("GemCut$Flaw", "severity", "I", false)
  | 1 => ("GemCut$Flaw", "cells", "[I", true)
  | 2 => ("GemCut$Flaw", "cellCount", "I", false)
  | 3 => ("GemCut$Flaw", "cellsIn", "[I", true)
  | _ => ("GemCut$Flaw", "bareIn", "[I", true)
def tyX0 : Nat → FieldType := fun k => match k with
  | 0 => .int
  | 1 => .array .int
  | 2 => .int
  | 3 => .array .int
  | _ => .array .int
abbrev wsX00 : List Cond := u_ws RX0 TX0 5
theorem nmX0 : ∀ a, a < 5 → ∀ b, b < 5 → a ≠ b → (TX0 a).2.1 ≠ (TX0 b).2.1 := by decide +kernel
theorem tyX0_ok : ∀ k, k < 5 → parseFieldDescriptor (TX0 k).2.2.1 = some (tyX0 k) := by decide +kernel
abbrev cX0_init : ByteArray := prog_2_method_1_code
def yX0_init : MethodName := ⟨RX0, "<init>", "()V"⟩
abbrev cX0_begin : ByteArray := prog_2_method_2_code
def yX0_begin : MethodName := ⟨RX0, "begin", "(I)V"⟩
abbrev cX0_addCell : ByteArray := prog_2_method_3_code
def yX0_addCell : MethodName := ⟨RX0, "addCell", "(I)V"⟩
abbrev cX0_survey : ByteArray := prog_2_method_4_code
def yX0_survey : MethodName := ⟨RX0, "survey", "(LGemCut$Rough;)V"⟩
abbrev cX0_stateIn : ByteArray := prog_2_method_5_code
def yX0_stateIn : MethodName := ⟨RX0, "stateIn", "(I)I"⟩
abbrev cX0_pointsIf : ByteArray := prog_2_method_6_code
def yX0_pointsIf : MethodName := ⟨RX0, "pointsIf", "(I)I"⟩
def RX1 : String := "GemCut$Plane"
def TX1 : u_T := fun k => match k with
  | 0 => ("GemCut$Plane", "p", "I", false)
  | 1 => ("GemCut$Plane", "q", "I", false)
  | 2 => ("GemCut$Plane", "r", "I", false)
  | 3 => ("GemCut$Plane", "d", "I", false)
  | 4 => ("GemCut$Plane", "reach", "I", false)
  | 5 => ("GemCut$Plane", "polished", "Z", false)
  | _ => ("GemCut$Plane", "touching", "I", false)
def tyX1 : Nat → FieldType := fun k => match k with
  | 0 => .int
  | 1 => .int
  | 2 => .int
  | 3 => .int
  | 4 => .int
  | 5 => .boolean
  | _ => .int
abbrev wsX10 : List Cond := u_ws RX1 TX1 7
theorem nmX1 : ∀ a, a < 7 → ∀ b, b < 7 → a ≠ b → (TX1 a).2.1 ≠ (TX1 b).2.1 := by decide +kernel
theorem tyX1_ok : ∀ k, k < 7 → parseFieldDescriptor (TX1 k).2.2.1 = some (tyX1 k) := by decide +kernel
abbrev cX1_init : ByteArray := prog_3_method_1_code
def yX1_init : MethodName := ⟨RX1, "<init>", "()V"⟩
abbrev cX1_set : ByteArray := prog_3_method_2_code
def yX1_set : MethodName := ⟨RX1, "set", "(IIII)V"⟩
abbrev cX1_heightOf : ByteArray := prog_3_method_3_code
def yX1_heightOf : MethodName := ⟨RX1, "heightOf", "(III)I"⟩
abbrev cX1_touches : ByteArray := prog_3_method_4_code
def yX1_touches : MethodName := ⟨RX1, "touches", "(III)Z"⟩
abbrev cX1_isFacet : ByteArray := prog_3_method_5_code
def yX1_isFacet : MethodName := ⟨RX1, "isFacet", "()Z"⟩
abbrev cX1_isOpposite : ByteArray := prog_3_method_8_code
def yX1_isOpposite : MethodName := ⟨RX1, "isOpposite", "(LGemCut$Plane;)Z"⟩
abbrev cX1_tell : ByteArray := prog_3_method_9_code
def yX1_tell : MethodName := ⟨RX1, "tell", "(I)I"⟩
def RX2 : String := "GemCut$Rough"
def TX2 : u_T := fun k => match k with
  | 0 => ("GemCut$Rough", "columns", "I", false)
  | 1 => ("GemCut$Rough", "rows", "I", false)
  | 2 => ("GemCut$Rough", "layers", "I", false)
  | 3 => ("GemCut$Rough", "owner", "[I", true)
  | 4 => ("GemCut$Rough", "bare", "[Z", true)
  | 5 => ("GemCut$Rough", "flaws", "[LGemCut$Flaw;", true)
  | _ => ("GemCut$Rough", "flawCount", "I", false)
def tyX2 : Nat → FieldType := fun k => match k with
  | 0 => .int
  | 1 => .int
  | 2 => .int
  | 3 => .array .int
  | 4 => .array .boolean
  | 5 => .array (.object "GemCut$Flaw")
  | _ => .int
abbrev wsX20 : List Cond := u_ws RX2 TX2 7
theorem nmX2 : ∀ a, a < 7 → ∀ b, b < 7 → a ≠ b → (TX2 a).2.1 ≠ (TX2 b).2.1 := by decide +kernel
theorem tyX2_ok : ∀ k, k < 7 → parseFieldDescriptor (TX2 k).2.2.1 = some (tyX2 k) := by decide +kernel
abbrev cX2_init : ByteArray := prog_4_method_1_code
def yX2_init : MethodName := ⟨RX2, "<init>", "()V"⟩
abbrev cX2_begin : ByteArray := prog_4_method_2_code
def yX2_begin : MethodName := ⟨RX2, "begin", "(III)V"⟩
abbrev cX2_size : ByteArray := prog_4_method_3_code
def yX2_size : MethodName := ⟨RX2, "size", "()I"⟩
abbrev cX2_holds : ByteArray := prog_4_method_4_code
def yX2_holds : MethodName := ⟨RX2, "holds", "(III)Z"⟩
abbrev cX2_indexOf : ByteArray := prog_4_method_5_code
def yX2_indexOf : MethodName := ⟨RX2, "indexOf", "(III)I"⟩
abbrev cX2_ownerAt : ByteArray := prog_4_method_6_code
def yX2_ownerAt : MethodName := ⟨RX2, "ownerAt", "(III)I"⟩
abbrev cX2_isBare : ByteArray := prog_4_method_7_code
def yX2_isBare : MethodName := ⟨RX2, "isBare", "(IIII)Z"⟩
abbrev cX2_addFlaw : ByteArray := prog_4_method_8_code
def yX2_addFlaw : MethodName := ⟨RX2, "addFlaw", "(IIIII)V"⟩
def RX3 : String := "GemCut$Stone"
def TX3 : u_T := fun k => match k with
  | 0 => ("GemCut$Stone", "number", "I", true)
  | 1 => ("GemCut$Stone", "planes", "[LGemCut$Plane;", true)
  | 2 => ("GemCut$Stone", "planeCount", "I", false)
  | 3 => ("GemCut$Stone", "weight", "I", false)
  | _ => ("GemCut$Stone", "bareCells", "I", false)
def tyX3 : Nat → FieldType := fun k => match k with
  | 0 => .int
  | 1 => .array (.object "GemCut$Plane")
  | 2 => .int
  | 3 => .int
  | _ => .int
abbrev wsX30 : List Cond := u_ws RX3 TX3 5
theorem nmX3 : ∀ a, a < 5 → ∀ b, b < 5 → a ≠ b → (TX3 a).2.1 ≠ (TX3 b).2.1 := by decide +kernel
theorem tyX3_ok : ∀ k, k < 5 → parseFieldDescriptor (TX3 k).2.2.1 = some (tyX3 k) := by decide +kernel
abbrev cX3_init : ByteArray := prog_5_method_1_code
def yX3_init : MethodName := ⟨RX3, "<init>", "(I)V"⟩
abbrev cX3_dropPlanes : ByteArray := prog_5_method_2_code
def yX3_dropPlanes : MethodName := ⟨RX3, "dropPlanes", "()V"⟩
abbrev cX3_forgetCells : ByteArray := prog_5_method_3_code
def yX3_forgetCells : MethodName := ⟨RX3, "forgetCells", "()V"⟩
abbrev cX3_countCell : ByteArray := prog_5_method_4_code
def yX3_countCell : MethodName := ⟨RX3, "countCell", "(IIIZ)V"⟩
abbrev cX3_keep : ByteArray := prog_5_method_5_code
def yX3_keep : MethodName := ⟨RX3, "keep", "(IIII)V"⟩
abbrev cX3_facets : ByteArray := prog_5_method_6_code
def yX3_facets : MethodName := ⟨RX3, "facets", "(Z)I"⟩
abbrev cX3_oppositePairs : ByteArray := prog_5_method_7_code
def yX3_oppositePairs : MethodName := ⟨RX3, "oppositePairs", "()I"⟩
def RX4 : String := "GemCut$Trial"
def TX4 : u_T := fun k => match k with
  | 0 => ("GemCut$Trial", "rough", "LGemCut$Rough;", true)
  | 1 => ("GemCut$Trial", "piece", "LGemCut$Stone;", false)
  | 2 => ("GemCut$Trial", "tried", "LGemCut$Plane;", true)
  | 3 => ("GemCut$Trial", "heights", "[I", true)
  | 4 => ("GemCut$Trial", "upTo", "[I", true)
  | _ => ("GemCut$Trial", "floors", "[I", true)
def tyX4 : Nat → FieldType := fun k => match k with
  | 0 => .object "GemCut$Rough"
  | 1 => .object "GemCut$Stone"
  | 2 => .object "GemCut$Plane"
  | 3 => .array .int
  | 4 => .array .int
  | _ => .array .int
abbrev wsX40 : List Cond := u_ws RX4 TX4 6
theorem nmX4 : ∀ a, a < 6 → ∀ b, b < 6 → a ≠ b → (TX4 a).2.1 ≠ (TX4 b).2.1 := by decide +kernel
theorem tyX4_ok : ∀ k, k < 6 → parseFieldDescriptor (TX4 k).2.2.1 = some (tyX4 k) := by decide +kernel
abbrev cX4_init : ByteArray := prog_6_method_1_code
def yX4_init : MethodName := ⟨RX4, "<init>", "(LGemCut$Rough;LGemCut$Stone;)V"⟩
abbrev cX4_level : ByteArray := prog_6_method_2_code
def yX4_level : MethodName := ⟨RX4, "level", "(LGemCut$Stone;III)V"⟩
abbrev cX4_levelCell : ByteArray := prog_6_method_3_code
def yX4_levelCell : MethodName := ⟨RX4, "levelCell", "(II)V"⟩
abbrev cX4_aim : ByteArray := prog_6_method_4_code
def yX4_aim : MethodName := ⟨RX4, "aim", "(LGemCut$Stone;III)V"⟩
abbrev cX4_lowerFloors : ByteArray := prog_6_method_5_code
def yX4_lowerFloors : MethodName := ⟨RX4, "lowerFloors", "(IIII)V"⟩
abbrev cX4_weightAt : ByteArray := prog_6_method_6_code
def yX4_weightAt : MethodName := ⟨RX4, "weightAt", "(I)I"⟩
abbrev cX4_lossAt : ByteArray := prog_6_method_7_code
def yX4_lossAt : MethodName := ⟨RX4, "lossAt", "(I)I"⟩
abbrev cX4_giveAbove : ByteArray := prog_6_method_8_code
def yX4_giveAbove : MethodName := ⟨RX4, "giveAbove", "(II)V"⟩
abbrev cX4_wouldBeFacet : ByteArray := prog_6_method_9_code
def yX4_wouldBeFacet : MethodName := ⟨RX4, "wouldBeFacet", "(I)Z"⟩
abbrev cX4_pairsAt : ByteArray := prog_6_method_10_code
def yX4_pairsAt : MethodName := ⟨RX4, "pairsAt", "(I)I"⟩
abbrev cX4_laterOpposites : ByteArray := prog_6_method_11_code
def yX4_laterOpposites : MethodName := ⟨RX4, "laterOpposites", "(II)I"⟩
abbrev cX4_polishedAt : ByteArray := prog_6_method_12_code
def yX4_polishedAt : MethodName := ⟨RX4, "polishedAt", "(I)I"⟩
abbrev cX4_stateAt : ByteArray := prog_6_method_13_code
def yX4_stateAt : MethodName := ⟨RX4, "stateAt", "(LGemCut$Flaw;I)I"⟩
abbrev cX4_openFlawsAt : ByteArray := prog_6_method_14_code
def yX4_openFlawsAt : MethodName := ⟨RX4, "openFlawsAt", "(I)I"⟩
abbrev cX4_worthAt : ByteArray := prog_6_method_15_code
def yX4_worthAt : MethodName := ⟨RX4, "worthAt", "(I)I"⟩
abbrev cX4_isWithin : ByteArray := prog_6_method_16_code
def yX4_isWithin : MethodName := ⟨RX4, "isWithin", "(I)Z"⟩
abbrev cX4_bestDepth : ByteArray := prog_6_method_17_code
def yX4_bestDepth : MethodName := ⟨RX4, "bestDepth", "()I"⟩
abbrev cX4_leastLoss : ByteArray := prog_6_method_18_code
def yX4_leastLoss : MethodName := ⟨RX4, "leastLoss", "(LGemCut$Stone;LGemCut$Flaw;I)I"⟩
abbrev cX4_lowestOf : ByteArray := prog_6_method_19_code
def yX4_lowestOf : MethodName := ⟨RX4, "lowestOf", "(LGemCut$Flaw;)I"⟩
def RX5 : String := "GemCut"
def TX5 : u_T := fun k => match k with
  | 0 => ("GemCut", "rough", "LGemCut$Rough;", true)
  | 1 => ("GemCut", "stones", "[LGemCut$Stone;", true)
  | 2 => ("GemCut", "trial", "LGemCut$Trial;", true)
  | 3 => ("GemCut", "stoneCount", "I", false)
  | 4 => ("GemCut", "turns", "I", false)
  | _ => ("GemCut", "spent", "I", false)
def tyX5 : Nat → FieldType := fun k => match k with
  | 0 => .object "GemCut$Rough"
  | 1 => .array (.object "GemCut$Stone")
  | 2 => .object "GemCut$Trial"
  | 3 => .int
  | 4 => .int
  | _ => .int
abbrev wsX50 : List Cond := u_ws RX5 TX5 6
theorem nmX5 : ∀ a, a < 6 → ∀ b, b < 6 → a ≠ b → (TX5 a).2.1 ≠ (TX5 b).2.1 := by decide +kernel
theorem tyX5_ok : ∀ k, k < 6 → parseFieldDescriptor (TX5 k).2.2.1 = some (tyX5 k) := by decide +kernel
abbrev cX5_init : ByteArray := prog_1_method_1_code
def yX5_init : MethodName := ⟨RX5, "<init>", "()V"⟩
abbrev cX5_take : ByteArray := prog_1_method_2_code
def yX5_take : MethodName := ⟨RX5, "take", "(III)I"⟩
abbrev cX5_flaw : ByteArray := prog_1_method_3_code
def yX5_flaw : MethodName := ⟨RX5, "flaw", "(IIIII)I"⟩
abbrev cX5_cell : ByteArray := prog_1_method_4_code
def yX5_cell : MethodName := ⟨RX5, "cell", "(III)I"⟩
abbrev cX5_flawIn : ByteArray := prog_1_method_5_code
def yX5_flawIn : MethodName := ⟨RX5, "flawIn", "(III)I"⟩
abbrev cX5_saw : ByteArray := prog_1_method_6_code
def yX5_saw : MethodName := ⟨RX5, "saw", "(IIIII)I"⟩
abbrev cX5_cut : ByteArray := prog_1_method_7_code
def yX5_cut : MethodName := ⟨RX5, "cut", "(IIIII)I"⟩
abbrev cX5_polish : ByteArray := prog_1_method_8_code
def yX5_polish : MethodName := ⟨RX5, "polish", "(II)I"⟩
abbrev cX5_dress : ByteArray := prog_1_method_9_code
def yX5_dress : MethodName := ⟨RX5, "dress", "()I"⟩
abbrev cX5_stone : ByteArray := prog_1_method_10_code
def yX5_stone : MethodName := ⟨RX5, "stone", "(II)I"⟩
abbrev cX5_plane : ByteArray := prog_1_method_11_code
def yX5_plane : MethodName := ⟨RX5, "plane", "(III)I"⟩
abbrev cX5_count : ByteArray := prog_1_method_13_code
def yX5_count : MethodName := ⟨RX5, "count", "(I)I"⟩
abbrev cX5_would : ByteArray := prog_1_method_14_code
def yX5_would : MethodName := ⟨RX5, "would", "(IIIIII)I"⟩
abbrev cX5_depth : ByteArray := prog_1_method_15_code
def yX5_depth : MethodName := ⟨RX5, "depth", "(IIII)I"⟩
abbrev cX5_rid : ByteArray := prog_1_method_16_code
def yX5_rid : MethodName := ⟨RX5, "rid", "(III)I"⟩
abbrev cX5_kept : ByteArray := prog_1_method_17_code
def yX5_kept : MethodName := ⟨RX5, "kept", "()D"⟩
abbrev cX5_isSide : ByteArray := prog_1_method_19_code
def yX5_isSide : MethodName := ⟨RX5, "isSide", "(I)Z"⟩
abbrev cX5_wantCell : ByteArray := prog_1_method_20_code
def yX5_wantCell : MethodName := ⟨RX5, "wantCell", "(III)V"⟩
abbrev cX5_wantFlaw : ByteArray := prog_1_method_21_code
def yX5_wantFlaw : MethodName := ⟨RX5, "wantFlaw", "(I)V"⟩
abbrev cX5_wantStone : ByteArray := prog_1_method_22_code
def yX5_wantStone : MethodName := ⟨RX5, "wantStone", "(I)V"⟩
abbrev cX5_wantPlane : ByteArray := prog_1_method_23_code
def yX5_wantPlane : MethodName := ⟨RX5, "wantPlane", "(II)V"⟩
abbrev cX5_wantWhat : ByteArray := prog_1_method_24_code
def yX5_wantWhat : MethodName := ⟨RX5, "wantWhat", "(II)V"⟩
abbrev cX5_wantSlope : ByteArray := prog_1_method_25_code
def yX5_wantSlope : MethodName := ⟨RX5, "wantSlope", "(III)V"⟩
abbrev cX5_isSteepness : ByteArray := prog_1_method_26_code
def yX5_isSteepness : MethodName := ⟨RX5, "isSteepness", "(I)Z"⟩
abbrev cX5_wantDepth : ByteArray := prog_1_method_27_code
def yX5_wantDepth : MethodName := ⟨RX5, "wantDepth", "(I)V"⟩
abbrev cX5_beginRough : ByteArray := prog_1_method_28_code
def yX5_beginRough : MethodName := ⟨RX5, "beginRough", "(III)V"⟩
abbrev cX5_spend : ByteArray := prog_1_method_29_code
def yX5_spend : MethodName := ⟨RX5, "spend", "(I)V"⟩
abbrev cX5_survey : ByteArray := prog_1_method_30_code
def yX5_survey : MethodName := ⟨RX5, "survey", "()V"⟩
abbrev cX5_surveyCell : ByteArray := prog_1_method_31_code
def yX5_surveyCell : MethodName := ⟨RX5, "surveyCell", "(IIII)V"⟩
abbrev cX5_tellOfFlaw : ByteArray := prog_1_method_32_code
def yX5_tellOfFlaw : MethodName := ⟨RX5, "tellOfFlaw", "(III)I"⟩
abbrev cX5_tellOfStone : ByteArray := prog_1_method_33_code
def yX5_tellOfStone : MethodName := ⟨RX5, "tellOfStone", "(LGemCut$Stone;I)I"⟩
abbrev cX5_tellCount : ByteArray := prog_1_method_34_code
def yX5_tellCount : MethodName := ⟨RX5, "tellCount", "(I)I"⟩
abbrev cX5_flawsOfState : ByteArray := prog_1_method_35_code
def yX5_flawsOfState : MethodName := ⟨RX5, "flawsOfState", "(II)I"⟩
abbrev cX5_worthOf : ByteArray := prog_1_method_36_code
def yX5_worthOf : MethodName := ⟨RX5, "worthOf", "(LGemCut$Stone;)I"⟩
abbrev cX5_worthBy : ByteArray := prog_1_method_37_code
def yX5_worthBy : MethodName := ⟨RX5, "worthBy", "(IIII)I"⟩
abbrev cX5_cellsOfStones : ByteArray := prog_1_method_38_code
def yX5_cellsOfStones : MethodName := ⟨RX5, "cellsOfStones", "()I"⟩
abbrev cX5_stonesLeft : ByteArray := prog_1_method_39_code
def yX5_stonesLeft : MethodName := ⟨RX5, "stonesLeft", "()I"⟩
abbrev cX5_worthOfStones : ByteArray := prog_1_method_40_code
def yX5_worthOfStones : MethodName := ⟨RX5, "worthOfStones", "()I"⟩
def RX6 : String := "GemCutLaw$Sim"
def TX6 : u_T := fun k => match k with
  | 0 => ("GemCutLaw$Sim", "rough", "[[[I", false)
  | 1 => ("GemCutLaw$Sim", "flaws", "[[I", false)
  | 2 => ("GemCutLaw$Sim", "planes", "[[[I", false)
  | 3 => ("GemCutLaw$Sim", "wheel", "I", false)
  | _ => ("GemCutLaw$Sim", "spent", "I", false)
def tyX6 : Nat → FieldType := fun k => match k with
  | 0 => .array (.array (.array .int))
  | 1 => .array (.array .int)
  | 2 => .array (.array (.array .int))
  | 3 => .int
  | _ => .int
abbrev wsX60 : List Cond := u_ws RX6 TX6 5
theorem nmX6 : ∀ a, a < 5 → ∀ b, b < 5 → a ≠ b → (TX6 a).2.1 ≠ (TX6 b).2.1 := by decide +kernel
theorem tyX6_ok : ∀ k, k < 5 → parseFieldDescriptor (TX6 k).2.2.1 = some (tyX6 k) := by decide +kernel
abbrev cX6_init : ByteArray := prog_8_method_1_code
def yX6_init : MethodName := ⟨RX6, "<init>", "(III)V"⟩
abbrev cX6_more : ByteArray := prog_8_method_2_code
def yX6_more : MethodName := ⟨RX6, "more", "([[I[I)[[I"⟩
def RX7 : String := "GemCutModel"
def TX7 : u_T := fun k => match k with
  | _ => ("", "", "", false)
def tyX7 : Nat → FieldType := fun k => match k with
  | _ => .int
abbrev wsX70 : List Cond := u_ws RX7 TX7 0
theorem nmX7 : ∀ a, a < 0 → ∀ b, b < 0 → a ≠ b → (TX7 a).2.1 ≠ (TX7 b).2.1 := by decide +kernel
theorem tyX7_ok : ∀ k, k < 0 → parseFieldDescriptor (TX7 k).2.2.1 = some (tyX7 k) := by decide +kernel
def RL : String := "GemCutLaw"
abbrev cL_below : ByteArray := method_2_code
def yL_below : MethodName := ⟨RL, "below", "(II)I"⟩
abbrev cL_cell : ByteArray := method_3_code
def yL_cell : MethodName := ⟨RL, "cell", "([II)I"⟩
abbrev cL_plane : ByteArray := method_4_code
def yL_plane : MethodName := ⟨RL, "plane", "(II)[I"⟩
abbrev cL_build : ByteArray := method_5_code
def yL_build : MethodName := ⟨RL, "build", "(LGemCut;[II)LGemCutLaw$Sim;"⟩
abbrev cL_law : ByteArray := code
def yL_law : MethodName := ⟨RL, "law", "([I)Z"⟩
theorem dX0_init_0 : decode cX0_init 0 = .ok (.aload_n 0, 1) := by decide +kernel
theorem dX0_init_1 : decode cX0_init 1 = .ok (.invokespecial 3, 3) := by decide +kernel
theorem dX0_init_4 : decode cX0_init 4 = .ok (.aload_n 0, 1) := by decide +kernel
theorem dX0_init_5 : decode cX0_init 5 = .ok (.bipush 63, 2) := by decide +kernel
theorem dX0_init_7 : decode cX0_init 7 = .ok (.newarray .int, 2) := by decide +kernel
theorem dX0_init_9 : decode cX0_init 9 = .ok (.putfield 9, 3) := by decide +kernel
theorem dX0_init_12 : decode cX0_init 12 = .ok (.aload_n 0, 1) := by decide +kernel
theorem dX0_init_13 : decode cX0_init 13 = .ok (.bipush 8, 2) := by decide +kernel
theorem dX0_init_15 : decode cX0_init 15 = .ok (.newarray .int, 2) := by decide +kernel
theorem dX0_init_17 : decode cX0_init 17 = .ok (.putfield 15, 3) := by decide +kernel
theorem dX0_init_20 : decode cX0_init 20 = .ok (.aload_n 0, 1) := by decide +kernel
theorem dX0_init_21 : decode cX0_init 21 = .ok (.bipush 8, 2) := by decide +kernel
theorem dX0_init_23 : decode cX0_init 23 = .ok (.newarray .int, 2) := by decide +kernel
theorem dX0_init_25 : decode cX0_init 25 = .ok (.putfield 18, 3) := by decide +kernel
theorem dX0_init_28 : decode cX0_init 28 = .ok (.return_, 1) := by decide +kernel
theorem dX0_begin_0 : decode cX0_begin 0 = .ok (.aload_n 0, 1) := by decide +kernel
theorem dX0_begin_1 : decode cX0_begin 1 = .ok (.iload_n 1, 1) := by decide +kernel
theorem dX0_begin_2 : decode cX0_begin 2 = .ok (.putfield 21, 3) := by decide +kernel
theorem dX0_begin_5 : decode cX0_begin 5 = .ok (.aload_n 0, 1) := by decide +kernel
theorem dX0_begin_6 : decode cX0_begin 6 = .ok (.iconst 0, 1) := by decide +kernel
theorem dX0_begin_7 : decode cX0_begin 7 = .ok (.putfield 25, 3) := by decide +kernel
theorem dX0_begin_10 : decode cX0_begin 10 = .ok (.return_, 1) := by decide +kernel
theorem dX0_addCell_0 : decode cX0_addCell 0 = .ok (.aload_n 0, 1) := by decide +kernel
theorem dX0_addCell_1 : decode cX0_addCell 1 = .ok (.getfield 25, 3) := by decide +kernel
theorem dX0_addCell_4 : decode cX0_addCell 4 = .ok (.bipush 63, 2) := by decide +kernel
theorem dX0_addCell_6 : decode cX0_addCell 6 = .ok (.if_icmp .ge 23, 3) := by decide +kernel
theorem dX0_addCell_9 : decode cX0_addCell 9 = .ok (.aload_n 0, 1) := by decide +kernel
theorem dX0_addCell_10 : decode cX0_addCell 10 = .ok (.getfield 9, 3) := by decide +kernel
theorem dX0_addCell_13 : decode cX0_addCell 13 = .ok (.aload_n 0, 1) := by decide +kernel
theorem dX0_addCell_14 : decode cX0_addCell 14 = .ok (.getfield 25, 3) := by decide +kernel
theorem dX0_addCell_17 : decode cX0_addCell 17 = .ok (.iload_n 1, 1) := by decide +kernel
theorem dX0_addCell_18 : decode cX0_addCell 18 = .ok (.iastore, 1) := by decide +kernel
theorem dX0_addCell_19 : decode cX0_addCell 19 = .ok (.aload_n 0, 1) := by decide +kernel
theorem dX0_addCell_20 : decode cX0_addCell 20 = .ok (.dup, 1) := by decide +kernel
theorem dX0_addCell_21 : decode cX0_addCell 21 = .ok (.getfield 25, 3) := by decide +kernel
theorem dX0_addCell_24 : decode cX0_addCell 24 = .ok (.iconst 1, 1) := by decide +kernel
theorem dX0_addCell_25 : decode cX0_addCell 25 = .ok (.iadd, 1) := by decide +kernel
theorem dX0_addCell_26 : decode cX0_addCell 26 = .ok (.putfield 25, 3) := by decide +kernel
theorem dX0_addCell_29 : decode cX0_addCell 29 = .ok (.return_, 1) := by decide +kernel
theorem dX0_survey_0 : decode cX0_survey 0 = .ok (.iconst 0, 1) := by decide +kernel
theorem dX0_survey_1 : decode cX0_survey 1 = .ok (.istore_n 2, 1) := by decide +kernel
theorem dX0_survey_2 : decode cX0_survey 2 = .ok (.iload_n 2, 1) := by decide +kernel
theorem dX0_survey_3 : decode cX0_survey 3 = .ok (.bipush 8, 2) := by decide +kernel
theorem dX0_survey_5 : decode cX0_survey 5 = .ok (.if_icmp .ge 23, 3) := by decide +kernel
theorem dX0_survey_8 : decode cX0_survey 8 = .ok (.aload_n 0, 1) := by decide +kernel
theorem dX0_survey_9 : decode cX0_survey 9 = .ok (.getfield 15, 3) := by decide +kernel
theorem dX0_survey_12 : decode cX0_survey 12 = .ok (.iload_n 2, 1) := by decide +kernel
theorem dX0_survey_13 : decode cX0_survey 13 = .ok (.iconst 0, 1) := by decide +kernel
theorem dX0_survey_14 : decode cX0_survey 14 = .ok (.iastore, 1) := by decide +kernel
theorem dX0_survey_15 : decode cX0_survey 15 = .ok (.aload_n 0, 1) := by decide +kernel
theorem dX0_survey_16 : decode cX0_survey 16 = .ok (.getfield 18, 3) := by decide +kernel
theorem dX0_survey_19 : decode cX0_survey 19 = .ok (.iload_n 2, 1) := by decide +kernel
theorem dX0_survey_20 : decode cX0_survey 20 = .ok (.iconst 0, 1) := by decide +kernel
theorem dX0_survey_21 : decode cX0_survey 21 = .ok (.iastore, 1) := by decide +kernel
theorem dX0_survey_22 : decode cX0_survey 22 = .ok (.iinc 2 1, 3) := by decide +kernel
theorem dX0_survey_25 : decode cX0_survey 25 = .ok (.goto (-23), 3) := by decide +kernel
theorem dX0_survey_28 : decode cX0_survey 28 = .ok (.iconst 0, 1) := by decide +kernel
theorem dX0_survey_29 : decode cX0_survey 29 = .ok (.istore_n 2, 1) := by decide +kernel
theorem dX0_survey_30 : decode cX0_survey 30 = .ok (.iload_n 2, 1) := by decide +kernel
theorem dX0_survey_31 : decode cX0_survey 31 = .ok (.aload_n 0, 1) := by decide +kernel
theorem dX0_survey_32 : decode cX0_survey 32 = .ok (.getfield 25, 3) := by decide +kernel
theorem dX0_survey_35 : decode cX0_survey 35 = .ok (.if_icmp .ge 71, 3) := by decide +kernel
theorem dX0_survey_38 : decode cX0_survey 38 = .ok (.aload_n 0, 1) := by decide +kernel
theorem dX0_survey_39 : decode cX0_survey 39 = .ok (.getfield 9, 3) := by decide +kernel
theorem dX0_survey_42 : decode cX0_survey 42 = .ok (.iload_n 2, 1) := by decide +kernel
theorem dX0_survey_43 : decode cX0_survey 43 = .ok (.iaload, 1) := by decide +kernel
theorem dX0_survey_44 : decode cX0_survey 44 = .ok (.istore_n 3, 1) := by decide +kernel
theorem dX0_survey_45 : decode cX0_survey 45 = .ok (.aload_n 1, 1) := by decide +kernel
theorem dX0_survey_46 : decode cX0_survey 46 = .ok (.getfield 28, 3) := by decide +kernel
theorem dX0_survey_49 : decode cX0_survey 49 = .ok (.iload_n 3, 1) := by decide +kernel
theorem dX0_survey_50 : decode cX0_survey 50 = .ok (.iaload, 1) := by decide +kernel
theorem dX0_survey_51 : decode cX0_survey 51 = .ok (.istore 4, 2) := by decide +kernel
theorem dX0_survey_53 : decode cX0_survey 53 = .ok (.iload 4, 2) := by decide +kernel
theorem dX0_survey_55 : decode cX0_survey 55 = .ok (.ifCond .lt 45, 3) := by decide +kernel
theorem dX0_survey_58 : decode cX0_survey 58 = .ok (.iload 4, 2) := by decide +kernel
theorem dX0_survey_60 : decode cX0_survey 60 = .ok (.bipush 8, 2) := by decide +kernel
theorem dX0_survey_62 : decode cX0_survey 62 = .ok (.if_icmp .ge 38, 3) := by decide +kernel
theorem dX0_survey_65 : decode cX0_survey 65 = .ok (.aload_n 0, 1) := by decide +kernel
theorem dX0_survey_66 : decode cX0_survey 66 = .ok (.getfield 15, 3) := by decide +kernel
theorem dX0_survey_69 : decode cX0_survey 69 = .ok (.iload 4, 2) := by decide +kernel
theorem dX0_survey_71 : decode cX0_survey 71 = .ok (.dup2, 1) := by decide +kernel
theorem dX0_survey_72 : decode cX0_survey 72 = .ok (.iaload, 1) := by decide +kernel
theorem dX0_survey_73 : decode cX0_survey 73 = .ok (.iconst 1, 1) := by decide +kernel
theorem dX0_survey_74 : decode cX0_survey 74 = .ok (.iadd, 1) := by decide +kernel
theorem dX0_survey_75 : decode cX0_survey 75 = .ok (.iastore, 1) := by decide +kernel
theorem dX0_survey_76 : decode cX0_survey 76 = .ok (.aload_n 0, 1) := by decide +kernel
theorem dX0_survey_77 : decode cX0_survey 77 = .ok (.getfield 18, 3) := by decide +kernel
theorem dX0_survey_80 : decode cX0_survey 80 = .ok (.iload 4, 2) := by decide +kernel
theorem dX0_survey_82 : decode cX0_survey 82 = .ok (.dup2, 1) := by decide +kernel
theorem dX0_survey_83 : decode cX0_survey 83 = .ok (.iaload, 1) := by decide +kernel
theorem dX0_survey_84 : decode cX0_survey 84 = .ok (.aload_n 1, 1) := by decide +kernel
theorem dX0_survey_85 : decode cX0_survey 85 = .ok (.getfield 33, 3) := by decide +kernel
theorem dX0_survey_88 : decode cX0_survey 88 = .ok (.iload_n 3, 1) := by decide +kernel
theorem dX0_survey_89 : decode cX0_survey 89 = .ok (.baload, 1) := by decide +kernel
theorem dX0_survey_90 : decode cX0_survey 90 = .ok (.ifCond .eq 7, 3) := by decide +kernel
theorem dX0_survey_93 : decode cX0_survey 93 = .ok (.iconst 1, 1) := by decide +kernel
theorem dX0_survey_94 : decode cX0_survey 94 = .ok (.goto 4, 3) := by decide +kernel
theorem dX0_survey_97 : decode cX0_survey 97 = .ok (.iconst 0, 1) := by decide +kernel
theorem dX0_survey_98 : decode cX0_survey 98 = .ok (.iadd, 1) := by decide +kernel
theorem dX0_survey_99 : decode cX0_survey 99 = .ok (.iastore, 1) := by decide +kernel
theorem dX0_survey_100 : decode cX0_survey 100 = .ok (.iinc 2 1, 3) := by decide +kernel
theorem dX0_survey_103 : decode cX0_survey 103 = .ok (.goto (-73), 3) := by decide +kernel
theorem dX0_survey_106 : decode cX0_survey 106 = .ok (.return_, 1) := by decide +kernel
theorem dX0_stateIn_0 : decode cX0_stateIn 0 = .ok (.aload_n 0, 1) := by decide +kernel
theorem dX0_stateIn_1 : decode cX0_stateIn 1 = .ok (.getfield 15, 3) := by decide +kernel
theorem dX0_stateIn_4 : decode cX0_stateIn 4 = .ok (.iload_n 1, 1) := by decide +kernel
theorem dX0_stateIn_5 : decode cX0_stateIn 5 = .ok (.iaload, 1) := by decide +kernel
theorem dX0_stateIn_6 : decode cX0_stateIn 6 = .ok (.ifCond .ne 5, 3) := by decide +kernel
theorem dX0_stateIn_9 : decode cX0_stateIn 9 = .ok (.iconst (-1), 1) := by decide +kernel
theorem dX0_stateIn_10 : decode cX0_stateIn 10 = .ok (.ireturn, 1) := by decide +kernel
theorem dX0_stateIn_11 : decode cX0_stateIn 11 = .ok (.aload_n 0, 1) := by decide +kernel
theorem dX0_stateIn_12 : decode cX0_stateIn 12 = .ok (.getfield 18, 3) := by decide +kernel
theorem dX0_stateIn_15 : decode cX0_stateIn 15 = .ok (.iload_n 1, 1) := by decide +kernel
theorem dX0_stateIn_16 : decode cX0_stateIn 16 = .ok (.iaload, 1) := by decide +kernel
theorem dX0_stateIn_17 : decode cX0_stateIn 17 = .ok (.ifCond .le 7, 3) := by decide +kernel
theorem dX0_stateIn_20 : decode cX0_stateIn 20 = .ok (.iconst 1, 1) := by decide +kernel
theorem dX0_stateIn_21 : decode cX0_stateIn 21 = .ok (.goto 4, 3) := by decide +kernel
theorem dX0_stateIn_24 : decode cX0_stateIn 24 = .ok (.iconst 0, 1) := by decide +kernel
theorem dX0_stateIn_25 : decode cX0_stateIn 25 = .ok (.ireturn, 1) := by decide +kernel
theorem dX0_pointsIf_0 : decode cX0_pointsIf 0 = .ok (.iload_n 1, 1) := by decide +kernel
theorem dX0_pointsIf_1 : decode cX0_pointsIf 1 = .ok (.lookupswitch 42 #[(0, 35), (1, 27)], 27) := by decide +kernel
theorem dX0_pointsIf_28 : decode cX0_pointsIf 28 = .ok (.bipush 6, 2) := by decide +kernel
theorem dX0_pointsIf_30 : decode cX0_pointsIf 30 = .ok (.aload_n 0, 1) := by decide +kernel
theorem dX0_pointsIf_31 : decode cX0_pointsIf 31 = .ok (.getfield 21, 3) := by decide +kernel
theorem dX0_pointsIf_34 : decode cX0_pointsIf 34 = .ok (.imul, 1) := by decide +kernel
theorem dX0_pointsIf_35 : decode cX0_pointsIf 35 = .ok (.ireturn, 1) := by decide +kernel
theorem dX0_pointsIf_36 : decode cX0_pointsIf 36 = .ok (.iconst 2, 1) := by decide +kernel
theorem dX0_pointsIf_37 : decode cX0_pointsIf 37 = .ok (.aload_n 0, 1) := by decide +kernel
theorem dX0_pointsIf_38 : decode cX0_pointsIf 38 = .ok (.getfield 21, 3) := by decide +kernel
theorem dX0_pointsIf_41 : decode cX0_pointsIf 41 = .ok (.imul, 1) := by decide +kernel
theorem dX0_pointsIf_42 : decode cX0_pointsIf 42 = .ok (.ireturn, 1) := by decide +kernel
theorem dX0_pointsIf_43 : decode cX0_pointsIf 43 = .ok (.iconst 0, 1) := by decide +kernel
theorem dX0_pointsIf_44 : decode cX0_pointsIf 44 = .ok (.ireturn, 1) := by decide +kernel
theorem dX1_init_0 : decode cX1_init 0 = .ok (.aload_n 0, 1) := by decide +kernel
theorem dX1_init_1 : decode cX1_init 1 = .ok (.invokespecial 1, 3) := by decide +kernel
theorem dX1_init_4 : decode cX1_init 4 = .ok (.return_, 1) := by decide +kernel
theorem dX1_set_0 : decode cX1_set 0 = .ok (.aload_n 0, 1) := by decide +kernel
theorem dX1_set_1 : decode cX1_set 1 = .ok (.iload_n 1, 1) := by decide +kernel
theorem dX1_set_2 : decode cX1_set 2 = .ok (.putfield 7, 3) := by decide +kernel
theorem dX1_set_5 : decode cX1_set 5 = .ok (.aload_n 0, 1) := by decide +kernel
theorem dX1_set_6 : decode cX1_set 6 = .ok (.iload_n 2, 1) := by decide +kernel
theorem dX1_set_7 : decode cX1_set 7 = .ok (.putfield 13, 3) := by decide +kernel
theorem dX1_set_10 : decode cX1_set 10 = .ok (.aload_n 0, 1) := by decide +kernel
theorem dX1_set_11 : decode cX1_set 11 = .ok (.iload_n 3, 1) := by decide +kernel
theorem dX1_set_12 : decode cX1_set 12 = .ok (.putfield 16, 3) := by decide +kernel
theorem dX1_set_15 : decode cX1_set 15 = .ok (.aload_n 0, 1) := by decide +kernel
theorem dX1_set_16 : decode cX1_set 16 = .ok (.iload 4, 2) := by decide +kernel
theorem dX1_set_18 : decode cX1_set 18 = .ok (.putfield 19, 3) := by decide +kernel
theorem dX1_set_21 : decode cX1_set 21 = .ok (.aload_n 0, 1) := by decide +kernel
theorem dX1_set_22 : decode cX1_set 22 = .ok (.aload_n 0, 1) := by decide +kernel
theorem dX1_set_23 : decode cX1_set 23 = .ok (.getfield 7, 3) := by decide +kernel
theorem dX1_set_26 : decode cX1_set 26 = .ok (.invokestatic 22, 3) := by decide +kernel
theorem dX1_set_29 : decode cX1_set 29 = .ok (.aload_n 0, 1) := by decide +kernel
theorem dX1_set_30 : decode cX1_set 30 = .ok (.getfield 13, 3) := by decide +kernel
theorem dX1_set_33 : decode cX1_set 33 = .ok (.invokestatic 22, 3) := by decide +kernel
theorem dX1_set_36 : decode cX1_set 36 = .ok (.aload_n 0, 1) := by decide +kernel
theorem dX1_set_37 : decode cX1_set 37 = .ok (.getfield 16, 3) := by decide +kernel
theorem dX1_set_40 : decode cX1_set 40 = .ok (.invokestatic 22, 3) := by decide +kernel
theorem dX1_set_43 : decode cX1_set 43 = .ok (.invokestatic 28, 3) := by decide +kernel
theorem dX1_set_46 : decode cX1_set 46 = .ok (.invokestatic 28, 3) := by decide +kernel
theorem dX1_set_49 : decode cX1_set 49 = .ok (.putfield 32, 3) := by decide +kernel
theorem dX1_set_52 : decode cX1_set 52 = .ok (.aload_n 0, 1) := by decide +kernel
theorem dX1_set_53 : decode cX1_set 53 = .ok (.iconst 0, 1) := by decide +kernel
theorem dX1_set_54 : decode cX1_set 54 = .ok (.putfield 35, 3) := by decide +kernel
theorem dX1_set_57 : decode cX1_set 57 = .ok (.aload_n 0, 1) := by decide +kernel
theorem dX1_set_58 : decode cX1_set 58 = .ok (.iconst 0, 1) := by decide +kernel
theorem dX1_set_59 : decode cX1_set 59 = .ok (.putfield 39, 3) := by decide +kernel
theorem dX1_set_62 : decode cX1_set 62 = .ok (.return_, 1) := by decide +kernel
theorem dX1_heightOf_0 : decode cX1_heightOf 0 = .ok (.aload_n 0, 1) := by decide +kernel
theorem dX1_heightOf_1 : decode cX1_heightOf 1 = .ok (.getfield 7, 3) := by decide +kernel
theorem dX1_heightOf_4 : decode cX1_heightOf 4 = .ok (.iload_n 1, 1) := by decide +kernel
theorem dX1_heightOf_5 : decode cX1_heightOf 5 = .ok (.imul, 1) := by decide +kernel
theorem dX1_heightOf_6 : decode cX1_heightOf 6 = .ok (.aload_n 0, 1) := by decide +kernel
theorem dX1_heightOf_7 : decode cX1_heightOf 7 = .ok (.getfield 13, 3) := by decide +kernel
theorem dX1_heightOf_10 : decode cX1_heightOf 10 = .ok (.iload_n 2, 1) := by decide +kernel
theorem dX1_heightOf_11 : decode cX1_heightOf 11 = .ok (.imul, 1) := by decide +kernel
theorem dX1_heightOf_12 : decode cX1_heightOf 12 = .ok (.iadd, 1) := by decide +kernel
theorem dX1_heightOf_13 : decode cX1_heightOf 13 = .ok (.aload_n 0, 1) := by decide +kernel
theorem dX1_heightOf_14 : decode cX1_heightOf 14 = .ok (.getfield 16, 3) := by decide +kernel
theorem dX1_heightOf_17 : decode cX1_heightOf 17 = .ok (.iload_n 3, 1) := by decide +kernel
theorem dX1_heightOf_18 : decode cX1_heightOf 18 = .ok (.imul, 1) := by decide +kernel
theorem dX1_heightOf_19 : decode cX1_heightOf 19 = .ok (.iadd, 1) := by decide +kernel
theorem dX1_heightOf_20 : decode cX1_heightOf 20 = .ok (.ireturn, 1) := by decide +kernel
theorem dX1_touches_0 : decode cX1_touches 0 = .ok (.aload_n 0, 1) := by decide +kernel
theorem dX1_touches_1 : decode cX1_touches 1 = .ok (.iload_n 1, 1) := by decide +kernel
theorem dX1_touches_2 : decode cX1_touches 2 = .ok (.iload_n 2, 1) := by decide +kernel
theorem dX1_touches_3 : decode cX1_touches 3 = .ok (.iload_n 3, 1) := by decide +kernel
theorem dX1_touches_4 : decode cX1_touches 4 = .ok (.invokevirtual 42, 3) := by decide +kernel
theorem dX1_touches_7 : decode cX1_touches 7 = .ok (.aload_n 0, 1) := by decide +kernel
theorem dX1_touches_8 : decode cX1_touches 8 = .ok (.getfield 32, 3) := by decide +kernel
theorem dX1_touches_11 : decode cX1_touches 11 = .ok (.iadd, 1) := by decide +kernel
theorem dX1_touches_12 : decode cX1_touches 12 = .ok (.aload_n 0, 1) := by decide +kernel
theorem dX1_touches_13 : decode cX1_touches 13 = .ok (.getfield 19, 3) := by decide +kernel
theorem dX1_touches_16 : decode cX1_touches 16 = .ok (.if_icmp .le 7, 3) := by decide +kernel
theorem dX1_touches_19 : decode cX1_touches 19 = .ok (.iconst 1, 1) := by decide +kernel
theorem dX1_touches_20 : decode cX1_touches 20 = .ok (.goto 4, 3) := by decide +kernel
theorem dX1_touches_23 : decode cX1_touches 23 = .ok (.iconst 0, 1) := by decide +kernel
theorem dX1_touches_24 : decode cX1_touches 24 = .ok (.ireturn, 1) := by decide +kernel
theorem dX1_isFacet_0 : decode cX1_isFacet 0 = .ok (.aload_n 0, 1) := by decide +kernel
theorem dX1_isFacet_1 : decode cX1_isFacet 1 = .ok (.getfield 39, 3) := by decide +kernel
theorem dX1_isFacet_4 : decode cX1_isFacet 4 = .ok (.ifCond .le 7, 3) := by decide +kernel
theorem dX1_isFacet_7 : decode cX1_isFacet 7 = .ok (.iconst 1, 1) := by decide +kernel
theorem dX1_isFacet_8 : decode cX1_isFacet 8 = .ok (.goto 4, 3) := by decide +kernel
theorem dX1_isFacet_11 : decode cX1_isFacet 11 = .ok (.iconst 0, 1) := by decide +kernel
theorem dX1_isFacet_12 : decode cX1_isFacet 12 = .ok (.ireturn, 1) := by decide +kernel
theorem dX1_isOpposite_0 : decode cX1_isOpposite 0 = .ok (.aload_n 0, 1) := by decide +kernel
theorem dX1_isOpposite_1 : decode cX1_isOpposite 1 = .ok (.getfield 7, 3) := by decide +kernel
theorem dX1_isOpposite_4 : decode cX1_isOpposite 4 = .ok (.aload_n 1, 1) := by decide +kernel
theorem dX1_isOpposite_5 : decode cX1_isOpposite 5 = .ok (.getfield 7, 3) := by decide +kernel
theorem dX1_isOpposite_8 : decode cX1_isOpposite 8 = .ok (.ineg, 1) := by decide +kernel
theorem dX1_isOpposite_9 : decode cX1_isOpposite 9 = .ok (.if_icmp .ne 31, 3) := by decide +kernel
theorem dX1_isOpposite_12 : decode cX1_isOpposite 12 = .ok (.aload_n 0, 1) := by decide +kernel
theorem dX1_isOpposite_13 : decode cX1_isOpposite 13 = .ok (.getfield 13, 3) := by decide +kernel
theorem dX1_isOpposite_16 : decode cX1_isOpposite 16 = .ok (.aload_n 1, 1) := by decide +kernel
theorem dX1_isOpposite_17 : decode cX1_isOpposite 17 = .ok (.getfield 13, 3) := by decide +kernel
theorem dX1_isOpposite_20 : decode cX1_isOpposite 20 = .ok (.ineg, 1) := by decide +kernel
theorem dX1_isOpposite_21 : decode cX1_isOpposite 21 = .ok (.if_icmp .ne 19, 3) := by decide +kernel
theorem dX1_isOpposite_24 : decode cX1_isOpposite 24 = .ok (.aload_n 0, 1) := by decide +kernel
theorem dX1_isOpposite_25 : decode cX1_isOpposite 25 = .ok (.getfield 16, 3) := by decide +kernel
theorem dX1_isOpposite_28 : decode cX1_isOpposite 28 = .ok (.aload_n 1, 1) := by decide +kernel
theorem dX1_isOpposite_29 : decode cX1_isOpposite 29 = .ok (.getfield 16, 3) := by decide +kernel
theorem dX1_isOpposite_32 : decode cX1_isOpposite 32 = .ok (.ineg, 1) := by decide +kernel
theorem dX1_isOpposite_33 : decode cX1_isOpposite 33 = .ok (.if_icmp .ne 7, 3) := by decide +kernel
theorem dX1_isOpposite_36 : decode cX1_isOpposite 36 = .ok (.iconst 1, 1) := by decide +kernel
theorem dX1_isOpposite_37 : decode cX1_isOpposite 37 = .ok (.goto 4, 3) := by decide +kernel
theorem dX1_isOpposite_40 : decode cX1_isOpposite 40 = .ok (.iconst 0, 1) := by decide +kernel
theorem dX1_isOpposite_41 : decode cX1_isOpposite 41 = .ok (.ireturn, 1) := by decide +kernel
theorem dX1_tell_0 : decode cX1_tell 0 = .ok (.iload_n 1, 1) := by decide +kernel
theorem dX1_tell_1 : decode cX1_tell 1 = .ok (.tableswitch 60 0 4 #[35, 40, 45, 50, 55], 35) := by decide +kernel
theorem dX1_tell_36 : decode cX1_tell 36 = .ok (.aload_n 0, 1) := by decide +kernel
theorem dX1_tell_37 : decode cX1_tell 37 = .ok (.getfield 7, 3) := by decide +kernel
theorem dX1_tell_40 : decode cX1_tell 40 = .ok (.ireturn, 1) := by decide +kernel
theorem dX1_tell_41 : decode cX1_tell 41 = .ok (.aload_n 0, 1) := by decide +kernel
theorem dX1_tell_42 : decode cX1_tell 42 = .ok (.getfield 13, 3) := by decide +kernel
theorem dX1_tell_45 : decode cX1_tell 45 = .ok (.ireturn, 1) := by decide +kernel
theorem dX1_tell_46 : decode cX1_tell 46 = .ok (.aload_n 0, 1) := by decide +kernel
theorem dX1_tell_47 : decode cX1_tell 47 = .ok (.getfield 16, 3) := by decide +kernel
theorem dX1_tell_50 : decode cX1_tell 50 = .ok (.ireturn, 1) := by decide +kernel
theorem dX1_tell_51 : decode cX1_tell 51 = .ok (.aload_n 0, 1) := by decide +kernel
theorem dX1_tell_52 : decode cX1_tell 52 = .ok (.getfield 19, 3) := by decide +kernel
theorem dX1_tell_55 : decode cX1_tell 55 = .ok (.ireturn, 1) := by decide +kernel
theorem dX1_tell_56 : decode cX1_tell 56 = .ok (.aload_n 0, 1) := by decide +kernel
theorem dX1_tell_57 : decode cX1_tell 57 = .ok (.getfield 39, 3) := by decide +kernel
theorem dX1_tell_60 : decode cX1_tell 60 = .ok (.ireturn, 1) := by decide +kernel
theorem dX1_tell_61 : decode cX1_tell 61 = .ok (.aload_n 0, 1) := by decide +kernel
theorem dX1_tell_62 : decode cX1_tell 62 = .ok (.getfield 35, 3) := by decide +kernel
theorem dX1_tell_65 : decode cX1_tell 65 = .ok (.ifCond .eq 7, 3) := by decide +kernel
theorem dX1_tell_68 : decode cX1_tell 68 = .ok (.iconst 1, 1) := by decide +kernel
theorem dX1_tell_69 : decode cX1_tell 69 = .ok (.goto 4, 3) := by decide +kernel
theorem dX1_tell_72 : decode cX1_tell 72 = .ok (.iconst 0, 1) := by decide +kernel
theorem dX1_tell_73 : decode cX1_tell 73 = .ok (.ireturn, 1) := by decide +kernel
theorem dX2_init_0 : decode cX2_init 0 = .ok (.aload_n 0, 1) := by decide +kernel
theorem dX2_init_1 : decode cX2_init 1 = .ok (.invokespecial 3, 3) := by decide +kernel
theorem dX2_init_4 : decode cX2_init 4 = .ok (.aload_n 0, 1) := by decide +kernel
theorem dX2_init_5 : decode cX2_init 5 = .ok (.sipush 1000, 3) := by decide +kernel
theorem dX2_init_8 : decode cX2_init 8 = .ok (.newarray .int, 2) := by decide +kernel
theorem dX2_init_10 : decode cX2_init 10 = .ok (.putfield 9, 3) := by decide +kernel
theorem dX2_init_13 : decode cX2_init 13 = .ok (.aload_n 0, 1) := by decide +kernel
theorem dX2_init_14 : decode cX2_init 14 = .ok (.sipush 1000, 3) := by decide +kernel
theorem dX2_init_17 : decode cX2_init 17 = .ok (.newarray .boolean, 2) := by decide +kernel
theorem dX2_init_19 : decode cX2_init 19 = .ok (.putfield 15, 3) := by decide +kernel
theorem dX2_init_22 : decode cX2_init 22 = .ok (.aload_n 0, 1) := by decide +kernel
theorem dX2_init_23 : decode cX2_init 23 = .ok (.bipush 10, 2) := by decide +kernel
theorem dX2_init_25 : decode cX2_init 25 = .ok (.anewarray 19, 3) := by decide +kernel
theorem dX2_init_28 : decode cX2_init 28 = .ok (.putfield 21, 3) := by decide +kernel
theorem dX2_init_31 : decode cX2_init 31 = .ok (.iconst 0, 1) := by decide +kernel
theorem dX2_init_32 : decode cX2_init 32 = .ok (.istore_n 1, 1) := by decide +kernel
theorem dX2_init_33 : decode cX2_init 33 = .ok (.iload_n 1, 1) := by decide +kernel
theorem dX2_init_34 : decode cX2_init 34 = .ok (.bipush 10, 2) := by decide +kernel
theorem dX2_init_36 : decode cX2_init 36 = .ok (.if_icmp .ge 22, 3) := by decide +kernel
theorem dX2_init_39 : decode cX2_init 39 = .ok (.aload_n 0, 1) := by decide +kernel
theorem dX2_init_40 : decode cX2_init 40 = .ok (.getfield 21, 3) := by decide +kernel
theorem dX2_init_43 : decode cX2_init 43 = .ok (.iload_n 1, 1) := by decide +kernel
theorem dX2_init_44 : decode cX2_init 44 = .ok (.new 19, 3) := by decide +kernel
theorem dX2_init_47 : decode cX2_init 47 = .ok (.dup, 1) := by decide +kernel
theorem dX2_init_48 : decode cX2_init 48 = .ok (.invokespecial 25, 3) := by decide +kernel
theorem dX2_init_51 : decode cX2_init 51 = .ok (.aastore, 1) := by decide +kernel
theorem dX2_init_52 : decode cX2_init 52 = .ok (.iinc 1 1, 3) := by decide +kernel
theorem dX2_init_55 : decode cX2_init 55 = .ok (.goto (-22), 3) := by decide +kernel
theorem dX2_init_58 : decode cX2_init 58 = .ok (.return_, 1) := by decide +kernel
theorem dX2_begin_0 : decode cX2_begin 0 = .ok (.aload_n 0, 1) := by decide +kernel
theorem dX2_begin_1 : decode cX2_begin 1 = .ok (.iload_n 1, 1) := by decide +kernel
theorem dX2_begin_2 : decode cX2_begin 2 = .ok (.putfield 26, 3) := by decide +kernel
theorem dX2_begin_5 : decode cX2_begin 5 = .ok (.aload_n 0, 1) := by decide +kernel
theorem dX2_begin_6 : decode cX2_begin 6 = .ok (.iload_n 2, 1) := by decide +kernel
theorem dX2_begin_7 : decode cX2_begin 7 = .ok (.putfield 30, 3) := by decide +kernel
theorem dX2_begin_10 : decode cX2_begin 10 = .ok (.aload_n 0, 1) := by decide +kernel
theorem dX2_begin_11 : decode cX2_begin 11 = .ok (.iload_n 3, 1) := by decide +kernel
theorem dX2_begin_12 : decode cX2_begin 12 = .ok (.putfield 33, 3) := by decide +kernel
theorem dX2_begin_15 : decode cX2_begin 15 = .ok (.aload_n 0, 1) := by decide +kernel
theorem dX2_begin_16 : decode cX2_begin 16 = .ok (.iconst 0, 1) := by decide +kernel
theorem dX2_begin_17 : decode cX2_begin 17 = .ok (.putfield 36, 3) := by decide +kernel
theorem dX2_begin_20 : decode cX2_begin 20 = .ok (.aload_n 0, 1) := by decide +kernel
theorem dX2_begin_21 : decode cX2_begin 21 = .ok (.invokevirtual 39, 3) := by decide +kernel
theorem dX2_begin_24 : decode cX2_begin 24 = .ok (.istore 4, 2) := by decide +kernel
theorem dX2_begin_26 : decode cX2_begin 26 = .ok (.iconst 0, 1) := by decide +kernel
theorem dX2_begin_27 : decode cX2_begin 27 = .ok (.istore 5, 2) := by decide +kernel
theorem dX2_begin_29 : decode cX2_begin 29 = .ok (.iload 5, 2) := by decide +kernel
theorem dX2_begin_31 : decode cX2_begin 31 = .ok (.iload 4, 2) := by decide +kernel
theorem dX2_begin_33 : decode cX2_begin 33 = .ok (.if_icmp .ge 17, 3) := by decide +kernel
theorem dX2_begin_36 : decode cX2_begin 36 = .ok (.aload_n 0, 1) := by decide +kernel
theorem dX2_begin_37 : decode cX2_begin 37 = .ok (.getfield 9, 3) := by decide +kernel
theorem dX2_begin_40 : decode cX2_begin 40 = .ok (.iload 5, 2) := by decide +kernel
theorem dX2_begin_42 : decode cX2_begin 42 = .ok (.iconst 0, 1) := by decide +kernel
theorem dX2_begin_43 : decode cX2_begin 43 = .ok (.iastore, 1) := by decide +kernel
theorem dX2_begin_44 : decode cX2_begin 44 = .ok (.iinc 5 1, 3) := by decide +kernel
theorem dX2_begin_47 : decode cX2_begin 47 = .ok (.goto (-18), 3) := by decide +kernel
theorem dX2_begin_50 : decode cX2_begin 50 = .ok (.return_, 1) := by decide +kernel
theorem dX2_size_0 : decode cX2_size 0 = .ok (.aload_n 0, 1) := by decide +kernel
theorem dX2_size_1 : decode cX2_size 1 = .ok (.getfield 26, 3) := by decide +kernel
theorem dX2_size_4 : decode cX2_size 4 = .ok (.aload_n 0, 1) := by decide +kernel
theorem dX2_size_5 : decode cX2_size 5 = .ok (.getfield 30, 3) := by decide +kernel
theorem dX2_size_8 : decode cX2_size 8 = .ok (.imul, 1) := by decide +kernel
theorem dX2_size_9 : decode cX2_size 9 = .ok (.aload_n 0, 1) := by decide +kernel
theorem dX2_size_10 : decode cX2_size 10 = .ok (.getfield 33, 3) := by decide +kernel
theorem dX2_size_13 : decode cX2_size 13 = .ok (.imul, 1) := by decide +kernel
theorem dX2_size_14 : decode cX2_size 14 = .ok (.ireturn, 1) := by decide +kernel
theorem dX2_holds_0 : decode cX2_holds 0 = .ok (.iload_n 1, 1) := by decide +kernel
theorem dX2_holds_1 : decode cX2_holds 1 = .ok (.ifCond .lt 39, 3) := by decide +kernel
theorem dX2_holds_4 : decode cX2_holds 4 = .ok (.iload_n 1, 1) := by decide +kernel
theorem dX2_holds_5 : decode cX2_holds 5 = .ok (.aload_n 0, 1) := by decide +kernel
theorem dX2_holds_6 : decode cX2_holds 6 = .ok (.getfield 26, 3) := by decide +kernel
theorem dX2_holds_9 : decode cX2_holds 9 = .ok (.if_icmp .ge 31, 3) := by decide +kernel
theorem dX2_holds_12 : decode cX2_holds 12 = .ok (.iload_n 2, 1) := by decide +kernel
theorem dX2_holds_13 : decode cX2_holds 13 = .ok (.ifCond .lt 27, 3) := by decide +kernel
theorem dX2_holds_16 : decode cX2_holds 16 = .ok (.iload_n 2, 1) := by decide +kernel
theorem dX2_holds_17 : decode cX2_holds 17 = .ok (.aload_n 0, 1) := by decide +kernel
theorem dX2_holds_18 : decode cX2_holds 18 = .ok (.getfield 30, 3) := by decide +kernel
theorem dX2_holds_21 : decode cX2_holds 21 = .ok (.if_icmp .ge 19, 3) := by decide +kernel
theorem dX2_holds_24 : decode cX2_holds 24 = .ok (.iload_n 3, 1) := by decide +kernel
theorem dX2_holds_25 : decode cX2_holds 25 = .ok (.ifCond .lt 15, 3) := by decide +kernel
theorem dX2_holds_28 : decode cX2_holds 28 = .ok (.iload_n 3, 1) := by decide +kernel
theorem dX2_holds_29 : decode cX2_holds 29 = .ok (.aload_n 0, 1) := by decide +kernel
theorem dX2_holds_30 : decode cX2_holds 30 = .ok (.getfield 33, 3) := by decide +kernel
theorem dX2_holds_33 : decode cX2_holds 33 = .ok (.if_icmp .ge 7, 3) := by decide +kernel
theorem dX2_holds_36 : decode cX2_holds 36 = .ok (.iconst 1, 1) := by decide +kernel
theorem dX2_holds_37 : decode cX2_holds 37 = .ok (.goto 4, 3) := by decide +kernel
theorem dX2_holds_40 : decode cX2_holds 40 = .ok (.iconst 0, 1) := by decide +kernel
theorem dX2_holds_41 : decode cX2_holds 41 = .ok (.ireturn, 1) := by decide +kernel
theorem dX2_indexOf_0 : decode cX2_indexOf 0 = .ok (.iload_n 3, 1) := by decide +kernel
theorem dX2_indexOf_1 : decode cX2_indexOf 1 = .ok (.aload_n 0, 1) := by decide +kernel
theorem dX2_indexOf_2 : decode cX2_indexOf 2 = .ok (.getfield 30, 3) := by decide +kernel
theorem dX2_indexOf_5 : decode cX2_indexOf 5 = .ok (.imul, 1) := by decide +kernel
theorem dX2_indexOf_6 : decode cX2_indexOf 6 = .ok (.iload_n 2, 1) := by decide +kernel
theorem dX2_indexOf_7 : decode cX2_indexOf 7 = .ok (.iadd, 1) := by decide +kernel
theorem dX2_indexOf_8 : decode cX2_indexOf 8 = .ok (.aload_n 0, 1) := by decide +kernel
theorem dX2_indexOf_9 : decode cX2_indexOf 9 = .ok (.getfield 26, 3) := by decide +kernel
theorem dX2_indexOf_12 : decode cX2_indexOf 12 = .ok (.imul, 1) := by decide +kernel
theorem dX2_indexOf_13 : decode cX2_indexOf 13 = .ok (.iload_n 1, 1) := by decide +kernel
theorem dX2_indexOf_14 : decode cX2_indexOf 14 = .ok (.iadd, 1) := by decide +kernel
theorem dX2_indexOf_15 : decode cX2_indexOf 15 = .ok (.ireturn, 1) := by decide +kernel
theorem dX2_ownerAt_0 : decode cX2_ownerAt 0 = .ok (.aload_n 0, 1) := by decide +kernel
theorem dX2_ownerAt_1 : decode cX2_ownerAt 1 = .ok (.iload_n 1, 1) := by decide +kernel
theorem dX2_ownerAt_2 : decode cX2_ownerAt 2 = .ok (.iload_n 2, 1) := by decide +kernel
theorem dX2_ownerAt_3 : decode cX2_ownerAt 3 = .ok (.iload_n 3, 1) := by decide +kernel
theorem dX2_ownerAt_4 : decode cX2_ownerAt 4 = .ok (.invokevirtual 43, 3) := by decide +kernel
theorem dX2_ownerAt_7 : decode cX2_ownerAt 7 = .ok (.ifCond .eq 18, 3) := by decide +kernel
theorem dX2_ownerAt_10 : decode cX2_ownerAt 10 = .ok (.aload_n 0, 1) := by decide +kernel
theorem dX2_ownerAt_11 : decode cX2_ownerAt 11 = .ok (.getfield 9, 3) := by decide +kernel
theorem dX2_ownerAt_14 : decode cX2_ownerAt 14 = .ok (.aload_n 0, 1) := by decide +kernel
theorem dX2_ownerAt_15 : decode cX2_ownerAt 15 = .ok (.iload_n 1, 1) := by decide +kernel
theorem dX2_ownerAt_16 : decode cX2_ownerAt 16 = .ok (.iload_n 2, 1) := by decide +kernel
theorem dX2_ownerAt_17 : decode cX2_ownerAt 17 = .ok (.iload_n 3, 1) := by decide +kernel
theorem dX2_ownerAt_18 : decode cX2_ownerAt 18 = .ok (.invokevirtual 47, 3) := by decide +kernel
theorem dX2_ownerAt_21 : decode cX2_ownerAt 21 = .ok (.iaload, 1) := by decide +kernel
theorem dX2_ownerAt_22 : decode cX2_ownerAt 22 = .ok (.goto 4, 3) := by decide +kernel
theorem dX2_ownerAt_25 : decode cX2_ownerAt 25 = .ok (.iconst (-1), 1) := by decide +kernel
theorem dX2_ownerAt_26 : decode cX2_ownerAt 26 = .ok (.ireturn, 1) := by decide +kernel
theorem dX2_isBare_0 : decode cX2_isBare 0 = .ok (.aload_n 0, 1) := by decide +kernel
theorem dX2_isBare_1 : decode cX2_isBare 1 = .ok (.iload_n 2, 1) := by decide +kernel
theorem dX2_isBare_2 : decode cX2_isBare 2 = .ok (.iconst 1, 1) := by decide +kernel
theorem dX2_isBare_3 : decode cX2_isBare 3 = .ok (.isub, 1) := by decide +kernel
theorem dX2_isBare_4 : decode cX2_isBare 4 = .ok (.iload_n 3, 1) := by decide +kernel
theorem dX2_isBare_5 : decode cX2_isBare 5 = .ok (.iload 4, 2) := by decide +kernel
theorem dX2_isBare_7 : decode cX2_isBare 7 = .ok (.invokevirtual 51, 3) := by decide +kernel
theorem dX2_isBare_10 : decode cX2_isBare 10 = .ok (.iload_n 1, 1) := by decide +kernel
theorem dX2_isBare_11 : decode cX2_isBare 11 = .ok (.if_icmp .ne 73, 3) := by decide +kernel
theorem dX2_isBare_14 : decode cX2_isBare 14 = .ok (.aload_n 0, 1) := by decide +kernel
theorem dX2_isBare_15 : decode cX2_isBare 15 = .ok (.iload_n 2, 1) := by decide +kernel
theorem dX2_isBare_16 : decode cX2_isBare 16 = .ok (.iconst 1, 1) := by decide +kernel
theorem dX2_isBare_17 : decode cX2_isBare 17 = .ok (.iadd, 1) := by decide +kernel
theorem dX2_isBare_18 : decode cX2_isBare 18 = .ok (.iload_n 3, 1) := by decide +kernel
theorem dX2_isBare_19 : decode cX2_isBare 19 = .ok (.iload 4, 2) := by decide +kernel
theorem dX2_isBare_21 : decode cX2_isBare 21 = .ok (.invokevirtual 51, 3) := by decide +kernel
theorem dX2_isBare_24 : decode cX2_isBare 24 = .ok (.iload_n 1, 1) := by decide +kernel
theorem dX2_isBare_25 : decode cX2_isBare 25 = .ok (.if_icmp .ne 59, 3) := by decide +kernel
theorem dX2_isBare_28 : decode cX2_isBare 28 = .ok (.aload_n 0, 1) := by decide +kernel
theorem dX2_isBare_29 : decode cX2_isBare 29 = .ok (.iload_n 2, 1) := by decide +kernel
theorem dX2_isBare_30 : decode cX2_isBare 30 = .ok (.iload_n 3, 1) := by decide +kernel
theorem dX2_isBare_31 : decode cX2_isBare 31 = .ok (.iconst 1, 1) := by decide +kernel
theorem dX2_isBare_32 : decode cX2_isBare 32 = .ok (.isub, 1) := by decide +kernel
theorem dX2_isBare_33 : decode cX2_isBare 33 = .ok (.iload 4, 2) := by decide +kernel
theorem dX2_isBare_35 : decode cX2_isBare 35 = .ok (.invokevirtual 51, 3) := by decide +kernel
theorem dX2_isBare_38 : decode cX2_isBare 38 = .ok (.iload_n 1, 1) := by decide +kernel
theorem dX2_isBare_39 : decode cX2_isBare 39 = .ok (.if_icmp .ne 45, 3) := by decide +kernel
theorem dX2_isBare_42 : decode cX2_isBare 42 = .ok (.aload_n 0, 1) := by decide +kernel
theorem dX2_isBare_43 : decode cX2_isBare 43 = .ok (.iload_n 2, 1) := by decide +kernel
theorem dX2_isBare_44 : decode cX2_isBare 44 = .ok (.iload_n 3, 1) := by decide +kernel
theorem dX2_isBare_45 : decode cX2_isBare 45 = .ok (.iconst 1, 1) := by decide +kernel
theorem dX2_isBare_46 : decode cX2_isBare 46 = .ok (.iadd, 1) := by decide +kernel
theorem dX2_isBare_47 : decode cX2_isBare 47 = .ok (.iload 4, 2) := by decide +kernel
theorem dX2_isBare_49 : decode cX2_isBare 49 = .ok (.invokevirtual 51, 3) := by decide +kernel
theorem dX2_isBare_52 : decode cX2_isBare 52 = .ok (.iload_n 1, 1) := by decide +kernel
theorem dX2_isBare_53 : decode cX2_isBare 53 = .ok (.if_icmp .ne 31, 3) := by decide +kernel
theorem dX2_isBare_56 : decode cX2_isBare 56 = .ok (.aload_n 0, 1) := by decide +kernel
theorem dX2_isBare_57 : decode cX2_isBare 57 = .ok (.iload_n 2, 1) := by decide +kernel
theorem dX2_isBare_58 : decode cX2_isBare 58 = .ok (.iload_n 3, 1) := by decide +kernel
theorem dX2_isBare_59 : decode cX2_isBare 59 = .ok (.iload 4, 2) := by decide +kernel
theorem dX2_isBare_61 : decode cX2_isBare 61 = .ok (.iconst 1, 1) := by decide +kernel
theorem dX2_isBare_62 : decode cX2_isBare 62 = .ok (.isub, 1) := by decide +kernel
theorem dX2_isBare_63 : decode cX2_isBare 63 = .ok (.invokevirtual 51, 3) := by decide +kernel
theorem dX2_isBare_66 : decode cX2_isBare 66 = .ok (.iload_n 1, 1) := by decide +kernel
theorem dX2_isBare_67 : decode cX2_isBare 67 = .ok (.if_icmp .ne 17, 3) := by decide +kernel
theorem dX2_isBare_70 : decode cX2_isBare 70 = .ok (.aload_n 0, 1) := by decide +kernel
theorem dX2_isBare_71 : decode cX2_isBare 71 = .ok (.iload_n 2, 1) := by decide +kernel
theorem dX2_isBare_72 : decode cX2_isBare 72 = .ok (.iload_n 3, 1) := by decide +kernel
theorem dX2_isBare_73 : decode cX2_isBare 73 = .ok (.iload 4, 2) := by decide +kernel
theorem dX2_isBare_75 : decode cX2_isBare 75 = .ok (.iconst 1, 1) := by decide +kernel
theorem dX2_isBare_76 : decode cX2_isBare 76 = .ok (.iadd, 1) := by decide +kernel
theorem dX2_isBare_77 : decode cX2_isBare 77 = .ok (.invokevirtual 51, 3) := by decide +kernel
theorem dX2_isBare_80 : decode cX2_isBare 80 = .ok (.iload_n 1, 1) := by decide +kernel
theorem dX2_isBare_81 : decode cX2_isBare 81 = .ok (.if_icmp .eq 7, 3) := by decide +kernel
theorem dX2_isBare_84 : decode cX2_isBare 84 = .ok (.iconst 1, 1) := by decide +kernel
theorem dX2_isBare_85 : decode cX2_isBare 85 = .ok (.goto 4, 3) := by decide +kernel
theorem dX2_isBare_88 : decode cX2_isBare 88 = .ok (.iconst 0, 1) := by decide +kernel
theorem dX2_isBare_89 : decode cX2_isBare 89 = .ok (.ireturn, 1) := by decide +kernel
theorem dX2_addFlaw_0 : decode cX2_addFlaw 0 = .ok (.aload_n 0, 1) := by decide +kernel
theorem dX2_addFlaw_1 : decode cX2_addFlaw 1 = .ok (.getfield 21, 3) := by decide +kernel
theorem dX2_addFlaw_4 : decode cX2_addFlaw 4 = .ok (.aload_n 0, 1) := by decide +kernel
theorem dX2_addFlaw_5 : decode cX2_addFlaw 5 = .ok (.getfield 36, 3) := by decide +kernel
theorem dX2_addFlaw_8 : decode cX2_addFlaw 8 = .ok (.aaload, 1) := by decide +kernel
theorem dX2_addFlaw_9 : decode cX2_addFlaw 9 = .ok (.astore 6, 2) := by decide +kernel
theorem dX2_addFlaw_11 : decode cX2_addFlaw 11 = .ok (.aload 6, 2) := by decide +kernel
theorem dX2_addFlaw_13 : decode cX2_addFlaw 13 = .ok (.iload 5, 2) := by decide +kernel
theorem dX2_addFlaw_15 : decode cX2_addFlaw 15 = .ok (.invokevirtual 54, 3) := by decide +kernel
theorem dX2_addFlaw_18 : decode cX2_addFlaw 18 = .ok (.iload_n 3, 1) := by decide +kernel
theorem dX2_addFlaw_19 : decode cX2_addFlaw 19 = .ok (.iload 4, 2) := by decide +kernel
theorem dX2_addFlaw_21 : decode cX2_addFlaw 21 = .ok (.isub, 1) := by decide +kernel
theorem dX2_addFlaw_22 : decode cX2_addFlaw 22 = .ok (.istore 7, 2) := by decide +kernel
theorem dX2_addFlaw_24 : decode cX2_addFlaw 24 = .ok (.iload 7, 2) := by decide +kernel
theorem dX2_addFlaw_26 : decode cX2_addFlaw 26 = .ok (.iload_n 3, 1) := by decide +kernel
theorem dX2_addFlaw_27 : decode cX2_addFlaw 27 = .ok (.iload 4, 2) := by decide +kernel
theorem dX2_addFlaw_29 : decode cX2_addFlaw 29 = .ok (.iadd, 1) := by decide +kernel
theorem dX2_addFlaw_30 : decode cX2_addFlaw 30 = .ok (.if_icmp .gt 111, 3) := by decide +kernel
theorem dX2_addFlaw_33 : decode cX2_addFlaw 33 = .ok (.iload_n 2, 1) := by decide +kernel
theorem dX2_addFlaw_34 : decode cX2_addFlaw 34 = .ok (.iload 4, 2) := by decide +kernel
theorem dX2_addFlaw_36 : decode cX2_addFlaw 36 = .ok (.isub, 1) := by decide +kernel
theorem dX2_addFlaw_37 : decode cX2_addFlaw 37 = .ok (.istore 8, 2) := by decide +kernel
theorem dX2_addFlaw_39 : decode cX2_addFlaw 39 = .ok (.iload 8, 2) := by decide +kernel
theorem dX2_addFlaw_41 : decode cX2_addFlaw 41 = .ok (.iload_n 2, 1) := by decide +kernel
theorem dX2_addFlaw_42 : decode cX2_addFlaw 42 = .ok (.iload 4, 2) := by decide +kernel
theorem dX2_addFlaw_44 : decode cX2_addFlaw 44 = .ok (.iadd, 1) := by decide +kernel
theorem dX2_addFlaw_45 : decode cX2_addFlaw 45 = .ok (.if_icmp .gt 90, 3) := by decide +kernel
theorem dX2_addFlaw_48 : decode cX2_addFlaw 48 = .ok (.iload_n 1, 1) := by decide +kernel
theorem dX2_addFlaw_49 : decode cX2_addFlaw 49 = .ok (.iload 4, 2) := by decide +kernel
theorem dX2_addFlaw_51 : decode cX2_addFlaw 51 = .ok (.isub, 1) := by decide +kernel
theorem dX2_addFlaw_52 : decode cX2_addFlaw 52 = .ok (.istore 9, 2) := by decide +kernel
theorem dX2_addFlaw_54 : decode cX2_addFlaw 54 = .ok (.iload 9, 2) := by decide +kernel
theorem dX2_addFlaw_56 : decode cX2_addFlaw 56 = .ok (.iload_n 1, 1) := by decide +kernel
theorem dX2_addFlaw_57 : decode cX2_addFlaw 57 = .ok (.iload 4, 2) := by decide +kernel
theorem dX2_addFlaw_59 : decode cX2_addFlaw 59 = .ok (.iadd, 1) := by decide +kernel
theorem dX2_addFlaw_60 : decode cX2_addFlaw 60 = .ok (.if_icmp .gt 69, 3) := by decide +kernel
theorem dX2_addFlaw_63 : decode cX2_addFlaw 63 = .ok (.iload 9, 2) := by decide +kernel
theorem dX2_addFlaw_65 : decode cX2_addFlaw 65 = .ok (.iload_n 1, 1) := by decide +kernel
theorem dX2_addFlaw_66 : decode cX2_addFlaw 66 = .ok (.isub, 1) := by decide +kernel
theorem dX2_addFlaw_67 : decode cX2_addFlaw 67 = .ok (.invokestatic 58, 3) := by decide +kernel
theorem dX2_addFlaw_70 : decode cX2_addFlaw 70 = .ok (.iload 8, 2) := by decide +kernel
theorem dX2_addFlaw_72 : decode cX2_addFlaw 72 = .ok (.iload_n 2, 1) := by decide +kernel
theorem dX2_addFlaw_73 : decode cX2_addFlaw 73 = .ok (.isub, 1) := by decide +kernel
theorem dX2_addFlaw_74 : decode cX2_addFlaw 74 = .ok (.invokestatic 58, 3) := by decide +kernel
theorem dX2_addFlaw_77 : decode cX2_addFlaw 77 = .ok (.iadd, 1) := by decide +kernel
theorem dX2_addFlaw_78 : decode cX2_addFlaw 78 = .ok (.iload 7, 2) := by decide +kernel
theorem dX2_addFlaw_80 : decode cX2_addFlaw 80 = .ok (.iload_n 3, 1) := by decide +kernel
theorem dX2_addFlaw_81 : decode cX2_addFlaw 81 = .ok (.isub, 1) := by decide +kernel
theorem dX2_addFlaw_82 : decode cX2_addFlaw 82 = .ok (.invokestatic 58, 3) := by decide +kernel
theorem dX2_addFlaw_85 : decode cX2_addFlaw 85 = .ok (.iadd, 1) := by decide +kernel
theorem dX2_addFlaw_86 : decode cX2_addFlaw 86 = .ok (.istore 10, 2) := by decide +kernel
theorem dX2_addFlaw_88 : decode cX2_addFlaw 88 = .ok (.iload 10, 2) := by decide +kernel
theorem dX2_addFlaw_90 : decode cX2_addFlaw 90 = .ok (.iload 4, 2) := by decide +kernel
theorem dX2_addFlaw_92 : decode cX2_addFlaw 92 = .ok (.if_icmp .gt 31, 3) := by decide +kernel
theorem dX2_addFlaw_95 : decode cX2_addFlaw 95 = .ok (.aload_n 0, 1) := by decide +kernel
theorem dX2_addFlaw_96 : decode cX2_addFlaw 96 = .ok (.iload 9, 2) := by decide +kernel
theorem dX2_addFlaw_98 : decode cX2_addFlaw 98 = .ok (.iload 8, 2) := by decide +kernel
theorem dX2_addFlaw_100 : decode cX2_addFlaw 100 = .ok (.iload 7, 2) := by decide +kernel
theorem dX2_addFlaw_102 : decode cX2_addFlaw 102 = .ok (.invokevirtual 43, 3) := by decide +kernel
theorem dX2_addFlaw_105 : decode cX2_addFlaw 105 = .ok (.ifCond .eq 18, 3) := by decide +kernel
theorem dX2_addFlaw_108 : decode cX2_addFlaw 108 = .ok (.aload 6, 2) := by decide +kernel
theorem dX2_addFlaw_110 : decode cX2_addFlaw 110 = .ok (.aload_n 0, 1) := by decide +kernel
theorem dX2_addFlaw_111 : decode cX2_addFlaw 111 = .ok (.iload 9, 2) := by decide +kernel
theorem dX2_addFlaw_113 : decode cX2_addFlaw 113 = .ok (.iload 8, 2) := by decide +kernel
theorem dX2_addFlaw_115 : decode cX2_addFlaw 115 = .ok (.iload 7, 2) := by decide +kernel
theorem dX2_addFlaw_117 : decode cX2_addFlaw 117 = .ok (.invokevirtual 47, 3) := by decide +kernel
theorem dX2_addFlaw_120 : decode cX2_addFlaw 120 = .ok (.invokevirtual 64, 3) := by decide +kernel
theorem dX2_addFlaw_123 : decode cX2_addFlaw 123 = .ok (.iinc 9 1, 3) := by decide +kernel
theorem dX2_addFlaw_126 : decode cX2_addFlaw 126 = .ok (.goto (-72), 3) := by decide +kernel
theorem dX2_addFlaw_129 : decode cX2_addFlaw 129 = .ok (.iinc 8 1, 3) := by decide +kernel
theorem dX2_addFlaw_132 : decode cX2_addFlaw 132 = .ok (.goto (-93), 3) := by decide +kernel
theorem dX2_addFlaw_135 : decode cX2_addFlaw 135 = .ok (.iinc 7 1, 3) := by decide +kernel
theorem dX2_addFlaw_138 : decode cX2_addFlaw 138 = .ok (.goto (-114), 3) := by decide +kernel
theorem dX2_addFlaw_141 : decode cX2_addFlaw 141 = .ok (.aload 6, 2) := by decide +kernel
theorem dX2_addFlaw_143 : decode cX2_addFlaw 143 = .ok (.aload_n 0, 1) := by decide +kernel
theorem dX2_addFlaw_144 : decode cX2_addFlaw 144 = .ok (.invokevirtual 67, 3) := by decide +kernel
theorem dX2_addFlaw_147 : decode cX2_addFlaw 147 = .ok (.aload_n 0, 1) := by decide +kernel
theorem dX2_addFlaw_148 : decode cX2_addFlaw 148 = .ok (.dup, 1) := by decide +kernel
theorem dX2_addFlaw_149 : decode cX2_addFlaw 149 = .ok (.getfield 36, 3) := by decide +kernel
theorem dX2_addFlaw_152 : decode cX2_addFlaw 152 = .ok (.iconst 1, 1) := by decide +kernel
theorem dX2_addFlaw_153 : decode cX2_addFlaw 153 = .ok (.iadd, 1) := by decide +kernel
theorem dX2_addFlaw_154 : decode cX2_addFlaw 154 = .ok (.putfield 36, 3) := by decide +kernel
theorem dX2_addFlaw_157 : decode cX2_addFlaw 157 = .ok (.return_, 1) := by decide +kernel
theorem dX3_init_0 : decode cX3_init 0 = .ok (.aload_n 0, 1) := by decide +kernel
theorem dX3_init_1 : decode cX3_init 1 = .ok (.invokespecial 3, 3) := by decide +kernel
theorem dX3_init_4 : decode cX3_init 4 = .ok (.aload_n 0, 1) := by decide +kernel
theorem dX3_init_5 : decode cX3_init 5 = .ok (.bipush 16, 2) := by decide +kernel
theorem dX3_init_7 : decode cX3_init 7 = .ok (.anewarray 9, 3) := by decide +kernel
theorem dX3_init_10 : decode cX3_init 10 = .ok (.putfield 11, 3) := by decide +kernel
theorem dX3_init_13 : decode cX3_init 13 = .ok (.aload_n 0, 1) := by decide +kernel
theorem dX3_init_14 : decode cX3_init 14 = .ok (.iload_n 1, 1) := by decide +kernel
theorem dX3_init_15 : decode cX3_init 15 = .ok (.putfield 17, 3) := by decide +kernel
theorem dX3_init_18 : decode cX3_init 18 = .ok (.iconst 0, 1) := by decide +kernel
theorem dX3_init_19 : decode cX3_init 19 = .ok (.istore_n 2, 1) := by decide +kernel
theorem dX3_init_20 : decode cX3_init 20 = .ok (.iload_n 2, 1) := by decide +kernel
theorem dX3_init_21 : decode cX3_init 21 = .ok (.bipush 16, 2) := by decide +kernel
theorem dX3_init_23 : decode cX3_init 23 = .ok (.if_icmp .ge 22, 3) := by decide +kernel
theorem dX3_init_26 : decode cX3_init 26 = .ok (.aload_n 0, 1) := by decide +kernel
theorem dX3_init_27 : decode cX3_init 27 = .ok (.getfield 11, 3) := by decide +kernel
theorem dX3_init_30 : decode cX3_init 30 = .ok (.iload_n 2, 1) := by decide +kernel
theorem dX3_init_31 : decode cX3_init 31 = .ok (.new 9, 3) := by decide +kernel
theorem dX3_init_34 : decode cX3_init 34 = .ok (.dup, 1) := by decide +kernel
theorem dX3_init_35 : decode cX3_init 35 = .ok (.invokespecial 21, 3) := by decide +kernel
theorem dX3_init_38 : decode cX3_init 38 = .ok (.aastore, 1) := by decide +kernel
theorem dX3_init_39 : decode cX3_init 39 = .ok (.iinc 2 1, 3) := by decide +kernel
theorem dX3_init_42 : decode cX3_init 42 = .ok (.goto (-22), 3) := by decide +kernel
theorem dX3_init_45 : decode cX3_init 45 = .ok (.return_, 1) := by decide +kernel
theorem dX3_dropPlanes_0 : decode cX3_dropPlanes 0 = .ok (.aload_n 0, 1) := by decide +kernel
theorem dX3_dropPlanes_1 : decode cX3_dropPlanes 1 = .ok (.iconst 0, 1) := by decide +kernel
theorem dX3_dropPlanes_2 : decode cX3_dropPlanes 2 = .ok (.putfield 22, 3) := by decide +kernel
theorem dX3_dropPlanes_5 : decode cX3_dropPlanes 5 = .ok (.return_, 1) := by decide +kernel
theorem dX3_forgetCells_0 : decode cX3_forgetCells 0 = .ok (.aload_n 0, 1) := by decide +kernel
theorem dX3_forgetCells_1 : decode cX3_forgetCells 1 = .ok (.iconst 0, 1) := by decide +kernel
theorem dX3_forgetCells_2 : decode cX3_forgetCells 2 = .ok (.putfield 25, 3) := by decide +kernel
theorem dX3_forgetCells_5 : decode cX3_forgetCells 5 = .ok (.aload_n 0, 1) := by decide +kernel
theorem dX3_forgetCells_6 : decode cX3_forgetCells 6 = .ok (.iconst 0, 1) := by decide +kernel
theorem dX3_forgetCells_7 : decode cX3_forgetCells 7 = .ok (.putfield 28, 3) := by decide +kernel
theorem dX3_forgetCells_10 : decode cX3_forgetCells 10 = .ok (.iconst 0, 1) := by decide +kernel
theorem dX3_forgetCells_11 : decode cX3_forgetCells 11 = .ok (.istore_n 1, 1) := by decide +kernel
theorem dX3_forgetCells_12 : decode cX3_forgetCells 12 = .ok (.iload_n 1, 1) := by decide +kernel
theorem dX3_forgetCells_13 : decode cX3_forgetCells 13 = .ok (.aload_n 0, 1) := by decide +kernel
theorem dX3_forgetCells_14 : decode cX3_forgetCells 14 = .ok (.getfield 22, 3) := by decide +kernel
theorem dX3_forgetCells_17 : decode cX3_forgetCells 17 = .ok (.if_icmp .ge 19, 3) := by decide +kernel
theorem dX3_forgetCells_20 : decode cX3_forgetCells 20 = .ok (.aload_n 0, 1) := by decide +kernel
theorem dX3_forgetCells_21 : decode cX3_forgetCells 21 = .ok (.getfield 11, 3) := by decide +kernel
theorem dX3_forgetCells_24 : decode cX3_forgetCells 24 = .ok (.iload_n 1, 1) := by decide +kernel
theorem dX3_forgetCells_25 : decode cX3_forgetCells 25 = .ok (.aaload, 1) := by decide +kernel
theorem dX3_forgetCells_26 : decode cX3_forgetCells 26 = .ok (.iconst 0, 1) := by decide +kernel
theorem dX3_forgetCells_27 : decode cX3_forgetCells 27 = .ok (.putfield 31, 3) := by decide +kernel
theorem dX3_forgetCells_30 : decode cX3_forgetCells 30 = .ok (.iinc 1 1, 3) := by decide +kernel
theorem dX3_forgetCells_33 : decode cX3_forgetCells 33 = .ok (.goto (-21), 3) := by decide +kernel
theorem dX3_forgetCells_36 : decode cX3_forgetCells 36 = .ok (.return_, 1) := by decide +kernel
theorem dX3_countCell_0 : decode cX3_countCell 0 = .ok (.aload_n 0, 1) := by decide +kernel
theorem dX3_countCell_1 : decode cX3_countCell 1 = .ok (.dup, 1) := by decide +kernel
theorem dX3_countCell_2 : decode cX3_countCell 2 = .ok (.getfield 25, 3) := by decide +kernel
theorem dX3_countCell_5 : decode cX3_countCell 5 = .ok (.iconst 1, 1) := by decide +kernel
theorem dX3_countCell_6 : decode cX3_countCell 6 = .ok (.iadd, 1) := by decide +kernel
theorem dX3_countCell_7 : decode cX3_countCell 7 = .ok (.putfield 25, 3) := by decide +kernel
theorem dX3_countCell_10 : decode cX3_countCell 10 = .ok (.aload_n 0, 1) := by decide +kernel
theorem dX3_countCell_11 : decode cX3_countCell 11 = .ok (.dup, 1) := by decide +kernel
theorem dX3_countCell_12 : decode cX3_countCell 12 = .ok (.getfield 28, 3) := by decide +kernel
theorem dX3_countCell_15 : decode cX3_countCell 15 = .ok (.iload 4, 2) := by decide +kernel
theorem dX3_countCell_17 : decode cX3_countCell 17 = .ok (.ifCond .eq 7, 3) := by decide +kernel
theorem dX3_countCell_20 : decode cX3_countCell 20 = .ok (.iconst 1, 1) := by decide +kernel
theorem dX3_countCell_21 : decode cX3_countCell 21 = .ok (.goto 4, 3) := by decide +kernel
theorem dX3_countCell_24 : decode cX3_countCell 24 = .ok (.iconst 0, 1) := by decide +kernel
theorem dX3_countCell_25 : decode cX3_countCell 25 = .ok (.iadd, 1) := by decide +kernel
theorem dX3_countCell_26 : decode cX3_countCell 26 = .ok (.putfield 28, 3) := by decide +kernel
theorem dX3_countCell_29 : decode cX3_countCell 29 = .ok (.iconst 0, 1) := by decide +kernel
theorem dX3_countCell_30 : decode cX3_countCell 30 = .ok (.istore 5, 2) := by decide +kernel
theorem dX3_countCell_32 : decode cX3_countCell 32 = .ok (.iload 5, 2) := by decide +kernel
theorem dX3_countCell_34 : decode cX3_countCell 34 = .ok (.aload_n 0, 1) := by decide +kernel
theorem dX3_countCell_35 : decode cX3_countCell 35 = .ok (.getfield 22, 3) := by decide +kernel
theorem dX3_countCell_38 : decode cX3_countCell 38 = .ok (.if_icmp .ge 41, 3) := by decide +kernel
theorem dX3_countCell_41 : decode cX3_countCell 41 = .ok (.aload_n 0, 1) := by decide +kernel
theorem dX3_countCell_42 : decode cX3_countCell 42 = .ok (.getfield 11, 3) := by decide +kernel
theorem dX3_countCell_45 : decode cX3_countCell 45 = .ok (.iload 5, 2) := by decide +kernel
theorem dX3_countCell_47 : decode cX3_countCell 47 = .ok (.aaload, 1) := by decide +kernel
theorem dX3_countCell_48 : decode cX3_countCell 48 = .ok (.iload_n 1, 1) := by decide +kernel
theorem dX3_countCell_49 : decode cX3_countCell 49 = .ok (.iload_n 2, 1) := by decide +kernel
theorem dX3_countCell_50 : decode cX3_countCell 50 = .ok (.iload_n 3, 1) := by decide +kernel
theorem dX3_countCell_51 : decode cX3_countCell 51 = .ok (.invokevirtual 34, 3) := by decide +kernel
theorem dX3_countCell_54 : decode cX3_countCell 54 = .ok (.ifCond .eq 19, 3) := by decide +kernel
theorem dX3_countCell_57 : decode cX3_countCell 57 = .ok (.aload_n 0, 1) := by decide +kernel
theorem dX3_countCell_58 : decode cX3_countCell 58 = .ok (.getfield 11, 3) := by decide +kernel
theorem dX3_countCell_61 : decode cX3_countCell 61 = .ok (.iload 5, 2) := by decide +kernel
theorem dX3_countCell_63 : decode cX3_countCell 63 = .ok (.aaload, 1) := by decide +kernel
theorem dX3_countCell_64 : decode cX3_countCell 64 = .ok (.dup, 1) := by decide +kernel
theorem dX3_countCell_65 : decode cX3_countCell 65 = .ok (.getfield 31, 3) := by decide +kernel
theorem dX3_countCell_68 : decode cX3_countCell 68 = .ok (.iconst 1, 1) := by decide +kernel
theorem dX3_countCell_69 : decode cX3_countCell 69 = .ok (.iadd, 1) := by decide +kernel
theorem dX3_countCell_70 : decode cX3_countCell 70 = .ok (.putfield 31, 3) := by decide +kernel
theorem dX3_countCell_73 : decode cX3_countCell 73 = .ok (.iinc 5 1, 3) := by decide +kernel
theorem dX3_countCell_76 : decode cX3_countCell 76 = .ok (.goto (-44), 3) := by decide +kernel
theorem dX3_countCell_79 : decode cX3_countCell 79 = .ok (.return_, 1) := by decide +kernel
theorem dX3_keep_0 : decode cX3_keep 0 = .ok (.aload_n 0, 1) := by decide +kernel
theorem dX3_keep_1 : decode cX3_keep 1 = .ok (.getfield 22, 3) := by decide +kernel
theorem dX3_keep_4 : decode cX3_keep 4 = .ok (.bipush 16, 2) := by decide +kernel
theorem dX3_keep_6 : decode cX3_keep 6 = .ok (.if_icmp .ge 30, 3) := by decide +kernel
theorem dX3_keep_9 : decode cX3_keep 9 = .ok (.aload_n 0, 1) := by decide +kernel
theorem dX3_keep_10 : decode cX3_keep 10 = .ok (.getfield 11, 3) := by decide +kernel
theorem dX3_keep_13 : decode cX3_keep 13 = .ok (.aload_n 0, 1) := by decide +kernel
theorem dX3_keep_14 : decode cX3_keep 14 = .ok (.getfield 22, 3) := by decide +kernel
theorem dX3_keep_17 : decode cX3_keep 17 = .ok (.aaload, 1) := by decide +kernel
theorem dX3_keep_18 : decode cX3_keep 18 = .ok (.iload_n 1, 1) := by decide +kernel
theorem dX3_keep_19 : decode cX3_keep 19 = .ok (.iload_n 2, 1) := by decide +kernel
theorem dX3_keep_20 : decode cX3_keep 20 = .ok (.iload_n 3, 1) := by decide +kernel
theorem dX3_keep_21 : decode cX3_keep 21 = .ok (.iload 4, 2) := by decide +kernel
theorem dX3_keep_23 : decode cX3_keep 23 = .ok (.invokevirtual 38, 3) := by decide +kernel
theorem dX3_keep_26 : decode cX3_keep 26 = .ok (.aload_n 0, 1) := by decide +kernel
theorem dX3_keep_27 : decode cX3_keep 27 = .ok (.dup, 1) := by decide +kernel
theorem dX3_keep_28 : decode cX3_keep 28 = .ok (.getfield 22, 3) := by decide +kernel
theorem dX3_keep_31 : decode cX3_keep 31 = .ok (.iconst 1, 1) := by decide +kernel
theorem dX3_keep_32 : decode cX3_keep 32 = .ok (.iadd, 1) := by decide +kernel
theorem dX3_keep_33 : decode cX3_keep 33 = .ok (.putfield 22, 3) := by decide +kernel
theorem dX3_keep_36 : decode cX3_keep 36 = .ok (.return_, 1) := by decide +kernel
theorem dX3_facets_0 : decode cX3_facets 0 = .ok (.iconst 0, 1) := by decide +kernel
theorem dX3_facets_1 : decode cX3_facets 1 = .ok (.istore_n 2, 1) := by decide +kernel
theorem dX3_facets_2 : decode cX3_facets 2 = .ok (.iconst 0, 1) := by decide +kernel
theorem dX3_facets_3 : decode cX3_facets 3 = .ok (.istore_n 3, 1) := by decide +kernel
theorem dX3_facets_4 : decode cX3_facets 4 = .ok (.iload_n 3, 1) := by decide +kernel
theorem dX3_facets_5 : decode cX3_facets 5 = .ok (.aload_n 0, 1) := by decide +kernel
theorem dX3_facets_6 : decode cX3_facets 6 = .ok (.getfield 22, 3) := by decide +kernel
theorem dX3_facets_9 : decode cX3_facets 9 = .ok (.if_icmp .ge 40, 3) := by decide +kernel
theorem dX3_facets_12 : decode cX3_facets 12 = .ok (.aload_n 0, 1) := by decide +kernel
theorem dX3_facets_13 : decode cX3_facets 13 = .ok (.getfield 11, 3) := by decide +kernel
theorem dX3_facets_16 : decode cX3_facets 16 = .ok (.iload_n 3, 1) := by decide +kernel
theorem dX3_facets_17 : decode cX3_facets 17 = .ok (.aaload, 1) := by decide +kernel
theorem dX3_facets_18 : decode cX3_facets 18 = .ok (.invokevirtual 42, 3) := by decide +kernel
theorem dX3_facets_21 : decode cX3_facets 21 = .ok (.ifCond .eq 22, 3) := by decide +kernel
theorem dX3_facets_24 : decode cX3_facets 24 = .ok (.aload_n 0, 1) := by decide +kernel
theorem dX3_facets_25 : decode cX3_facets 25 = .ok (.getfield 11, 3) := by decide +kernel
theorem dX3_facets_28 : decode cX3_facets 28 = .ok (.iload_n 3, 1) := by decide +kernel
theorem dX3_facets_29 : decode cX3_facets 29 = .ok (.aaload, 1) := by decide +kernel
theorem dX3_facets_30 : decode cX3_facets 30 = .ok (.getfield 46, 3) := by decide +kernel
theorem dX3_facets_33 : decode cX3_facets 33 = .ok (.ifCond .ne 7, 3) := by decide +kernel
theorem dX3_facets_36 : decode cX3_facets 36 = .ok (.iload_n 1, 1) := by decide +kernel
theorem dX3_facets_37 : decode cX3_facets 37 = .ok (.ifCond .ne 6, 3) := by decide +kernel
theorem dX3_facets_40 : decode cX3_facets 40 = .ok (.iinc 2 1, 3) := by decide +kernel
theorem dX3_facets_43 : decode cX3_facets 43 = .ok (.iinc 3 1, 3) := by decide +kernel
theorem dX3_facets_46 : decode cX3_facets 46 = .ok (.goto (-42), 3) := by decide +kernel
theorem dX3_facets_49 : decode cX3_facets 49 = .ok (.iload_n 2, 1) := by decide +kernel
theorem dX3_facets_50 : decode cX3_facets 50 = .ok (.ireturn, 1) := by decide +kernel
theorem dX3_oppositePairs_0 : decode cX3_oppositePairs 0 = .ok (.iconst 0, 1) := by decide +kernel
theorem dX3_oppositePairs_1 : decode cX3_oppositePairs 1 = .ok (.istore_n 1, 1) := by decide +kernel
theorem dX3_oppositePairs_2 : decode cX3_oppositePairs 2 = .ok (.iconst 0, 1) := by decide +kernel
theorem dX3_oppositePairs_3 : decode cX3_oppositePairs 3 = .ok (.istore_n 2, 1) := by decide +kernel
theorem dX3_oppositePairs_4 : decode cX3_oppositePairs 4 = .ok (.iload_n 2, 1) := by decide +kernel
theorem dX3_oppositePairs_5 : decode cX3_oppositePairs 5 = .ok (.aload_n 0, 1) := by decide +kernel
theorem dX3_oppositePairs_6 : decode cX3_oppositePairs 6 = .ok (.getfield 22, 3) := by decide +kernel
theorem dX3_oppositePairs_9 : decode cX3_oppositePairs 9 = .ok (.if_icmp .ge 72, 3) := by decide +kernel
theorem dX3_oppositePairs_12 : decode cX3_oppositePairs 12 = .ok (.iload_n 2, 1) := by decide +kernel
theorem dX3_oppositePairs_13 : decode cX3_oppositePairs 13 = .ok (.iconst 1, 1) := by decide +kernel
theorem dX3_oppositePairs_14 : decode cX3_oppositePairs 14 = .ok (.iadd, 1) := by decide +kernel
theorem dX3_oppositePairs_15 : decode cX3_oppositePairs 15 = .ok (.istore_n 3, 1) := by decide +kernel
theorem dX3_oppositePairs_16 : decode cX3_oppositePairs 16 = .ok (.iload_n 3, 1) := by decide +kernel
theorem dX3_oppositePairs_17 : decode cX3_oppositePairs 17 = .ok (.aload_n 0, 1) := by decide +kernel
theorem dX3_oppositePairs_18 : decode cX3_oppositePairs 18 = .ok (.getfield 22, 3) := by decide +kernel
theorem dX3_oppositePairs_21 : decode cX3_oppositePairs 21 = .ok (.if_icmp .ge 54, 3) := by decide +kernel
theorem dX3_oppositePairs_24 : decode cX3_oppositePairs 24 = .ok (.aload_n 0, 1) := by decide +kernel
theorem dX3_oppositePairs_25 : decode cX3_oppositePairs 25 = .ok (.getfield 11, 3) := by decide +kernel
theorem dX3_oppositePairs_28 : decode cX3_oppositePairs 28 = .ok (.iload_n 2, 1) := by decide +kernel
theorem dX3_oppositePairs_29 : decode cX3_oppositePairs 29 = .ok (.aaload, 1) := by decide +kernel
theorem dX3_oppositePairs_30 : decode cX3_oppositePairs 30 = .ok (.invokevirtual 42, 3) := by decide +kernel
theorem dX3_oppositePairs_33 : decode cX3_oppositePairs 33 = .ok (.ifCond .eq 36, 3) := by decide +kernel
theorem dX3_oppositePairs_36 : decode cX3_oppositePairs 36 = .ok (.aload_n 0, 1) := by decide +kernel
theorem dX3_oppositePairs_37 : decode cX3_oppositePairs 37 = .ok (.getfield 11, 3) := by decide +kernel
theorem dX3_oppositePairs_40 : decode cX3_oppositePairs 40 = .ok (.iload_n 3, 1) := by decide +kernel
theorem dX3_oppositePairs_41 : decode cX3_oppositePairs 41 = .ok (.aaload, 1) := by decide +kernel
theorem dX3_oppositePairs_42 : decode cX3_oppositePairs 42 = .ok (.invokevirtual 42, 3) := by decide +kernel
theorem dX3_oppositePairs_45 : decode cX3_oppositePairs 45 = .ok (.ifCond .eq 24, 3) := by decide +kernel
theorem dX3_oppositePairs_48 : decode cX3_oppositePairs 48 = .ok (.aload_n 0, 1) := by decide +kernel
theorem dX3_oppositePairs_49 : decode cX3_oppositePairs 49 = .ok (.getfield 11, 3) := by decide +kernel
theorem dX3_oppositePairs_52 : decode cX3_oppositePairs 52 = .ok (.iload_n 2, 1) := by decide +kernel
theorem dX3_oppositePairs_53 : decode cX3_oppositePairs 53 = .ok (.aaload, 1) := by decide +kernel
theorem dX3_oppositePairs_54 : decode cX3_oppositePairs 54 = .ok (.aload_n 0, 1) := by decide +kernel
theorem dX3_oppositePairs_55 : decode cX3_oppositePairs 55 = .ok (.getfield 11, 3) := by decide +kernel
theorem dX3_oppositePairs_58 : decode cX3_oppositePairs 58 = .ok (.iload_n 3, 1) := by decide +kernel
theorem dX3_oppositePairs_59 : decode cX3_oppositePairs 59 = .ok (.aaload, 1) := by decide +kernel
theorem dX3_oppositePairs_60 : decode cX3_oppositePairs 60 = .ok (.invokevirtual 50, 3) := by decide +kernel
theorem dX3_oppositePairs_63 : decode cX3_oppositePairs 63 = .ok (.ifCond .eq 6, 3) := by decide +kernel
theorem dX3_oppositePairs_66 : decode cX3_oppositePairs 66 = .ok (.iinc 1 1, 3) := by decide +kernel
theorem dX3_oppositePairs_69 : decode cX3_oppositePairs 69 = .ok (.iinc 3 1, 3) := by decide +kernel
theorem dX3_oppositePairs_72 : decode cX3_oppositePairs 72 = .ok (.goto (-56), 3) := by decide +kernel
theorem dX3_oppositePairs_75 : decode cX3_oppositePairs 75 = .ok (.iinc 2 1, 3) := by decide +kernel
theorem dX3_oppositePairs_78 : decode cX3_oppositePairs 78 = .ok (.goto (-74), 3) := by decide +kernel
theorem dX3_oppositePairs_81 : decode cX3_oppositePairs 81 = .ok (.iload_n 1, 1) := by decide +kernel
theorem dX3_oppositePairs_82 : decode cX3_oppositePairs 82 = .ok (.ireturn, 1) := by decide +kernel
theorem dX4_init_0 : decode cX4_init 0 = .ok (.aload_n 0, 1) := by decide +kernel
theorem dX4_init_1 : decode cX4_init 1 = .ok (.invokespecial 3, 3) := by decide +kernel
theorem dX4_init_4 : decode cX4_init 4 = .ok (.aload_n 0, 1) := by decide +kernel
theorem dX4_init_5 : decode cX4_init 5 = .ok (.new 9, 3) := by decide +kernel
theorem dX4_init_8 : decode cX4_init 8 = .ok (.dup, 1) := by decide +kernel
theorem dX4_init_9 : decode cX4_init 9 = .ok (.invokespecial 11, 3) := by decide +kernel
theorem dX4_init_12 : decode cX4_init 12 = .ok (.putfield 12, 3) := by decide +kernel
theorem dX4_init_15 : decode cX4_init 15 = .ok (.aload_n 0, 1) := by decide +kernel
theorem dX4_init_16 : decode cX4_init 16 = .ok (.sipush 1000, 3) := by decide +kernel
theorem dX4_init_19 : decode cX4_init 19 = .ok (.newarray .int, 2) := by decide +kernel
theorem dX4_init_21 : decode cX4_init 21 = .ok (.putfield 18, 3) := by decide +kernel
theorem dX4_init_24 : decode cX4_init 24 = .ok (.aload_n 0, 1) := by decide +kernel
theorem dX4_init_25 : decode cX4_init 25 = .ok (.sipush 163, 3) := by decide +kernel
theorem dX4_init_28 : decode cX4_init 28 = .ok (.newarray .int, 2) := by decide +kernel
theorem dX4_init_30 : decode cX4_init 30 = .ok (.putfield 22, 3) := by decide +kernel
theorem dX4_init_33 : decode cX4_init 33 = .ok (.aload_n 0, 1) := by decide +kernel
theorem dX4_init_34 : decode cX4_init 34 = .ok (.bipush 16, 2) := by decide +kernel
theorem dX4_init_36 : decode cX4_init 36 = .ok (.newarray .int, 2) := by decide +kernel
theorem dX4_init_38 : decode cX4_init 38 = .ok (.putfield 25, 3) := by decide +kernel
theorem dX4_init_41 : decode cX4_init 41 = .ok (.aload_n 0, 1) := by decide +kernel
theorem dX4_init_42 : decode cX4_init 42 = .ok (.aload_n 1, 1) := by decide +kernel
theorem dX4_init_43 : decode cX4_init 43 = .ok (.putfield 28, 3) := by decide +kernel
theorem dX4_init_46 : decode cX4_init 46 = .ok (.aload_n 0, 1) := by decide +kernel
theorem dX4_init_47 : decode cX4_init 47 = .ok (.aload_n 2, 1) := by decide +kernel
theorem dX4_init_48 : decode cX4_init 48 = .ok (.putfield 32, 3) := by decide +kernel
theorem dX4_init_51 : decode cX4_init 51 = .ok (.return_, 1) := by decide +kernel
theorem dX4_level_0 : decode cX4_level 0 = .ok (.aload_n 0, 1) := by decide +kernel
theorem dX4_level_1 : decode cX4_level 1 = .ok (.aload_n 1, 1) := by decide +kernel
theorem dX4_level_2 : decode cX4_level 2 = .ok (.putfield 32, 3) := by decide +kernel
theorem dX4_level_5 : decode cX4_level 5 = .ok (.aload_n 0, 1) := by decide +kernel
theorem dX4_level_6 : decode cX4_level 6 = .ok (.getfield 12, 3) := by decide +kernel
theorem dX4_level_9 : decode cX4_level 9 = .ok (.iload_n 2, 1) := by decide +kernel
theorem dX4_level_10 : decode cX4_level 10 = .ok (.iload_n 3, 1) := by decide +kernel
theorem dX4_level_11 : decode cX4_level 11 = .ok (.iload 4, 2) := by decide +kernel
theorem dX4_level_13 : decode cX4_level 13 = .ok (.iconst 0, 1) := by decide +kernel
theorem dX4_level_14 : decode cX4_level 14 = .ok (.invokevirtual 36, 3) := by decide +kernel
theorem dX4_level_17 : decode cX4_level 17 = .ok (.iconst 0, 1) := by decide +kernel
theorem dX4_level_18 : decode cX4_level 18 = .ok (.istore 5, 2) := by decide +kernel
theorem dX4_level_20 : decode cX4_level 20 = .ok (.iload 5, 2) := by decide +kernel
theorem dX4_level_22 : decode cX4_level 22 = .ok (.aload_n 0, 1) := by decide +kernel
theorem dX4_level_23 : decode cX4_level 23 = .ok (.getfield 22, 3) := by decide +kernel
theorem dX4_level_26 : decode cX4_level 26 = .ok (.arraylength, 1) := by decide +kernel
theorem dX4_level_27 : decode cX4_level 27 = .ok (.if_icmp .ge 17, 3) := by decide +kernel
theorem dX4_level_30 : decode cX4_level 30 = .ok (.aload_n 0, 1) := by decide +kernel
theorem dX4_level_31 : decode cX4_level 31 = .ok (.getfield 22, 3) := by decide +kernel
theorem dX4_level_34 : decode cX4_level 34 = .ok (.iload 5, 2) := by decide +kernel
theorem dX4_level_36 : decode cX4_level 36 = .ok (.iconst 0, 1) := by decide +kernel
theorem dX4_level_37 : decode cX4_level 37 = .ok (.iastore, 1) := by decide +kernel
theorem dX4_level_38 : decode cX4_level 38 = .ok (.iinc 5 1, 3) := by decide +kernel
theorem dX4_level_41 : decode cX4_level 41 = .ok (.goto (-21), 3) := by decide +kernel
theorem dX4_level_44 : decode cX4_level 44 = .ok (.iconst 0, 1) := by decide +kernel
theorem dX4_level_45 : decode cX4_level 45 = .ok (.istore 5, 2) := by decide +kernel
theorem dX4_level_47 : decode cX4_level 47 = .ok (.iconst 0, 1) := by decide +kernel
theorem dX4_level_48 : decode cX4_level 48 = .ok (.istore 6, 2) := by decide +kernel
theorem dX4_level_50 : decode cX4_level 50 = .ok (.iload 6, 2) := by decide +kernel
theorem dX4_level_52 : decode cX4_level 52 = .ok (.aload_n 0, 1) := by decide +kernel
theorem dX4_level_53 : decode cX4_level 53 = .ok (.getfield 28, 3) := by decide +kernel
theorem dX4_level_56 : decode cX4_level 56 = .ok (.getfield 40, 3) := by decide +kernel
theorem dX4_level_59 : decode cX4_level 59 = .ok (.if_icmp .ge 73, 3) := by decide +kernel
theorem dX4_level_62 : decode cX4_level 62 = .ok (.iconst 0, 1) := by decide +kernel
theorem dX4_level_63 : decode cX4_level 63 = .ok (.istore 7, 2) := by decide +kernel
theorem dX4_level_65 : decode cX4_level 65 = .ok (.iload 7, 2) := by decide +kernel
theorem dX4_level_67 : decode cX4_level 67 = .ok (.aload_n 0, 1) := by decide +kernel
theorem dX4_level_68 : decode cX4_level 68 = .ok (.getfield 28, 3) := by decide +kernel
theorem dX4_level_71 : decode cX4_level 71 = .ok (.getfield 46, 3) := by decide +kernel
theorem dX4_level_74 : decode cX4_level 74 = .ok (.if_icmp .ge 52, 3) := by decide +kernel
theorem dX4_level_77 : decode cX4_level 77 = .ok (.iconst 0, 1) := by decide +kernel
theorem dX4_level_78 : decode cX4_level 78 = .ok (.istore 8, 2) := by decide +kernel
theorem dX4_level_80 : decode cX4_level 80 = .ok (.iload 8, 2) := by decide +kernel
theorem dX4_level_82 : decode cX4_level 82 = .ok (.aload_n 0, 1) := by decide +kernel
theorem dX4_level_83 : decode cX4_level 83 = .ok (.getfield 28, 3) := by decide +kernel
theorem dX4_level_86 : decode cX4_level 86 = .ok (.getfield 49, 3) := by decide +kernel
theorem dX4_level_89 : decode cX4_level 89 = .ok (.if_icmp .ge 31, 3) := by decide +kernel
theorem dX4_level_92 : decode cX4_level 92 = .ok (.aload_n 0, 1) := by decide +kernel
theorem dX4_level_93 : decode cX4_level 93 = .ok (.iload 5, 2) := by decide +kernel
theorem dX4_level_95 : decode cX4_level 95 = .ok (.aload_n 0, 1) := by decide +kernel
theorem dX4_level_96 : decode cX4_level 96 = .ok (.getfield 12, 3) := by decide +kernel
theorem dX4_level_99 : decode cX4_level 99 = .ok (.iload 8, 2) := by decide +kernel
theorem dX4_level_101 : decode cX4_level 101 = .ok (.iload 7, 2) := by decide +kernel
theorem dX4_level_103 : decode cX4_level 103 = .ok (.iload 6, 2) := by decide +kernel
theorem dX4_level_105 : decode cX4_level 105 = .ok (.invokevirtual 52, 3) := by decide +kernel
theorem dX4_level_108 : decode cX4_level 108 = .ok (.invokevirtual 56, 3) := by decide +kernel
theorem dX4_level_111 : decode cX4_level 111 = .ok (.iinc 5 1, 3) := by decide +kernel
theorem dX4_level_114 : decode cX4_level 114 = .ok (.iinc 8 1, 3) := by decide +kernel
theorem dX4_level_117 : decode cX4_level 117 = .ok (.goto (-37), 3) := by decide +kernel
theorem dX4_level_120 : decode cX4_level 120 = .ok (.iinc 7 1, 3) := by decide +kernel
theorem dX4_level_123 : decode cX4_level 123 = .ok (.goto (-58), 3) := by decide +kernel
theorem dX4_level_126 : decode cX4_level 126 = .ok (.iinc 6 1, 3) := by decide +kernel
theorem dX4_level_129 : decode cX4_level 129 = .ok (.goto (-79), 3) := by decide +kernel
theorem dX4_level_132 : decode cX4_level 132 = .ok (.iconst 1, 1) := by decide +kernel
theorem dX4_level_133 : decode cX4_level 133 = .ok (.istore 6, 2) := by decide +kernel
theorem dX4_level_135 : decode cX4_level 135 = .ok (.iload 6, 2) := by decide +kernel
theorem dX4_level_137 : decode cX4_level 137 = .ok (.aload_n 0, 1) := by decide +kernel
theorem dX4_level_138 : decode cX4_level 138 = .ok (.getfield 22, 3) := by decide +kernel
theorem dX4_level_141 : decode cX4_level 141 = .ok (.arraylength, 1) := by decide +kernel
theorem dX4_level_142 : decode cX4_level 142 = .ok (.if_icmp .ge 28, 3) := by decide +kernel
theorem dX4_level_145 : decode cX4_level 145 = .ok (.aload_n 0, 1) := by decide +kernel
theorem dX4_level_146 : decode cX4_level 146 = .ok (.getfield 22, 3) := by decide +kernel
theorem dX4_level_149 : decode cX4_level 149 = .ok (.iload 6, 2) := by decide +kernel
theorem dX4_level_151 : decode cX4_level 151 = .ok (.dup2, 1) := by decide +kernel
theorem dX4_level_152 : decode cX4_level 152 = .ok (.iaload, 1) := by decide +kernel
theorem dX4_level_153 : decode cX4_level 153 = .ok (.aload_n 0, 1) := by decide +kernel
theorem dX4_level_154 : decode cX4_level 154 = .ok (.getfield 22, 3) := by decide +kernel
theorem dX4_level_157 : decode cX4_level 157 = .ok (.iload 6, 2) := by decide +kernel
theorem dX4_level_159 : decode cX4_level 159 = .ok (.iconst 1, 1) := by decide +kernel
theorem dX4_level_160 : decode cX4_level 160 = .ok (.isub, 1) := by decide +kernel
theorem dX4_level_161 : decode cX4_level 161 = .ok (.iaload, 1) := by decide +kernel
theorem dX4_level_162 : decode cX4_level 162 = .ok (.iadd, 1) := by decide +kernel
theorem dX4_level_163 : decode cX4_level 163 = .ok (.iastore, 1) := by decide +kernel
theorem dX4_level_164 : decode cX4_level 164 = .ok (.iinc 6 1, 3) := by decide +kernel
theorem dX4_level_167 : decode cX4_level 167 = .ok (.goto (-32), 3) := by decide +kernel
theorem dX4_level_170 : decode cX4_level 170 = .ok (.return_, 1) := by decide +kernel
theorem dX4_levelCell_0 : decode cX4_levelCell 0 = .ok (.aload_n 0, 1) := by decide +kernel
theorem dX4_levelCell_1 : decode cX4_levelCell 1 = .ok (.getfield 18, 3) := by decide +kernel
theorem dX4_levelCell_4 : decode cX4_levelCell 4 = .ok (.iload_n 1, 1) := by decide +kernel
theorem dX4_levelCell_5 : decode cX4_levelCell 5 = .ok (.iload_n 2, 1) := by decide +kernel
theorem dX4_levelCell_6 : decode cX4_levelCell 6 = .ok (.iastore, 1) := by decide +kernel
theorem dX4_levelCell_7 : decode cX4_levelCell 7 = .ok (.aload_n 0, 1) := by decide +kernel
theorem dX4_levelCell_8 : decode cX4_levelCell 8 = .ok (.getfield 28, 3) := by decide +kernel
theorem dX4_levelCell_11 : decode cX4_levelCell 11 = .ok (.getfield 60, 3) := by decide +kernel
theorem dX4_levelCell_14 : decode cX4_levelCell 14 = .ok (.iload_n 1, 1) := by decide +kernel
theorem dX4_levelCell_15 : decode cX4_levelCell 15 = .ok (.iaload, 1) := by decide +kernel
theorem dX4_levelCell_16 : decode cX4_levelCell 16 = .ok (.aload_n 0, 1) := by decide +kernel
theorem dX4_levelCell_17 : decode cX4_levelCell 17 = .ok (.getfield 32, 3) := by decide +kernel
theorem dX4_levelCell_20 : decode cX4_levelCell 20 = .ok (.getfield 63, 3) := by decide +kernel
theorem dX4_levelCell_23 : decode cX4_levelCell 23 = .ok (.if_icmp .ne 28, 3) := by decide +kernel
theorem dX4_levelCell_26 : decode cX4_levelCell 26 = .ok (.iload_n 2, 1) := by decide +kernel
theorem dX4_levelCell_27 : decode cX4_levelCell 27 = .ok (.bipush (-81), 2) := by decide +kernel
theorem dX4_levelCell_29 : decode cX4_levelCell 29 = .ok (.if_icmp .lt 22, 3) := by decide +kernel
theorem dX4_levelCell_32 : decode cX4_levelCell 32 = .ok (.iload_n 2, 1) := by decide +kernel
theorem dX4_levelCell_33 : decode cX4_levelCell 33 = .ok (.bipush 81, 2) := by decide +kernel
theorem dX4_levelCell_35 : decode cX4_levelCell 35 = .ok (.if_icmp .gt 16, 3) := by decide +kernel
theorem dX4_levelCell_38 : decode cX4_levelCell 38 = .ok (.aload_n 0, 1) := by decide +kernel
theorem dX4_levelCell_39 : decode cX4_levelCell 39 = .ok (.getfield 22, 3) := by decide +kernel
theorem dX4_levelCell_42 : decode cX4_levelCell 42 = .ok (.iload_n 2, 1) := by decide +kernel
theorem dX4_levelCell_43 : decode cX4_levelCell 43 = .ok (.bipush 81, 2) := by decide +kernel
theorem dX4_levelCell_45 : decode cX4_levelCell 45 = .ok (.iadd, 1) := by decide +kernel
theorem dX4_levelCell_46 : decode cX4_levelCell 46 = .ok (.dup2, 1) := by decide +kernel
theorem dX4_levelCell_47 : decode cX4_levelCell 47 = .ok (.iaload, 1) := by decide +kernel
theorem dX4_levelCell_48 : decode cX4_levelCell 48 = .ok (.iconst 1, 1) := by decide +kernel
theorem dX4_levelCell_49 : decode cX4_levelCell 49 = .ok (.iadd, 1) := by decide +kernel
theorem dX4_levelCell_50 : decode cX4_levelCell 50 = .ok (.iastore, 1) := by decide +kernel
theorem dX4_levelCell_51 : decode cX4_levelCell 51 = .ok (.return_, 1) := by decide +kernel
theorem dX4_aim_0 : decode cX4_aim 0 = .ok (.aload_n 0, 1) := by decide +kernel
theorem dX4_aim_1 : decode cX4_aim 1 = .ok (.aload_n 1, 1) := by decide +kernel
theorem dX4_aim_2 : decode cX4_aim 2 = .ok (.iload_n 2, 1) := by decide +kernel
theorem dX4_aim_3 : decode cX4_aim 3 = .ok (.iload_n 3, 1) := by decide +kernel
theorem dX4_aim_4 : decode cX4_aim 4 = .ok (.iload 4, 2) := by decide +kernel
theorem dX4_aim_6 : decode cX4_aim 6 = .ok (.invokevirtual 68, 3) := by decide +kernel
theorem dX4_aim_9 : decode cX4_aim 9 = .ok (.iconst 0, 1) := by decide +kernel
theorem dX4_aim_10 : decode cX4_aim 10 = .ok (.istore 5, 2) := by decide +kernel
theorem dX4_aim_12 : decode cX4_aim 12 = .ok (.iload 5, 2) := by decide +kernel
theorem dX4_aim_14 : decode cX4_aim 14 = .ok (.bipush 16, 2) := by decide +kernel
theorem dX4_aim_16 : decode cX4_aim 16 = .ok (.if_icmp .ge 19, 3) := by decide +kernel
theorem dX4_aim_19 : decode cX4_aim 19 = .ok (.aload_n 0, 1) := by decide +kernel
theorem dX4_aim_20 : decode cX4_aim 20 = .ok (.getfield 25, 3) := by decide +kernel
theorem dX4_aim_23 : decode cX4_aim 23 = .ok (.iload 5, 2) := by decide +kernel
theorem dX4_aim_25 : decode cX4_aim 25 = .ok (.sipush 1000, 3) := by decide +kernel
theorem dX4_aim_28 : decode cX4_aim 28 = .ok (.iastore, 1) := by decide +kernel
theorem dX4_aim_29 : decode cX4_aim 29 = .ok (.iinc 5 1, 3) := by decide +kernel
theorem dX4_aim_32 : decode cX4_aim 32 = .ok (.goto (-20), 3) := by decide +kernel
theorem dX4_aim_35 : decode cX4_aim 35 = .ok (.iconst 0, 1) := by decide +kernel
theorem dX4_aim_36 : decode cX4_aim 36 = .ok (.istore 5, 2) := by decide +kernel
theorem dX4_aim_38 : decode cX4_aim 38 = .ok (.iconst 0, 1) := by decide +kernel
theorem dX4_aim_39 : decode cX4_aim 39 = .ok (.istore 6, 2) := by decide +kernel
theorem dX4_aim_41 : decode cX4_aim 41 = .ok (.iload 6, 2) := by decide +kernel
theorem dX4_aim_43 : decode cX4_aim 43 = .ok (.aload_n 0, 1) := by decide +kernel
theorem dX4_aim_44 : decode cX4_aim 44 = .ok (.getfield 28, 3) := by decide +kernel
theorem dX4_aim_47 : decode cX4_aim 47 = .ok (.getfield 40, 3) := by decide +kernel
theorem dX4_aim_50 : decode cX4_aim 50 = .ok (.if_icmp .ge 91, 3) := by decide +kernel
theorem dX4_aim_53 : decode cX4_aim 53 = .ok (.iconst 0, 1) := by decide +kernel
theorem dX4_aim_54 : decode cX4_aim 54 = .ok (.istore 7, 2) := by decide +kernel
theorem dX4_aim_56 : decode cX4_aim 56 = .ok (.iload 7, 2) := by decide +kernel
theorem dX4_aim_58 : decode cX4_aim 58 = .ok (.aload_n 0, 1) := by decide +kernel
theorem dX4_aim_59 : decode cX4_aim 59 = .ok (.getfield 28, 3) := by decide +kernel
theorem dX4_aim_62 : decode cX4_aim 62 = .ok (.getfield 46, 3) := by decide +kernel
theorem dX4_aim_65 : decode cX4_aim 65 = .ok (.if_icmp .ge 70, 3) := by decide +kernel
theorem dX4_aim_68 : decode cX4_aim 68 = .ok (.iconst 0, 1) := by decide +kernel
theorem dX4_aim_69 : decode cX4_aim 69 = .ok (.istore 8, 2) := by decide +kernel
theorem dX4_aim_71 : decode cX4_aim 71 = .ok (.iload 8, 2) := by decide +kernel
theorem dX4_aim_73 : decode cX4_aim 73 = .ok (.aload_n 0, 1) := by decide +kernel
theorem dX4_aim_74 : decode cX4_aim 74 = .ok (.getfield 28, 3) := by decide +kernel
theorem dX4_aim_77 : decode cX4_aim 77 = .ok (.getfield 49, 3) := by decide +kernel
theorem dX4_aim_80 : decode cX4_aim 80 = .ok (.if_icmp .ge 49, 3) := by decide +kernel
theorem dX4_aim_83 : decode cX4_aim 83 = .ok (.aload_n 0, 1) := by decide +kernel
theorem dX4_aim_84 : decode cX4_aim 84 = .ok (.getfield 28, 3) := by decide +kernel
theorem dX4_aim_87 : decode cX4_aim 87 = .ok (.getfield 60, 3) := by decide +kernel
theorem dX4_aim_90 : decode cX4_aim 90 = .ok (.iload 5, 2) := by decide +kernel
theorem dX4_aim_92 : decode cX4_aim 92 = .ok (.iaload, 1) := by decide +kernel
theorem dX4_aim_93 : decode cX4_aim 93 = .ok (.aload_n 0, 1) := by decide +kernel
theorem dX4_aim_94 : decode cX4_aim 94 = .ok (.getfield 32, 3) := by decide +kernel
theorem dX4_aim_97 : decode cX4_aim 97 = .ok (.getfield 63, 3) := by decide +kernel
theorem dX4_aim_100 : decode cX4_aim 100 = .ok (.if_icmp .ne 20, 3) := by decide +kernel
theorem dX4_aim_103 : decode cX4_aim 103 = .ok (.aload_n 0, 1) := by decide +kernel
theorem dX4_aim_104 : decode cX4_aim 104 = .ok (.aload_n 0, 1) := by decide +kernel
theorem dX4_aim_105 : decode cX4_aim 105 = .ok (.getfield 18, 3) := by decide +kernel
theorem dX4_aim_108 : decode cX4_aim 108 = .ok (.iload 5, 2) := by decide +kernel
theorem dX4_aim_110 : decode cX4_aim 110 = .ok (.iaload, 1) := by decide +kernel
theorem dX4_aim_111 : decode cX4_aim 111 = .ok (.iload 8, 2) := by decide +kernel
theorem dX4_aim_113 : decode cX4_aim 113 = .ok (.iload 7, 2) := by decide +kernel
theorem dX4_aim_115 : decode cX4_aim 115 = .ok (.iload 6, 2) := by decide +kernel
theorem dX4_aim_117 : decode cX4_aim 117 = .ok (.invokevirtual 72, 3) := by decide +kernel
theorem dX4_aim_120 : decode cX4_aim 120 = .ok (.iinc 5 1, 3) := by decide +kernel
theorem dX4_aim_123 : decode cX4_aim 123 = .ok (.iinc 8 1, 3) := by decide +kernel
theorem dX4_aim_126 : decode cX4_aim 126 = .ok (.goto (-55), 3) := by decide +kernel
theorem dX4_aim_129 : decode cX4_aim 129 = .ok (.iinc 7 1, 3) := by decide +kernel
theorem dX4_aim_132 : decode cX4_aim 132 = .ok (.goto (-76), 3) := by decide +kernel
theorem dX4_aim_135 : decode cX4_aim 135 = .ok (.iinc 6 1, 3) := by decide +kernel
theorem dX4_aim_138 : decode cX4_aim 138 = .ok (.goto (-97), 3) := by decide +kernel
theorem dX4_aim_141 : decode cX4_aim 141 = .ok (.return_, 1) := by decide +kernel
theorem dX4_lowerFloors_0 : decode cX4_lowerFloors 0 = .ok (.iconst 0, 1) := by decide +kernel
theorem dX4_lowerFloors_1 : decode cX4_lowerFloors 1 = .ok (.istore 5, 2) := by decide +kernel
theorem dX4_lowerFloors_3 : decode cX4_lowerFloors 3 = .ok (.iload 5, 2) := by decide +kernel
theorem dX4_lowerFloors_5 : decode cX4_lowerFloors 5 = .ok (.aload_n 0, 1) := by decide +kernel
theorem dX4_lowerFloors_6 : decode cX4_lowerFloors 6 = .ok (.getfield 32, 3) := by decide +kernel
theorem dX4_lowerFloors_9 : decode cX4_lowerFloors 9 = .ok (.getfield 75, 3) := by decide +kernel
theorem dX4_lowerFloors_12 : decode cX4_lowerFloors 12 = .ok (.if_icmp .ge 48, 3) := by decide +kernel
theorem dX4_lowerFloors_15 : decode cX4_lowerFloors 15 = .ok (.iload_n 1, 1) := by decide +kernel
theorem dX4_lowerFloors_16 : decode cX4_lowerFloors 16 = .ok (.aload_n 0, 1) := by decide +kernel
theorem dX4_lowerFloors_17 : decode cX4_lowerFloors 17 = .ok (.getfield 25, 3) := by decide +kernel
theorem dX4_lowerFloors_20 : decode cX4_lowerFloors 20 = .ok (.iload 5, 2) := by decide +kernel
theorem dX4_lowerFloors_22 : decode cX4_lowerFloors 22 = .ok (.iaload, 1) := by decide +kernel
theorem dX4_lowerFloors_23 : decode cX4_lowerFloors 23 = .ok (.if_icmp .ge 31, 3) := by decide +kernel
theorem dX4_lowerFloors_26 : decode cX4_lowerFloors 26 = .ok (.aload_n 0, 1) := by decide +kernel
theorem dX4_lowerFloors_27 : decode cX4_lowerFloors 27 = .ok (.getfield 32, 3) := by decide +kernel
theorem dX4_lowerFloors_30 : decode cX4_lowerFloors 30 = .ok (.getfield 78, 3) := by decide +kernel
theorem dX4_lowerFloors_33 : decode cX4_lowerFloors 33 = .ok (.iload 5, 2) := by decide +kernel
theorem dX4_lowerFloors_35 : decode cX4_lowerFloors 35 = .ok (.aaload, 1) := by decide +kernel
theorem dX4_lowerFloors_36 : decode cX4_lowerFloors 36 = .ok (.iload_n 2, 1) := by decide +kernel
theorem dX4_lowerFloors_37 : decode cX4_lowerFloors 37 = .ok (.iload_n 3, 1) := by decide +kernel
theorem dX4_lowerFloors_38 : decode cX4_lowerFloors 38 = .ok (.iload 4, 2) := by decide +kernel
theorem dX4_lowerFloors_40 : decode cX4_lowerFloors 40 = .ok (.invokevirtual 82, 3) := by decide +kernel
theorem dX4_lowerFloors_43 : decode cX4_lowerFloors 43 = .ok (.ifCond .eq 11, 3) := by decide +kernel
theorem dX4_lowerFloors_46 : decode cX4_lowerFloors 46 = .ok (.aload_n 0, 1) := by decide +kernel
theorem dX4_lowerFloors_47 : decode cX4_lowerFloors 47 = .ok (.getfield 25, 3) := by decide +kernel
theorem dX4_lowerFloors_50 : decode cX4_lowerFloors 50 = .ok (.iload 5, 2) := by decide +kernel
theorem dX4_lowerFloors_52 : decode cX4_lowerFloors 52 = .ok (.iload_n 1, 1) := by decide +kernel
theorem dX4_lowerFloors_53 : decode cX4_lowerFloors 53 = .ok (.iastore, 1) := by decide +kernel
theorem dX4_lowerFloors_54 : decode cX4_lowerFloors 54 = .ok (.iinc 5 1, 3) := by decide +kernel
theorem dX4_lowerFloors_57 : decode cX4_lowerFloors 57 = .ok (.goto (-54), 3) := by decide +kernel
theorem dX4_lowerFloors_60 : decode cX4_lowerFloors 60 = .ok (.return_, 1) := by decide +kernel
theorem dX4_weightAt_0 : decode cX4_weightAt 0 = .ok (.iload_n 1, 1) := by decide +kernel
theorem dX4_weightAt_1 : decode cX4_weightAt 1 = .ok (.bipush (-81), 2) := by decide +kernel
theorem dX4_weightAt_3 : decode cX4_weightAt 3 = .ok (.if_icmp .ge 5, 3) := by decide +kernel
theorem dX4_weightAt_6 : decode cX4_weightAt 6 = .ok (.iconst 0, 1) := by decide +kernel
theorem dX4_weightAt_7 : decode cX4_weightAt 7 = .ok (.ireturn, 1) := by decide +kernel
theorem dX4_weightAt_8 : decode cX4_weightAt 8 = .ok (.aload_n 0, 1) := by decide +kernel
theorem dX4_weightAt_9 : decode cX4_weightAt 9 = .ok (.getfield 22, 3) := by decide +kernel
theorem dX4_weightAt_12 : decode cX4_weightAt 12 = .ok (.iload_n 1, 1) := by decide +kernel
theorem dX4_weightAt_13 : decode cX4_weightAt 13 = .ok (.bipush 81, 2) := by decide +kernel
theorem dX4_weightAt_15 : decode cX4_weightAt 15 = .ok (.invokestatic 86, 3) := by decide +kernel
theorem dX4_weightAt_18 : decode cX4_weightAt 18 = .ok (.bipush 81, 2) := by decide +kernel
theorem dX4_weightAt_20 : decode cX4_weightAt 20 = .ok (.iadd, 1) := by decide +kernel
theorem dX4_weightAt_21 : decode cX4_weightAt 21 = .ok (.iaload, 1) := by decide +kernel
theorem dX4_weightAt_22 : decode cX4_weightAt 22 = .ok (.ireturn, 1) := by decide +kernel
theorem dX4_lossAt_0 : decode cX4_lossAt 0 = .ok (.aload_n 0, 1) := by decide +kernel
theorem dX4_lossAt_1 : decode cX4_lossAt 1 = .ok (.getfield 32, 3) := by decide +kernel
theorem dX4_lossAt_4 : decode cX4_lossAt 4 = .ok (.getfield 92, 3) := by decide +kernel
theorem dX4_lossAt_7 : decode cX4_lossAt 7 = .ok (.aload_n 0, 1) := by decide +kernel
theorem dX4_lossAt_8 : decode cX4_lossAt 8 = .ok (.iload_n 1, 1) := by decide +kernel
theorem dX4_lossAt_9 : decode cX4_lossAt 9 = .ok (.invokevirtual 95, 3) := by decide +kernel
theorem dX4_lossAt_12 : decode cX4_lossAt 12 = .ok (.isub, 1) := by decide +kernel
theorem dX4_lossAt_13 : decode cX4_lossAt 13 = .ok (.ireturn, 1) := by decide +kernel
theorem dX4_giveAbove_0 : decode cX4_giveAbove 0 = .ok (.aload_n 0, 1) := by decide +kernel
theorem dX4_giveAbove_1 : decode cX4_giveAbove 1 = .ok (.getfield 28, 3) := by decide +kernel
theorem dX4_giveAbove_4 : decode cX4_giveAbove 4 = .ok (.invokevirtual 99, 3) := by decide +kernel
theorem dX4_giveAbove_7 : decode cX4_giveAbove 7 = .ok (.istore_n 3, 1) := by decide +kernel
theorem dX4_giveAbove_8 : decode cX4_giveAbove 8 = .ok (.iconst 0, 1) := by decide +kernel
theorem dX4_giveAbove_9 : decode cX4_giveAbove 9 = .ok (.istore 4, 2) := by decide +kernel
theorem dX4_giveAbove_11 : decode cX4_giveAbove 11 = .ok (.iload 4, 2) := by decide +kernel
theorem dX4_giveAbove_13 : decode cX4_giveAbove 13 = .ok (.iload_n 3, 1) := by decide +kernel
theorem dX4_giveAbove_14 : decode cX4_giveAbove 14 = .ok (.if_icmp .ge 51, 3) := by decide +kernel
theorem dX4_giveAbove_17 : decode cX4_giveAbove 17 = .ok (.aload_n 0, 1) := by decide +kernel
theorem dX4_giveAbove_18 : decode cX4_giveAbove 18 = .ok (.getfield 28, 3) := by decide +kernel
theorem dX4_giveAbove_21 : decode cX4_giveAbove 21 = .ok (.getfield 60, 3) := by decide +kernel
theorem dX4_giveAbove_24 : decode cX4_giveAbove 24 = .ok (.iload 4, 2) := by decide +kernel
theorem dX4_giveAbove_26 : decode cX4_giveAbove 26 = .ok (.iaload, 1) := by decide +kernel
theorem dX4_giveAbove_27 : decode cX4_giveAbove 27 = .ok (.aload_n 0, 1) := by decide +kernel
theorem dX4_giveAbove_28 : decode cX4_giveAbove 28 = .ok (.getfield 32, 3) := by decide +kernel
theorem dX4_giveAbove_31 : decode cX4_giveAbove 31 = .ok (.getfield 63, 3) := by decide +kernel
theorem dX4_giveAbove_34 : decode cX4_giveAbove 34 = .ok (.if_icmp .ne 25, 3) := by decide +kernel
theorem dX4_giveAbove_37 : decode cX4_giveAbove 37 = .ok (.aload_n 0, 1) := by decide +kernel
theorem dX4_giveAbove_38 : decode cX4_giveAbove 38 = .ok (.getfield 18, 3) := by decide +kernel
theorem dX4_giveAbove_41 : decode cX4_giveAbove 41 = .ok (.iload 4, 2) := by decide +kernel
theorem dX4_giveAbove_43 : decode cX4_giveAbove 43 = .ok (.iaload, 1) := by decide +kernel
theorem dX4_giveAbove_44 : decode cX4_giveAbove 44 = .ok (.iload_n 1, 1) := by decide +kernel
theorem dX4_giveAbove_45 : decode cX4_giveAbove 45 = .ok (.if_icmp .le 14, 3) := by decide +kernel
theorem dX4_giveAbove_48 : decode cX4_giveAbove 48 = .ok (.aload_n 0, 1) := by decide +kernel
theorem dX4_giveAbove_49 : decode cX4_giveAbove 49 = .ok (.getfield 28, 3) := by decide +kernel
theorem dX4_giveAbove_52 : decode cX4_giveAbove 52 = .ok (.getfield 60, 3) := by decide +kernel
theorem dX4_giveAbove_55 : decode cX4_giveAbove 55 = .ok (.iload 4, 2) := by decide +kernel
theorem dX4_giveAbove_57 : decode cX4_giveAbove 57 = .ok (.iload_n 2, 1) := by decide +kernel
theorem dX4_giveAbove_58 : decode cX4_giveAbove 58 = .ok (.iastore, 1) := by decide +kernel
theorem dX4_giveAbove_59 : decode cX4_giveAbove 59 = .ok (.iinc 4 1, 3) := by decide +kernel
theorem dX4_giveAbove_62 : decode cX4_giveAbove 62 = .ok (.goto (-51), 3) := by decide +kernel
theorem dX4_giveAbove_65 : decode cX4_giveAbove 65 = .ok (.return_, 1) := by decide +kernel
theorem dX4_wouldBeFacet_0 : decode cX4_wouldBeFacet 0 = .ok (.aload_n 0, 1) := by decide +kernel
theorem dX4_wouldBeFacet_1 : decode cX4_wouldBeFacet 1 = .ok (.iload_n 1, 1) := by decide +kernel
theorem dX4_wouldBeFacet_2 : decode cX4_wouldBeFacet 2 = .ok (.invokevirtual 95, 3) := by decide +kernel
theorem dX4_wouldBeFacet_5 : decode cX4_wouldBeFacet 5 = .ok (.aload_n 0, 1) := by decide +kernel
theorem dX4_wouldBeFacet_6 : decode cX4_wouldBeFacet 6 = .ok (.iload_n 1, 1) := by decide +kernel
theorem dX4_wouldBeFacet_7 : decode cX4_wouldBeFacet 7 = .ok (.aload_n 0, 1) := by decide +kernel
theorem dX4_wouldBeFacet_8 : decode cX4_wouldBeFacet 8 = .ok (.getfield 12, 3) := by decide +kernel
theorem dX4_wouldBeFacet_11 : decode cX4_wouldBeFacet 11 = .ok (.getfield 103, 3) := by decide +kernel
theorem dX4_wouldBeFacet_14 : decode cX4_wouldBeFacet 14 = .ok (.isub, 1) := by decide +kernel
theorem dX4_wouldBeFacet_15 : decode cX4_wouldBeFacet 15 = .ok (.invokevirtual 95, 3) := by decide +kernel
theorem dX4_wouldBeFacet_18 : decode cX4_wouldBeFacet 18 = .ok (.if_icmp .le 7, 3) := by decide +kernel
theorem dX4_wouldBeFacet_21 : decode cX4_wouldBeFacet 21 = .ok (.iconst 1, 1) := by decide +kernel
theorem dX4_wouldBeFacet_22 : decode cX4_wouldBeFacet 22 = .ok (.goto 4, 3) := by decide +kernel
theorem dX4_wouldBeFacet_25 : decode cX4_wouldBeFacet 25 = .ok (.iconst 0, 1) := by decide +kernel
theorem dX4_wouldBeFacet_26 : decode cX4_wouldBeFacet 26 = .ok (.ireturn, 1) := by decide +kernel
theorem dX4_pairsAt_0 : decode cX4_pairsAt 0 = .ok (.aload_n 0, 1) := by decide +kernel
theorem dX4_pairsAt_1 : decode cX4_pairsAt 1 = .ok (.iload_n 1, 1) := by decide +kernel
theorem dX4_pairsAt_2 : decode cX4_pairsAt 2 = .ok (.invokevirtual 106, 3) := by decide +kernel
theorem dX4_pairsAt_5 : decode cX4_pairsAt 5 = .ok (.istore_n 2, 1) := by decide +kernel
theorem dX4_pairsAt_6 : decode cX4_pairsAt 6 = .ok (.iconst 0, 1) := by decide +kernel
theorem dX4_pairsAt_7 : decode cX4_pairsAt 7 = .ok (.istore_n 3, 1) := by decide +kernel
theorem dX4_pairsAt_8 : decode cX4_pairsAt 8 = .ok (.iconst 0, 1) := by decide +kernel
theorem dX4_pairsAt_9 : decode cX4_pairsAt 9 = .ok (.istore 4, 2) := by decide +kernel
theorem dX4_pairsAt_11 : decode cX4_pairsAt 11 = .ok (.iload 4, 2) := by decide +kernel
theorem dX4_pairsAt_13 : decode cX4_pairsAt 13 = .ok (.aload_n 0, 1) := by decide +kernel
theorem dX4_pairsAt_14 : decode cX4_pairsAt 14 = .ok (.getfield 32, 3) := by decide +kernel
theorem dX4_pairsAt_17 : decode cX4_pairsAt 17 = .ok (.getfield 75, 3) := by decide +kernel
theorem dX4_pairsAt_20 : decode cX4_pairsAt 20 = .ok (.if_icmp .ge 62, 3) := by decide +kernel
theorem dX4_pairsAt_23 : decode cX4_pairsAt 23 = .ok (.aload_n 0, 1) := by decide +kernel
theorem dX4_pairsAt_24 : decode cX4_pairsAt 24 = .ok (.getfield 25, 3) := by decide +kernel
theorem dX4_pairsAt_27 : decode cX4_pairsAt 27 = .ok (.iload 4, 2) := by decide +kernel
theorem dX4_pairsAt_29 : decode cX4_pairsAt 29 = .ok (.iaload, 1) := by decide +kernel
theorem dX4_pairsAt_30 : decode cX4_pairsAt 30 = .ok (.iload_n 1, 1) := by decide +kernel
theorem dX4_pairsAt_31 : decode cX4_pairsAt 31 = .ok (.if_icmp .gt 45, 3) := by decide +kernel
theorem dX4_pairsAt_34 : decode cX4_pairsAt 34 = .ok (.iload_n 3, 1) := by decide +kernel
theorem dX4_pairsAt_35 : decode cX4_pairsAt 35 = .ok (.iload_n 2, 1) := by decide +kernel
theorem dX4_pairsAt_36 : decode cX4_pairsAt 36 = .ok (.ifCond .eq 27, 3) := by decide +kernel
theorem dX4_pairsAt_39 : decode cX4_pairsAt 39 = .ok (.aload_n 0, 1) := by decide +kernel
theorem dX4_pairsAt_40 : decode cX4_pairsAt 40 = .ok (.getfield 32, 3) := by decide +kernel
theorem dX4_pairsAt_43 : decode cX4_pairsAt 43 = .ok (.getfield 78, 3) := by decide +kernel
theorem dX4_pairsAt_46 : decode cX4_pairsAt 46 = .ok (.iload 4, 2) := by decide +kernel
theorem dX4_pairsAt_48 : decode cX4_pairsAt 48 = .ok (.aaload, 1) := by decide +kernel
theorem dX4_pairsAt_49 : decode cX4_pairsAt 49 = .ok (.aload_n 0, 1) := by decide +kernel
theorem dX4_pairsAt_50 : decode cX4_pairsAt 50 = .ok (.getfield 12, 3) := by decide +kernel
theorem dX4_pairsAt_53 : decode cX4_pairsAt 53 = .ok (.invokevirtual 110, 3) := by decide +kernel
theorem dX4_pairsAt_56 : decode cX4_pairsAt 56 = .ok (.ifCond .eq 7, 3) := by decide +kernel
theorem dX4_pairsAt_59 : decode cX4_pairsAt 59 = .ok (.iconst 1, 1) := by decide +kernel
theorem dX4_pairsAt_60 : decode cX4_pairsAt 60 = .ok (.goto 4, 3) := by decide +kernel
theorem dX4_pairsAt_63 : decode cX4_pairsAt 63 = .ok (.iconst 0, 1) := by decide +kernel
theorem dX4_pairsAt_64 : decode cX4_pairsAt 64 = .ok (.iadd, 1) := by decide +kernel
theorem dX4_pairsAt_65 : decode cX4_pairsAt 65 = .ok (.istore_n 3, 1) := by decide +kernel
theorem dX4_pairsAt_66 : decode cX4_pairsAt 66 = .ok (.iload_n 3, 1) := by decide +kernel
theorem dX4_pairsAt_67 : decode cX4_pairsAt 67 = .ok (.aload_n 0, 1) := by decide +kernel
theorem dX4_pairsAt_68 : decode cX4_pairsAt 68 = .ok (.iload 4, 2) := by decide +kernel
theorem dX4_pairsAt_70 : decode cX4_pairsAt 70 = .ok (.iload_n 1, 1) := by decide +kernel
theorem dX4_pairsAt_71 : decode cX4_pairsAt 71 = .ok (.invokevirtual 114, 3) := by decide +kernel
theorem dX4_pairsAt_74 : decode cX4_pairsAt 74 = .ok (.iadd, 1) := by decide +kernel
theorem dX4_pairsAt_75 : decode cX4_pairsAt 75 = .ok (.istore_n 3, 1) := by decide +kernel
theorem dX4_pairsAt_76 : decode cX4_pairsAt 76 = .ok (.iinc 4 1, 3) := by decide +kernel
theorem dX4_pairsAt_79 : decode cX4_pairsAt 79 = .ok (.goto (-68), 3) := by decide +kernel
theorem dX4_pairsAt_82 : decode cX4_pairsAt 82 = .ok (.iload_n 3, 1) := by decide +kernel
theorem dX4_pairsAt_83 : decode cX4_pairsAt 83 = .ok (.ireturn, 1) := by decide +kernel
theorem dX4_laterOpposites_0 : decode cX4_laterOpposites 0 = .ok (.iconst 0, 1) := by decide +kernel
theorem dX4_laterOpposites_1 : decode cX4_laterOpposites 1 = .ok (.istore_n 3, 1) := by decide +kernel
theorem dX4_laterOpposites_2 : decode cX4_laterOpposites 2 = .ok (.iload_n 1, 1) := by decide +kernel
theorem dX4_laterOpposites_3 : decode cX4_laterOpposites 3 = .ok (.iconst 1, 1) := by decide +kernel
theorem dX4_laterOpposites_4 : decode cX4_laterOpposites 4 = .ok (.iadd, 1) := by decide +kernel
theorem dX4_laterOpposites_5 : decode cX4_laterOpposites 5 = .ok (.istore 4, 2) := by decide +kernel
theorem dX4_laterOpposites_7 : decode cX4_laterOpposites 7 = .ok (.iload 4, 2) := by decide +kernel
theorem dX4_laterOpposites_9 : decode cX4_laterOpposites 9 = .ok (.aload_n 0, 1) := by decide +kernel
theorem dX4_laterOpposites_10 : decode cX4_laterOpposites 10 = .ok (.getfield 32, 3) := by decide +kernel
theorem dX4_laterOpposites_13 : decode cX4_laterOpposites 13 = .ok (.getfield 75, 3) := by decide +kernel
theorem dX4_laterOpposites_16 : decode cX4_laterOpposites 16 = .ok (.if_icmp .ge 48, 3) := by decide +kernel
theorem dX4_laterOpposites_19 : decode cX4_laterOpposites 19 = .ok (.aload_n 0, 1) := by decide +kernel
theorem dX4_laterOpposites_20 : decode cX4_laterOpposites 20 = .ok (.getfield 25, 3) := by decide +kernel
theorem dX4_laterOpposites_23 : decode cX4_laterOpposites 23 = .ok (.iload 4, 2) := by decide +kernel
theorem dX4_laterOpposites_25 : decode cX4_laterOpposites 25 = .ok (.iaload, 1) := by decide +kernel
theorem dX4_laterOpposites_26 : decode cX4_laterOpposites 26 = .ok (.iload_n 2, 1) := by decide +kernel
theorem dX4_laterOpposites_27 : decode cX4_laterOpposites 27 = .ok (.if_icmp .gt 31, 3) := by decide +kernel
theorem dX4_laterOpposites_30 : decode cX4_laterOpposites 30 = .ok (.aload_n 0, 1) := by decide +kernel
theorem dX4_laterOpposites_31 : decode cX4_laterOpposites 31 = .ok (.getfield 32, 3) := by decide +kernel
theorem dX4_laterOpposites_34 : decode cX4_laterOpposites 34 = .ok (.getfield 78, 3) := by decide +kernel
theorem dX4_laterOpposites_37 : decode cX4_laterOpposites 37 = .ok (.iload_n 1, 1) := by decide +kernel
theorem dX4_laterOpposites_38 : decode cX4_laterOpposites 38 = .ok (.aaload, 1) := by decide +kernel
theorem dX4_laterOpposites_39 : decode cX4_laterOpposites 39 = .ok (.aload_n 0, 1) := by decide +kernel
theorem dX4_laterOpposites_40 : decode cX4_laterOpposites 40 = .ok (.getfield 32, 3) := by decide +kernel
theorem dX4_laterOpposites_43 : decode cX4_laterOpposites 43 = .ok (.getfield 78, 3) := by decide +kernel
theorem dX4_laterOpposites_46 : decode cX4_laterOpposites 46 = .ok (.iload 4, 2) := by decide +kernel
theorem dX4_laterOpposites_48 : decode cX4_laterOpposites 48 = .ok (.aaload, 1) := by decide +kernel
theorem dX4_laterOpposites_49 : decode cX4_laterOpposites 49 = .ok (.invokevirtual 110, 3) := by decide +kernel
theorem dX4_laterOpposites_52 : decode cX4_laterOpposites 52 = .ok (.ifCond .eq 6, 3) := by decide +kernel
theorem dX4_laterOpposites_55 : decode cX4_laterOpposites 55 = .ok (.iinc 3 1, 3) := by decide +kernel
theorem dX4_laterOpposites_58 : decode cX4_laterOpposites 58 = .ok (.iinc 4 1, 3) := by decide +kernel
theorem dX4_laterOpposites_61 : decode cX4_laterOpposites 61 = .ok (.goto (-54), 3) := by decide +kernel
theorem dX4_laterOpposites_64 : decode cX4_laterOpposites 64 = .ok (.iload_n 3, 1) := by decide +kernel
theorem dX4_laterOpposites_65 : decode cX4_laterOpposites 65 = .ok (.ireturn, 1) := by decide +kernel
theorem dX4_polishedAt_0 : decode cX4_polishedAt 0 = .ok (.iconst 0, 1) := by decide +kernel
theorem dX4_polishedAt_1 : decode cX4_polishedAt 1 = .ok (.istore_n 2, 1) := by decide +kernel
theorem dX4_polishedAt_2 : decode cX4_polishedAt 2 = .ok (.iconst 0, 1) := by decide +kernel
theorem dX4_polishedAt_3 : decode cX4_polishedAt 3 = .ok (.istore_n 3, 1) := by decide +kernel
theorem dX4_polishedAt_4 : decode cX4_polishedAt 4 = .ok (.iload_n 3, 1) := by decide +kernel
theorem dX4_polishedAt_5 : decode cX4_polishedAt 5 = .ok (.aload_n 0, 1) := by decide +kernel
theorem dX4_polishedAt_6 : decode cX4_polishedAt 6 = .ok (.getfield 32, 3) := by decide +kernel
theorem dX4_polishedAt_9 : decode cX4_polishedAt 9 = .ok (.getfield 75, 3) := by decide +kernel
theorem dX4_polishedAt_12 : decode cX4_polishedAt 12 = .ok (.if_icmp .ge 37, 3) := by decide +kernel
theorem dX4_polishedAt_15 : decode cX4_polishedAt 15 = .ok (.aload_n 0, 1) := by decide +kernel
theorem dX4_polishedAt_16 : decode cX4_polishedAt 16 = .ok (.getfield 25, 3) := by decide +kernel
theorem dX4_polishedAt_19 : decode cX4_polishedAt 19 = .ok (.iload_n 3, 1) := by decide +kernel
theorem dX4_polishedAt_20 : decode cX4_polishedAt 20 = .ok (.iaload, 1) := by decide +kernel
theorem dX4_polishedAt_21 : decode cX4_polishedAt 21 = .ok (.iload_n 1, 1) := by decide +kernel
theorem dX4_polishedAt_22 : decode cX4_polishedAt 22 = .ok (.if_icmp .gt 21, 3) := by decide +kernel
theorem dX4_polishedAt_25 : decode cX4_polishedAt 25 = .ok (.aload_n 0, 1) := by decide +kernel
theorem dX4_polishedAt_26 : decode cX4_polishedAt 26 = .ok (.getfield 32, 3) := by decide +kernel
theorem dX4_polishedAt_29 : decode cX4_polishedAt 29 = .ok (.getfield 78, 3) := by decide +kernel
theorem dX4_polishedAt_32 : decode cX4_polishedAt 32 = .ok (.iload_n 3, 1) := by decide +kernel
theorem dX4_polishedAt_33 : decode cX4_polishedAt 33 = .ok (.aaload, 1) := by decide +kernel
theorem dX4_polishedAt_34 : decode cX4_polishedAt 34 = .ok (.getfield 117, 3) := by decide +kernel
theorem dX4_polishedAt_37 : decode cX4_polishedAt 37 = .ok (.ifCond .eq 6, 3) := by decide +kernel
theorem dX4_polishedAt_40 : decode cX4_polishedAt 40 = .ok (.iinc 2 1, 3) := by decide +kernel
theorem dX4_polishedAt_43 : decode cX4_polishedAt 43 = .ok (.iinc 3 1, 3) := by decide +kernel
theorem dX4_polishedAt_46 : decode cX4_polishedAt 46 = .ok (.goto (-42), 3) := by decide +kernel
theorem dX4_polishedAt_49 : decode cX4_polishedAt 49 = .ok (.iload_n 2, 1) := by decide +kernel
theorem dX4_polishedAt_50 : decode cX4_polishedAt 50 = .ok (.ireturn, 1) := by decide +kernel
theorem dX4_stateAt_0 : decode cX4_stateAt 0 = .ok (.iconst (-1), 1) := by decide +kernel
theorem dX4_stateAt_1 : decode cX4_stateAt 1 = .ok (.istore_n 3, 1) := by decide +kernel
theorem dX4_stateAt_2 : decode cX4_stateAt 2 = .ok (.iconst 0, 1) := by decide +kernel
theorem dX4_stateAt_3 : decode cX4_stateAt 3 = .ok (.istore 4, 2) := by decide +kernel
theorem dX4_stateAt_5 : decode cX4_stateAt 5 = .ok (.iload 4, 2) := by decide +kernel
theorem dX4_stateAt_7 : decode cX4_stateAt 7 = .ok (.aload_n 1, 1) := by decide +kernel
theorem dX4_stateAt_8 : decode cX4_stateAt 8 = .ok (.getfield 121, 3) := by decide +kernel
theorem dX4_stateAt_11 : decode cX4_stateAt 11 = .ok (.if_icmp .ge 85, 3) := by decide +kernel
theorem dX4_stateAt_14 : decode cX4_stateAt 14 = .ok (.aload_n 1, 1) := by decide +kernel
theorem dX4_stateAt_15 : decode cX4_stateAt 15 = .ok (.getfield 126, 3) := by decide +kernel
theorem dX4_stateAt_18 : decode cX4_stateAt 18 = .ok (.iload 4, 2) := by decide +kernel
theorem dX4_stateAt_20 : decode cX4_stateAt 20 = .ok (.iaload, 1) := by decide +kernel
theorem dX4_stateAt_21 : decode cX4_stateAt 21 = .ok (.istore 5, 2) := by decide +kernel
theorem dX4_stateAt_23 : decode cX4_stateAt 23 = .ok (.aload_n 0, 1) := by decide +kernel
theorem dX4_stateAt_24 : decode cX4_stateAt 24 = .ok (.getfield 28, 3) := by decide +kernel
theorem dX4_stateAt_27 : decode cX4_stateAt 27 = .ok (.getfield 60, 3) := by decide +kernel
theorem dX4_stateAt_30 : decode cX4_stateAt 30 = .ok (.iload 5, 2) := by decide +kernel
theorem dX4_stateAt_32 : decode cX4_stateAt 32 = .ok (.iaload, 1) := by decide +kernel
theorem dX4_stateAt_33 : decode cX4_stateAt 33 = .ok (.aload_n 0, 1) := by decide +kernel
theorem dX4_stateAt_34 : decode cX4_stateAt 34 = .ok (.getfield 32, 3) := by decide +kernel
theorem dX4_stateAt_37 : decode cX4_stateAt 37 = .ok (.getfield 63, 3) := by decide +kernel
theorem dX4_stateAt_40 : decode cX4_stateAt 40 = .ok (.if_icmp .ne 50, 3) := by decide +kernel
theorem dX4_stateAt_43 : decode cX4_stateAt 43 = .ok (.aload_n 0, 1) := by decide +kernel
theorem dX4_stateAt_44 : decode cX4_stateAt 44 = .ok (.getfield 18, 3) := by decide +kernel
theorem dX4_stateAt_47 : decode cX4_stateAt 47 = .ok (.iload 5, 2) := by decide +kernel
theorem dX4_stateAt_49 : decode cX4_stateAt 49 = .ok (.iaload, 1) := by decide +kernel
theorem dX4_stateAt_50 : decode cX4_stateAt 50 = .ok (.iload_n 2, 1) := by decide +kernel
theorem dX4_stateAt_51 : decode cX4_stateAt 51 = .ok (.if_icmp .gt 39, 3) := by decide +kernel
theorem dX4_stateAt_54 : decode cX4_stateAt 54 = .ok (.aload_n 0, 1) := by decide +kernel
theorem dX4_stateAt_55 : decode cX4_stateAt 55 = .ok (.getfield 28, 3) := by decide +kernel
theorem dX4_stateAt_58 : decode cX4_stateAt 58 = .ok (.getfield 129, 3) := by decide +kernel
theorem dX4_stateAt_61 : decode cX4_stateAt 61 = .ok (.iload 5, 2) := by decide +kernel
theorem dX4_stateAt_63 : decode cX4_stateAt 63 = .ok (.baload, 1) := by decide +kernel
theorem dX4_stateAt_64 : decode cX4_stateAt 64 = .ok (.ifCond .ne 22, 3) := by decide +kernel
theorem dX4_stateAt_67 : decode cX4_stateAt 67 = .ok (.aload_n 0, 1) := by decide +kernel
theorem dX4_stateAt_68 : decode cX4_stateAt 68 = .ok (.getfield 18, 3) := by decide +kernel
theorem dX4_stateAt_71 : decode cX4_stateAt 71 = .ok (.iload 5, 2) := by decide +kernel
theorem dX4_stateAt_73 : decode cX4_stateAt 73 = .ok (.iaload, 1) := by decide +kernel
theorem dX4_stateAt_74 : decode cX4_stateAt 74 = .ok (.aload_n 0, 1) := by decide +kernel
theorem dX4_stateAt_75 : decode cX4_stateAt 75 = .ok (.getfield 12, 3) := by decide +kernel
theorem dX4_stateAt_78 : decode cX4_stateAt 78 = .ok (.getfield 103, 3) := by decide +kernel
theorem dX4_stateAt_81 : decode cX4_stateAt 81 = .ok (.iadd, 1) := by decide +kernel
theorem dX4_stateAt_82 : decode cX4_stateAt 82 = .ok (.iload_n 2, 1) := by decide +kernel
theorem dX4_stateAt_83 : decode cX4_stateAt 83 = .ok (.if_icmp .le 5, 3) := by decide +kernel
theorem dX4_stateAt_86 : decode cX4_stateAt 86 = .ok (.iconst 1, 1) := by decide +kernel
theorem dX4_stateAt_87 : decode cX4_stateAt 87 = .ok (.ireturn, 1) := by decide +kernel
theorem dX4_stateAt_88 : decode cX4_stateAt 88 = .ok (.iconst 0, 1) := by decide +kernel
theorem dX4_stateAt_89 : decode cX4_stateAt 89 = .ok (.istore_n 3, 1) := by decide +kernel
theorem dX4_stateAt_90 : decode cX4_stateAt 90 = .ok (.iinc 4 1, 3) := by decide +kernel
theorem dX4_stateAt_93 : decode cX4_stateAt 93 = .ok (.goto (-88), 3) := by decide +kernel
theorem dX4_stateAt_96 : decode cX4_stateAt 96 = .ok (.iload_n 3, 1) := by decide +kernel
theorem dX4_stateAt_97 : decode cX4_stateAt 97 = .ok (.ireturn, 1) := by decide +kernel
theorem dX4_openFlawsAt_0 : decode cX4_openFlawsAt 0 = .ok (.iconst 0, 1) := by decide +kernel
theorem dX4_openFlawsAt_1 : decode cX4_openFlawsAt 1 = .ok (.istore_n 2, 1) := by decide +kernel
theorem dX4_openFlawsAt_2 : decode cX4_openFlawsAt 2 = .ok (.iconst 0, 1) := by decide +kernel
theorem dX4_openFlawsAt_3 : decode cX4_openFlawsAt 3 = .ok (.istore_n 3, 1) := by decide +kernel
theorem dX4_openFlawsAt_4 : decode cX4_openFlawsAt 4 = .ok (.iload_n 3, 1) := by decide +kernel
theorem dX4_openFlawsAt_5 : decode cX4_openFlawsAt 5 = .ok (.aload_n 0, 1) := by decide +kernel
theorem dX4_openFlawsAt_6 : decode cX4_openFlawsAt 6 = .ok (.getfield 28, 3) := by decide +kernel
theorem dX4_openFlawsAt_9 : decode cX4_openFlawsAt 9 = .ok (.getfield 133, 3) := by decide +kernel
theorem dX4_openFlawsAt_12 : decode cX4_openFlawsAt 12 = .ok (.if_icmp .ge 30, 3) := by decide +kernel
theorem dX4_openFlawsAt_15 : decode cX4_openFlawsAt 15 = .ok (.aload_n 0, 1) := by decide +kernel
theorem dX4_openFlawsAt_16 : decode cX4_openFlawsAt 16 = .ok (.aload_n 0, 1) := by decide +kernel
theorem dX4_openFlawsAt_17 : decode cX4_openFlawsAt 17 = .ok (.getfield 28, 3) := by decide +kernel
theorem dX4_openFlawsAt_20 : decode cX4_openFlawsAt 20 = .ok (.getfield 136, 3) := by decide +kernel
theorem dX4_openFlawsAt_23 : decode cX4_openFlawsAt 23 = .ok (.iload_n 3, 1) := by decide +kernel
theorem dX4_openFlawsAt_24 : decode cX4_openFlawsAt 24 = .ok (.aaload, 1) := by decide +kernel
theorem dX4_openFlawsAt_25 : decode cX4_openFlawsAt 25 = .ok (.iload_n 1, 1) := by decide +kernel
theorem dX4_openFlawsAt_26 : decode cX4_openFlawsAt 26 = .ok (.invokevirtual 140, 3) := by decide +kernel
theorem dX4_openFlawsAt_29 : decode cX4_openFlawsAt 29 = .ok (.iconst 1, 1) := by decide +kernel
theorem dX4_openFlawsAt_30 : decode cX4_openFlawsAt 30 = .ok (.if_icmp .ne 6, 3) := by decide +kernel
theorem dX4_openFlawsAt_33 : decode cX4_openFlawsAt 33 = .ok (.iinc 2 1, 3) := by decide +kernel
theorem dX4_openFlawsAt_36 : decode cX4_openFlawsAt 36 = .ok (.iinc 3 1, 3) := by decide +kernel
theorem dX4_openFlawsAt_39 : decode cX4_openFlawsAt 39 = .ok (.goto (-35), 3) := by decide +kernel
theorem dX4_openFlawsAt_42 : decode cX4_openFlawsAt 42 = .ok (.iload_n 2, 1) := by decide +kernel
theorem dX4_openFlawsAt_43 : decode cX4_openFlawsAt 43 = .ok (.ireturn, 1) := by decide +kernel
theorem dX4_worthAt_0 : decode cX4_worthAt 0 = .ok (.iconst 0, 1) := by decide +kernel
theorem dX4_worthAt_1 : decode cX4_worthAt 1 = .ok (.istore_n 2, 1) := by decide +kernel
theorem dX4_worthAt_2 : decode cX4_worthAt 2 = .ok (.iconst 0, 1) := by decide +kernel
theorem dX4_worthAt_3 : decode cX4_worthAt 3 = .ok (.istore_n 3, 1) := by decide +kernel
theorem dX4_worthAt_4 : decode cX4_worthAt 4 = .ok (.iload_n 3, 1) := by decide +kernel
theorem dX4_worthAt_5 : decode cX4_worthAt 5 = .ok (.aload_n 0, 1) := by decide +kernel
theorem dX4_worthAt_6 : decode cX4_worthAt 6 = .ok (.getfield 28, 3) := by decide +kernel
theorem dX4_worthAt_9 : decode cX4_worthAt 9 = .ok (.getfield 133, 3) := by decide +kernel
theorem dX4_worthAt_12 : decode cX4_worthAt 12 = .ok (.if_icmp .ge 38, 3) := by decide +kernel
theorem dX4_worthAt_15 : decode cX4_worthAt 15 = .ok (.iload_n 2, 1) := by decide +kernel
theorem dX4_worthAt_16 : decode cX4_worthAt 16 = .ok (.aload_n 0, 1) := by decide +kernel
theorem dX4_worthAt_17 : decode cX4_worthAt 17 = .ok (.getfield 28, 3) := by decide +kernel
theorem dX4_worthAt_20 : decode cX4_worthAt 20 = .ok (.getfield 136, 3) := by decide +kernel
theorem dX4_worthAt_23 : decode cX4_worthAt 23 = .ok (.iload_n 3, 1) := by decide +kernel
theorem dX4_worthAt_24 : decode cX4_worthAt 24 = .ok (.aaload, 1) := by decide +kernel
theorem dX4_worthAt_25 : decode cX4_worthAt 25 = .ok (.aload_n 0, 1) := by decide +kernel
theorem dX4_worthAt_26 : decode cX4_worthAt 26 = .ok (.aload_n 0, 1) := by decide +kernel
theorem dX4_worthAt_27 : decode cX4_worthAt 27 = .ok (.getfield 28, 3) := by decide +kernel
theorem dX4_worthAt_30 : decode cX4_worthAt 30 = .ok (.getfield 136, 3) := by decide +kernel
theorem dX4_worthAt_33 : decode cX4_worthAt 33 = .ok (.iload_n 3, 1) := by decide +kernel
theorem dX4_worthAt_34 : decode cX4_worthAt 34 = .ok (.aaload, 1) := by decide +kernel
theorem dX4_worthAt_35 : decode cX4_worthAt 35 = .ok (.iload_n 1, 1) := by decide +kernel
theorem dX4_worthAt_36 : decode cX4_worthAt 36 = .ok (.invokevirtual 140, 3) := by decide +kernel
theorem dX4_worthAt_39 : decode cX4_worthAt 39 = .ok (.invokevirtual 144, 3) := by decide +kernel
theorem dX4_worthAt_42 : decode cX4_worthAt 42 = .ok (.iadd, 1) := by decide +kernel
theorem dX4_worthAt_43 : decode cX4_worthAt 43 = .ok (.istore_n 2, 1) := by decide +kernel
theorem dX4_worthAt_44 : decode cX4_worthAt 44 = .ok (.iinc 3 1, 3) := by decide +kernel
theorem dX4_worthAt_47 : decode cX4_worthAt 47 = .ok (.goto (-43), 3) := by decide +kernel
theorem dX4_worthAt_50 : decode cX4_worthAt 50 = .ok (.aload_n 0, 1) := by decide +kernel
theorem dX4_worthAt_51 : decode cX4_worthAt 51 = .ok (.iload_n 1, 1) := by decide +kernel
theorem dX4_worthAt_52 : decode cX4_worthAt 52 = .ok (.invokevirtual 95, 3) := by decide +kernel
theorem dX4_worthAt_55 : decode cX4_worthAt 55 = .ok (.iload_n 2, 1) := by decide +kernel
theorem dX4_worthAt_56 : decode cX4_worthAt 56 = .ok (.aload_n 0, 1) := by decide +kernel
theorem dX4_worthAt_57 : decode cX4_worthAt 57 = .ok (.iload_n 1, 1) := by decide +kernel
theorem dX4_worthAt_58 : decode cX4_worthAt 58 = .ok (.invokevirtual 147, 3) := by decide +kernel
theorem dX4_worthAt_61 : decode cX4_worthAt 61 = .ok (.aload_n 0, 1) := by decide +kernel
theorem dX4_worthAt_62 : decode cX4_worthAt 62 = .ok (.iload_n 1, 1) := by decide +kernel
theorem dX4_worthAt_63 : decode cX4_worthAt 63 = .ok (.invokevirtual 150, 3) := by decide +kernel
theorem dX4_worthAt_66 : decode cX4_worthAt 66 = .ok (.invokestatic 153, 3) := by decide +kernel
theorem dX4_worthAt_69 : decode cX4_worthAt 69 = .ok (.ireturn, 1) := by decide +kernel
theorem dX4_isWithin_0 : decode cX4_isWithin 0 = .ok (.aload_n 0, 1) := by decide +kernel
theorem dX4_isWithin_1 : decode cX4_isWithin 1 = .ok (.iload_n 1, 1) := by decide +kernel
theorem dX4_isWithin_2 : decode cX4_isWithin 2 = .ok (.invokevirtual 95, 3) := by decide +kernel
theorem dX4_isWithin_5 : decode cX4_isWithin 5 = .ok (.ifCond .le 24, 3) := by decide +kernel
theorem dX4_isWithin_8 : decode cX4_isWithin 8 = .ok (.aload_n 0, 1) := by decide +kernel
theorem dX4_isWithin_9 : decode cX4_isWithin 9 = .ok (.iload_n 1, 1) := by decide +kernel
theorem dX4_isWithin_10 : decode cX4_isWithin 10 = .ok (.iconst 1, 1) := by decide +kernel
theorem dX4_isWithin_11 : decode cX4_isWithin 11 = .ok (.isub, 1) := by decide +kernel
theorem dX4_isWithin_12 : decode cX4_isWithin 12 = .ok (.invokevirtual 95, 3) := by decide +kernel
theorem dX4_isWithin_15 : decode cX4_isWithin 15 = .ok (.aload_n 0, 1) := by decide +kernel
theorem dX4_isWithin_16 : decode cX4_isWithin 16 = .ok (.getfield 32, 3) := by decide +kernel
theorem dX4_isWithin_19 : decode cX4_isWithin 19 = .ok (.getfield 92, 3) := by decide +kernel
theorem dX4_isWithin_22 : decode cX4_isWithin 22 = .ok (.if_icmp .ge 7, 3) := by decide +kernel
theorem dX4_isWithin_25 : decode cX4_isWithin 25 = .ok (.iconst 1, 1) := by decide +kernel
theorem dX4_isWithin_26 : decode cX4_isWithin 26 = .ok (.goto 4, 3) := by decide +kernel
theorem dX4_isWithin_29 : decode cX4_isWithin 29 = .ok (.iconst 0, 1) := by decide +kernel
theorem dX4_isWithin_30 : decode cX4_isWithin 30 = .ok (.ireturn, 1) := by decide +kernel
theorem dX4_bestDepth_0 : decode cX4_bestDepth 0 = .ok (.iconst 0, 1) := by decide +kernel
theorem dX4_bestDepth_1 : decode cX4_bestDepth 1 = .ok (.istore_n 1, 1) := by decide +kernel
theorem dX4_bestDepth_2 : decode cX4_bestDepth 2 = .ok (.iconst 0, 1) := by decide +kernel
theorem dX4_bestDepth_3 : decode cX4_bestDepth 3 = .ok (.istore_n 2, 1) := by decide +kernel
theorem dX4_bestDepth_4 : decode cX4_bestDepth 4 = .ok (.bipush (-81), 2) := by decide +kernel
theorem dX4_bestDepth_6 : decode cX4_bestDepth 6 = .ok (.istore_n 3, 1) := by decide +kernel
theorem dX4_bestDepth_7 : decode cX4_bestDepth 7 = .ok (.iload_n 3, 1) := by decide +kernel
theorem dX4_bestDepth_8 : decode cX4_bestDepth 8 = .ok (.bipush 81, 2) := by decide +kernel
theorem dX4_bestDepth_10 : decode cX4_bestDepth 10 = .ok (.if_icmp .gt 35, 3) := by decide +kernel
theorem dX4_bestDepth_13 : decode cX4_bestDepth 13 = .ok (.aload_n 0, 1) := by decide +kernel
theorem dX4_bestDepth_14 : decode cX4_bestDepth 14 = .ok (.iload_n 3, 1) := by decide +kernel
theorem dX4_bestDepth_15 : decode cX4_bestDepth 15 = .ok (.invokevirtual 157, 3) := by decide +kernel
theorem dX4_bestDepth_18 : decode cX4_bestDepth 18 = .ok (.ifCond .eq 21, 3) := by decide +kernel
theorem dX4_bestDepth_21 : decode cX4_bestDepth 21 = .ok (.aload_n 0, 1) := by decide +kernel
theorem dX4_bestDepth_22 : decode cX4_bestDepth 22 = .ok (.iload_n 3, 1) := by decide +kernel
theorem dX4_bestDepth_23 : decode cX4_bestDepth 23 = .ok (.invokevirtual 160, 3) := by decide +kernel
theorem dX4_bestDepth_26 : decode cX4_bestDepth 26 = .ok (.istore 4, 2) := by decide +kernel
theorem dX4_bestDepth_28 : decode cX4_bestDepth 28 = .ok (.iload 4, 2) := by decide +kernel
theorem dX4_bestDepth_30 : decode cX4_bestDepth 30 = .ok (.iload_n 2, 1) := by decide +kernel
theorem dX4_bestDepth_31 : decode cX4_bestDepth 31 = .ok (.if_icmp .lt 8, 3) := by decide +kernel
theorem dX4_bestDepth_34 : decode cX4_bestDepth 34 = .ok (.iload_n 3, 1) := by decide +kernel
theorem dX4_bestDepth_35 : decode cX4_bestDepth 35 = .ok (.istore_n 1, 1) := by decide +kernel
theorem dX4_bestDepth_36 : decode cX4_bestDepth 36 = .ok (.iload 4, 2) := by decide +kernel
theorem dX4_bestDepth_38 : decode cX4_bestDepth 38 = .ok (.istore_n 2, 1) := by decide +kernel
theorem dX4_bestDepth_39 : decode cX4_bestDepth 39 = .ok (.iinc 3 1, 3) := by decide +kernel
theorem dX4_bestDepth_42 : decode cX4_bestDepth 42 = .ok (.goto (-35), 3) := by decide +kernel
theorem dX4_bestDepth_45 : decode cX4_bestDepth 45 = .ok (.iload_n 1, 1) := by decide +kernel
theorem dX4_bestDepth_46 : decode cX4_bestDepth 46 = .ok (.ireturn, 1) := by decide +kernel
theorem dX4_leastLoss_0 : decode cX4_leastLoss 0 = .ok (.iconst (-1), 1) := by decide +kernel
theorem dX4_leastLoss_1 : decode cX4_leastLoss 1 = .ok (.istore 4, 2) := by decide +kernel
theorem dX4_leastLoss_3 : decode cX4_leastLoss 3 = .ok (.sipush (-1000), 3) := by decide +kernel
theorem dX4_leastLoss_6 : decode cX4_leastLoss 6 = .ok (.istore 5, 2) := by decide +kernel
theorem dX4_leastLoss_8 : decode cX4_leastLoss 8 = .ok (.sipush 1001, 3) := by decide +kernel
theorem dX4_leastLoss_11 : decode cX4_leastLoss 11 = .ok (.istore 6, 2) := by decide +kernel
theorem dX4_leastLoss_13 : decode cX4_leastLoss 13 = .ok (.iconst 0, 1) := by decide +kernel
theorem dX4_leastLoss_14 : decode cX4_leastLoss 14 = .ok (.istore 7, 2) := by decide +kernel
theorem dX4_leastLoss_16 : decode cX4_leastLoss 16 = .ok (.iload 7, 2) := by decide +kernel
theorem dX4_leastLoss_18 : decode cX4_leastLoss 18 = .ok (.bipush 27, 2) := by decide +kernel
theorem dX4_leastLoss_20 : decode cX4_leastLoss 20 = .ok (.if_icmp .ge 98, 3) := by decide +kernel
theorem dX4_leastLoss_23 : decode cX4_leastLoss 23 = .ok (.iload 7, 2) := by decide +kernel
theorem dX4_leastLoss_25 : decode cX4_leastLoss 25 = .ok (.bipush 9, 2) := by decide +kernel
theorem dX4_leastLoss_27 : decode cX4_leastLoss 27 = .ok (.idiv, 1) := by decide +kernel
theorem dX4_leastLoss_28 : decode cX4_leastLoss 28 = .ok (.iconst 1, 1) := by decide +kernel
theorem dX4_leastLoss_29 : decode cX4_leastLoss 29 = .ok (.isub, 1) := by decide +kernel
theorem dX4_leastLoss_30 : decode cX4_leastLoss 30 = .ok (.istore 8, 2) := by decide +kernel
theorem dX4_leastLoss_32 : decode cX4_leastLoss 32 = .ok (.iload 7, 2) := by decide +kernel
theorem dX4_leastLoss_34 : decode cX4_leastLoss 34 = .ok (.iconst 3, 1) := by decide +kernel
theorem dX4_leastLoss_35 : decode cX4_leastLoss 35 = .ok (.idiv, 1) := by decide +kernel
theorem dX4_leastLoss_36 : decode cX4_leastLoss 36 = .ok (.iconst 3, 1) := by decide +kernel
theorem dX4_leastLoss_37 : decode cX4_leastLoss 37 = .ok (.irem, 1) := by decide +kernel
theorem dX4_leastLoss_38 : decode cX4_leastLoss 38 = .ok (.iconst 1, 1) := by decide +kernel
theorem dX4_leastLoss_39 : decode cX4_leastLoss 39 = .ok (.isub, 1) := by decide +kernel
theorem dX4_leastLoss_40 : decode cX4_leastLoss 40 = .ok (.istore 9, 2) := by decide +kernel
theorem dX4_leastLoss_42 : decode cX4_leastLoss 42 = .ok (.iload 7, 2) := by decide +kernel
theorem dX4_leastLoss_44 : decode cX4_leastLoss 44 = .ok (.iconst 3, 1) := by decide +kernel
theorem dX4_leastLoss_45 : decode cX4_leastLoss 45 = .ok (.irem, 1) := by decide +kernel
theorem dX4_leastLoss_46 : decode cX4_leastLoss 46 = .ok (.iconst 1, 1) := by decide +kernel
theorem dX4_leastLoss_47 : decode cX4_leastLoss 47 = .ok (.isub, 1) := by decide +kernel
theorem dX4_leastLoss_48 : decode cX4_leastLoss 48 = .ok (.istore 10, 2) := by decide +kernel
theorem dX4_leastLoss_50 : decode cX4_leastLoss 50 = .ok (.iload 8, 2) := by decide +kernel
theorem dX4_leastLoss_52 : decode cX4_leastLoss 52 = .ok (.ifCond .ne 13, 3) := by decide +kernel
theorem dX4_leastLoss_55 : decode cX4_leastLoss 55 = .ok (.iload 9, 2) := by decide +kernel
theorem dX4_leastLoss_57 : decode cX4_leastLoss 57 = .ok (.ifCond .ne 8, 3) := by decide +kernel
theorem dX4_leastLoss_60 : decode cX4_leastLoss 60 = .ok (.iload 10, 2) := by decide +kernel
theorem dX4_leastLoss_62 : decode cX4_leastLoss 62 = .ok (.ifCond .eq 50, 3) := by decide +kernel
theorem dX4_leastLoss_65 : decode cX4_leastLoss 65 = .ok (.aload_n 0, 1) := by decide +kernel
theorem dX4_leastLoss_66 : decode cX4_leastLoss 66 = .ok (.aload_n 1, 1) := by decide +kernel
theorem dX4_leastLoss_67 : decode cX4_leastLoss 67 = .ok (.iload 8, 2) := by decide +kernel
theorem dX4_leastLoss_69 : decode cX4_leastLoss 69 = .ok (.iload 9, 2) := by decide +kernel
theorem dX4_leastLoss_71 : decode cX4_leastLoss 71 = .ok (.iload 10, 2) := by decide +kernel
theorem dX4_leastLoss_73 : decode cX4_leastLoss 73 = .ok (.invokevirtual 68, 3) := by decide +kernel
theorem dX4_leastLoss_76 : decode cX4_leastLoss 76 = .ok (.aload_n 0, 1) := by decide +kernel
theorem dX4_leastLoss_77 : decode cX4_leastLoss 77 = .ok (.aload_n 2, 1) := by decide +kernel
theorem dX4_leastLoss_78 : decode cX4_leastLoss 78 = .ok (.invokevirtual 163, 3) := by decide +kernel
theorem dX4_leastLoss_81 : decode cX4_leastLoss 81 = .ok (.iconst 1, 1) := by decide +kernel
theorem dX4_leastLoss_82 : decode cX4_leastLoss 82 = .ok (.isub, 1) := by decide +kernel
theorem dX4_leastLoss_83 : decode cX4_leastLoss 83 = .ok (.istore 11, 2) := by decide +kernel
theorem dX4_leastLoss_85 : decode cX4_leastLoss 85 = .ok (.aload_n 0, 1) := by decide +kernel
theorem dX4_leastLoss_86 : decode cX4_leastLoss 86 = .ok (.iload 11, 2) := by decide +kernel
theorem dX4_leastLoss_88 : decode cX4_leastLoss 88 = .ok (.invokevirtual 167, 3) := by decide +kernel
theorem dX4_leastLoss_91 : decode cX4_leastLoss 91 = .ok (.iload 6, 2) := by decide +kernel
theorem dX4_leastLoss_93 : decode cX4_leastLoss 93 = .ok (.if_icmp .ge 19, 3) := by decide +kernel
theorem dX4_leastLoss_96 : decode cX4_leastLoss 96 = .ok (.iload 7, 2) := by decide +kernel
theorem dX4_leastLoss_98 : decode cX4_leastLoss 98 = .ok (.istore 4, 2) := by decide +kernel
theorem dX4_leastLoss_100 : decode cX4_leastLoss 100 = .ok (.iload 11, 2) := by decide +kernel
theorem dX4_leastLoss_102 : decode cX4_leastLoss 102 = .ok (.istore 5, 2) := by decide +kernel
theorem dX4_leastLoss_104 : decode cX4_leastLoss 104 = .ok (.aload_n 0, 1) := by decide +kernel
theorem dX4_leastLoss_105 : decode cX4_leastLoss 105 = .ok (.iload 11, 2) := by decide +kernel
theorem dX4_leastLoss_107 : decode cX4_leastLoss 107 = .ok (.invokevirtual 167, 3) := by decide +kernel
theorem dX4_leastLoss_110 : decode cX4_leastLoss 110 = .ok (.istore 6, 2) := by decide +kernel
theorem dX4_leastLoss_112 : decode cX4_leastLoss 112 = .ok (.iinc 7 1, 3) := by decide +kernel
theorem dX4_leastLoss_115 : decode cX4_leastLoss 115 = .ok (.goto (-99), 3) := by decide +kernel
theorem dX4_leastLoss_118 : decode cX4_leastLoss 118 = .ok (.iload_n 3, 1) := by decide +kernel
theorem dX4_leastLoss_119 : decode cX4_leastLoss 119 = .ok (.lookupswitch 31 #[(0, 25), (1, 28)], 25) := by decide +kernel
theorem dX4_leastLoss_144 : decode cX4_leastLoss 144 = .ok (.iload 4, 2) := by decide +kernel
theorem dX4_leastLoss_146 : decode cX4_leastLoss 146 = .ok (.ireturn, 1) := by decide +kernel
theorem dX4_leastLoss_147 : decode cX4_leastLoss 147 = .ok (.iload 5, 2) := by decide +kernel
theorem dX4_leastLoss_149 : decode cX4_leastLoss 149 = .ok (.ireturn, 1) := by decide +kernel
theorem dX4_leastLoss_150 : decode cX4_leastLoss 150 = .ok (.iload 6, 2) := by decide +kernel
theorem dX4_leastLoss_152 : decode cX4_leastLoss 152 = .ok (.ireturn, 1) := by decide +kernel
theorem dX4_lowestOf_0 : decode cX4_lowestOf 0 = .ok (.bipush 81, 2) := by decide +kernel
theorem dX4_lowestOf_2 : decode cX4_lowestOf 2 = .ok (.istore_n 2, 1) := by decide +kernel
theorem dX4_lowestOf_3 : decode cX4_lowestOf 3 = .ok (.iconst 0, 1) := by decide +kernel
theorem dX4_lowestOf_4 : decode cX4_lowestOf 4 = .ok (.istore_n 3, 1) := by decide +kernel
theorem dX4_lowestOf_5 : decode cX4_lowestOf 5 = .ok (.iload_n 3, 1) := by decide +kernel
theorem dX4_lowestOf_6 : decode cX4_lowestOf 6 = .ok (.aload_n 1, 1) := by decide +kernel
theorem dX4_lowestOf_7 : decode cX4_lowestOf 7 = .ok (.getfield 121, 3) := by decide +kernel
theorem dX4_lowestOf_10 : decode cX4_lowestOf 10 = .ok (.if_icmp .ge 49, 3) := by decide +kernel
theorem dX4_lowestOf_13 : decode cX4_lowestOf 13 = .ok (.aload_n 1, 1) := by decide +kernel
theorem dX4_lowestOf_14 : decode cX4_lowestOf 14 = .ok (.getfield 126, 3) := by decide +kernel
theorem dX4_lowestOf_17 : decode cX4_lowestOf 17 = .ok (.iload_n 3, 1) := by decide +kernel
theorem dX4_lowestOf_18 : decode cX4_lowestOf 18 = .ok (.iaload, 1) := by decide +kernel
theorem dX4_lowestOf_19 : decode cX4_lowestOf 19 = .ok (.istore 4, 2) := by decide +kernel
theorem dX4_lowestOf_21 : decode cX4_lowestOf 21 = .ok (.aload_n 0, 1) := by decide +kernel
theorem dX4_lowestOf_22 : decode cX4_lowestOf 22 = .ok (.getfield 28, 3) := by decide +kernel
theorem dX4_lowestOf_25 : decode cX4_lowestOf 25 = .ok (.getfield 60, 3) := by decide +kernel
theorem dX4_lowestOf_28 : decode cX4_lowestOf 28 = .ok (.iload 4, 2) := by decide +kernel
theorem dX4_lowestOf_30 : decode cX4_lowestOf 30 = .ok (.iaload, 1) := by decide +kernel
theorem dX4_lowestOf_31 : decode cX4_lowestOf 31 = .ok (.aload_n 0, 1) := by decide +kernel
theorem dX4_lowestOf_32 : decode cX4_lowestOf 32 = .ok (.getfield 32, 3) := by decide +kernel
theorem dX4_lowestOf_35 : decode cX4_lowestOf 35 = .ok (.getfield 63, 3) := by decide +kernel
theorem dX4_lowestOf_38 : decode cX4_lowestOf 38 = .ok (.if_icmp .ne 15, 3) := by decide +kernel
theorem dX4_lowestOf_41 : decode cX4_lowestOf 41 = .ok (.iload_n 2, 1) := by decide +kernel
theorem dX4_lowestOf_42 : decode cX4_lowestOf 42 = .ok (.aload_n 0, 1) := by decide +kernel
theorem dX4_lowestOf_43 : decode cX4_lowestOf 43 = .ok (.getfield 18, 3) := by decide +kernel
theorem dX4_lowestOf_46 : decode cX4_lowestOf 46 = .ok (.iload 4, 2) := by decide +kernel
theorem dX4_lowestOf_48 : decode cX4_lowestOf 48 = .ok (.iaload, 1) := by decide +kernel
theorem dX4_lowestOf_49 : decode cX4_lowestOf 49 = .ok (.invokestatic 86, 3) := by decide +kernel
theorem dX4_lowestOf_52 : decode cX4_lowestOf 52 = .ok (.istore_n 2, 1) := by decide +kernel
theorem dX4_lowestOf_53 : decode cX4_lowestOf 53 = .ok (.iinc 3 1, 3) := by decide +kernel
theorem dX4_lowestOf_56 : decode cX4_lowestOf 56 = .ok (.goto (-51), 3) := by decide +kernel
theorem dX4_lowestOf_59 : decode cX4_lowestOf 59 = .ok (.iload_n 2, 1) := by decide +kernel
theorem dX4_lowestOf_60 : decode cX4_lowestOf 60 = .ok (.ireturn, 1) := by decide +kernel
theorem dX5_init_0 : decode cX5_init 0 = .ok (.aload_n 0, 1) := by decide +kernel
theorem dX5_init_1 : decode cX5_init 1 = .ok (.invokespecial 1, 3) := by decide +kernel
theorem dX5_init_4 : decode cX5_init 4 = .ok (.aload_n 0, 1) := by decide +kernel
theorem dX5_init_5 : decode cX5_init 5 = .ok (.new 7, 3) := by decide +kernel
theorem dX5_init_8 : decode cX5_init 8 = .ok (.dup, 1) := by decide +kernel
theorem dX5_init_9 : decode cX5_init 9 = .ok (.invokespecial 9, 3) := by decide +kernel
theorem dX5_init_12 : decode cX5_init 12 = .ok (.putfield 10, 3) := by decide +kernel
theorem dX5_init_15 : decode cX5_init 15 = .ok (.aload_n 0, 1) := by decide +kernel
theorem dX5_init_16 : decode cX5_init 16 = .ok (.bipush 8, 2) := by decide +kernel
theorem dX5_init_18 : decode cX5_init 18 = .ok (.anewarray 16, 3) := by decide +kernel
theorem dX5_init_21 : decode cX5_init 21 = .ok (.putfield 18, 3) := by decide +kernel
theorem dX5_init_24 : decode cX5_init 24 = .ok (.iconst 0, 1) := by decide +kernel
theorem dX5_init_25 : decode cX5_init 25 = .ok (.istore_n 1, 1) := by decide +kernel
theorem dX5_init_26 : decode cX5_init 26 = .ok (.iload_n 1, 1) := by decide +kernel
theorem dX5_init_27 : decode cX5_init 27 = .ok (.bipush 8, 2) := by decide +kernel
theorem dX5_init_29 : decode cX5_init 29 = .ok (.if_icmp .ge 23, 3) := by decide +kernel
theorem dX5_init_32 : decode cX5_init 32 = .ok (.aload_n 0, 1) := by decide +kernel
theorem dX5_init_33 : decode cX5_init 33 = .ok (.getfield 18, 3) := by decide +kernel
theorem dX5_init_36 : decode cX5_init 36 = .ok (.iload_n 1, 1) := by decide +kernel
theorem dX5_init_37 : decode cX5_init 37 = .ok (.new 16, 3) := by decide +kernel
theorem dX5_init_40 : decode cX5_init 40 = .ok (.dup, 1) := by decide +kernel
theorem dX5_init_41 : decode cX5_init 41 = .ok (.iload_n 1, 1) := by decide +kernel
theorem dX5_init_42 : decode cX5_init 42 = .ok (.invokespecial 22, 3) := by decide +kernel
theorem dX5_init_45 : decode cX5_init 45 = .ok (.aastore, 1) := by decide +kernel
theorem dX5_init_46 : decode cX5_init 46 = .ok (.iinc 1 1, 3) := by decide +kernel
theorem dX5_init_49 : decode cX5_init 49 = .ok (.goto (-23), 3) := by decide +kernel
theorem dX5_init_52 : decode cX5_init 52 = .ok (.aload_n 0, 1) := by decide +kernel
theorem dX5_init_53 : decode cX5_init 53 = .ok (.new 25, 3) := by decide +kernel
theorem dX5_init_56 : decode cX5_init 56 = .ok (.dup, 1) := by decide +kernel
theorem dX5_init_57 : decode cX5_init 57 = .ok (.aload_n 0, 1) := by decide +kernel
theorem dX5_init_58 : decode cX5_init 58 = .ok (.getfield 10, 3) := by decide +kernel
theorem dX5_init_61 : decode cX5_init 61 = .ok (.aload_n 0, 1) := by decide +kernel
theorem dX5_init_62 : decode cX5_init 62 = .ok (.getfield 18, 3) := by decide +kernel
theorem dX5_init_65 : decode cX5_init 65 = .ok (.iconst 0, 1) := by decide +kernel
theorem dX5_init_66 : decode cX5_init 66 = .ok (.aaload, 1) := by decide +kernel
theorem dX5_init_67 : decode cX5_init 67 = .ok (.invokespecial 27, 3) := by decide +kernel
theorem dX5_init_70 : decode cX5_init 70 = .ok (.putfield 30, 3) := by decide +kernel
theorem dX5_init_73 : decode cX5_init 73 = .ok (.aload_n 0, 1) := by decide +kernel
theorem dX5_init_74 : decode cX5_init 74 = .ok (.bipush 6, 2) := by decide +kernel
theorem dX5_init_76 : decode cX5_init 76 = .ok (.bipush 6, 2) := by decide +kernel
theorem dX5_init_78 : decode cX5_init 78 = .ok (.bipush 6, 2) := by decide +kernel
theorem dX5_init_80 : decode cX5_init 80 = .ok (.invokevirtual 34, 3) := by decide +kernel
theorem dX5_init_83 : decode cX5_init 83 = .ok (.return_, 1) := by decide +kernel
theorem dX5_take_0 : decode cX5_take 0 = .ok (.iload_n 1, 1) := by decide +kernel
theorem dX5_take_1 : decode cX5_take 1 = .ok (.invokestatic 38, 3) := by decide +kernel
theorem dX5_take_4 : decode cX5_take 4 = .ok (.ifCond .eq 17, 3) := by decide +kernel
theorem dX5_take_7 : decode cX5_take 7 = .ok (.iload_n 2, 1) := by decide +kernel
theorem dX5_take_8 : decode cX5_take 8 = .ok (.invokestatic 38, 3) := by decide +kernel
theorem dX5_take_11 : decode cX5_take 11 = .ok (.ifCond .eq 10, 3) := by decide +kernel
theorem dX5_take_14 : decode cX5_take 14 = .ok (.iload_n 3, 1) := by decide +kernel
theorem dX5_take_15 : decode cX5_take 15 = .ok (.invokestatic 38, 3) := by decide +kernel
theorem dX5_take_18 : decode cX5_take 18 = .ok (.ifCond .ne 13, 3) := by decide +kernel
theorem dX5_take_21 : decode cX5_take 21 = .ok (.new 42, 3) := by decide +kernel
theorem dX5_take_24 : decode cX5_take 24 = .ok (.dup, 1) := by decide +kernel
theorem dX5_take_25 : decode cX5_take 25 = .ok (.ldc 44, 2) := by decide +kernel
theorem dX5_take_27 : decode cX5_take 27 = .ok (.invokespecial 46, 3) := by decide +kernel
theorem dX5_take_30 : decode cX5_take 30 = .ok (.athrow, 1) := by decide +kernel
theorem dX5_take_31 : decode cX5_take 31 = .ok (.aload_n 0, 1) := by decide +kernel
theorem dX5_take_32 : decode cX5_take 32 = .ok (.iload_n 1, 1) := by decide +kernel
theorem dX5_take_33 : decode cX5_take 33 = .ok (.iload_n 2, 1) := by decide +kernel
theorem dX5_take_34 : decode cX5_take 34 = .ok (.iload_n 3, 1) := by decide +kernel
theorem dX5_take_35 : decode cX5_take 35 = .ok (.invokevirtual 34, 3) := by decide +kernel
theorem dX5_take_38 : decode cX5_take 38 = .ok (.aload_n 0, 1) := by decide +kernel
theorem dX5_take_39 : decode cX5_take 39 = .ok (.getfield 10, 3) := by decide +kernel
theorem dX5_take_42 : decode cX5_take 42 = .ok (.invokevirtual 49, 3) := by decide +kernel
theorem dX5_take_45 : decode cX5_take 45 = .ok (.ireturn, 1) := by decide +kernel
theorem dX5_flaw_0 : decode cX5_flaw 0 = .ok (.aload_n 0, 1) := by decide +kernel
theorem dX5_flaw_1 : decode cX5_flaw 1 = .ok (.iload_n 1, 1) := by decide +kernel
theorem dX5_flaw_2 : decode cX5_flaw 2 = .ok (.iload_n 2, 1) := by decide +kernel
theorem dX5_flaw_3 : decode cX5_flaw 3 = .ok (.iload_n 3, 1) := by decide +kernel
theorem dX5_flaw_4 : decode cX5_flaw 4 = .ok (.invokevirtual 53, 3) := by decide +kernel
theorem dX5_flaw_7 : decode cX5_flaw 7 = .ok (.iload 4, 2) := by decide +kernel
theorem dX5_flaw_9 : decode cX5_flaw 9 = .ok (.ifCond .lt 22, 3) := by decide +kernel
theorem dX5_flaw_12 : decode cX5_flaw 12 = .ok (.iload 4, 2) := by decide +kernel
theorem dX5_flaw_14 : decode cX5_flaw 14 = .ok (.iconst 3, 1) := by decide +kernel
theorem dX5_flaw_15 : decode cX5_flaw 15 = .ok (.if_icmp .gt 16, 3) := by decide +kernel
theorem dX5_flaw_18 : decode cX5_flaw 18 = .ok (.iload 5, 2) := by decide +kernel
theorem dX5_flaw_20 : decode cX5_flaw 20 = .ok (.iconst 1, 1) := by decide +kernel
theorem dX5_flaw_21 : decode cX5_flaw 21 = .ok (.if_icmp .lt 10, 3) := by decide +kernel
theorem dX5_flaw_24 : decode cX5_flaw 24 = .ok (.iload 5, 2) := by decide +kernel
theorem dX5_flaw_26 : decode cX5_flaw 26 = .ok (.bipush 9, 2) := by decide +kernel
theorem dX5_flaw_28 : decode cX5_flaw 28 = .ok (.if_icmp .le 13, 3) := by decide +kernel
theorem dX5_flaw_31 : decode cX5_flaw 31 = .ok (.new 42, 3) := by decide +kernel
theorem dX5_flaw_34 : decode cX5_flaw 34 = .ok (.dup, 1) := by decide +kernel
theorem dX5_flaw_35 : decode cX5_flaw 35 = .ok (.ldc 56, 2) := by decide +kernel
theorem dX5_flaw_37 : decode cX5_flaw 37 = .ok (.invokespecial 46, 3) := by decide +kernel
theorem dX5_flaw_40 : decode cX5_flaw 40 = .ok (.athrow, 1) := by decide +kernel
theorem dX5_flaw_41 : decode cX5_flaw 41 = .ok (.aload_n 0, 1) := by decide +kernel
theorem dX5_flaw_42 : decode cX5_flaw 42 = .ok (.getfield 10, 3) := by decide +kernel
theorem dX5_flaw_45 : decode cX5_flaw 45 = .ok (.getfield 58, 3) := by decide +kernel
theorem dX5_flaw_48 : decode cX5_flaw 48 = .ok (.bipush 10, 2) := by decide +kernel
theorem dX5_flaw_50 : decode cX5_flaw 50 = .ok (.if_icmp .lt 13, 3) := by decide +kernel
theorem dX5_flaw_53 : decode cX5_flaw 53 = .ok (.new 62, 3) := by decide +kernel
theorem dX5_flaw_56 : decode cX5_flaw 56 = .ok (.dup, 1) := by decide +kernel
theorem dX5_flaw_57 : decode cX5_flaw 57 = .ok (.ldc 64, 2) := by decide +kernel
theorem dX5_flaw_59 : decode cX5_flaw 59 = .ok (.invokespecial 66, 3) := by decide +kernel
theorem dX5_flaw_62 : decode cX5_flaw 62 = .ok (.athrow, 1) := by decide +kernel
theorem dX5_flaw_63 : decode cX5_flaw 63 = .ok (.aload_n 0, 1) := by decide +kernel
theorem dX5_flaw_64 : decode cX5_flaw 64 = .ok (.getfield 10, 3) := by decide +kernel
theorem dX5_flaw_67 : decode cX5_flaw 67 = .ok (.iload_n 1, 1) := by decide +kernel
theorem dX5_flaw_68 : decode cX5_flaw 68 = .ok (.iload_n 2, 1) := by decide +kernel
theorem dX5_flaw_69 : decode cX5_flaw 69 = .ok (.iload_n 3, 1) := by decide +kernel
theorem dX5_flaw_70 : decode cX5_flaw 70 = .ok (.iload 4, 2) := by decide +kernel
theorem dX5_flaw_72 : decode cX5_flaw 72 = .ok (.iload 5, 2) := by decide +kernel
theorem dX5_flaw_74 : decode cX5_flaw 74 = .ok (.invokevirtual 67, 3) := by decide +kernel
theorem dX5_flaw_77 : decode cX5_flaw 77 = .ok (.aload_n 0, 1) := by decide +kernel
theorem dX5_flaw_78 : decode cX5_flaw 78 = .ok (.getfield 10, 3) := by decide +kernel
theorem dX5_flaw_81 : decode cX5_flaw 81 = .ok (.getfield 58, 3) := by decide +kernel
theorem dX5_flaw_84 : decode cX5_flaw 84 = .ok (.iconst 1, 1) := by decide +kernel
theorem dX5_flaw_85 : decode cX5_flaw 85 = .ok (.isub, 1) := by decide +kernel
theorem dX5_flaw_86 : decode cX5_flaw 86 = .ok (.ireturn, 1) := by decide +kernel
theorem dX5_cell_0 : decode cX5_cell 0 = .ok (.aload_n 0, 1) := by decide +kernel
theorem dX5_cell_1 : decode cX5_cell 1 = .ok (.iload_n 1, 1) := by decide +kernel
theorem dX5_cell_2 : decode cX5_cell 2 = .ok (.iload_n 2, 1) := by decide +kernel
theorem dX5_cell_3 : decode cX5_cell 3 = .ok (.iload_n 3, 1) := by decide +kernel
theorem dX5_cell_4 : decode cX5_cell 4 = .ok (.invokevirtual 53, 3) := by decide +kernel
theorem dX5_cell_7 : decode cX5_cell 7 = .ok (.aload_n 0, 1) := by decide +kernel
theorem dX5_cell_8 : decode cX5_cell 8 = .ok (.getfield 10, 3) := by decide +kernel
theorem dX5_cell_11 : decode cX5_cell 11 = .ok (.iload_n 1, 1) := by decide +kernel
theorem dX5_cell_12 : decode cX5_cell 12 = .ok (.iload_n 2, 1) := by decide +kernel
theorem dX5_cell_13 : decode cX5_cell 13 = .ok (.iload_n 3, 1) := by decide +kernel
theorem dX5_cell_14 : decode cX5_cell 14 = .ok (.invokevirtual 71, 3) := by decide +kernel
theorem dX5_cell_17 : decode cX5_cell 17 = .ok (.ireturn, 1) := by decide +kernel
theorem dX5_flawIn_0 : decode cX5_flawIn 0 = .ok (.aload_n 0, 1) := by decide +kernel
theorem dX5_flawIn_1 : decode cX5_flawIn 1 = .ok (.iload_n 1, 1) := by decide +kernel
theorem dX5_flawIn_2 : decode cX5_flawIn 2 = .ok (.invokevirtual 75, 3) := by decide +kernel
theorem dX5_flawIn_5 : decode cX5_flawIn 5 = .ok (.aload_n 0, 1) := by decide +kernel
theorem dX5_flawIn_6 : decode cX5_flawIn 6 = .ok (.iload_n 2, 1) := by decide +kernel
theorem dX5_flawIn_7 : decode cX5_flawIn 7 = .ok (.invokevirtual 78, 3) := by decide +kernel
theorem dX5_flawIn_10 : decode cX5_flawIn 10 = .ok (.iload_n 3, 1) := by decide +kernel
theorem dX5_flawIn_11 : decode cX5_flawIn 11 = .ok (.iconst 3, 1) := by decide +kernel
theorem dX5_flawIn_12 : decode cX5_flawIn 12 = .ok (.invokestatic 81, 3) := by decide +kernel
theorem dX5_flawIn_15 : decode cX5_flawIn 15 = .ok (.aload_n 0, 1) := by decide +kernel
theorem dX5_flawIn_16 : decode cX5_flawIn 16 = .ok (.iload_n 1, 1) := by decide +kernel
theorem dX5_flawIn_17 : decode cX5_flawIn 17 = .ok (.iload_n 2, 1) := by decide +kernel
theorem dX5_flawIn_18 : decode cX5_flawIn 18 = .ok (.iload_n 3, 1) := by decide +kernel
theorem dX5_flawIn_19 : decode cX5_flawIn 19 = .ok (.invokevirtual 85, 3) := by decide +kernel
theorem dX5_flawIn_22 : decode cX5_flawIn 22 = .ok (.ireturn, 1) := by decide +kernel
theorem dX5_saw_0 : decode cX5_saw 0 = .ok (.aload_n 0, 1) := by decide +kernel
theorem dX5_saw_1 : decode cX5_saw 1 = .ok (.iload_n 1, 1) := by decide +kernel
theorem dX5_saw_2 : decode cX5_saw 2 = .ok (.invokevirtual 78, 3) := by decide +kernel
theorem dX5_saw_5 : decode cX5_saw 5 = .ok (.iload_n 2, 1) := by decide +kernel
theorem dX5_saw_6 : decode cX5_saw 6 = .ok (.iload_n 3, 1) := by decide +kernel
theorem dX5_saw_7 : decode cX5_saw 7 = .ok (.iload 4, 2) := by decide +kernel
theorem dX5_saw_9 : decode cX5_saw 9 = .ok (.invokestatic 88, 3) := by decide +kernel
theorem dX5_saw_12 : decode cX5_saw 12 = .ok (.iload 5, 2) := by decide +kernel
theorem dX5_saw_14 : decode cX5_saw 14 = .ok (.invokestatic 91, 3) := by decide +kernel
theorem dX5_saw_17 : decode cX5_saw 17 = .ok (.aload_n 0, 1) := by decide +kernel
theorem dX5_saw_18 : decode cX5_saw 18 = .ok (.getfield 30, 3) := by decide +kernel
theorem dX5_saw_21 : decode cX5_saw 21 = .ok (.aload_n 0, 1) := by decide +kernel
theorem dX5_saw_22 : decode cX5_saw 22 = .ok (.getfield 18, 3) := by decide +kernel
theorem dX5_saw_25 : decode cX5_saw 25 = .ok (.iload_n 1, 1) := by decide +kernel
theorem dX5_saw_26 : decode cX5_saw 26 = .ok (.aaload, 1) := by decide +kernel
theorem dX5_saw_27 : decode cX5_saw 27 = .ok (.iload_n 2, 1) := by decide +kernel
theorem dX5_saw_28 : decode cX5_saw 28 = .ok (.iload_n 3, 1) := by decide +kernel
theorem dX5_saw_29 : decode cX5_saw 29 = .ok (.iload 4, 2) := by decide +kernel
theorem dX5_saw_31 : decode cX5_saw 31 = .ok (.invokevirtual 94, 3) := by decide +kernel
theorem dX5_saw_34 : decode cX5_saw 34 = .ok (.aload_n 0, 1) := by decide +kernel
theorem dX5_saw_35 : decode cX5_saw 35 = .ok (.getfield 30, 3) := by decide +kernel
theorem dX5_saw_38 : decode cX5_saw 38 = .ok (.iload 5, 2) := by decide +kernel
theorem dX5_saw_40 : decode cX5_saw 40 = .ok (.invokevirtual 98, 3) := by decide +kernel
theorem dX5_saw_43 : decode cX5_saw 43 = .ok (.istore 6, 2) := by decide +kernel
theorem dX5_saw_45 : decode cX5_saw 45 = .ok (.aload_n 0, 1) := by decide +kernel
theorem dX5_saw_46 : decode cX5_saw 46 = .ok (.getfield 102, 3) := by decide +kernel
theorem dX5_saw_49 : decode cX5_saw 49 = .ok (.bipush 8, 2) := by decide +kernel
theorem dX5_saw_51 : decode cX5_saw 51 = .ok (.if_icmp .ge 22, 3) := by decide +kernel
theorem dX5_saw_54 : decode cX5_saw 54 = .ok (.iload 6, 2) := by decide +kernel
theorem dX5_saw_56 : decode cX5_saw 56 = .ok (.ifCond .eq 17, 3) := by decide +kernel
theorem dX5_saw_59 : decode cX5_saw 59 = .ok (.iload 6, 2) := by decide +kernel
theorem dX5_saw_61 : decode cX5_saw 61 = .ok (.aload_n 0, 1) := by decide +kernel
theorem dX5_saw_62 : decode cX5_saw 62 = .ok (.getfield 18, 3) := by decide +kernel
theorem dX5_saw_65 : decode cX5_saw 65 = .ok (.iload_n 1, 1) := by decide +kernel
theorem dX5_saw_66 : decode cX5_saw 66 = .ok (.aaload, 1) := by decide +kernel
theorem dX5_saw_67 : decode cX5_saw 67 = .ok (.getfield 105, 3) := by decide +kernel
theorem dX5_saw_70 : decode cX5_saw 70 = .ok (.if_icmp .ne 13, 3) := by decide +kernel
theorem dX5_saw_73 : decode cX5_saw 73 = .ok (.new 62, 3) := by decide +kernel
theorem dX5_saw_76 : decode cX5_saw 76 = .ok (.dup, 1) := by decide +kernel
theorem dX5_saw_77 : decode cX5_saw 77 = .ok (.ldc 108, 2) := by decide +kernel
theorem dX5_saw_79 : decode cX5_saw 79 = .ok (.invokespecial 66, 3) := by decide +kernel
theorem dX5_saw_82 : decode cX5_saw 82 = .ok (.athrow, 1) := by decide +kernel
theorem dX5_saw_83 : decode cX5_saw 83 = .ok (.aload_n 0, 1) := by decide +kernel
theorem dX5_saw_84 : decode cX5_saw 84 = .ok (.getfield 102, 3) := by decide +kernel
theorem dX5_saw_87 : decode cX5_saw 87 = .ok (.istore 7, 2) := by decide +kernel
theorem dX5_saw_89 : decode cX5_saw 89 = .ok (.aload_n 0, 1) := by decide +kernel
theorem dX5_saw_90 : decode cX5_saw 90 = .ok (.getfield 18, 3) := by decide +kernel
theorem dX5_saw_93 : decode cX5_saw 93 = .ok (.iload 7, 2) := by decide +kernel
theorem dX5_saw_95 : decode cX5_saw 95 = .ok (.aaload, 1) := by decide +kernel
theorem dX5_saw_96 : decode cX5_saw 96 = .ok (.invokevirtual 110, 3) := by decide +kernel
theorem dX5_saw_99 : decode cX5_saw 99 = .ok (.aload_n 0, 1) := by decide +kernel
theorem dX5_saw_100 : decode cX5_saw 100 = .ok (.dup, 1) := by decide +kernel
theorem dX5_saw_101 : decode cX5_saw 101 = .ok (.getfield 102, 3) := by decide +kernel
theorem dX5_saw_104 : decode cX5_saw 104 = .ok (.iconst 1, 1) := by decide +kernel
theorem dX5_saw_105 : decode cX5_saw 105 = .ok (.iadd, 1) := by decide +kernel
theorem dX5_saw_106 : decode cX5_saw 106 = .ok (.putfield 102, 3) := by decide +kernel
theorem dX5_saw_109 : decode cX5_saw 109 = .ok (.aload_n 0, 1) := by decide +kernel
theorem dX5_saw_110 : decode cX5_saw 110 = .ok (.getfield 30, 3) := by decide +kernel
theorem dX5_saw_113 : decode cX5_saw 113 = .ok (.iload 5, 2) := by decide +kernel
theorem dX5_saw_115 : decode cX5_saw 115 = .ok (.iload 7, 2) := by decide +kernel
theorem dX5_saw_117 : decode cX5_saw 117 = .ok (.invokevirtual 113, 3) := by decide +kernel
theorem dX5_saw_120 : decode cX5_saw 120 = .ok (.aload_n 0, 1) := by decide +kernel
theorem dX5_saw_121 : decode cX5_saw 121 = .ok (.invokevirtual 116, 3) := by decide +kernel
theorem dX5_saw_124 : decode cX5_saw 124 = .ok (.iload 7, 2) := by decide +kernel
theorem dX5_saw_126 : decode cX5_saw 126 = .ok (.ireturn, 1) := by decide +kernel
theorem dX5_cut_0 : decode cX5_cut 0 = .ok (.aload_n 0, 1) := by decide +kernel
theorem dX5_cut_1 : decode cX5_cut 1 = .ok (.iload_n 1, 1) := by decide +kernel
theorem dX5_cut_2 : decode cX5_cut 2 = .ok (.invokevirtual 78, 3) := by decide +kernel
theorem dX5_cut_5 : decode cX5_cut 5 = .ok (.iload_n 2, 1) := by decide +kernel
theorem dX5_cut_6 : decode cX5_cut 6 = .ok (.iload_n 3, 1) := by decide +kernel
theorem dX5_cut_7 : decode cX5_cut 7 = .ok (.iload 4, 2) := by decide +kernel
theorem dX5_cut_9 : decode cX5_cut 9 = .ok (.invokestatic 88, 3) := by decide +kernel
theorem dX5_cut_12 : decode cX5_cut 12 = .ok (.iload 5, 2) := by decide +kernel
theorem dX5_cut_14 : decode cX5_cut 14 = .ok (.invokestatic 91, 3) := by decide +kernel
theorem dX5_cut_17 : decode cX5_cut 17 = .ok (.aload_n 0, 1) := by decide +kernel
theorem dX5_cut_18 : decode cX5_cut 18 = .ok (.getfield 18, 3) := by decide +kernel
theorem dX5_cut_21 : decode cX5_cut 21 = .ok (.iload_n 1, 1) := by decide +kernel
theorem dX5_cut_22 : decode cX5_cut 22 = .ok (.aaload, 1) := by decide +kernel
theorem dX5_cut_23 : decode cX5_cut 23 = .ok (.astore 6, 2) := by decide +kernel
theorem dX5_cut_25 : decode cX5_cut 25 = .ok (.aload_n 0, 1) := by decide +kernel
theorem dX5_cut_26 : decode cX5_cut 26 = .ok (.getfield 30, 3) := by decide +kernel
theorem dX5_cut_29 : decode cX5_cut 29 = .ok (.aload 6, 2) := by decide +kernel
theorem dX5_cut_31 : decode cX5_cut 31 = .ok (.iload_n 2, 1) := by decide +kernel
theorem dX5_cut_32 : decode cX5_cut 32 = .ok (.iload_n 3, 1) := by decide +kernel
theorem dX5_cut_33 : decode cX5_cut 33 = .ok (.iload 4, 2) := by decide +kernel
theorem dX5_cut_35 : decode cX5_cut 35 = .ok (.invokevirtual 94, 3) := by decide +kernel
theorem dX5_cut_38 : decode cX5_cut 38 = .ok (.aload_n 0, 1) := by decide +kernel
theorem dX5_cut_39 : decode cX5_cut 39 = .ok (.getfield 30, 3) := by decide +kernel
theorem dX5_cut_42 : decode cX5_cut 42 = .ok (.iload 5, 2) := by decide +kernel
theorem dX5_cut_44 : decode cX5_cut 44 = .ok (.invokevirtual 98, 3) := by decide +kernel
theorem dX5_cut_47 : decode cX5_cut 47 = .ok (.istore 7, 2) := by decide +kernel
theorem dX5_cut_49 : decode cX5_cut 49 = .ok (.iconst 3, 1) := by decide +kernel
theorem dX5_cut_50 : decode cX5_cut 50 = .ok (.iload 7, 2) := by decide +kernel
theorem dX5_cut_52 : decode cX5_cut 52 = .ok (.imul, 1) := by decide +kernel
theorem dX5_cut_53 : decode cX5_cut 53 = .ok (.istore 8, 2) := by decide +kernel
theorem dX5_cut_55 : decode cX5_cut 55 = .ok (.aload 6, 2) := by decide +kernel
theorem dX5_cut_57 : decode cX5_cut 57 = .ok (.getfield 119, 3) := by decide +kernel
theorem dX5_cut_60 : decode cX5_cut 60 = .ok (.bipush 16, 2) := by decide +kernel
theorem dX5_cut_62 : decode cX5_cut 62 = .ok (.if_icmp .ge 12, 3) := by decide +kernel
theorem dX5_cut_65 : decode cX5_cut 65 = .ok (.iload 8, 2) := by decide +kernel
theorem dX5_cut_67 : decode cX5_cut 67 = .ok (.aload_n 0, 1) := by decide +kernel
theorem dX5_cut_68 : decode cX5_cut 68 = .ok (.getfield 122, 3) := by decide +kernel
theorem dX5_cut_71 : decode cX5_cut 71 = .ok (.if_icmp .le 13, 3) := by decide +kernel
theorem dX5_cut_74 : decode cX5_cut 74 = .ok (.new 62, 3) := by decide +kernel
theorem dX5_cut_77 : decode cX5_cut 77 = .ok (.dup, 1) := by decide +kernel
theorem dX5_cut_78 : decode cX5_cut 78 = .ok (.ldc 125, 2) := by decide +kernel
theorem dX5_cut_80 : decode cX5_cut 80 = .ok (.invokespecial 66, 3) := by decide +kernel
theorem dX5_cut_83 : decode cX5_cut 83 = .ok (.athrow, 1) := by decide +kernel
theorem dX5_cut_84 : decode cX5_cut 84 = .ok (.aload 6, 2) := by decide +kernel
theorem dX5_cut_86 : decode cX5_cut 86 = .ok (.iload_n 2, 1) := by decide +kernel
theorem dX5_cut_87 : decode cX5_cut 87 = .ok (.iload_n 3, 1) := by decide +kernel
theorem dX5_cut_88 : decode cX5_cut 88 = .ok (.iload 4, 2) := by decide +kernel
theorem dX5_cut_90 : decode cX5_cut 90 = .ok (.iload 5, 2) := by decide +kernel
theorem dX5_cut_92 : decode cX5_cut 92 = .ok (.invokevirtual 127, 3) := by decide +kernel
theorem dX5_cut_95 : decode cX5_cut 95 = .ok (.aload_n 0, 1) := by decide +kernel
theorem dX5_cut_96 : decode cX5_cut 96 = .ok (.getfield 30, 3) := by decide +kernel
theorem dX5_cut_99 : decode cX5_cut 99 = .ok (.iload 5, 2) := by decide +kernel
theorem dX5_cut_101 : decode cX5_cut 101 = .ok (.iconst (-1), 1) := by decide +kernel
theorem dX5_cut_102 : decode cX5_cut 102 = .ok (.invokevirtual 113, 3) := by decide +kernel
theorem dX5_cut_105 : decode cX5_cut 105 = .ok (.aload_n 0, 1) := by decide +kernel
theorem dX5_cut_106 : decode cX5_cut 106 = .ok (.iload 8, 2) := by decide +kernel
theorem dX5_cut_108 : decode cX5_cut 108 = .ok (.invokevirtual 131, 3) := by decide +kernel
theorem dX5_cut_111 : decode cX5_cut 111 = .ok (.aload_n 0, 1) := by decide +kernel
theorem dX5_cut_112 : decode cX5_cut 112 = .ok (.invokevirtual 116, 3) := by decide +kernel
theorem dX5_cut_115 : decode cX5_cut 115 = .ok (.iload 7, 2) := by decide +kernel
theorem dX5_cut_117 : decode cX5_cut 117 = .ok (.ireturn, 1) := by decide +kernel
theorem dX5_polish_0 : decode cX5_polish 0 = .ok (.aload_n 0, 1) := by decide +kernel
theorem dX5_polish_1 : decode cX5_polish 1 = .ok (.iload_n 1, 1) := by decide +kernel
theorem dX5_polish_2 : decode cX5_polish 2 = .ok (.invokevirtual 78, 3) := by decide +kernel
theorem dX5_polish_5 : decode cX5_polish 5 = .ok (.aload_n 0, 1) := by decide +kernel
theorem dX5_polish_6 : decode cX5_polish 6 = .ok (.iload_n 1, 1) := by decide +kernel
theorem dX5_polish_7 : decode cX5_polish 7 = .ok (.iload_n 2, 1) := by decide +kernel
theorem dX5_polish_8 : decode cX5_polish 8 = .ok (.invokevirtual 134, 3) := by decide +kernel
theorem dX5_polish_11 : decode cX5_polish 11 = .ok (.aload_n 0, 1) := by decide +kernel
theorem dX5_polish_12 : decode cX5_polish 12 = .ok (.getfield 18, 3) := by decide +kernel
theorem dX5_polish_15 : decode cX5_polish 15 = .ok (.iload_n 1, 1) := by decide +kernel
theorem dX5_polish_16 : decode cX5_polish 16 = .ok (.aaload, 1) := by decide +kernel
theorem dX5_polish_17 : decode cX5_polish 17 = .ok (.getfield 137, 3) := by decide +kernel
theorem dX5_polish_20 : decode cX5_polish 20 = .ok (.iload_n 2, 1) := by decide +kernel
theorem dX5_polish_21 : decode cX5_polish 21 = .ok (.aaload, 1) := by decide +kernel
theorem dX5_polish_22 : decode cX5_polish 22 = .ok (.astore_n 3, 1) := by decide +kernel
theorem dX5_polish_23 : decode cX5_polish 23 = .ok (.aload_n 3, 1) := by decide +kernel
theorem dX5_polish_24 : decode cX5_polish 24 = .ok (.getfield 141, 3) := by decide +kernel
theorem dX5_polish_27 : decode cX5_polish 27 = .ok (.iconst 5, 1) := by decide +kernel
theorem dX5_polish_28 : decode cX5_polish 28 = .ok (.iadd, 1) := by decide +kernel
theorem dX5_polish_29 : decode cX5_polish 29 = .ok (.istore 4, 2) := by decide +kernel
theorem dX5_polish_31 : decode cX5_polish 31 = .ok (.aload_n 3, 1) := by decide +kernel
theorem dX5_polish_32 : decode cX5_polish 32 = .ok (.invokevirtual 146, 3) := by decide +kernel
theorem dX5_polish_35 : decode cX5_polish 35 = .ok (.ifCond .eq 19, 3) := by decide +kernel
theorem dX5_polish_38 : decode cX5_polish 38 = .ok (.aload_n 3, 1) := by decide +kernel
theorem dX5_polish_39 : decode cX5_polish 39 = .ok (.getfield 150, 3) := by decide +kernel
theorem dX5_polish_42 : decode cX5_polish 42 = .ok (.ifCond .ne 12, 3) := by decide +kernel
theorem dX5_polish_45 : decode cX5_polish 45 = .ok (.iload 4, 2) := by decide +kernel
theorem dX5_polish_47 : decode cX5_polish 47 = .ok (.aload_n 0, 1) := by decide +kernel
theorem dX5_polish_48 : decode cX5_polish 48 = .ok (.getfield 122, 3) := by decide +kernel
theorem dX5_polish_51 : decode cX5_polish 51 = .ok (.if_icmp .le 13, 3) := by decide +kernel
theorem dX5_polish_54 : decode cX5_polish 54 = .ok (.new 62, 3) := by decide +kernel
theorem dX5_polish_57 : decode cX5_polish 57 = .ok (.dup, 1) := by decide +kernel
theorem dX5_polish_58 : decode cX5_polish 58 = .ok (.ldc 154, 2) := by decide +kernel
theorem dX5_polish_60 : decode cX5_polish 60 = .ok (.invokespecial 66, 3) := by decide +kernel
theorem dX5_polish_63 : decode cX5_polish 63 = .ok (.athrow, 1) := by decide +kernel
theorem dX5_polish_64 : decode cX5_polish 64 = .ok (.aload_n 3, 1) := by decide +kernel
theorem dX5_polish_65 : decode cX5_polish 65 = .ok (.iconst 1, 1) := by decide +kernel
theorem dX5_polish_66 : decode cX5_polish 66 = .ok (.putfield 150, 3) := by decide +kernel
theorem dX5_polish_69 : decode cX5_polish 69 = .ok (.aload_n 0, 1) := by decide +kernel
theorem dX5_polish_70 : decode cX5_polish 70 = .ok (.iload 4, 2) := by decide +kernel
theorem dX5_polish_72 : decode cX5_polish 72 = .ok (.invokevirtual 131, 3) := by decide +kernel
theorem dX5_polish_75 : decode cX5_polish 75 = .ok (.iload 4, 2) := by decide +kernel
theorem dX5_polish_77 : decode cX5_polish 77 = .ok (.ireturn, 1) := by decide +kernel
theorem dX5_dress_0 : decode cX5_dress 0 = .ok (.aload_n 0, 1) := by decide +kernel
theorem dX5_dress_1 : decode cX5_dress 1 = .ok (.getfield 122, 3) := by decide +kernel
theorem dX5_dress_4 : decode cX5_dress 4 = .ok (.istore_n 1, 1) := by decide +kernel
theorem dX5_dress_5 : decode cX5_dress 5 = .ok (.aload_n 0, 1) := by decide +kernel
theorem dX5_dress_6 : decode cX5_dress 6 = .ok (.sipush 400, 3) := by decide +kernel
theorem dX5_dress_9 : decode cX5_dress 9 = .ok (.putfield 122, 3) := by decide +kernel
theorem dX5_dress_12 : decode cX5_dress 12 = .ok (.iload_n 1, 1) := by decide +kernel
theorem dX5_dress_13 : decode cX5_dress 13 = .ok (.ireturn, 1) := by decide +kernel
theorem dX5_stone_0 : decode cX5_stone 0 = .ok (.aload_n 0, 1) := by decide +kernel
theorem dX5_stone_1 : decode cX5_stone 1 = .ok (.iload_n 1, 1) := by decide +kernel
theorem dX5_stone_2 : decode cX5_stone 2 = .ok (.invokevirtual 78, 3) := by decide +kernel
theorem dX5_stone_5 : decode cX5_stone 5 = .ok (.iload_n 2, 1) := by decide +kernel
theorem dX5_stone_6 : decode cX5_stone 6 = .ok (.bipush 9, 2) := by decide +kernel
theorem dX5_stone_8 : decode cX5_stone 8 = .ok (.invokestatic 81, 3) := by decide +kernel
theorem dX5_stone_11 : decode cX5_stone 11 = .ok (.aload_n 0, 1) := by decide +kernel
theorem dX5_stone_12 : decode cX5_stone 12 = .ok (.aload_n 0, 1) := by decide +kernel
theorem dX5_stone_13 : decode cX5_stone 13 = .ok (.getfield 18, 3) := by decide +kernel
theorem dX5_stone_16 : decode cX5_stone 16 = .ok (.iload_n 1, 1) := by decide +kernel
theorem dX5_stone_17 : decode cX5_stone 17 = .ok (.aaload, 1) := by decide +kernel
theorem dX5_stone_18 : decode cX5_stone 18 = .ok (.iload_n 2, 1) := by decide +kernel
theorem dX5_stone_19 : decode cX5_stone 19 = .ok (.invokevirtual 156, 3) := by decide +kernel
theorem dX5_stone_22 : decode cX5_stone 22 = .ok (.ireturn, 1) := by decide +kernel
theorem dX5_plane_0 : decode cX5_plane 0 = .ok (.aload_n 0, 1) := by decide +kernel
theorem dX5_plane_1 : decode cX5_plane 1 = .ok (.iload_n 1, 1) := by decide +kernel
theorem dX5_plane_2 : decode cX5_plane 2 = .ok (.invokevirtual 78, 3) := by decide +kernel
theorem dX5_plane_5 : decode cX5_plane 5 = .ok (.aload_n 0, 1) := by decide +kernel
theorem dX5_plane_6 : decode cX5_plane 6 = .ok (.iload_n 1, 1) := by decide +kernel
theorem dX5_plane_7 : decode cX5_plane 7 = .ok (.iload_n 2, 1) := by decide +kernel
theorem dX5_plane_8 : decode cX5_plane 8 = .ok (.invokevirtual 134, 3) := by decide +kernel
theorem dX5_plane_11 : decode cX5_plane 11 = .ok (.iload_n 3, 1) := by decide +kernel
theorem dX5_plane_12 : decode cX5_plane 12 = .ok (.bipush 6, 2) := by decide +kernel
theorem dX5_plane_14 : decode cX5_plane 14 = .ok (.invokestatic 81, 3) := by decide +kernel
theorem dX5_plane_17 : decode cX5_plane 17 = .ok (.aload_n 0, 1) := by decide +kernel
theorem dX5_plane_18 : decode cX5_plane 18 = .ok (.getfield 18, 3) := by decide +kernel
theorem dX5_plane_21 : decode cX5_plane 21 = .ok (.iload_n 1, 1) := by decide +kernel
theorem dX5_plane_22 : decode cX5_plane 22 = .ok (.aaload, 1) := by decide +kernel
theorem dX5_plane_23 : decode cX5_plane 23 = .ok (.getfield 137, 3) := by decide +kernel
theorem dX5_plane_26 : decode cX5_plane 26 = .ok (.iload_n 2, 1) := by decide +kernel
theorem dX5_plane_27 : decode cX5_plane 27 = .ok (.aaload, 1) := by decide +kernel
theorem dX5_plane_28 : decode cX5_plane 28 = .ok (.iload_n 3, 1) := by decide +kernel
theorem dX5_plane_29 : decode cX5_plane 29 = .ok (.invokevirtual 160, 3) := by decide +kernel
theorem dX5_plane_32 : decode cX5_plane 32 = .ok (.ireturn, 1) := by decide +kernel
theorem dX5_count_0 : decode cX5_count 0 = .ok (.iload_n 1, 1) := by decide +kernel
theorem dX5_count_1 : decode cX5_count 1 = .ok (.bipush 8, 2) := by decide +kernel
theorem dX5_count_3 : decode cX5_count 3 = .ok (.invokestatic 81, 3) := by decide +kernel
theorem dX5_count_6 : decode cX5_count 6 = .ok (.aload_n 0, 1) := by decide +kernel
theorem dX5_count_7 : decode cX5_count 7 = .ok (.iload_n 1, 1) := by decide +kernel
theorem dX5_count_8 : decode cX5_count 8 = .ok (.invokevirtual 167, 3) := by decide +kernel
theorem dX5_count_11 : decode cX5_count 11 = .ok (.ireturn, 1) := by decide +kernel
theorem dX5_would_0 : decode cX5_would 0 = .ok (.aload_n 0, 1) := by decide +kernel
theorem dX5_would_1 : decode cX5_would 1 = .ok (.iload_n 1, 1) := by decide +kernel
theorem dX5_would_2 : decode cX5_would 2 = .ok (.invokevirtual 78, 3) := by decide +kernel
theorem dX5_would_5 : decode cX5_would 5 = .ok (.iload 6, 2) := by decide +kernel
theorem dX5_would_7 : decode cX5_would 7 = .ok (.iconst 4, 1) := by decide +kernel
theorem dX5_would_8 : decode cX5_would 8 = .ok (.invokestatic 81, 3) := by decide +kernel
theorem dX5_would_11 : decode cX5_would 11 = .ok (.iload_n 2, 1) := by decide +kernel
theorem dX5_would_12 : decode cX5_would 12 = .ok (.iload_n 3, 1) := by decide +kernel
theorem dX5_would_13 : decode cX5_would 13 = .ok (.iload 4, 2) := by decide +kernel
theorem dX5_would_15 : decode cX5_would 15 = .ok (.invokestatic 88, 3) := by decide +kernel
theorem dX5_would_18 : decode cX5_would 18 = .ok (.iload 5, 2) := by decide +kernel
theorem dX5_would_20 : decode cX5_would 20 = .ok (.invokestatic 91, 3) := by decide +kernel
theorem dX5_would_23 : decode cX5_would 23 = .ok (.aload_n 0, 1) := by decide +kernel
theorem dX5_would_24 : decode cX5_would 24 = .ok (.getfield 30, 3) := by decide +kernel
theorem dX5_would_27 : decode cX5_would 27 = .ok (.aload_n 0, 1) := by decide +kernel
theorem dX5_would_28 : decode cX5_would 28 = .ok (.getfield 18, 3) := by decide +kernel
theorem dX5_would_31 : decode cX5_would 31 = .ok (.iload_n 1, 1) := by decide +kernel
theorem dX5_would_32 : decode cX5_would 32 = .ok (.aaload, 1) := by decide +kernel
theorem dX5_would_33 : decode cX5_would 33 = .ok (.iload_n 2, 1) := by decide +kernel
theorem dX5_would_34 : decode cX5_would 34 = .ok (.iload_n 3, 1) := by decide +kernel
theorem dX5_would_35 : decode cX5_would 35 = .ok (.iload 4, 2) := by decide +kernel
theorem dX5_would_37 : decode cX5_would 37 = .ok (.invokevirtual 170, 3) := by decide +kernel
theorem dX5_would_40 : decode cX5_would 40 = .ok (.iload 6, 2) := by decide +kernel
theorem dX5_would_42 : decode cX5_would 42 = .ok (.tableswitch 56 0 2 #[26, 36, 46], 26) := by decide +kernel
theorem dX5_would_68 : decode cX5_would 68 = .ok (.aload_n 0, 1) := by decide +kernel
theorem dX5_would_69 : decode cX5_would 69 = .ok (.getfield 30, 3) := by decide +kernel
theorem dX5_would_72 : decode cX5_would 72 = .ok (.iload 5, 2) := by decide +kernel
theorem dX5_would_74 : decode cX5_would 74 = .ok (.invokevirtual 98, 3) := by decide +kernel
theorem dX5_would_77 : decode cX5_would 77 = .ok (.ireturn, 1) := by decide +kernel
theorem dX5_would_78 : decode cX5_would 78 = .ok (.aload_n 0, 1) := by decide +kernel
theorem dX5_would_79 : decode cX5_would 79 = .ok (.getfield 30, 3) := by decide +kernel
theorem dX5_would_82 : decode cX5_would 82 = .ok (.iload 5, 2) := by decide +kernel
theorem dX5_would_84 : decode cX5_would 84 = .ok (.invokevirtual 173, 3) := by decide +kernel
theorem dX5_would_87 : decode cX5_would 87 = .ok (.ireturn, 1) := by decide +kernel
theorem dX5_would_88 : decode cX5_would 88 = .ok (.aload_n 0, 1) := by decide +kernel
theorem dX5_would_89 : decode cX5_would 89 = .ok (.getfield 30, 3) := by decide +kernel
theorem dX5_would_92 : decode cX5_would 92 = .ok (.iload 5, 2) := by decide +kernel
theorem dX5_would_94 : decode cX5_would 94 = .ok (.invokevirtual 176, 3) := by decide +kernel
theorem dX5_would_97 : decode cX5_would 97 = .ok (.ireturn, 1) := by decide +kernel
theorem dX5_would_98 : decode cX5_would 98 = .ok (.aload_n 0, 1) := by decide +kernel
theorem dX5_would_99 : decode cX5_would 99 = .ok (.getfield 30, 3) := by decide +kernel
theorem dX5_would_102 : decode cX5_would 102 = .ok (.iload 5, 2) := by decide +kernel
theorem dX5_would_104 : decode cX5_would 104 = .ok (.invokevirtual 179, 3) := by decide +kernel
theorem dX5_would_107 : decode cX5_would 107 = .ok (.ireturn, 1) := by decide +kernel
theorem dX5_depth_0 : decode cX5_depth 0 = .ok (.aload_n 0, 1) := by decide +kernel
theorem dX5_depth_1 : decode cX5_depth 1 = .ok (.iload_n 1, 1) := by decide +kernel
theorem dX5_depth_2 : decode cX5_depth 2 = .ok (.invokevirtual 78, 3) := by decide +kernel
theorem dX5_depth_5 : decode cX5_depth 5 = .ok (.iload_n 2, 1) := by decide +kernel
theorem dX5_depth_6 : decode cX5_depth 6 = .ok (.iload_n 3, 1) := by decide +kernel
theorem dX5_depth_7 : decode cX5_depth 7 = .ok (.iload 4, 2) := by decide +kernel
theorem dX5_depth_9 : decode cX5_depth 9 = .ok (.invokestatic 88, 3) := by decide +kernel
theorem dX5_depth_12 : decode cX5_depth 12 = .ok (.aload_n 0, 1) := by decide +kernel
theorem dX5_depth_13 : decode cX5_depth 13 = .ok (.getfield 18, 3) := by decide +kernel
theorem dX5_depth_16 : decode cX5_depth 16 = .ok (.iload_n 1, 1) := by decide +kernel
theorem dX5_depth_17 : decode cX5_depth 17 = .ok (.aaload, 1) := by decide +kernel
theorem dX5_depth_18 : decode cX5_depth 18 = .ok (.getfield 105, 3) := by decide +kernel
theorem dX5_depth_21 : decode cX5_depth 21 = .ok (.ifCond .ne 13, 3) := by decide +kernel
theorem dX5_depth_24 : decode cX5_depth 24 = .ok (.new 62, 3) := by decide +kernel
theorem dX5_depth_27 : decode cX5_depth 27 = .ok (.dup, 1) := by decide +kernel
theorem dX5_depth_28 : decode cX5_depth 28 = .ok (.ldc 182, 2) := by decide +kernel
theorem dX5_depth_30 : decode cX5_depth 30 = .ok (.invokespecial 66, 3) := by decide +kernel
theorem dX5_depth_33 : decode cX5_depth 33 = .ok (.athrow, 1) := by decide +kernel
theorem dX5_depth_34 : decode cX5_depth 34 = .ok (.aload_n 0, 1) := by decide +kernel
theorem dX5_depth_35 : decode cX5_depth 35 = .ok (.getfield 30, 3) := by decide +kernel
theorem dX5_depth_38 : decode cX5_depth 38 = .ok (.aload_n 0, 1) := by decide +kernel
theorem dX5_depth_39 : decode cX5_depth 39 = .ok (.getfield 18, 3) := by decide +kernel
theorem dX5_depth_42 : decode cX5_depth 42 = .ok (.iload_n 1, 1) := by decide +kernel
theorem dX5_depth_43 : decode cX5_depth 43 = .ok (.aaload, 1) := by decide +kernel
theorem dX5_depth_44 : decode cX5_depth 44 = .ok (.iload_n 2, 1) := by decide +kernel
theorem dX5_depth_45 : decode cX5_depth 45 = .ok (.iload_n 3, 1) := by decide +kernel
theorem dX5_depth_46 : decode cX5_depth 46 = .ok (.iload 4, 2) := by decide +kernel
theorem dX5_depth_48 : decode cX5_depth 48 = .ok (.invokevirtual 170, 3) := by decide +kernel
theorem dX5_depth_51 : decode cX5_depth 51 = .ok (.aload_n 0, 1) := by decide +kernel
theorem dX5_depth_52 : decode cX5_depth 52 = .ok (.getfield 30, 3) := by decide +kernel
theorem dX5_depth_55 : decode cX5_depth 55 = .ok (.invokevirtual 184, 3) := by decide +kernel
theorem dX5_depth_58 : decode cX5_depth 58 = .ok (.ireturn, 1) := by decide +kernel
theorem dX5_rid_0 : decode cX5_rid 0 = .ok (.aload_n 0, 1) := by decide +kernel
theorem dX5_rid_1 : decode cX5_rid 1 = .ok (.iload_n 1, 1) := by decide +kernel
theorem dX5_rid_2 : decode cX5_rid 2 = .ok (.invokevirtual 75, 3) := by decide +kernel
theorem dX5_rid_5 : decode cX5_rid 5 = .ok (.aload_n 0, 1) := by decide +kernel
theorem dX5_rid_6 : decode cX5_rid 6 = .ok (.iload_n 2, 1) := by decide +kernel
theorem dX5_rid_7 : decode cX5_rid 7 = .ok (.invokevirtual 78, 3) := by decide +kernel
theorem dX5_rid_10 : decode cX5_rid 10 = .ok (.iload_n 3, 1) := by decide +kernel
theorem dX5_rid_11 : decode cX5_rid 11 = .ok (.iconst 3, 1) := by decide +kernel
theorem dX5_rid_12 : decode cX5_rid 12 = .ok (.invokestatic 81, 3) := by decide +kernel
theorem dX5_rid_15 : decode cX5_rid 15 = .ok (.aload_n 0, 1) := by decide +kernel
theorem dX5_rid_16 : decode cX5_rid 16 = .ok (.getfield 10, 3) := by decide +kernel
theorem dX5_rid_19 : decode cX5_rid 19 = .ok (.getfield 187, 3) := by decide +kernel
theorem dX5_rid_22 : decode cX5_rid 22 = .ok (.iload_n 1, 1) := by decide +kernel
theorem dX5_rid_23 : decode cX5_rid 23 = .ok (.aaload, 1) := by decide +kernel
theorem dX5_rid_24 : decode cX5_rid 24 = .ok (.astore 4, 2) := by decide +kernel
theorem dX5_rid_26 : decode cX5_rid 26 = .ok (.aload 4, 2) := by decide +kernel
theorem dX5_rid_28 : decode cX5_rid 28 = .ok (.iload_n 2, 1) := by decide +kernel
theorem dX5_rid_29 : decode cX5_rid 29 = .ok (.invokevirtual 191, 3) := by decide +kernel
theorem dX5_rid_32 : decode cX5_rid 32 = .ok (.iconst (-1), 1) := by decide +kernel
theorem dX5_rid_33 : decode cX5_rid 33 = .ok (.if_icmp .ne 16, 3) := by decide +kernel
theorem dX5_rid_36 : decode cX5_rid 36 = .ok (.iload_n 3, 1) := by decide +kernel
theorem dX5_rid_37 : decode cX5_rid 37 = .ok (.iconst 1, 1) := by decide +kernel
theorem dX5_rid_38 : decode cX5_rid 38 = .ok (.if_icmp .ne 9, 3) := by decide +kernel
theorem dX5_rid_41 : decode cX5_rid 41 = .ok (.sipush (-1000), 3) := by decide +kernel
theorem dX5_rid_44 : decode cX5_rid 44 = .ok (.goto 4, 3) := by decide +kernel
theorem dX5_rid_47 : decode cX5_rid 47 = .ok (.iconst (-1), 1) := by decide +kernel
theorem dX5_rid_48 : decode cX5_rid 48 = .ok (.ireturn, 1) := by decide +kernel
theorem dX5_rid_49 : decode cX5_rid 49 = .ok (.aload_n 0, 1) := by decide +kernel
theorem dX5_rid_50 : decode cX5_rid 50 = .ok (.getfield 30, 3) := by decide +kernel
theorem dX5_rid_53 : decode cX5_rid 53 = .ok (.aload_n 0, 1) := by decide +kernel
theorem dX5_rid_54 : decode cX5_rid 54 = .ok (.getfield 18, 3) := by decide +kernel
theorem dX5_rid_57 : decode cX5_rid 57 = .ok (.iload_n 2, 1) := by decide +kernel
theorem dX5_rid_58 : decode cX5_rid 58 = .ok (.aaload, 1) := by decide +kernel
theorem dX5_rid_59 : decode cX5_rid 59 = .ok (.aload 4, 2) := by decide +kernel
theorem dX5_rid_61 : decode cX5_rid 61 = .ok (.iload_n 3, 1) := by decide +kernel
theorem dX5_rid_62 : decode cX5_rid 62 = .ok (.invokevirtual 196, 3) := by decide +kernel
theorem dX5_rid_65 : decode cX5_rid 65 = .ok (.ireturn, 1) := by decide +kernel
theorem dX5_kept_0 : decode cX5_kept 0 = .ok (.aload_n 0, 1) := by decide +kernel
theorem dX5_kept_1 : decode cX5_kept 1 = .ok (.getfield 10, 3) := by decide +kernel
theorem dX5_kept_4 : decode cX5_kept 4 = .ok (.invokevirtual 49, 3) := by decide +kernel
theorem dX5_kept_7 : decode cX5_kept 7 = .ok (.istore_n 1, 1) := by decide +kernel
theorem dX5_kept_8 : decode cX5_kept 8 = .ok (.iload_n 1, 1) := by decide +kernel
theorem dX5_kept_9 : decode cX5_kept 9 = .ok (.ifCond .ne 7, 3) := by decide +kernel
theorem dX5_kept_12 : decode cX5_kept 12 = .ok (.dconst 0, 1) := by decide +kernel
theorem dX5_kept_13 : decode cX5_kept 13 = .ok (.goto 11, 3) := by decide +kernel
theorem dX5_kept_16 : decode cX5_kept 16 = .ok (.aload_n 0, 1) := by decide +kernel
theorem dX5_kept_17 : decode cX5_kept 17 = .ok (.invokevirtual 200, 3) := by decide +kernel
theorem dX5_kept_20 : decode cX5_kept 20 = .ok (.i2d, 1) := by decide +kernel
theorem dX5_kept_21 : decode cX5_kept 21 = .ok (.iload_n 1, 1) := by decide +kernel
theorem dX5_kept_22 : decode cX5_kept 22 = .ok (.i2d, 1) := by decide +kernel
theorem dX5_kept_23 : decode cX5_kept 23 = .ok (.ddiv, 1) := by decide +kernel
theorem dX5_kept_24 : decode cX5_kept 24 = .ok (.dreturn, 1) := by decide +kernel
theorem dX5_isSide_0 : decode cX5_isSide 0 = .ok (.iload_n 0, 1) := by decide +kernel
theorem dX5_isSide_1 : decode cX5_isSide 1 = .ok (.iconst 1, 1) := by decide +kernel
theorem dX5_isSide_2 : decode cX5_isSide 2 = .ok (.if_icmp .lt 13, 3) := by decide +kernel
theorem dX5_isSide_5 : decode cX5_isSide 5 = .ok (.iload_n 0, 1) := by decide +kernel
theorem dX5_isSide_6 : decode cX5_isSide 6 = .ok (.bipush 10, 2) := by decide +kernel
theorem dX5_isSide_8 : decode cX5_isSide 8 = .ok (.if_icmp .gt 7, 3) := by decide +kernel
theorem dX5_isSide_11 : decode cX5_isSide 11 = .ok (.iconst 1, 1) := by decide +kernel
theorem dX5_isSide_12 : decode cX5_isSide 12 = .ok (.goto 4, 3) := by decide +kernel
theorem dX5_isSide_15 : decode cX5_isSide 15 = .ok (.iconst 0, 1) := by decide +kernel
theorem dX5_isSide_16 : decode cX5_isSide 16 = .ok (.ireturn, 1) := by decide +kernel
theorem dX5_wantCell_0 : decode cX5_wantCell 0 = .ok (.aload_n 0, 1) := by decide +kernel
theorem dX5_wantCell_1 : decode cX5_wantCell 1 = .ok (.getfield 10, 3) := by decide +kernel
theorem dX5_wantCell_4 : decode cX5_wantCell 4 = .ok (.iload_n 1, 1) := by decide +kernel
theorem dX5_wantCell_5 : decode cX5_wantCell 5 = .ok (.iload_n 2, 1) := by decide +kernel
theorem dX5_wantCell_6 : decode cX5_wantCell 6 = .ok (.iload_n 3, 1) := by decide +kernel
theorem dX5_wantCell_7 : decode cX5_wantCell 7 = .ok (.invokevirtual 215, 3) := by decide +kernel
theorem dX5_wantCell_10 : decode cX5_wantCell 10 = .ok (.ifCond .ne 13, 3) := by decide +kernel
theorem dX5_wantCell_13 : decode cX5_wantCell 13 = .ok (.new 219, 3) := by decide +kernel
theorem dX5_wantCell_16 : decode cX5_wantCell 16 = .ok (.dup, 1) := by decide +kernel
theorem dX5_wantCell_17 : decode cX5_wantCell 17 = .ok (.ldc 221, 2) := by decide +kernel
theorem dX5_wantCell_19 : decode cX5_wantCell 19 = .ok (.invokespecial 223, 3) := by decide +kernel
theorem dX5_wantCell_22 : decode cX5_wantCell 22 = .ok (.athrow, 1) := by decide +kernel
theorem dX5_wantCell_23 : decode cX5_wantCell 23 = .ok (.return_, 1) := by decide +kernel
theorem dX5_wantFlaw_0 : decode cX5_wantFlaw 0 = .ok (.iload_n 1, 1) := by decide +kernel
theorem dX5_wantFlaw_1 : decode cX5_wantFlaw 1 = .ok (.ifCond .lt 14, 3) := by decide +kernel
theorem dX5_wantFlaw_4 : decode cX5_wantFlaw 4 = .ok (.iload_n 1, 1) := by decide +kernel
theorem dX5_wantFlaw_5 : decode cX5_wantFlaw 5 = .ok (.aload_n 0, 1) := by decide +kernel
theorem dX5_wantFlaw_6 : decode cX5_wantFlaw 6 = .ok (.getfield 10, 3) := by decide +kernel
theorem dX5_wantFlaw_9 : decode cX5_wantFlaw 9 = .ok (.getfield 58, 3) := by decide +kernel
theorem dX5_wantFlaw_12 : decode cX5_wantFlaw 12 = .ok (.if_icmp .lt 13, 3) := by decide +kernel
theorem dX5_wantFlaw_15 : decode cX5_wantFlaw 15 = .ok (.new 219, 3) := by decide +kernel
theorem dX5_wantFlaw_18 : decode cX5_wantFlaw 18 = .ok (.dup, 1) := by decide +kernel
theorem dX5_wantFlaw_19 : decode cX5_wantFlaw 19 = .ok (.ldc 224, 2) := by decide +kernel
theorem dX5_wantFlaw_21 : decode cX5_wantFlaw 21 = .ok (.invokespecial 223, 3) := by decide +kernel
theorem dX5_wantFlaw_24 : decode cX5_wantFlaw 24 = .ok (.athrow, 1) := by decide +kernel
theorem dX5_wantFlaw_25 : decode cX5_wantFlaw 25 = .ok (.return_, 1) := by decide +kernel
theorem dX5_wantStone_0 : decode cX5_wantStone 0 = .ok (.iload_n 1, 1) := by decide +kernel
theorem dX5_wantStone_1 : decode cX5_wantStone 1 = .ok (.ifCond .lt 11, 3) := by decide +kernel
theorem dX5_wantStone_4 : decode cX5_wantStone 4 = .ok (.iload_n 1, 1) := by decide +kernel
theorem dX5_wantStone_5 : decode cX5_wantStone 5 = .ok (.aload_n 0, 1) := by decide +kernel
theorem dX5_wantStone_6 : decode cX5_wantStone 6 = .ok (.getfield 102, 3) := by decide +kernel
theorem dX5_wantStone_9 : decode cX5_wantStone 9 = .ok (.if_icmp .lt 13, 3) := by decide +kernel
theorem dX5_wantStone_12 : decode cX5_wantStone 12 = .ok (.new 219, 3) := by decide +kernel
theorem dX5_wantStone_15 : decode cX5_wantStone 15 = .ok (.dup, 1) := by decide +kernel
theorem dX5_wantStone_16 : decode cX5_wantStone 16 = .ok (.ldc 226, 2) := by decide +kernel
theorem dX5_wantStone_18 : decode cX5_wantStone 18 = .ok (.invokespecial 223, 3) := by decide +kernel
theorem dX5_wantStone_21 : decode cX5_wantStone 21 = .ok (.athrow, 1) := by decide +kernel
theorem dX5_wantStone_22 : decode cX5_wantStone 22 = .ok (.return_, 1) := by decide +kernel
theorem dX5_wantPlane_0 : decode cX5_wantPlane 0 = .ok (.iload_n 2, 1) := by decide +kernel
theorem dX5_wantPlane_1 : decode cX5_wantPlane 1 = .ok (.ifCond .lt 16, 3) := by decide +kernel
theorem dX5_wantPlane_4 : decode cX5_wantPlane 4 = .ok (.iload_n 2, 1) := by decide +kernel
theorem dX5_wantPlane_5 : decode cX5_wantPlane 5 = .ok (.aload_n 0, 1) := by decide +kernel
theorem dX5_wantPlane_6 : decode cX5_wantPlane 6 = .ok (.getfield 18, 3) := by decide +kernel
theorem dX5_wantPlane_9 : decode cX5_wantPlane 9 = .ok (.iload_n 1, 1) := by decide +kernel
theorem dX5_wantPlane_10 : decode cX5_wantPlane 10 = .ok (.aaload, 1) := by decide +kernel
theorem dX5_wantPlane_11 : decode cX5_wantPlane 11 = .ok (.getfield 119, 3) := by decide +kernel
theorem dX5_wantPlane_14 : decode cX5_wantPlane 14 = .ok (.if_icmp .lt 13, 3) := by decide +kernel
theorem dX5_wantPlane_17 : decode cX5_wantPlane 17 = .ok (.new 219, 3) := by decide +kernel
theorem dX5_wantPlane_20 : decode cX5_wantPlane 20 = .ok (.dup, 1) := by decide +kernel
theorem dX5_wantPlane_21 : decode cX5_wantPlane 21 = .ok (.ldc 228, 2) := by decide +kernel
theorem dX5_wantPlane_23 : decode cX5_wantPlane 23 = .ok (.invokespecial 223, 3) := by decide +kernel
theorem dX5_wantPlane_26 : decode cX5_wantPlane 26 = .ok (.athrow, 1) := by decide +kernel
theorem dX5_wantPlane_27 : decode cX5_wantPlane 27 = .ok (.return_, 1) := by decide +kernel
theorem dX5_wantWhat_0 : decode cX5_wantWhat 0 = .ok (.iload_n 0, 1) := by decide +kernel
theorem dX5_wantWhat_1 : decode cX5_wantWhat 1 = .ok (.ifCond .lt 8, 3) := by decide +kernel
theorem dX5_wantWhat_4 : decode cX5_wantWhat 4 = .ok (.iload_n 0, 1) := by decide +kernel
theorem dX5_wantWhat_5 : decode cX5_wantWhat 5 = .ok (.iload_n 1, 1) := by decide +kernel
theorem dX5_wantWhat_6 : decode cX5_wantWhat 6 = .ok (.if_icmp .lt 13, 3) := by decide +kernel
theorem dX5_wantWhat_9 : decode cX5_wantWhat 9 = .ok (.new 219, 3) := by decide +kernel
theorem dX5_wantWhat_12 : decode cX5_wantWhat 12 = .ok (.dup, 1) := by decide +kernel
theorem dX5_wantWhat_13 : decode cX5_wantWhat 13 = .ok (.ldc 230, 2) := by decide +kernel
theorem dX5_wantWhat_15 : decode cX5_wantWhat 15 = .ok (.invokespecial 223, 3) := by decide +kernel
theorem dX5_wantWhat_18 : decode cX5_wantWhat 18 = .ok (.athrow, 1) := by decide +kernel
theorem dX5_wantWhat_19 : decode cX5_wantWhat 19 = .ok (.return_, 1) := by decide +kernel
theorem dX5_wantSlope_0 : decode cX5_wantSlope 0 = .ok (.iload_n 0, 1) := by decide +kernel
theorem dX5_wantSlope_1 : decode cX5_wantSlope 1 = .ok (.invokestatic 232, 3) := by decide +kernel
theorem dX5_wantSlope_4 : decode cX5_wantSlope 4 = .ok (.ifCond .eq 29, 3) := by decide +kernel
theorem dX5_wantSlope_7 : decode cX5_wantSlope 7 = .ok (.iload_n 1, 1) := by decide +kernel
theorem dX5_wantSlope_8 : decode cX5_wantSlope 8 = .ok (.invokestatic 232, 3) := by decide +kernel
theorem dX5_wantSlope_11 : decode cX5_wantSlope 11 = .ok (.ifCond .eq 22, 3) := by decide +kernel
theorem dX5_wantSlope_14 : decode cX5_wantSlope 14 = .ok (.iload_n 2, 1) := by decide +kernel
theorem dX5_wantSlope_15 : decode cX5_wantSlope 15 = .ok (.invokestatic 232, 3) := by decide +kernel
theorem dX5_wantSlope_18 : decode cX5_wantSlope 18 = .ok (.ifCond .eq 15, 3) := by decide +kernel
theorem dX5_wantSlope_21 : decode cX5_wantSlope 21 = .ok (.iload_n 0, 1) := by decide +kernel
theorem dX5_wantSlope_22 : decode cX5_wantSlope 22 = .ok (.ifCond .ne 21, 3) := by decide +kernel
theorem dX5_wantSlope_25 : decode cX5_wantSlope 25 = .ok (.iload_n 1, 1) := by decide +kernel
theorem dX5_wantSlope_26 : decode cX5_wantSlope 26 = .ok (.ifCond .ne 17, 3) := by decide +kernel
theorem dX5_wantSlope_29 : decode cX5_wantSlope 29 = .ok (.iload_n 2, 1) := by decide +kernel
theorem dX5_wantSlope_30 : decode cX5_wantSlope 30 = .ok (.ifCond .ne 13, 3) := by decide +kernel
theorem dX5_wantSlope_33 : decode cX5_wantSlope 33 = .ok (.new 42, 3) := by decide +kernel
theorem dX5_wantSlope_36 : decode cX5_wantSlope 36 = .ok (.dup, 1) := by decide +kernel
theorem dX5_wantSlope_37 : decode cX5_wantSlope 37 = .ok (.ldc 235, 2) := by decide +kernel
theorem dX5_wantSlope_39 : decode cX5_wantSlope 39 = .ok (.invokespecial 46, 3) := by decide +kernel
theorem dX5_wantSlope_42 : decode cX5_wantSlope 42 = .ok (.athrow, 1) := by decide +kernel
theorem dX5_wantSlope_43 : decode cX5_wantSlope 43 = .ok (.return_, 1) := by decide +kernel
theorem dX5_isSteepness_0 : decode cX5_isSteepness 0 = .ok (.iload_n 0, 1) := by decide +kernel
theorem dX5_isSteepness_1 : decode cX5_isSteepness 1 = .ok (.bipush (-3), 2) := by decide +kernel
theorem dX5_isSteepness_3 : decode cX5_isSteepness 3 = .ok (.if_icmp .lt 12, 3) := by decide +kernel
theorem dX5_isSteepness_6 : decode cX5_isSteepness 6 = .ok (.iload_n 0, 1) := by decide +kernel
theorem dX5_isSteepness_7 : decode cX5_isSteepness 7 = .ok (.iconst 3, 1) := by decide +kernel
theorem dX5_isSteepness_8 : decode cX5_isSteepness 8 = .ok (.if_icmp .gt 7, 3) := by decide +kernel
theorem dX5_isSteepness_11 : decode cX5_isSteepness 11 = .ok (.iconst 1, 1) := by decide +kernel
theorem dX5_isSteepness_12 : decode cX5_isSteepness 12 = .ok (.goto 4, 3) := by decide +kernel
theorem dX5_isSteepness_15 : decode cX5_isSteepness 15 = .ok (.iconst 0, 1) := by decide +kernel
theorem dX5_isSteepness_16 : decode cX5_isSteepness 16 = .ok (.ireturn, 1) := by decide +kernel
theorem dX5_wantDepth_0 : decode cX5_wantDepth 0 = .ok (.iload_n 0, 1) := by decide +kernel
theorem dX5_wantDepth_1 : decode cX5_wantDepth 1 = .ok (.bipush (-100), 2) := by decide +kernel
theorem dX5_wantDepth_3 : decode cX5_wantDepth 3 = .ok (.if_icmp .lt 9, 3) := by decide +kernel
theorem dX5_wantDepth_6 : decode cX5_wantDepth 6 = .ok (.iload_n 0, 1) := by decide +kernel
theorem dX5_wantDepth_7 : decode cX5_wantDepth 7 = .ok (.bipush 100, 2) := by decide +kernel
theorem dX5_wantDepth_9 : decode cX5_wantDepth 9 = .ok (.if_icmp .le 13, 3) := by decide +kernel
theorem dX5_wantDepth_12 : decode cX5_wantDepth 12 = .ok (.new 42, 3) := by decide +kernel
theorem dX5_wantDepth_15 : decode cX5_wantDepth 15 = .ok (.dup, 1) := by decide +kernel
theorem dX5_wantDepth_16 : decode cX5_wantDepth 16 = .ok (.ldc 237, 2) := by decide +kernel
theorem dX5_wantDepth_18 : decode cX5_wantDepth 18 = .ok (.invokespecial 46, 3) := by decide +kernel
theorem dX5_wantDepth_21 : decode cX5_wantDepth 21 = .ok (.athrow, 1) := by decide +kernel
theorem dX5_wantDepth_22 : decode cX5_wantDepth 22 = .ok (.return_, 1) := by decide +kernel
theorem dX5_beginRough_0 : decode cX5_beginRough 0 = .ok (.aload_n 0, 1) := by decide +kernel
theorem dX5_beginRough_1 : decode cX5_beginRough 1 = .ok (.getfield 10, 3) := by decide +kernel
theorem dX5_beginRough_4 : decode cX5_beginRough 4 = .ok (.iload_n 1, 1) := by decide +kernel
theorem dX5_beginRough_5 : decode cX5_beginRough 5 = .ok (.iload_n 2, 1) := by decide +kernel
theorem dX5_beginRough_6 : decode cX5_beginRough 6 = .ok (.iload_n 3, 1) := by decide +kernel
theorem dX5_beginRough_7 : decode cX5_beginRough 7 = .ok (.invokevirtual 239, 3) := by decide +kernel
theorem dX5_beginRough_10 : decode cX5_beginRough 10 = .ok (.aload_n 0, 1) := by decide +kernel
theorem dX5_beginRough_11 : decode cX5_beginRough 11 = .ok (.getfield 18, 3) := by decide +kernel
theorem dX5_beginRough_14 : decode cX5_beginRough 14 = .ok (.iconst 0, 1) := by decide +kernel
theorem dX5_beginRough_15 : decode cX5_beginRough 15 = .ok (.aaload, 1) := by decide +kernel
theorem dX5_beginRough_16 : decode cX5_beginRough 16 = .ok (.invokevirtual 110, 3) := by decide +kernel
theorem dX5_beginRough_19 : decode cX5_beginRough 19 = .ok (.aload_n 0, 1) := by decide +kernel
theorem dX5_beginRough_20 : decode cX5_beginRough 20 = .ok (.iconst 1, 1) := by decide +kernel
theorem dX5_beginRough_21 : decode cX5_beginRough 21 = .ok (.putfield 102, 3) := by decide +kernel
theorem dX5_beginRough_24 : decode cX5_beginRough 24 = .ok (.aload_n 0, 1) := by decide +kernel
theorem dX5_beginRough_25 : decode cX5_beginRough 25 = .ok (.sipush 400, 3) := by decide +kernel
theorem dX5_beginRough_28 : decode cX5_beginRough 28 = .ok (.putfield 122, 3) := by decide +kernel
theorem dX5_beginRough_31 : decode cX5_beginRough 31 = .ok (.aload_n 0, 1) := by decide +kernel
theorem dX5_beginRough_32 : decode cX5_beginRough 32 = .ok (.iconst 0, 1) := by decide +kernel
theorem dX5_beginRough_33 : decode cX5_beginRough 33 = .ok (.putfield 242, 3) := by decide +kernel
theorem dX5_beginRough_36 : decode cX5_beginRough 36 = .ok (.aload_n 0, 1) := by decide +kernel
theorem dX5_beginRough_37 : decode cX5_beginRough 37 = .ok (.invokevirtual 116, 3) := by decide +kernel
theorem dX5_beginRough_40 : decode cX5_beginRough 40 = .ok (.return_, 1) := by decide +kernel
theorem dX5_spend_0 : decode cX5_spend 0 = .ok (.aload_n 0, 1) := by decide +kernel
theorem dX5_spend_1 : decode cX5_spend 1 = .ok (.dup, 1) := by decide +kernel
theorem dX5_spend_2 : decode cX5_spend 2 = .ok (.getfield 122, 3) := by decide +kernel
theorem dX5_spend_5 : decode cX5_spend 5 = .ok (.iload_n 1, 1) := by decide +kernel
theorem dX5_spend_6 : decode cX5_spend 6 = .ok (.isub, 1) := by decide +kernel
theorem dX5_spend_7 : decode cX5_spend 7 = .ok (.putfield 122, 3) := by decide +kernel
theorem dX5_spend_10 : decode cX5_spend 10 = .ok (.aload_n 0, 1) := by decide +kernel
theorem dX5_spend_11 : decode cX5_spend 11 = .ok (.dup, 1) := by decide +kernel
theorem dX5_spend_12 : decode cX5_spend 12 = .ok (.getfield 242, 3) := by decide +kernel
theorem dX5_spend_15 : decode cX5_spend 15 = .ok (.iload_n 1, 1) := by decide +kernel
theorem dX5_spend_16 : decode cX5_spend 16 = .ok (.iadd, 1) := by decide +kernel
theorem dX5_spend_17 : decode cX5_spend 17 = .ok (.putfield 242, 3) := by decide +kernel
theorem dX5_spend_20 : decode cX5_spend 20 = .ok (.return_, 1) := by decide +kernel
theorem dX5_survey_0 : decode cX5_survey 0 = .ok (.iconst 0, 1) := by decide +kernel
theorem dX5_survey_1 : decode cX5_survey 1 = .ok (.istore_n 1, 1) := by decide +kernel
theorem dX5_survey_2 : decode cX5_survey 2 = .ok (.iload_n 1, 1) := by decide +kernel
theorem dX5_survey_3 : decode cX5_survey 3 = .ok (.aload_n 0, 1) := by decide +kernel
theorem dX5_survey_4 : decode cX5_survey 4 = .ok (.getfield 102, 3) := by decide +kernel
theorem dX5_survey_7 : decode cX5_survey 7 = .ok (.if_icmp .ge 18, 3) := by decide +kernel
theorem dX5_survey_10 : decode cX5_survey 10 = .ok (.aload_n 0, 1) := by decide +kernel
theorem dX5_survey_11 : decode cX5_survey 11 = .ok (.getfield 18, 3) := by decide +kernel
theorem dX5_survey_14 : decode cX5_survey 14 = .ok (.iload_n 1, 1) := by decide +kernel
theorem dX5_survey_15 : decode cX5_survey 15 = .ok (.aaload, 1) := by decide +kernel
theorem dX5_survey_16 : decode cX5_survey 16 = .ok (.invokevirtual 245, 3) := by decide +kernel
theorem dX5_survey_19 : decode cX5_survey 19 = .ok (.iinc 1 1, 3) := by decide +kernel
theorem dX5_survey_22 : decode cX5_survey 22 = .ok (.goto (-20), 3) := by decide +kernel
theorem dX5_survey_25 : decode cX5_survey 25 = .ok (.iconst 0, 1) := by decide +kernel
theorem dX5_survey_26 : decode cX5_survey 26 = .ok (.istore_n 1, 1) := by decide +kernel
theorem dX5_survey_27 : decode cX5_survey 27 = .ok (.iconst 0, 1) := by decide +kernel
theorem dX5_survey_28 : decode cX5_survey 28 = .ok (.istore_n 2, 1) := by decide +kernel
theorem dX5_survey_29 : decode cX5_survey 29 = .ok (.iload_n 2, 1) := by decide +kernel
theorem dX5_survey_30 : decode cX5_survey 30 = .ok (.aload_n 0, 1) := by decide +kernel
theorem dX5_survey_31 : decode cX5_survey 31 = .ok (.getfield 10, 3) := by decide +kernel
theorem dX5_survey_34 : decode cX5_survey 34 = .ok (.getfield 248, 3) := by decide +kernel
theorem dX5_survey_37 : decode cX5_survey 37 = .ok (.if_icmp .ge 61, 3) := by decide +kernel
theorem dX5_survey_40 : decode cX5_survey 40 = .ok (.iconst 0, 1) := by decide +kernel
theorem dX5_survey_41 : decode cX5_survey 41 = .ok (.istore_n 3, 1) := by decide +kernel
theorem dX5_survey_42 : decode cX5_survey 42 = .ok (.iload_n 3, 1) := by decide +kernel
theorem dX5_survey_43 : decode cX5_survey 43 = .ok (.aload_n 0, 1) := by decide +kernel
theorem dX5_survey_44 : decode cX5_survey 44 = .ok (.getfield 10, 3) := by decide +kernel
theorem dX5_survey_47 : decode cX5_survey 47 = .ok (.getfield 251, 3) := by decide +kernel
theorem dX5_survey_50 : decode cX5_survey 50 = .ok (.if_icmp .ge 42, 3) := by decide +kernel
theorem dX5_survey_53 : decode cX5_survey 53 = .ok (.iconst 0, 1) := by decide +kernel
theorem dX5_survey_54 : decode cX5_survey 54 = .ok (.istore 4, 2) := by decide +kernel
theorem dX5_survey_56 : decode cX5_survey 56 = .ok (.iload 4, 2) := by decide +kernel
theorem dX5_survey_58 : decode cX5_survey 58 = .ok (.aload_n 0, 1) := by decide +kernel
theorem dX5_survey_59 : decode cX5_survey 59 = .ok (.getfield 10, 3) := by decide +kernel
theorem dX5_survey_62 : decode cX5_survey 62 = .ok (.getfield 254, 3) := by decide +kernel
theorem dX5_survey_65 : decode cX5_survey 65 = .ok (.if_icmp .ge 21, 3) := by decide +kernel
theorem dX5_survey_68 : decode cX5_survey 68 = .ok (.aload_n 0, 1) := by decide +kernel
theorem dX5_survey_69 : decode cX5_survey 69 = .ok (.iload_n 1, 1) := by decide +kernel
theorem dX5_survey_70 : decode cX5_survey 70 = .ok (.iload 4, 2) := by decide +kernel
theorem dX5_survey_72 : decode cX5_survey 72 = .ok (.iload_n 3, 1) := by decide +kernel
theorem dX5_survey_73 : decode cX5_survey 73 = .ok (.iload_n 2, 1) := by decide +kernel
theorem dX5_survey_74 : decode cX5_survey 74 = .ok (.invokevirtual 257, 3) := by decide +kernel
theorem dX5_survey_77 : decode cX5_survey 77 = .ok (.iinc 1 1, 3) := by decide +kernel
theorem dX5_survey_80 : decode cX5_survey 80 = .ok (.iinc 4 1, 3) := by decide +kernel
theorem dX5_survey_83 : decode cX5_survey 83 = .ok (.goto (-27), 3) := by decide +kernel
theorem dX5_survey_86 : decode cX5_survey 86 = .ok (.iinc 3 1, 3) := by decide +kernel
theorem dX5_survey_89 : decode cX5_survey 89 = .ok (.goto (-47), 3) := by decide +kernel
theorem dX5_survey_92 : decode cX5_survey 92 = .ok (.iinc 2 1, 3) := by decide +kernel
theorem dX5_survey_95 : decode cX5_survey 95 = .ok (.goto (-66), 3) := by decide +kernel
theorem dX5_survey_98 : decode cX5_survey 98 = .ok (.iconst 0, 1) := by decide +kernel
theorem dX5_survey_99 : decode cX5_survey 99 = .ok (.istore_n 2, 1) := by decide +kernel
theorem dX5_survey_100 : decode cX5_survey 100 = .ok (.iload_n 2, 1) := by decide +kernel
theorem dX5_survey_101 : decode cX5_survey 101 = .ok (.aload_n 0, 1) := by decide +kernel
theorem dX5_survey_102 : decode cX5_survey 102 = .ok (.getfield 10, 3) := by decide +kernel
theorem dX5_survey_105 : decode cX5_survey 105 = .ok (.getfield 58, 3) := by decide +kernel
theorem dX5_survey_108 : decode cX5_survey 108 = .ok (.if_icmp .ge 25, 3) := by decide +kernel
theorem dX5_survey_111 : decode cX5_survey 111 = .ok (.aload_n 0, 1) := by decide +kernel
theorem dX5_survey_112 : decode cX5_survey 112 = .ok (.getfield 10, 3) := by decide +kernel
theorem dX5_survey_115 : decode cX5_survey 115 = .ok (.getfield 187, 3) := by decide +kernel
theorem dX5_survey_118 : decode cX5_survey 118 = .ok (.iload_n 2, 1) := by decide +kernel
theorem dX5_survey_119 : decode cX5_survey 119 = .ok (.aaload, 1) := by decide +kernel
theorem dX5_survey_120 : decode cX5_survey 120 = .ok (.aload_n 0, 1) := by decide +kernel
theorem dX5_survey_121 : decode cX5_survey 121 = .ok (.getfield 10, 3) := by decide +kernel
theorem dX5_survey_124 : decode cX5_survey 124 = .ok (.invokevirtual 260, 3) := by decide +kernel
theorem dX5_survey_127 : decode cX5_survey 127 = .ok (.iinc 2 1, 3) := by decide +kernel
theorem dX5_survey_130 : decode cX5_survey 130 = .ok (.goto (-30), 3) := by decide +kernel
theorem dX5_survey_133 : decode cX5_survey 133 = .ok (.return_, 1) := by decide +kernel
theorem dX5_surveyCell_0 : decode cX5_surveyCell 0 = .ok (.aload_n 0, 1) := by decide +kernel
theorem dX5_surveyCell_1 : decode cX5_surveyCell 1 = .ok (.getfield 10, 3) := by decide +kernel
theorem dX5_surveyCell_4 : decode cX5_surveyCell 4 = .ok (.getfield 207, 3) := by decide +kernel
theorem dX5_surveyCell_7 : decode cX5_surveyCell 7 = .ok (.iload_n 1, 1) := by decide +kernel
theorem dX5_surveyCell_8 : decode cX5_surveyCell 8 = .ok (.iaload, 1) := by decide +kernel
theorem dX5_surveyCell_9 : decode cX5_surveyCell 9 = .ok (.istore 5, 2) := by decide +kernel
theorem dX5_surveyCell_11 : decode cX5_surveyCell 11 = .ok (.iload 5, 2) := by decide +kernel
theorem dX5_surveyCell_13 : decode cX5_surveyCell 13 = .ok (.ifCond .lt 12, 3) := by decide +kernel
theorem dX5_surveyCell_16 : decode cX5_surveyCell 16 = .ok (.iload 5, 2) := by decide +kernel
theorem dX5_surveyCell_18 : decode cX5_surveyCell 18 = .ok (.aload_n 0, 1) := by decide +kernel
theorem dX5_surveyCell_19 : decode cX5_surveyCell 19 = .ok (.getfield 102, 3) := by decide +kernel
theorem dX5_surveyCell_22 : decode cX5_surveyCell 22 = .ok (.if_icmp .lt 4, 3) := by decide +kernel
theorem dX5_surveyCell_25 : decode cX5_surveyCell 25 = .ok (.return_, 1) := by decide +kernel
theorem dX5_surveyCell_26 : decode cX5_surveyCell 26 = .ok (.aload_n 0, 1) := by decide +kernel
theorem dX5_surveyCell_27 : decode cX5_surveyCell 27 = .ok (.getfield 10, 3) := by decide +kernel
theorem dX5_surveyCell_30 : decode cX5_surveyCell 30 = .ok (.iload 5, 2) := by decide +kernel
theorem dX5_surveyCell_32 : decode cX5_surveyCell 32 = .ok (.iload_n 2, 1) := by decide +kernel
theorem dX5_surveyCell_33 : decode cX5_surveyCell 33 = .ok (.iload_n 3, 1) := by decide +kernel
theorem dX5_surveyCell_34 : decode cX5_surveyCell 34 = .ok (.iload 4, 2) := by decide +kernel
theorem dX5_surveyCell_36 : decode cX5_surveyCell 36 = .ok (.invokevirtual 263, 3) := by decide +kernel
theorem dX5_surveyCell_39 : decode cX5_surveyCell 39 = .ok (.istore 6, 2) := by decide +kernel
theorem dX5_surveyCell_41 : decode cX5_surveyCell 41 = .ok (.aload_n 0, 1) := by decide +kernel
theorem dX5_surveyCell_42 : decode cX5_surveyCell 42 = .ok (.getfield 10, 3) := by decide +kernel
theorem dX5_surveyCell_45 : decode cX5_surveyCell 45 = .ok (.getfield 267, 3) := by decide +kernel
theorem dX5_surveyCell_48 : decode cX5_surveyCell 48 = .ok (.iload_n 1, 1) := by decide +kernel
theorem dX5_surveyCell_49 : decode cX5_surveyCell 49 = .ok (.iload 6, 2) := by decide +kernel
theorem dX5_surveyCell_51 : decode cX5_surveyCell 51 = .ok (.bastore, 1) := by decide +kernel
theorem dX5_surveyCell_52 : decode cX5_surveyCell 52 = .ok (.aload_n 0, 1) := by decide +kernel
theorem dX5_surveyCell_53 : decode cX5_surveyCell 53 = .ok (.getfield 18, 3) := by decide +kernel
theorem dX5_surveyCell_56 : decode cX5_surveyCell 56 = .ok (.iload 5, 2) := by decide +kernel
theorem dX5_surveyCell_58 : decode cX5_surveyCell 58 = .ok (.aaload, 1) := by decide +kernel
theorem dX5_surveyCell_59 : decode cX5_surveyCell 59 = .ok (.iload_n 2, 1) := by decide +kernel
theorem dX5_surveyCell_60 : decode cX5_surveyCell 60 = .ok (.iload_n 3, 1) := by decide +kernel
theorem dX5_surveyCell_61 : decode cX5_surveyCell 61 = .ok (.iload 4, 2) := by decide +kernel
theorem dX5_surveyCell_63 : decode cX5_surveyCell 63 = .ok (.iload 6, 2) := by decide +kernel
theorem dX5_surveyCell_65 : decode cX5_surveyCell 65 = .ok (.invokevirtual 271, 3) := by decide +kernel
theorem dX5_surveyCell_68 : decode cX5_surveyCell 68 = .ok (.return_, 1) := by decide +kernel
theorem dX5_tellOfFlaw_0 : decode cX5_tellOfFlaw 0 = .ok (.aload_n 0, 1) := by decide +kernel
theorem dX5_tellOfFlaw_1 : decode cX5_tellOfFlaw 1 = .ok (.getfield 10, 3) := by decide +kernel
theorem dX5_tellOfFlaw_4 : decode cX5_tellOfFlaw 4 = .ok (.getfield 187, 3) := by decide +kernel
theorem dX5_tellOfFlaw_7 : decode cX5_tellOfFlaw 7 = .ok (.iload_n 1, 1) := by decide +kernel
theorem dX5_tellOfFlaw_8 : decode cX5_tellOfFlaw 8 = .ok (.aaload, 1) := by decide +kernel
theorem dX5_tellOfFlaw_9 : decode cX5_tellOfFlaw 9 = .ok (.astore 4, 2) := by decide +kernel
theorem dX5_tellOfFlaw_11 : decode cX5_tellOfFlaw 11 = .ok (.iload_n 3, 1) := by decide +kernel
theorem dX5_tellOfFlaw_12 : decode cX5_tellOfFlaw 12 = .ok (.lookupswitch 44 #[(0, 28), (1, 36)], 28) := by decide +kernel
theorem dX5_tellOfFlaw_40 : decode cX5_tellOfFlaw 40 = .ok (.aload 4, 2) := by decide +kernel
theorem dX5_tellOfFlaw_42 : decode cX5_tellOfFlaw 42 = .ok (.getfield 275, 3) := by decide +kernel
theorem dX5_tellOfFlaw_45 : decode cX5_tellOfFlaw 45 = .ok (.iload_n 2, 1) := by decide +kernel
theorem dX5_tellOfFlaw_46 : decode cX5_tellOfFlaw 46 = .ok (.iaload, 1) := by decide +kernel
theorem dX5_tellOfFlaw_47 : decode cX5_tellOfFlaw 47 = .ok (.ireturn, 1) := by decide +kernel
theorem dX5_tellOfFlaw_48 : decode cX5_tellOfFlaw 48 = .ok (.aload 4, 2) := by decide +kernel
theorem dX5_tellOfFlaw_50 : decode cX5_tellOfFlaw 50 = .ok (.getfield 278, 3) := by decide +kernel
theorem dX5_tellOfFlaw_53 : decode cX5_tellOfFlaw 53 = .ok (.iload_n 2, 1) := by decide +kernel
theorem dX5_tellOfFlaw_54 : decode cX5_tellOfFlaw 54 = .ok (.iaload, 1) := by decide +kernel
theorem dX5_tellOfFlaw_55 : decode cX5_tellOfFlaw 55 = .ok (.ireturn, 1) := by decide +kernel
theorem dX5_tellOfFlaw_56 : decode cX5_tellOfFlaw 56 = .ok (.aload 4, 2) := by decide +kernel
theorem dX5_tellOfFlaw_58 : decode cX5_tellOfFlaw 58 = .ok (.iload_n 2, 1) := by decide +kernel
theorem dX5_tellOfFlaw_59 : decode cX5_tellOfFlaw 59 = .ok (.invokevirtual 191, 3) := by decide +kernel
theorem dX5_tellOfFlaw_62 : decode cX5_tellOfFlaw 62 = .ok (.ireturn, 1) := by decide +kernel
theorem dX5_tellOfStone_0 : decode cX5_tellOfStone 0 = .ok (.iload_n 2, 1) := by decide +kernel
theorem dX5_tellOfStone_1 : decode cX5_tellOfStone 1 = .ok (.tableswitch 100 0 7 #[47, 52, 57, 63, 69, 74, 84, 94], 47) := by decide +kernel
theorem dX5_tellOfStone_48 : decode cX5_tellOfStone 48 = .ok (.aload_n 1, 1) := by decide +kernel
theorem dX5_tellOfStone_49 : decode cX5_tellOfStone 49 = .ok (.getfield 105, 3) := by decide +kernel
theorem dX5_tellOfStone_52 : decode cX5_tellOfStone 52 = .ok (.ireturn, 1) := by decide +kernel
theorem dX5_tellOfStone_53 : decode cX5_tellOfStone 53 = .ok (.aload_n 1, 1) := by decide +kernel
theorem dX5_tellOfStone_54 : decode cX5_tellOfStone 54 = .ok (.getfield 119, 3) := by decide +kernel
theorem dX5_tellOfStone_57 : decode cX5_tellOfStone 57 = .ok (.ireturn, 1) := by decide +kernel
theorem dX5_tellOfStone_58 : decode cX5_tellOfStone 58 = .ok (.aload_n 1, 1) := by decide +kernel
theorem dX5_tellOfStone_59 : decode cX5_tellOfStone 59 = .ok (.iconst 0, 1) := by decide +kernel
theorem dX5_tellOfStone_60 : decode cX5_tellOfStone 60 = .ok (.invokevirtual 281, 3) := by decide +kernel
theorem dX5_tellOfStone_63 : decode cX5_tellOfStone 63 = .ok (.ireturn, 1) := by decide +kernel
theorem dX5_tellOfStone_64 : decode cX5_tellOfStone 64 = .ok (.aload_n 1, 1) := by decide +kernel
theorem dX5_tellOfStone_65 : decode cX5_tellOfStone 65 = .ok (.iconst 1, 1) := by decide +kernel
theorem dX5_tellOfStone_66 : decode cX5_tellOfStone 66 = .ok (.invokevirtual 281, 3) := by decide +kernel
theorem dX5_tellOfStone_69 : decode cX5_tellOfStone 69 = .ok (.ireturn, 1) := by decide +kernel
theorem dX5_tellOfStone_70 : decode cX5_tellOfStone 70 = .ok (.aload_n 1, 1) := by decide +kernel
theorem dX5_tellOfStone_71 : decode cX5_tellOfStone 71 = .ok (.invokevirtual 285, 3) := by decide +kernel
theorem dX5_tellOfStone_74 : decode cX5_tellOfStone 74 = .ok (.ireturn, 1) := by decide +kernel
theorem dX5_tellOfStone_75 : decode cX5_tellOfStone 75 = .ok (.aload_n 0, 1) := by decide +kernel
theorem dX5_tellOfStone_76 : decode cX5_tellOfStone 76 = .ok (.aload_n 1, 1) := by decide +kernel
theorem dX5_tellOfStone_77 : decode cX5_tellOfStone 77 = .ok (.getfield 288, 3) := by decide +kernel
theorem dX5_tellOfStone_80 : decode cX5_tellOfStone 80 = .ok (.iconst 1, 1) := by decide +kernel
theorem dX5_tellOfStone_81 : decode cX5_tellOfStone 81 = .ok (.invokevirtual 291, 3) := by decide +kernel
theorem dX5_tellOfStone_84 : decode cX5_tellOfStone 84 = .ok (.ireturn, 1) := by decide +kernel
theorem dX5_tellOfStone_85 : decode cX5_tellOfStone 85 = .ok (.aload_n 0, 1) := by decide +kernel
theorem dX5_tellOfStone_86 : decode cX5_tellOfStone 86 = .ok (.aload_n 1, 1) := by decide +kernel
theorem dX5_tellOfStone_87 : decode cX5_tellOfStone 87 = .ok (.getfield 288, 3) := by decide +kernel
theorem dX5_tellOfStone_90 : decode cX5_tellOfStone 90 = .ok (.iconst 0, 1) := by decide +kernel
theorem dX5_tellOfStone_91 : decode cX5_tellOfStone 91 = .ok (.invokevirtual 291, 3) := by decide +kernel
theorem dX5_tellOfStone_94 : decode cX5_tellOfStone 94 = .ok (.ireturn, 1) := by decide +kernel
theorem dX5_tellOfStone_95 : decode cX5_tellOfStone 95 = .ok (.aload_n 0, 1) := by decide +kernel
theorem dX5_tellOfStone_96 : decode cX5_tellOfStone 96 = .ok (.aload_n 1, 1) := by decide +kernel
theorem dX5_tellOfStone_97 : decode cX5_tellOfStone 97 = .ok (.invokevirtual 295, 3) := by decide +kernel
theorem dX5_tellOfStone_100 : decode cX5_tellOfStone 100 = .ok (.ireturn, 1) := by decide +kernel
theorem dX5_tellOfStone_101 : decode cX5_tellOfStone 101 = .ok (.aload_n 1, 1) := by decide +kernel
theorem dX5_tellOfStone_102 : decode cX5_tellOfStone 102 = .ok (.getfield 299, 3) := by decide +kernel
theorem dX5_tellOfStone_105 : decode cX5_tellOfStone 105 = .ok (.ireturn, 1) := by decide +kernel
theorem dX5_tellCount_0 : decode cX5_tellCount 0 = .ok (.iload_n 1, 1) := by decide +kernel
theorem dX5_tellCount_1 : decode cX5_tellCount 1 = .ok (.tableswitch 84 0 6 #[43, 51, 56, 61, 66, 74, 79], 43) := by decide +kernel
theorem dX5_tellCount_44 : decode cX5_tellCount 44 = .ok (.aload_n 0, 1) := by decide +kernel
theorem dX5_tellCount_45 : decode cX5_tellCount 45 = .ok (.getfield 10, 3) := by decide +kernel
theorem dX5_tellCount_48 : decode cX5_tellCount 48 = .ok (.invokevirtual 49, 3) := by decide +kernel
theorem dX5_tellCount_51 : decode cX5_tellCount 51 = .ok (.ireturn, 1) := by decide +kernel
theorem dX5_tellCount_52 : decode cX5_tellCount 52 = .ok (.aload_n 0, 1) := by decide +kernel
theorem dX5_tellCount_53 : decode cX5_tellCount 53 = .ok (.invokevirtual 200, 3) := by decide +kernel
theorem dX5_tellCount_56 : decode cX5_tellCount 56 = .ok (.ireturn, 1) := by decide +kernel
theorem dX5_tellCount_57 : decode cX5_tellCount 57 = .ok (.aload_n 0, 1) := by decide +kernel
theorem dX5_tellCount_58 : decode cX5_tellCount 58 = .ok (.getfield 102, 3) := by decide +kernel
theorem dX5_tellCount_61 : decode cX5_tellCount 61 = .ok (.ireturn, 1) := by decide +kernel
theorem dX5_tellCount_62 : decode cX5_tellCount 62 = .ok (.aload_n 0, 1) := by decide +kernel
theorem dX5_tellCount_63 : decode cX5_tellCount 63 = .ok (.invokevirtual 302, 3) := by decide +kernel
theorem dX5_tellCount_66 : decode cX5_tellCount 66 = .ok (.ireturn, 1) := by decide +kernel
theorem dX5_tellCount_67 : decode cX5_tellCount 67 = .ok (.aload_n 0, 1) := by decide +kernel
theorem dX5_tellCount_68 : decode cX5_tellCount 68 = .ok (.getfield 10, 3) := by decide +kernel
theorem dX5_tellCount_71 : decode cX5_tellCount 71 = .ok (.getfield 58, 3) := by decide +kernel
theorem dX5_tellCount_74 : decode cX5_tellCount 74 = .ok (.ireturn, 1) := by decide +kernel
theorem dX5_tellCount_75 : decode cX5_tellCount 75 = .ok (.aload_n 0, 1) := by decide +kernel
theorem dX5_tellCount_76 : decode cX5_tellCount 76 = .ok (.getfield 122, 3) := by decide +kernel
theorem dX5_tellCount_79 : decode cX5_tellCount 79 = .ok (.ireturn, 1) := by decide +kernel
theorem dX5_tellCount_80 : decode cX5_tellCount 80 = .ok (.aload_n 0, 1) := by decide +kernel
theorem dX5_tellCount_81 : decode cX5_tellCount 81 = .ok (.invokevirtual 305, 3) := by decide +kernel
theorem dX5_tellCount_84 : decode cX5_tellCount 84 = .ok (.ireturn, 1) := by decide +kernel
theorem dX5_tellCount_85 : decode cX5_tellCount 85 = .ok (.aload_n 0, 1) := by decide +kernel
theorem dX5_tellCount_86 : decode cX5_tellCount 86 = .ok (.getfield 242, 3) := by decide +kernel
theorem dX5_tellCount_89 : decode cX5_tellCount 89 = .ok (.ireturn, 1) := by decide +kernel
theorem dX5_flawsOfState_0 : decode cX5_flawsOfState 0 = .ok (.iconst 0, 1) := by decide +kernel
theorem dX5_flawsOfState_1 : decode cX5_flawsOfState 1 = .ok (.istore_n 3, 1) := by decide +kernel
theorem dX5_flawsOfState_2 : decode cX5_flawsOfState 2 = .ok (.iconst 0, 1) := by decide +kernel
theorem dX5_flawsOfState_3 : decode cX5_flawsOfState 3 = .ok (.istore 4, 2) := by decide +kernel
theorem dX5_flawsOfState_5 : decode cX5_flawsOfState 5 = .ok (.iload 4, 2) := by decide +kernel
theorem dX5_flawsOfState_7 : decode cX5_flawsOfState 7 = .ok (.aload_n 0, 1) := by decide +kernel
theorem dX5_flawsOfState_8 : decode cX5_flawsOfState 8 = .ok (.getfield 10, 3) := by decide +kernel
theorem dX5_flawsOfState_11 : decode cX5_flawsOfState 11 = .ok (.getfield 58, 3) := by decide +kernel
theorem dX5_flawsOfState_14 : decode cX5_flawsOfState 14 = .ok (.if_icmp .ge 30, 3) := by decide +kernel
theorem dX5_flawsOfState_17 : decode cX5_flawsOfState 17 = .ok (.aload_n 0, 1) := by decide +kernel
theorem dX5_flawsOfState_18 : decode cX5_flawsOfState 18 = .ok (.getfield 10, 3) := by decide +kernel
theorem dX5_flawsOfState_21 : decode cX5_flawsOfState 21 = .ok (.getfield 187, 3) := by decide +kernel
theorem dX5_flawsOfState_24 : decode cX5_flawsOfState 24 = .ok (.iload 4, 2) := by decide +kernel
theorem dX5_flawsOfState_26 : decode cX5_flawsOfState 26 = .ok (.aaload, 1) := by decide +kernel
theorem dX5_flawsOfState_27 : decode cX5_flawsOfState 27 = .ok (.iload_n 1, 1) := by decide +kernel
theorem dX5_flawsOfState_28 : decode cX5_flawsOfState 28 = .ok (.invokevirtual 191, 3) := by decide +kernel
theorem dX5_flawsOfState_31 : decode cX5_flawsOfState 31 = .ok (.iload_n 2, 1) := by decide +kernel
theorem dX5_flawsOfState_32 : decode cX5_flawsOfState 32 = .ok (.if_icmp .ne 6, 3) := by decide +kernel
theorem dX5_flawsOfState_35 : decode cX5_flawsOfState 35 = .ok (.iinc 3 1, 3) := by decide +kernel
theorem dX5_flawsOfState_38 : decode cX5_flawsOfState 38 = .ok (.iinc 4 1, 3) := by decide +kernel
theorem dX5_flawsOfState_41 : decode cX5_flawsOfState 41 = .ok (.goto (-36), 3) := by decide +kernel
theorem dX5_flawsOfState_44 : decode cX5_flawsOfState 44 = .ok (.iload_n 3, 1) := by decide +kernel
theorem dX5_flawsOfState_45 : decode cX5_flawsOfState 45 = .ok (.ireturn, 1) := by decide +kernel
theorem dX5_worthOf_0 : decode cX5_worthOf 0 = .ok (.iconst 0, 1) := by decide +kernel
theorem dX5_worthOf_1 : decode cX5_worthOf 1 = .ok (.istore_n 2, 1) := by decide +kernel
theorem dX5_worthOf_2 : decode cX5_worthOf 2 = .ok (.iconst 0, 1) := by decide +kernel
theorem dX5_worthOf_3 : decode cX5_worthOf 3 = .ok (.istore_n 3, 1) := by decide +kernel
theorem dX5_worthOf_4 : decode cX5_worthOf 4 = .ok (.iload_n 3, 1) := by decide +kernel
theorem dX5_worthOf_5 : decode cX5_worthOf 5 = .ok (.aload_n 0, 1) := by decide +kernel
theorem dX5_worthOf_6 : decode cX5_worthOf 6 = .ok (.getfield 10, 3) := by decide +kernel
theorem dX5_worthOf_9 : decode cX5_worthOf 9 = .ok (.getfield 58, 3) := by decide +kernel
theorem dX5_worthOf_12 : decode cX5_worthOf 12 = .ok (.if_icmp .ge 37, 3) := by decide +kernel
theorem dX5_worthOf_15 : decode cX5_worthOf 15 = .ok (.aload_n 0, 1) := by decide +kernel
theorem dX5_worthOf_16 : decode cX5_worthOf 16 = .ok (.getfield 10, 3) := by decide +kernel
theorem dX5_worthOf_19 : decode cX5_worthOf 19 = .ok (.getfield 187, 3) := by decide +kernel
theorem dX5_worthOf_22 : decode cX5_worthOf 22 = .ok (.iload_n 3, 1) := by decide +kernel
theorem dX5_worthOf_23 : decode cX5_worthOf 23 = .ok (.aaload, 1) := by decide +kernel
theorem dX5_worthOf_24 : decode cX5_worthOf 24 = .ok (.astore 4, 2) := by decide +kernel
theorem dX5_worthOf_26 : decode cX5_worthOf 26 = .ok (.iload_n 2, 1) := by decide +kernel
theorem dX5_worthOf_27 : decode cX5_worthOf 27 = .ok (.aload 4, 2) := by decide +kernel
theorem dX5_worthOf_29 : decode cX5_worthOf 29 = .ok (.aload 4, 2) := by decide +kernel
theorem dX5_worthOf_31 : decode cX5_worthOf 31 = .ok (.aload_n 1, 1) := by decide +kernel
theorem dX5_worthOf_32 : decode cX5_worthOf 32 = .ok (.getfield 288, 3) := by decide +kernel
theorem dX5_worthOf_35 : decode cX5_worthOf 35 = .ok (.invokevirtual 191, 3) := by decide +kernel
theorem dX5_worthOf_38 : decode cX5_worthOf 38 = .ok (.invokevirtual 308, 3) := by decide +kernel
theorem dX5_worthOf_41 : decode cX5_worthOf 41 = .ok (.iadd, 1) := by decide +kernel
theorem dX5_worthOf_42 : decode cX5_worthOf 42 = .ok (.istore_n 2, 1) := by decide +kernel
theorem dX5_worthOf_43 : decode cX5_worthOf 43 = .ok (.iinc 3 1, 3) := by decide +kernel
theorem dX5_worthOf_46 : decode cX5_worthOf 46 = .ok (.goto (-42), 3) := by decide +kernel
theorem dX5_worthOf_49 : decode cX5_worthOf 49 = .ok (.aload_n 1, 1) := by decide +kernel
theorem dX5_worthOf_50 : decode cX5_worthOf 50 = .ok (.getfield 105, 3) := by decide +kernel
theorem dX5_worthOf_53 : decode cX5_worthOf 53 = .ok (.iload_n 2, 1) := by decide +kernel
theorem dX5_worthOf_54 : decode cX5_worthOf 54 = .ok (.aload_n 1, 1) := by decide +kernel
theorem dX5_worthOf_55 : decode cX5_worthOf 55 = .ok (.iconst 1, 1) := by decide +kernel
theorem dX5_worthOf_56 : decode cX5_worthOf 56 = .ok (.invokevirtual 281, 3) := by decide +kernel
theorem dX5_worthOf_59 : decode cX5_worthOf 59 = .ok (.aload_n 1, 1) := by decide +kernel
theorem dX5_worthOf_60 : decode cX5_worthOf 60 = .ok (.invokevirtual 285, 3) := by decide +kernel
theorem dX5_worthOf_63 : decode cX5_worthOf 63 = .ok (.invokestatic 311, 3) := by decide +kernel
theorem dX5_worthOf_66 : decode cX5_worthOf 66 = .ok (.ireturn, 1) := by decide +kernel
theorem dX5_worthBy_0 : decode cX5_worthBy 0 = .ok (.iload_n 0, 1) := by decide +kernel
theorem dX5_worthBy_1 : decode cX5_worthBy 1 = .ok (.ifCond .ne 5, 3) := by decide +kernel
theorem dX5_worthBy_4 : decode cX5_worthBy 4 = .ok (.iconst 0, 1) := by decide +kernel
theorem dX5_worthBy_5 : decode cX5_worthBy 5 = .ok (.ireturn, 1) := by decide +kernel
theorem dX5_worthBy_6 : decode cX5_worthBy 6 = .ok (.bipush 10, 2) := by decide +kernel
theorem dX5_worthBy_8 : decode cX5_worthBy 8 = .ok (.bipush 100, 2) := by decide +kernel
theorem dX5_worthBy_10 : decode cX5_worthBy 10 = .ok (.iload_n 1, 1) := by decide +kernel
theorem dX5_worthBy_11 : decode cX5_worthBy 11 = .ok (.isub, 1) := by decide +kernel
theorem dX5_worthBy_12 : decode cX5_worthBy 12 = .ok (.invokestatic 315, 3) := by decide +kernel
theorem dX5_worthBy_15 : decode cX5_worthBy 15 = .ok (.istore 4, 2) := by decide +kernel
theorem dX5_worthBy_17 : decode cX5_worthBy 17 = .ok (.iload_n 0, 1) := by decide +kernel
theorem dX5_worthBy_18 : decode cX5_worthBy 18 = .ok (.iload_n 0, 1) := by decide +kernel
theorem dX5_worthBy_19 : decode cX5_worthBy 19 = .ok (.imul, 1) := by decide +kernel
theorem dX5_worthBy_20 : decode cX5_worthBy 20 = .ok (.bipush 10, 2) := by decide +kernel
theorem dX5_worthBy_22 : decode cX5_worthBy 22 = .ok (.idiv, 1) := by decide +kernel
theorem dX5_worthBy_23 : decode cX5_worthBy 23 = .ok (.bipush 10, 2) := by decide +kernel
theorem dX5_worthBy_25 : decode cX5_worthBy 25 = .ok (.iload_n 0, 1) := by decide +kernel
theorem dX5_worthBy_26 : decode cX5_worthBy 26 = .ok (.imul, 1) := by decide +kernel
theorem dX5_worthBy_27 : decode cX5_worthBy 27 = .ok (.iadd, 1) := by decide +kernel
theorem dX5_worthBy_28 : decode cX5_worthBy 28 = .ok (.istore 5, 2) := by decide +kernel
theorem dX5_worthBy_30 : decode cX5_worthBy 30 = .ok (.iload 5, 2) := by decide +kernel
theorem dX5_worthBy_32 : decode cX5_worthBy 32 = .ok (.iload 4, 2) := by decide +kernel
theorem dX5_worthBy_34 : decode cX5_worthBy 34 = .ok (.imul, 1) := by decide +kernel
theorem dX5_worthBy_35 : decode cX5_worthBy 35 = .ok (.bipush 100, 2) := by decide +kernel
theorem dX5_worthBy_37 : decode cX5_worthBy 37 = .ok (.idiv, 1) := by decide +kernel
theorem dX5_worthBy_38 : decode cX5_worthBy 38 = .ok (.bipush 25, 2) := by decide +kernel
theorem dX5_worthBy_40 : decode cX5_worthBy 40 = .ok (.iload_n 2, 1) := by decide +kernel
theorem dX5_worthBy_41 : decode cX5_worthBy 41 = .ok (.imul, 1) := by decide +kernel
theorem dX5_worthBy_42 : decode cX5_worthBy 42 = .ok (.iadd, 1) := by decide +kernel
theorem dX5_worthBy_43 : decode cX5_worthBy 43 = .ok (.bipush 40, 2) := by decide +kernel
theorem dX5_worthBy_45 : decode cX5_worthBy 45 = .ok (.iload_n 3, 1) := by decide +kernel
theorem dX5_worthBy_46 : decode cX5_worthBy 46 = .ok (.imul, 1) := by decide +kernel
theorem dX5_worthBy_47 : decode cX5_worthBy 47 = .ok (.iadd, 1) := by decide +kernel
theorem dX5_worthBy_48 : decode cX5_worthBy 48 = .ok (.ireturn, 1) := by decide +kernel
theorem dX5_cellsOfStones_0 : decode cX5_cellsOfStones 0 = .ok (.iconst 0, 1) := by decide +kernel
theorem dX5_cellsOfStones_1 : decode cX5_cellsOfStones 1 = .ok (.istore_n 1, 1) := by decide +kernel
theorem dX5_cellsOfStones_2 : decode cX5_cellsOfStones 2 = .ok (.iconst 0, 1) := by decide +kernel
theorem dX5_cellsOfStones_3 : decode cX5_cellsOfStones 3 = .ok (.istore_n 2, 1) := by decide +kernel
theorem dX5_cellsOfStones_4 : decode cX5_cellsOfStones 4 = .ok (.iload_n 2, 1) := by decide +kernel
theorem dX5_cellsOfStones_5 : decode cX5_cellsOfStones 5 = .ok (.aload_n 0, 1) := by decide +kernel
theorem dX5_cellsOfStones_6 : decode cX5_cellsOfStones 6 = .ok (.getfield 102, 3) := by decide +kernel
theorem dX5_cellsOfStones_9 : decode cX5_cellsOfStones 9 = .ok (.if_icmp .ge 21, 3) := by decide +kernel
theorem dX5_cellsOfStones_12 : decode cX5_cellsOfStones 12 = .ok (.iload_n 1, 1) := by decide +kernel
theorem dX5_cellsOfStones_13 : decode cX5_cellsOfStones 13 = .ok (.aload_n 0, 1) := by decide +kernel
theorem dX5_cellsOfStones_14 : decode cX5_cellsOfStones 14 = .ok (.getfield 18, 3) := by decide +kernel
theorem dX5_cellsOfStones_17 : decode cX5_cellsOfStones 17 = .ok (.iload_n 2, 1) := by decide +kernel
theorem dX5_cellsOfStones_18 : decode cX5_cellsOfStones 18 = .ok (.aaload, 1) := by decide +kernel
theorem dX5_cellsOfStones_19 : decode cX5_cellsOfStones 19 = .ok (.getfield 105, 3) := by decide +kernel
theorem dX5_cellsOfStones_22 : decode cX5_cellsOfStones 22 = .ok (.iadd, 1) := by decide +kernel
theorem dX5_cellsOfStones_23 : decode cX5_cellsOfStones 23 = .ok (.istore_n 1, 1) := by decide +kernel
theorem dX5_cellsOfStones_24 : decode cX5_cellsOfStones 24 = .ok (.iinc 2 1, 3) := by decide +kernel
theorem dX5_cellsOfStones_27 : decode cX5_cellsOfStones 27 = .ok (.goto (-23), 3) := by decide +kernel
theorem dX5_cellsOfStones_30 : decode cX5_cellsOfStones 30 = .ok (.iload_n 1, 1) := by decide +kernel
theorem dX5_cellsOfStones_31 : decode cX5_cellsOfStones 31 = .ok (.ireturn, 1) := by decide +kernel
theorem dX5_stonesLeft_0 : decode cX5_stonesLeft 0 = .ok (.iconst 0, 1) := by decide +kernel
theorem dX5_stonesLeft_1 : decode cX5_stonesLeft 1 = .ok (.istore_n 1, 1) := by decide +kernel
theorem dX5_stonesLeft_2 : decode cX5_stonesLeft 2 = .ok (.iconst 0, 1) := by decide +kernel
theorem dX5_stonesLeft_3 : decode cX5_stonesLeft 3 = .ok (.istore_n 2, 1) := by decide +kernel
theorem dX5_stonesLeft_4 : decode cX5_stonesLeft 4 = .ok (.iload_n 2, 1) := by decide +kernel
theorem dX5_stonesLeft_5 : decode cX5_stonesLeft 5 = .ok (.aload_n 0, 1) := by decide +kernel
theorem dX5_stonesLeft_6 : decode cX5_stonesLeft 6 = .ok (.getfield 102, 3) := by decide +kernel
theorem dX5_stonesLeft_9 : decode cX5_stonesLeft 9 = .ok (.if_icmp .ge 24, 3) := by decide +kernel
theorem dX5_stonesLeft_12 : decode cX5_stonesLeft 12 = .ok (.aload_n 0, 1) := by decide +kernel
theorem dX5_stonesLeft_13 : decode cX5_stonesLeft 13 = .ok (.getfield 18, 3) := by decide +kernel
theorem dX5_stonesLeft_16 : decode cX5_stonesLeft 16 = .ok (.iload_n 2, 1) := by decide +kernel
theorem dX5_stonesLeft_17 : decode cX5_stonesLeft 17 = .ok (.aaload, 1) := by decide +kernel
theorem dX5_stonesLeft_18 : decode cX5_stonesLeft 18 = .ok (.getfield 105, 3) := by decide +kernel
theorem dX5_stonesLeft_21 : decode cX5_stonesLeft 21 = .ok (.ifCond .le 6, 3) := by decide +kernel
theorem dX5_stonesLeft_24 : decode cX5_stonesLeft 24 = .ok (.iinc 1 1, 3) := by decide +kernel
theorem dX5_stonesLeft_27 : decode cX5_stonesLeft 27 = .ok (.iinc 2 1, 3) := by decide +kernel
theorem dX5_stonesLeft_30 : decode cX5_stonesLeft 30 = .ok (.goto (-26), 3) := by decide +kernel
theorem dX5_stonesLeft_33 : decode cX5_stonesLeft 33 = .ok (.iload_n 1, 1) := by decide +kernel
theorem dX5_stonesLeft_34 : decode cX5_stonesLeft 34 = .ok (.ireturn, 1) := by decide +kernel
theorem dX5_worthOfStones_0 : decode cX5_worthOfStones 0 = .ok (.iconst 0, 1) := by decide +kernel
theorem dX5_worthOfStones_1 : decode cX5_worthOfStones 1 = .ok (.istore_n 1, 1) := by decide +kernel
theorem dX5_worthOfStones_2 : decode cX5_worthOfStones 2 = .ok (.iconst 0, 1) := by decide +kernel
theorem dX5_worthOfStones_3 : decode cX5_worthOfStones 3 = .ok (.istore_n 2, 1) := by decide +kernel
theorem dX5_worthOfStones_4 : decode cX5_worthOfStones 4 = .ok (.iload_n 2, 1) := by decide +kernel
theorem dX5_worthOfStones_5 : decode cX5_worthOfStones 5 = .ok (.aload_n 0, 1) := by decide +kernel
theorem dX5_worthOfStones_6 : decode cX5_worthOfStones 6 = .ok (.getfield 102, 3) := by decide +kernel
theorem dX5_worthOfStones_9 : decode cX5_worthOfStones 9 = .ok (.if_icmp .ge 22, 3) := by decide +kernel
theorem dX5_worthOfStones_12 : decode cX5_worthOfStones 12 = .ok (.iload_n 1, 1) := by decide +kernel
theorem dX5_worthOfStones_13 : decode cX5_worthOfStones 13 = .ok (.aload_n 0, 1) := by decide +kernel
theorem dX5_worthOfStones_14 : decode cX5_worthOfStones 14 = .ok (.aload_n 0, 1) := by decide +kernel
theorem dX5_worthOfStones_15 : decode cX5_worthOfStones 15 = .ok (.getfield 18, 3) := by decide +kernel
theorem dX5_worthOfStones_18 : decode cX5_worthOfStones 18 = .ok (.iload_n 2, 1) := by decide +kernel
theorem dX5_worthOfStones_19 : decode cX5_worthOfStones 19 = .ok (.aaload, 1) := by decide +kernel
theorem dX5_worthOfStones_20 : decode cX5_worthOfStones 20 = .ok (.invokevirtual 295, 3) := by decide +kernel
theorem dX5_worthOfStones_23 : decode cX5_worthOfStones 23 = .ok (.iadd, 1) := by decide +kernel
theorem dX5_worthOfStones_24 : decode cX5_worthOfStones 24 = .ok (.istore_n 1, 1) := by decide +kernel
theorem dX5_worthOfStones_25 : decode cX5_worthOfStones 25 = .ok (.iinc 2 1, 3) := by decide +kernel
theorem dX5_worthOfStones_28 : decode cX5_worthOfStones 28 = .ok (.goto (-24), 3) := by decide +kernel
theorem dX5_worthOfStones_31 : decode cX5_worthOfStones 31 = .ok (.iload_n 1, 1) := by decide +kernel
theorem dX5_worthOfStones_32 : decode cX5_worthOfStones 32 = .ok (.ireturn, 1) := by decide +kernel
theorem dX6_init_0 : decode cX6_init 0 = .ok (.aload_n 0, 1) := by decide +kernel
theorem dX6_init_1 : decode cX6_init 1 = .ok (.invokespecial 1, 3) := by decide +kernel
theorem dX6_init_4 : decode cX6_init 4 = .ok (.aload_n 0, 1) := by decide +kernel
theorem dX6_init_5 : decode cX6_init 5 = .ok (.iconst 0, 1) := by decide +kernel
theorem dX6_init_6 : decode cX6_init 6 = .ok (.anewarray 7, 3) := by decide +kernel
theorem dX6_init_9 : decode cX6_init 9 = .ok (.putfield 9, 3) := by decide +kernel
theorem dX6_init_12 : decode cX6_init 12 = .ok (.aload_n 0, 1) := by decide +kernel
theorem dX6_init_13 : decode cX6_init 13 = .ok (.iconst 1, 1) := by decide +kernel
theorem dX6_init_14 : decode cX6_init 14 = .ok (.anewarray 15, 3) := by decide +kernel
theorem dX6_init_17 : decode cX6_init 17 = .ok (.dup, 1) := by decide +kernel
theorem dX6_init_18 : decode cX6_init 18 = .ok (.iconst 0, 1) := by decide +kernel
theorem dX6_init_19 : decode cX6_init 19 = .ok (.iconst 0, 1) := by decide +kernel
theorem dX6_init_20 : decode cX6_init 20 = .ok (.anewarray 7, 3) := by decide +kernel
theorem dX6_init_23 : decode cX6_init 23 = .ok (.aastore, 1) := by decide +kernel
theorem dX6_init_24 : decode cX6_init 24 = .ok (.putfield 16, 3) := by decide +kernel
theorem dX6_init_27 : decode cX6_init 27 = .ok (.aload_n 0, 1) := by decide +kernel
theorem dX6_init_28 : decode cX6_init 28 = .ok (.sipush 400, 3) := by decide +kernel
theorem dX6_init_31 : decode cX6_init 31 = .ok (.putfield 20, 3) := by decide +kernel
theorem dX6_init_34 : decode cX6_init 34 = .ok (.aload_n 0, 1) := by decide +kernel
theorem dX6_init_35 : decode cX6_init 35 = .ok (.iload_n 1, 1) := by decide +kernel
theorem dX6_init_36 : decode cX6_init 36 = .ok (.iload_n 2, 1) := by decide +kernel
theorem dX6_init_37 : decode cX6_init 37 = .ok (.iload_n 3, 1) := by decide +kernel
theorem dX6_init_38 : decode cX6_init 38 = .ok (.multianewarray 24 3, 4) := by decide +kernel
theorem dX6_init_42 : decode cX6_init 42 = .ok (.putfield 25, 3) := by decide +kernel
theorem dX6_init_45 : decode cX6_init 45 = .ok (.return_, 1) := by decide +kernel
theorem dX6_more_0 : decode cX6_more 0 = .ok (.aload_n 0, 1) := by decide +kernel
theorem dX6_more_1 : decode cX6_more 1 = .ok (.arraylength, 1) := by decide +kernel
theorem dX6_more_2 : decode cX6_more 2 = .ok (.iconst 1, 1) := by decide +kernel
theorem dX6_more_3 : decode cX6_more 3 = .ok (.iadd, 1) := by decide +kernel
theorem dX6_more_4 : decode cX6_more 4 = .ok (.anewarray 7, 3) := by decide +kernel
theorem dX6_more_7 : decode cX6_more 7 = .ok (.astore_n 2, 1) := by decide +kernel
theorem dX6_more_8 : decode cX6_more 8 = .ok (.iconst 0, 1) := by decide +kernel
theorem dX6_more_9 : decode cX6_more 9 = .ok (.istore_n 3, 1) := by decide +kernel
theorem dX6_more_10 : decode cX6_more 10 = .ok (.iload_n 3, 1) := by decide +kernel
theorem dX6_more_11 : decode cX6_more 11 = .ok (.aload_n 0, 1) := by decide +kernel
theorem dX6_more_12 : decode cX6_more 12 = .ok (.arraylength, 1) := by decide +kernel
theorem dX6_more_13 : decode cX6_more 13 = .ok (.if_icmp .ge 15, 3) := by decide +kernel
theorem dX6_more_16 : decode cX6_more 16 = .ok (.aload_n 2, 1) := by decide +kernel
theorem dX6_more_17 : decode cX6_more 17 = .ok (.iload_n 3, 1) := by decide +kernel
theorem dX6_more_18 : decode cX6_more 18 = .ok (.aload_n 0, 1) := by decide +kernel
theorem dX6_more_19 : decode cX6_more 19 = .ok (.iload_n 3, 1) := by decide +kernel
theorem dX6_more_20 : decode cX6_more 20 = .ok (.aaload, 1) := by decide +kernel
theorem dX6_more_21 : decode cX6_more 21 = .ok (.aastore, 1) := by decide +kernel
theorem dX6_more_22 : decode cX6_more 22 = .ok (.iinc 3 1, 3) := by decide +kernel
theorem dX6_more_25 : decode cX6_more 25 = .ok (.goto (-15), 3) := by decide +kernel
theorem dX6_more_28 : decode cX6_more 28 = .ok (.aload_n 2, 1) := by decide +kernel
theorem dX6_more_29 : decode cX6_more 29 = .ok (.aload_n 0, 1) := by decide +kernel
theorem dX6_more_30 : decode cX6_more 30 = .ok (.arraylength, 1) := by decide +kernel
theorem dX6_more_31 : decode cX6_more 31 = .ok (.aload_n 1, 1) := by decide +kernel
theorem dX6_more_32 : decode cX6_more 32 = .ok (.aastore, 1) := by decide +kernel
theorem dX6_more_33 : decode cX6_more 33 = .ok (.aload_n 2, 1) := by decide +kernel
theorem dX6_more_34 : decode cX6_more 34 = .ok (.areturn, 1) := by decide +kernel
theorem dL_below_0 : decode cL_below 0 = .ok (.iload_n 0, 1) := by decide +kernel
theorem dL_below_1 : decode cL_below 1 = .ok (.ldc 7, 2) := by decide +kernel
theorem dL_below_3 : decode cL_below 3 = .ok (.iand, 1) := by decide +kernel
theorem dL_below_4 : decode cL_below 4 = .ok (.iload_n 1, 1) := by decide +kernel
theorem dL_below_5 : decode cL_below 5 = .ok (.irem, 1) := by decide +kernel
theorem dL_below_6 : decode cL_below 6 = .ok (.ireturn, 1) := by decide +kernel
theorem dL_cell_0 : decode cL_cell 0 = .ok (.iload_n 1, 1) := by decide +kernel
theorem dL_cell_1 : decode cL_cell 1 = .ok (.aload_n 0, 1) := by decide +kernel
theorem dL_cell_2 : decode cL_cell 2 = .ok (.arraylength, 1) := by decide +kernel
theorem dL_cell_3 : decode cL_cell 3 = .ok (.if_icmp .ge 9, 3) := by decide +kernel
theorem dL_cell_6 : decode cL_cell 6 = .ok (.aload_n 0, 1) := by decide +kernel
theorem dL_cell_7 : decode cL_cell 7 = .ok (.iload_n 1, 1) := by decide +kernel
theorem dL_cell_8 : decode cL_cell 8 = .ok (.iaload, 1) := by decide +kernel
theorem dL_cell_9 : decode cL_cell 9 = .ok (.goto 9, 3) := by decide +kernel
theorem dL_cell_12 : decode cL_cell 12 = .ok (.ldc 8, 2) := by decide +kernel
theorem dL_cell_14 : decode cL_cell 14 = .ok (.iload_n 1, 1) := by decide +kernel
theorem dL_cell_15 : decode cL_cell 15 = .ok (.iconst 3, 1) := by decide +kernel
theorem dL_cell_16 : decode cL_cell 16 = .ok (.iadd, 1) := by decide +kernel
theorem dL_cell_17 : decode cL_cell 17 = .ok (.imul, 1) := by decide +kernel
theorem dL_cell_18 : decode cL_cell 18 = .ok (.ireturn, 1) := by decide +kernel
theorem dL_plane_0 : decode cL_plane 0 = .ok (.iconst 4, 1) := by decide +kernel
theorem dL_plane_1 : decode cL_plane 1 = .ok (.newarray .int, 2) := by decide +kernel
theorem dL_plane_3 : decode cL_plane 3 = .ok (.dup, 1) := by decide +kernel
theorem dL_plane_4 : decode cL_plane 4 = .ok (.iconst 0, 1) := by decide +kernel
theorem dL_plane_5 : decode cL_plane 5 = .ok (.iload_n 0, 1) := by decide +kernel
theorem dL_plane_6 : decode cL_plane 6 = .ok (.bipush 7, 2) := by decide +kernel
theorem dL_plane_8 : decode cL_plane 8 = .ok (.invokestatic 9, 3) := by decide +kernel
theorem dL_plane_11 : decode cL_plane 11 = .ok (.iconst 3, 1) := by decide +kernel
theorem dL_plane_12 : decode cL_plane 12 = .ok (.isub, 1) := by decide +kernel
theorem dL_plane_13 : decode cL_plane 13 = .ok (.iastore, 1) := by decide +kernel
theorem dL_plane_14 : decode cL_plane 14 = .ok (.dup, 1) := by decide +kernel
theorem dL_plane_15 : decode cL_plane 15 = .ok (.iconst 1, 1) := by decide +kernel
theorem dL_plane_16 : decode cL_plane 16 = .ok (.iload_n 0, 1) := by decide +kernel
theorem dL_plane_17 : decode cL_plane 17 = .ok (.iconst 2, 1) := by decide +kernel
theorem dL_plane_18 : decode cL_plane 18 = .ok (.ishr, 1) := by decide +kernel
theorem dL_plane_19 : decode cL_plane 19 = .ok (.bipush 7, 2) := by decide +kernel
theorem dL_plane_21 : decode cL_plane 21 = .ok (.invokestatic 9, 3) := by decide +kernel
theorem dL_plane_24 : decode cL_plane 24 = .ok (.iconst 3, 1) := by decide +kernel
theorem dL_plane_25 : decode cL_plane 25 = .ok (.isub, 1) := by decide +kernel
theorem dL_plane_26 : decode cL_plane 26 = .ok (.iastore, 1) := by decide +kernel
theorem dL_plane_27 : decode cL_plane 27 = .ok (.dup, 1) := by decide +kernel
theorem dL_plane_28 : decode cL_plane 28 = .ok (.iconst 2, 1) := by decide +kernel
theorem dL_plane_29 : decode cL_plane 29 = .ok (.iload_n 0, 1) := by decide +kernel
theorem dL_plane_30 : decode cL_plane 30 = .ok (.iconst 4, 1) := by decide +kernel
theorem dL_plane_31 : decode cL_plane 31 = .ok (.ishr, 1) := by decide +kernel
theorem dL_plane_32 : decode cL_plane 32 = .ok (.bipush 7, 2) := by decide +kernel
theorem dL_plane_34 : decode cL_plane 34 = .ok (.invokestatic 9, 3) := by decide +kernel
theorem dL_plane_37 : decode cL_plane 37 = .ok (.iconst 3, 1) := by decide +kernel
theorem dL_plane_38 : decode cL_plane 38 = .ok (.isub, 1) := by decide +kernel
theorem dL_plane_39 : decode cL_plane 39 = .ok (.iastore, 1) := by decide +kernel
theorem dL_plane_40 : decode cL_plane 40 = .ok (.dup, 1) := by decide +kernel
theorem dL_plane_41 : decode cL_plane 41 = .ok (.iconst 3, 1) := by decide +kernel
theorem dL_plane_42 : decode cL_plane 42 = .ok (.iconst 0, 1) := by decide +kernel
theorem dL_plane_43 : decode cL_plane 43 = .ok (.iastore, 1) := by decide +kernel
theorem dL_plane_44 : decode cL_plane 44 = .ok (.astore_n 2, 1) := by decide +kernel
theorem dL_plane_45 : decode cL_plane 45 = .ok (.iload_n 0, 1) := by decide +kernel
theorem dL_plane_46 : decode cL_plane 46 = .ok (.bipush 6, 2) := by decide +kernel
theorem dL_plane_48 : decode cL_plane 48 = .ok (.ishr, 1) := by decide +kernel
theorem dL_plane_49 : decode cL_plane 49 = .ok (.iconst 2, 1) := by decide +kernel
theorem dL_plane_50 : decode cL_plane 50 = .ok (.invokestatic 9, 3) := by decide +kernel
theorem dL_plane_53 : decode cL_plane 53 = .ok (.ifCond .ne 26, 3) := by decide +kernel
theorem dL_plane_56 : decode cL_plane 56 = .ok (.iconst 0, 1) := by decide +kernel
theorem dL_plane_57 : decode cL_plane 57 = .ok (.istore_n 3, 1) := by decide +kernel
theorem dL_plane_58 : decode cL_plane 58 = .ok (.iload_n 3, 1) := by decide +kernel
theorem dL_plane_59 : decode cL_plane 59 = .ok (.iconst 3, 1) := by decide +kernel
theorem dL_plane_60 : decode cL_plane 60 = .ok (.if_icmp .ge 19, 3) := by decide +kernel
theorem dL_plane_63 : decode cL_plane 63 = .ok (.aload_n 2, 1) := by decide +kernel
theorem dL_plane_64 : decode cL_plane 64 = .ok (.iload_n 3, 1) := by decide +kernel
theorem dL_plane_65 : decode cL_plane 65 = .ok (.aload_n 2, 1) := by decide +kernel
theorem dL_plane_66 : decode cL_plane 66 = .ok (.iload_n 3, 1) := by decide +kernel
theorem dL_plane_67 : decode cL_plane 67 = .ok (.iaload, 1) := by decide +kernel
theorem dL_plane_68 : decode cL_plane 68 = .ok (.iconst 0, 1) := by decide +kernel
theorem dL_plane_69 : decode cL_plane 69 = .ok (.invokestatic 15, 3) := by decide +kernel
theorem dL_plane_72 : decode cL_plane 72 = .ok (.iastore, 1) := by decide +kernel
theorem dL_plane_73 : decode cL_plane 73 = .ok (.iinc 3 1, 3) := by decide +kernel
theorem dL_plane_76 : decode cL_plane 76 = .ok (.goto (-18), 3) := by decide +kernel
theorem dL_plane_79 : decode cL_plane 79 = .ok (.aload_n 2, 1) := by decide +kernel
theorem dL_plane_80 : decode cL_plane 80 = .ok (.iconst 0, 1) := by decide +kernel
theorem dL_plane_81 : decode cL_plane 81 = .ok (.iaload, 1) := by decide +kernel
theorem dL_plane_82 : decode cL_plane 82 = .ok (.ifCond .ne 23, 3) := by decide +kernel
theorem dL_plane_85 : decode cL_plane 85 = .ok (.aload_n 2, 1) := by decide +kernel
theorem dL_plane_86 : decode cL_plane 86 = .ok (.iconst 1, 1) := by decide +kernel
theorem dL_plane_87 : decode cL_plane 87 = .ok (.iaload, 1) := by decide +kernel
theorem dL_plane_88 : decode cL_plane 88 = .ok (.ifCond .ne 17, 3) := by decide +kernel
theorem dL_plane_91 : decode cL_plane 91 = .ok (.aload_n 2, 1) := by decide +kernel
theorem dL_plane_92 : decode cL_plane 92 = .ok (.iconst 2, 1) := by decide +kernel
theorem dL_plane_93 : decode cL_plane 93 = .ok (.iaload, 1) := by decide +kernel
theorem dL_plane_94 : decode cL_plane 94 = .ok (.ifCond .ne 11, 3) := by decide +kernel
theorem dL_plane_97 : decode cL_plane 97 = .ok (.aload_n 2, 1) := by decide +kernel
theorem dL_plane_98 : decode cL_plane 98 = .ok (.iload_n 0, 1) := by decide +kernel
theorem dL_plane_99 : decode cL_plane 99 = .ok (.iconst 3, 1) := by decide +kernel
theorem dL_plane_100 : decode cL_plane 100 = .ok (.invokestatic 9, 3) := by decide +kernel
theorem dL_plane_103 : decode cL_plane 103 = .ok (.iconst 1, 1) := by decide +kernel
theorem dL_plane_104 : decode cL_plane 104 = .ok (.iastore, 1) := by decide +kernel
theorem dL_plane_105 : decode cL_plane 105 = .ok (.iconst 0, 1) := by decide +kernel
theorem dL_plane_106 : decode cL_plane 106 = .ok (.istore_n 3, 1) := by decide +kernel
theorem dL_plane_107 : decode cL_plane 107 = .ok (.iconst 0, 1) := by decide +kernel
theorem dL_plane_108 : decode cL_plane 108 = .ok (.istore 4, 2) := by decide +kernel
theorem dL_plane_110 : decode cL_plane 110 = .ok (.iconst 0, 1) := by decide +kernel
theorem dL_plane_111 : decode cL_plane 111 = .ok (.istore 5, 2) := by decide +kernel
theorem dL_plane_113 : decode cL_plane 113 = .ok (.iload 5, 2) := by decide +kernel
theorem dL_plane_115 : decode cL_plane 115 = .ok (.iconst 3, 1) := by decide +kernel
theorem dL_plane_116 : decode cL_plane 116 = .ok (.if_icmp .ge 37, 3) := by decide +kernel
theorem dL_plane_119 : decode cL_plane 119 = .ok (.iload_n 3, 1) := by decide +kernel
theorem dL_plane_120 : decode cL_plane 120 = .ok (.iconst 0, 1) := by decide +kernel
theorem dL_plane_121 : decode cL_plane 121 = .ok (.aload_n 2, 1) := by decide +kernel
theorem dL_plane_122 : decode cL_plane 122 = .ok (.iload 5, 2) := by decide +kernel
theorem dL_plane_124 : decode cL_plane 124 = .ok (.iaload, 1) := by decide +kernel
theorem dL_plane_125 : decode cL_plane 125 = .ok (.invokestatic 20, 3) := by decide +kernel
theorem dL_plane_128 : decode cL_plane 128 = .ok (.iload_n 1, 1) := by decide +kernel
theorem dL_plane_129 : decode cL_plane 129 = .ok (.imul, 1) := by decide +kernel
theorem dL_plane_130 : decode cL_plane 130 = .ok (.iadd, 1) := by decide +kernel
theorem dL_plane_131 : decode cL_plane 131 = .ok (.istore_n 3, 1) := by decide +kernel
theorem dL_plane_132 : decode cL_plane 132 = .ok (.iload 4, 2) := by decide +kernel
theorem dL_plane_134 : decode cL_plane 134 = .ok (.iconst 0, 1) := by decide +kernel
theorem dL_plane_135 : decode cL_plane 135 = .ok (.aload_n 2, 1) := by decide +kernel
theorem dL_plane_136 : decode cL_plane 136 = .ok (.iload 5, 2) := by decide +kernel
theorem dL_plane_138 : decode cL_plane 138 = .ok (.iaload, 1) := by decide +kernel
theorem dL_plane_139 : decode cL_plane 139 = .ok (.invokestatic 25, 3) := by decide +kernel
theorem dL_plane_142 : decode cL_plane 142 = .ok (.iload_n 1, 1) := by decide +kernel
theorem dL_plane_143 : decode cL_plane 143 = .ok (.imul, 1) := by decide +kernel
theorem dL_plane_144 : decode cL_plane 144 = .ok (.iadd, 1) := by decide +kernel
theorem dL_plane_145 : decode cL_plane 145 = .ok (.istore 4, 2) := by decide +kernel
theorem dL_plane_147 : decode cL_plane 147 = .ok (.iinc 5 1, 3) := by decide +kernel
theorem dL_plane_150 : decode cL_plane 150 = .ok (.goto (-37), 3) := by decide +kernel
theorem dL_plane_153 : decode cL_plane 153 = .ok (.aload_n 2, 1) := by decide +kernel
theorem dL_plane_154 : decode cL_plane 154 = .ok (.iconst 3, 1) := by decide +kernel
theorem dL_plane_155 : decode cL_plane 155 = .ok (.iload_n 0, 1) := by decide +kernel
theorem dL_plane_156 : decode cL_plane 156 = .ok (.bipush 8, 2) := by decide +kernel
theorem dL_plane_158 : decode cL_plane 158 = .ok (.ishr, 1) := by decide +kernel
theorem dL_plane_159 : decode cL_plane 159 = .ok (.bipush 6, 2) := by decide +kernel
theorem dL_plane_161 : decode cL_plane 161 = .ok (.invokestatic 9, 3) := by decide +kernel
theorem dL_plane_164 : decode cL_plane 164 = .ok (.ifCond .ne 18, 3) := by decide +kernel
theorem dL_plane_167 : decode cL_plane 167 = .ok (.iload_n 0, 1) := by decide +kernel
theorem dL_plane_168 : decode cL_plane 168 = .ok (.iconst 3, 1) := by decide +kernel
theorem dL_plane_169 : decode cL_plane 169 = .ok (.ishr, 1) := by decide +kernel
theorem dL_plane_170 : decode cL_plane 170 = .ok (.sipush 201, 3) := by decide +kernel
theorem dL_plane_173 : decode cL_plane 173 = .ok (.invokestatic 9, 3) := by decide +kernel
theorem dL_plane_176 : decode cL_plane 176 = .ok (.bipush 100, 2) := by decide +kernel
theorem dL_plane_178 : decode cL_plane 178 = .ok (.isub, 1) := by decide +kernel
theorem dL_plane_179 : decode cL_plane 179 = .ok (.goto 18, 3) := by decide +kernel
theorem dL_plane_182 : decode cL_plane 182 = .ok (.iload 4, 2) := by decide +kernel
theorem dL_plane_184 : decode cL_plane 184 = .ok (.iload_n 0, 1) := by decide +kernel
theorem dL_plane_185 : decode cL_plane 185 = .ok (.iconst 5, 1) := by decide +kernel
theorem dL_plane_186 : decode cL_plane 186 = .ok (.ishr, 1) := by decide +kernel
theorem dL_plane_187 : decode cL_plane 187 = .ok (.iload_n 3, 1) := by decide +kernel
theorem dL_plane_188 : decode cL_plane 188 = .ok (.iload 4, 2) := by decide +kernel
theorem dL_plane_190 : decode cL_plane 190 = .ok (.isub, 1) := by decide +kernel
theorem dL_plane_191 : decode cL_plane 191 = .ok (.iconst 3, 1) := by decide +kernel
theorem dL_plane_192 : decode cL_plane 192 = .ok (.iadd, 1) := by decide +kernel
theorem dL_plane_193 : decode cL_plane 193 = .ok (.invokestatic 9, 3) := by decide +kernel
theorem dL_plane_196 : decode cL_plane 196 = .ok (.iadd, 1) := by decide +kernel
theorem dL_plane_197 : decode cL_plane 197 = .ok (.iastore, 1) := by decide +kernel
theorem dL_plane_198 : decode cL_plane 198 = .ok (.aload_n 2, 1) := by decide +kernel
theorem dL_plane_199 : decode cL_plane 199 = .ok (.areturn, 1) := by decide +kernel
theorem dL_build_0 : decode cL_build 0 = .ok (.iconst 3, 1) := by decide +kernel
theorem dL_build_1 : decode cL_build 1 = .ok (.newarray .int, 2) := by decide +kernel
theorem dL_build_3 : decode cL_build 3 = .ok (.dup, 1) := by decide +kernel
theorem dL_build_4 : decode cL_build 4 = .ok (.iconst 0, 1) := by decide +kernel
theorem dL_build_5 : decode cL_build 5 = .ok (.iconst 1, 1) := by decide +kernel
theorem dL_build_6 : decode cL_build 6 = .ok (.aload_n 1, 1) := by decide +kernel
theorem dL_build_7 : decode cL_build 7 = .ok (.iconst 0, 1) := by decide +kernel
theorem dL_build_8 : decode cL_build 8 = .ok (.invokestatic 28, 3) := by decide +kernel
theorem dL_build_11 : decode cL_build 11 = .ok (.iload_n 2, 1) := by decide +kernel
theorem dL_build_12 : decode cL_build 12 = .ok (.invokestatic 9, 3) := by decide +kernel
theorem dL_build_15 : decode cL_build 15 = .ok (.iadd, 1) := by decide +kernel
theorem dL_build_16 : decode cL_build 16 = .ok (.iastore, 1) := by decide +kernel
theorem dL_build_17 : decode cL_build 17 = .ok (.dup, 1) := by decide +kernel
theorem dL_build_18 : decode cL_build 18 = .ok (.iconst 1, 1) := by decide +kernel
theorem dL_build_19 : decode cL_build 19 = .ok (.iconst 1, 1) := by decide +kernel
theorem dL_build_20 : decode cL_build 20 = .ok (.aload_n 1, 1) := by decide +kernel
theorem dL_build_21 : decode cL_build 21 = .ok (.iconst 1, 1) := by decide +kernel
theorem dL_build_22 : decode cL_build 22 = .ok (.invokestatic 28, 3) := by decide +kernel
theorem dL_build_25 : decode cL_build 25 = .ok (.iload_n 2, 1) := by decide +kernel
theorem dL_build_26 : decode cL_build 26 = .ok (.invokestatic 9, 3) := by decide +kernel
theorem dL_build_29 : decode cL_build 29 = .ok (.iadd, 1) := by decide +kernel
theorem dL_build_30 : decode cL_build 30 = .ok (.iastore, 1) := by decide +kernel
theorem dL_build_31 : decode cL_build 31 = .ok (.dup, 1) := by decide +kernel
theorem dL_build_32 : decode cL_build 32 = .ok (.iconst 2, 1) := by decide +kernel
theorem dL_build_33 : decode cL_build 33 = .ok (.iconst 1, 1) := by decide +kernel
theorem dL_build_34 : decode cL_build 34 = .ok (.aload_n 1, 1) := by decide +kernel
theorem dL_build_35 : decode cL_build 35 = .ok (.iconst 2, 1) := by decide +kernel
theorem dL_build_36 : decode cL_build 36 = .ok (.invokestatic 28, 3) := by decide +kernel
theorem dL_build_39 : decode cL_build 39 = .ok (.iload_n 2, 1) := by decide +kernel
theorem dL_build_40 : decode cL_build 40 = .ok (.invokestatic 9, 3) := by decide +kernel
theorem dL_build_43 : decode cL_build 43 = .ok (.iadd, 1) := by decide +kernel
theorem dL_build_44 : decode cL_build 44 = .ok (.iastore, 1) := by decide +kernel
theorem dL_build_45 : decode cL_build 45 = .ok (.astore_n 3, 1) := by decide +kernel
theorem dL_build_46 : decode cL_build 46 = .ok (.aload_n 0, 1) := by decide +kernel
theorem dL_build_47 : decode cL_build 47 = .ok (.aload_n 3, 1) := by decide +kernel
theorem dL_build_48 : decode cL_build 48 = .ok (.iconst 0, 1) := by decide +kernel
theorem dL_build_49 : decode cL_build 49 = .ok (.iaload, 1) := by decide +kernel
theorem dL_build_50 : decode cL_build 50 = .ok (.aload_n 3, 1) := by decide +kernel
theorem dL_build_51 : decode cL_build 51 = .ok (.iconst 1, 1) := by decide +kernel
theorem dL_build_52 : decode cL_build 52 = .ok (.iaload, 1) := by decide +kernel
theorem dL_build_53 : decode cL_build 53 = .ok (.aload_n 3, 1) := by decide +kernel
theorem dL_build_54 : decode cL_build 54 = .ok (.iconst 2, 1) := by decide +kernel
theorem dL_build_55 : decode cL_build 55 = .ok (.iaload, 1) := by decide +kernel
theorem dL_build_56 : decode cL_build 56 = .ok (.invokevirtual 32, 3) := by decide +kernel
theorem dL_build_59 : decode cL_build 59 = .ok (.aload_n 3, 1) := by decide +kernel
theorem dL_build_60 : decode cL_build 60 = .ok (.iconst 0, 1) := by decide +kernel
theorem dL_build_61 : decode cL_build 61 = .ok (.iaload, 1) := by decide +kernel
theorem dL_build_62 : decode cL_build 62 = .ok (.aload_n 3, 1) := by decide +kernel
theorem dL_build_63 : decode cL_build 63 = .ok (.iconst 1, 1) := by decide +kernel
theorem dL_build_64 : decode cL_build 64 = .ok (.iaload, 1) := by decide +kernel
theorem dL_build_65 : decode cL_build 65 = .ok (.imul, 1) := by decide +kernel
theorem dL_build_66 : decode cL_build 66 = .ok (.aload_n 3, 1) := by decide +kernel
theorem dL_build_67 : decode cL_build 67 = .ok (.iconst 2, 1) := by decide +kernel
theorem dL_build_68 : decode cL_build 68 = .ok (.iaload, 1) := by decide +kernel
theorem dL_build_69 : decode cL_build 69 = .ok (.imul, 1) := by decide +kernel
theorem dL_build_70 : decode cL_build 70 = .ok (.if_icmp .eq 5, 3) := by decide +kernel
theorem dL_build_73 : decode cL_build 73 = .ok (.aconst_null, 1) := by decide +kernel
theorem dL_build_74 : decode cL_build 74 = .ok (.areturn, 1) := by decide +kernel
theorem dL_build_75 : decode cL_build 75 = .ok (.new 38, 3) := by decide +kernel
theorem dL_build_78 : decode cL_build 78 = .ok (.dup, 1) := by decide +kernel
theorem dL_build_79 : decode cL_build 79 = .ok (.aload_n 3, 1) := by decide +kernel
theorem dL_build_80 : decode cL_build 80 = .ok (.iconst 0, 1) := by decide +kernel
theorem dL_build_81 : decode cL_build 81 = .ok (.iaload, 1) := by decide +kernel
theorem dL_build_82 : decode cL_build 82 = .ok (.aload_n 3, 1) := by decide +kernel
theorem dL_build_83 : decode cL_build 83 = .ok (.iconst 1, 1) := by decide +kernel
theorem dL_build_84 : decode cL_build 84 = .ok (.iaload, 1) := by decide +kernel
theorem dL_build_85 : decode cL_build 85 = .ok (.aload_n 3, 1) := by decide +kernel
theorem dL_build_86 : decode cL_build 86 = .ok (.iconst 2, 1) := by decide +kernel
theorem dL_build_87 : decode cL_build 87 = .ok (.iaload, 1) := by decide +kernel
theorem dL_build_88 : decode cL_build 88 = .ok (.invokespecial 40, 3) := by decide +kernel
theorem dL_build_91 : decode cL_build 91 = .ok (.astore 4, 2) := by decide +kernel
theorem dL_build_93 : decode cL_build 93 = .ok (.aload_n 1, 1) := by decide +kernel
theorem dL_build_94 : decode cL_build 94 = .ok (.iconst 3, 1) := by decide +kernel
theorem dL_build_95 : decode cL_build 95 = .ok (.invokestatic 28, 3) := by decide +kernel
theorem dL_build_98 : decode cL_build 98 = .ok (.iconst 5, 1) := by decide +kernel
theorem dL_build_99 : decode cL_build 99 = .ok (.invokestatic 9, 3) := by decide +kernel
theorem dL_build_102 : decode cL_build 102 = .ok (.istore 5, 2) := by decide +kernel
theorem dL_build_104 : decode cL_build 104 = .ok (.iconst 0, 1) := by decide +kernel
theorem dL_build_105 : decode cL_build 105 = .ok (.istore 6, 2) := by decide +kernel
theorem dL_build_107 : decode cL_build 107 = .ok (.iload 6, 2) := by decide +kernel
theorem dL_build_109 : decode cL_build 109 = .ok (.iload 5, 2) := by decide +kernel
theorem dL_build_111 : decode cL_build 111 = .ok (.if_icmp .ge 160, 3) := by decide +kernel
theorem dL_build_114 : decode cL_build 114 = .ok (.aload_n 1, 1) := by decide +kernel
theorem dL_build_115 : decode cL_build 115 = .ok (.iconst 4, 1) := by decide +kernel
theorem dL_build_116 : decode cL_build 116 = .ok (.iload 6, 2) := by decide +kernel
theorem dL_build_118 : decode cL_build 118 = .ok (.iconst 2, 1) := by decide +kernel
theorem dL_build_119 : decode cL_build 119 = .ok (.irem, 1) := by decide +kernel
theorem dL_build_120 : decode cL_build 120 = .ok (.iadd, 1) := by decide +kernel
theorem dL_build_121 : decode cL_build 121 = .ok (.invokestatic 28, 3) := by decide +kernel
theorem dL_build_124 : decode cL_build 124 = .ok (.iload 6, 2) := by decide +kernel
theorem dL_build_126 : decode cL_build 126 = .ok (.ishr, 1) := by decide +kernel
theorem dL_build_127 : decode cL_build 127 = .ok (.bipush 7, 2) := by decide +kernel
theorem dL_build_129 : decode cL_build 129 = .ok (.iload 6, 2) := by decide +kernel
theorem dL_build_131 : decode cL_build 131 = .ok (.imul, 1) := by decide +kernel
theorem dL_build_132 : decode cL_build 132 = .ok (.iadd, 1) := by decide +kernel
theorem dL_build_133 : decode cL_build 133 = .ok (.istore 7, 2) := by decide +kernel
theorem dL_build_135 : decode cL_build 135 = .ok (.iconst 5, 1) := by decide +kernel
theorem dL_build_136 : decode cL_build 136 = .ok (.newarray .int, 2) := by decide +kernel
theorem dL_build_138 : decode cL_build 138 = .ok (.dup, 1) := by decide +kernel
theorem dL_build_139 : decode cL_build 139 = .ok (.iconst 0, 1) := by decide +kernel
theorem dL_build_140 : decode cL_build 140 = .ok (.iload 7, 2) := by decide +kernel
theorem dL_build_142 : decode cL_build 142 = .ok (.aload_n 3, 1) := by decide +kernel
theorem dL_build_143 : decode cL_build 143 = .ok (.iconst 0, 1) := by decide +kernel
theorem dL_build_144 : decode cL_build 144 = .ok (.iaload, 1) := by decide +kernel
theorem dL_build_145 : decode cL_build 145 = .ok (.invokestatic 9, 3) := by decide +kernel
theorem dL_build_148 : decode cL_build 148 = .ok (.iastore, 1) := by decide +kernel
theorem dL_build_149 : decode cL_build 149 = .ok (.dup, 1) := by decide +kernel
theorem dL_build_150 : decode cL_build 150 = .ok (.iconst 1, 1) := by decide +kernel
theorem dL_build_151 : decode cL_build 151 = .ok (.iload 7, 2) := by decide +kernel
theorem dL_build_153 : decode cL_build 153 = .ok (.iconst 2, 1) := by decide +kernel
theorem dL_build_154 : decode cL_build 154 = .ok (.ishr, 1) := by decide +kernel
theorem dL_build_155 : decode cL_build 155 = .ok (.aload_n 3, 1) := by decide +kernel
theorem dL_build_156 : decode cL_build 156 = .ok (.iconst 1, 1) := by decide +kernel
theorem dL_build_157 : decode cL_build 157 = .ok (.iaload, 1) := by decide +kernel
theorem dL_build_158 : decode cL_build 158 = .ok (.invokestatic 9, 3) := by decide +kernel
theorem dL_build_161 : decode cL_build 161 = .ok (.iastore, 1) := by decide +kernel
theorem dL_build_162 : decode cL_build 162 = .ok (.dup, 1) := by decide +kernel
theorem dL_build_163 : decode cL_build 163 = .ok (.iconst 2, 1) := by decide +kernel
theorem dL_build_164 : decode cL_build 164 = .ok (.iload 7, 2) := by decide +kernel
theorem dL_build_166 : decode cL_build 166 = .ok (.iconst 4, 1) := by decide +kernel
theorem dL_build_167 : decode cL_build 167 = .ok (.ishr, 1) := by decide +kernel
theorem dL_build_168 : decode cL_build 168 = .ok (.aload_n 3, 1) := by decide +kernel
theorem dL_build_169 : decode cL_build 169 = .ok (.iconst 2, 1) := by decide +kernel
theorem dL_build_170 : decode cL_build 170 = .ok (.iaload, 1) := by decide +kernel
theorem dL_build_171 : decode cL_build 171 = .ok (.invokestatic 9, 3) := by decide +kernel
theorem dL_build_174 : decode cL_build 174 = .ok (.iastore, 1) := by decide +kernel
theorem dL_build_175 : decode cL_build 175 = .ok (.dup, 1) := by decide +kernel
theorem dL_build_176 : decode cL_build 176 = .ok (.iconst 3, 1) := by decide +kernel
theorem dL_build_177 : decode cL_build 177 = .ok (.iload 7, 2) := by decide +kernel
theorem dL_build_179 : decode cL_build 179 = .ok (.bipush 6, 2) := by decide +kernel
theorem dL_build_181 : decode cL_build 181 = .ok (.ishr, 1) := by decide +kernel
theorem dL_build_182 : decode cL_build 182 = .ok (.iload 7, 2) := by decide +kernel
theorem dL_build_184 : decode cL_build 184 = .ok (.bipush 8, 2) := by decide +kernel
theorem dL_build_186 : decode cL_build 186 = .ok (.ishr, 1) := by decide +kernel
theorem dL_build_187 : decode cL_build 187 = .ok (.iconst 2, 1) := by decide +kernel
theorem dL_build_188 : decode cL_build 188 = .ok (.invokestatic 9, 3) := by decide +kernel
theorem dL_build_191 : decode cL_build 191 = .ok (.ifCond .ne 7, 3) := by decide +kernel
theorem dL_build_194 : decode cL_build 194 = .ok (.iconst 4, 1) := by decide +kernel
theorem dL_build_195 : decode cL_build 195 = .ok (.goto 4, 3) := by decide +kernel
theorem dL_build_198 : decode cL_build 198 = .ok (.iconst 2, 1) := by decide +kernel
theorem dL_build_199 : decode cL_build 199 = .ok (.invokestatic 9, 3) := by decide +kernel
theorem dL_build_202 : decode cL_build 202 = .ok (.iastore, 1) := by decide +kernel
theorem dL_build_203 : decode cL_build 203 = .ok (.dup, 1) := by decide +kernel
theorem dL_build_204 : decode cL_build 204 = .ok (.iconst 4, 1) := by decide +kernel
theorem dL_build_205 : decode cL_build 205 = .ok (.iconst 1, 1) := by decide +kernel
theorem dL_build_206 : decode cL_build 206 = .ok (.iload 7, 2) := by decide +kernel
theorem dL_build_208 : decode cL_build 208 = .ok (.iconst 3, 1) := by decide +kernel
theorem dL_build_209 : decode cL_build 209 = .ok (.ishr, 1) := by decide +kernel
theorem dL_build_210 : decode cL_build 210 = .ok (.bipush 9, 2) := by decide +kernel
theorem dL_build_212 : decode cL_build 212 = .ok (.invokestatic 9, 3) := by decide +kernel
theorem dL_build_215 : decode cL_build 215 = .ok (.iadd, 1) := by decide +kernel
theorem dL_build_216 : decode cL_build 216 = .ok (.iastore, 1) := by decide +kernel
theorem dL_build_217 : decode cL_build 217 = .ok (.astore 8, 2) := by decide +kernel
theorem dL_build_219 : decode cL_build 219 = .ok (.aload_n 0, 1) := by decide +kernel
theorem dL_build_220 : decode cL_build 220 = .ok (.aload 8, 2) := by decide +kernel
theorem dL_build_222 : decode cL_build 222 = .ok (.iconst 0, 1) := by decide +kernel
theorem dL_build_223 : decode cL_build 223 = .ok (.iaload, 1) := by decide +kernel
theorem dL_build_224 : decode cL_build 224 = .ok (.aload 8, 2) := by decide +kernel
theorem dL_build_226 : decode cL_build 226 = .ok (.iconst 1, 1) := by decide +kernel
theorem dL_build_227 : decode cL_build 227 = .ok (.iaload, 1) := by decide +kernel
theorem dL_build_228 : decode cL_build 228 = .ok (.aload 8, 2) := by decide +kernel
theorem dL_build_230 : decode cL_build 230 = .ok (.iconst 2, 1) := by decide +kernel
theorem dL_build_231 : decode cL_build 231 = .ok (.iaload, 1) := by decide +kernel
theorem dL_build_232 : decode cL_build 232 = .ok (.aload 8, 2) := by decide +kernel
theorem dL_build_234 : decode cL_build 234 = .ok (.iconst 3, 1) := by decide +kernel
theorem dL_build_235 : decode cL_build 235 = .ok (.iaload, 1) := by decide +kernel
theorem dL_build_236 : decode cL_build 236 = .ok (.aload 8, 2) := by decide +kernel
theorem dL_build_238 : decode cL_build 238 = .ok (.iconst 4, 1) := by decide +kernel
theorem dL_build_239 : decode cL_build 239 = .ok (.iaload, 1) := by decide +kernel
theorem dL_build_240 : decode cL_build 240 = .ok (.invokevirtual 43, 3) := by decide +kernel
theorem dL_build_243 : decode cL_build 243 = .ok (.iload 6, 2) := by decide +kernel
theorem dL_build_245 : decode cL_build 245 = .ok (.if_icmp .eq 5, 3) := by decide +kernel
theorem dL_build_248 : decode cL_build 248 = .ok (.aconst_null, 1) := by decide +kernel
theorem dL_build_249 : decode cL_build 249 = .ok (.areturn, 1) := by decide +kernel
theorem dL_build_250 : decode cL_build 250 = .ok (.aload 4, 2) := by decide +kernel
theorem dL_build_252 : decode cL_build 252 = .ok (.aload 4, 2) := by decide +kernel
theorem dL_build_254 : decode cL_build 254 = .ok (.getfield 47, 3) := by decide +kernel
theorem dL_build_257 : decode cL_build 257 = .ok (.aload 8, 2) := by decide +kernel
theorem dL_build_259 : decode cL_build 259 = .ok (.invokestatic 51, 3) := by decide +kernel
theorem dL_build_262 : decode cL_build 262 = .ok (.putfield 47, 3) := by decide +kernel
theorem dL_build_265 : decode cL_build 265 = .ok (.iinc 6 1, 3) := by decide +kernel
theorem dL_build_268 : decode cL_build 268 = .ok (.goto (-161), 3) := by decide +kernel
theorem dL_build_271 : decode cL_build 271 = .ok (.aload 4, 2) := by decide +kernel
theorem dL_build_273 : decode cL_build 273 = .ok (.areturn, 1) := by decide +kernel
theorem dL_law_0 : decode cL_law 0 = .ok (.new 33, 3) := by decide +kernel
theorem dL_law_3 : decode cL_law 3 = .ok (.dup, 1) := by decide +kernel
theorem dL_law_4 : decode cL_law 4 = .ok (.invokespecial 96, 3) := by decide +kernel
theorem dL_law_7 : decode cL_law 7 = .ok (.astore_n 1, 1) := by decide +kernel
theorem dL_law_8 : decode cL_law 8 = .ok (.aload_n 1, 1) := by decide +kernel
theorem dL_law_9 : decode cL_law 9 = .ok (.aload_n 0, 1) := by decide +kernel
theorem dL_law_10 : decode cL_law 10 = .ok (.bipush 6, 2) := by decide +kernel
theorem dL_law_12 : decode cL_law 12 = .ok (.invokestatic 97, 3) := by decide +kernel
theorem dL_law_15 : decode cL_law 15 = .ok (.astore_n 2, 1) := by decide +kernel
theorem dL_law_16 : decode cL_law 16 = .ok (.aload_n 2, 1) := by decide +kernel
theorem dL_law_17 : decode cL_law 17 = .ok (.ifnonnull 5, 3) := by decide +kernel
theorem dL_law_20 : decode cL_law 20 = .ok (.iconst 0, 1) := by decide +kernel
theorem dL_law_21 : decode cL_law 21 = .ok (.ireturn, 1) := by decide +kernel
theorem dL_law_22 : decode cL_law 22 = .ok (.aload_n 2, 1) := by decide +kernel
theorem dL_law_23 : decode cL_law 23 = .ok (.getfield 59, 3) := by decide +kernel
theorem dL_law_26 : decode cL_law 26 = .ok (.arraylength, 1) := by decide +kernel
theorem dL_law_27 : decode cL_law 27 = .ok (.istore_n 3, 1) := by decide +kernel
theorem dL_law_28 : decode cL_law 28 = .ok (.aload_n 2, 1) := by decide +kernel
theorem dL_law_29 : decode cL_law 29 = .ok (.getfield 59, 3) := by decide +kernel
theorem dL_law_32 : decode cL_law 32 = .ok (.iconst 0, 1) := by decide +kernel
theorem dL_law_33 : decode cL_law 33 = .ok (.aaload, 1) := by decide +kernel
theorem dL_law_34 : decode cL_law 34 = .ok (.arraylength, 1) := by decide +kernel
theorem dL_law_35 : decode cL_law 35 = .ok (.istore 4, 2) := by decide +kernel
theorem dL_law_37 : decode cL_law 37 = .ok (.aload_n 2, 1) := by decide +kernel
theorem dL_law_38 : decode cL_law 38 = .ok (.getfield 59, 3) := by decide +kernel
theorem dL_law_41 : decode cL_law 41 = .ok (.iconst 0, 1) := by decide +kernel
theorem dL_law_42 : decode cL_law 42 = .ok (.aaload, 1) := by decide +kernel
theorem dL_law_43 : decode cL_law 43 = .ok (.iconst 0, 1) := by decide +kernel
theorem dL_law_44 : decode cL_law 44 = .ok (.aaload, 1) := by decide +kernel
theorem dL_law_45 : decode cL_law 45 = .ok (.arraylength, 1) := by decide +kernel
theorem dL_law_46 : decode cL_law 46 = .ok (.istore 5, 2) := by decide +kernel
theorem dL_law_48 : decode cL_law 48 = .ok (.iconst 0, 1) := by decide +kernel
theorem dL_law_49 : decode cL_law 49 = .ok (.istore 6, 2) := by decide +kernel
theorem dL_law_51 : decode cL_law 51 = .ok (.iconst 0, 1) := by decide +kernel
theorem dL_law_52 : decode cL_law 52 = .ok (.istore 7, 2) := by decide +kernel
theorem dL_law_54 : decode cL_law 54 = .ok (.iload 7, 2) := by decide +kernel
theorem dL_law_56 : decode cL_law 56 = .ok (.bipush 12, 2) := by decide +kernel
theorem dL_law_58 : decode cL_law 58 = .ok (.if_icmp .ge 1397, 3) := by decide +kernel
theorem dL_law_61 : decode cL_law 61 = .ok (.aload_n 0, 1) := by decide +kernel
theorem dL_law_62 : decode cL_law 62 = .ok (.iload 7, 2) := by decide +kernel
theorem dL_law_64 : decode cL_law 64 = .ok (.invokestatic 28, 3) := by decide +kernel
theorem dL_law_67 : decode cL_law 67 = .ok (.bipush 11, 2) := by decide +kernel
theorem dL_law_69 : decode cL_law 69 = .ok (.iload 7, 2) := by decide +kernel
theorem dL_law_71 : decode cL_law 71 = .ok (.imul, 1) := by decide +kernel
theorem dL_law_72 : decode cL_law 72 = .ok (.iadd, 1) := by decide +kernel
theorem dL_law_73 : decode cL_law 73 = .ok (.istore 8, 2) := by decide +kernel
theorem dL_law_75 : decode cL_law 75 = .ok (.aload_n 1, 1) := by decide +kernel
theorem dL_law_76 : decode cL_law 76 = .ok (.iconst 2, 1) := by decide +kernel
theorem dL_law_77 : decode cL_law 77 = .ok (.invokevirtual 101, 3) := by decide +kernel
theorem dL_law_80 : decode cL_law 80 = .ok (.istore 9, 2) := by decide +kernel
theorem dL_law_82 : decode cL_law 82 = .ok (.iload 8, 2) := by decide +kernel
theorem dL_law_84 : decode cL_law 84 = .ok (.iload 9, 2) := by decide +kernel
theorem dL_law_86 : decode cL_law 86 = .ok (.invokestatic 9, 3) := by decide +kernel
theorem dL_law_89 : decode cL_law 89 = .ok (.istore 10, 2) := by decide +kernel
theorem dL_law_91 : decode cL_law 91 = .ok (.iload 8, 2) := by decide +kernel
theorem dL_law_93 : decode cL_law 93 = .ok (.iconst 3, 1) := by decide +kernel
theorem dL_law_94 : decode cL_law 94 = .ok (.ishr, 1) := by decide +kernel
theorem dL_law_95 : decode cL_law 95 = .ok (.iload_n 3, 1) := by decide +kernel
theorem dL_law_96 : decode cL_law 96 = .ok (.iconst 1, 1) := by decide +kernel
theorem dL_law_97 : decode cL_law 97 = .ok (.isub, 1) := by decide +kernel
theorem dL_law_98 : decode cL_law 98 = .ok (.invokestatic 62, 3) := by decide +kernel
theorem dL_law_101 : decode cL_law 101 = .ok (.astore 11, 2) := by decide +kernel
theorem dL_law_103 : decode cL_law 103 = .ok (.aload_n 1, 1) := by decide +kernel
theorem dL_law_104 : decode cL_law 104 = .ok (.iload 10, 2) := by decide +kernel
theorem dL_law_106 : decode cL_law 106 = .ok (.iconst 0, 1) := by decide +kernel
theorem dL_law_107 : decode cL_law 107 = .ok (.invokevirtual 105, 3) := by decide +kernel
theorem dL_law_110 : decode cL_law 110 = .ok (.istore 12, 2) := by decide +kernel
theorem dL_law_112 : decode cL_law 112 = .ok (.aload_n 1, 1) := by decide +kernel
theorem dL_law_113 : decode cL_law 113 = .ok (.iload 10, 2) := by decide +kernel
theorem dL_law_115 : decode cL_law 115 = .ok (.iconst 1, 1) := by decide +kernel
theorem dL_law_116 : decode cL_law 116 = .ok (.invokevirtual 105, 3) := by decide +kernel
theorem dL_law_119 : decode cL_law 119 = .ok (.istore 13, 2) := by decide +kernel
theorem dL_law_121 : decode cL_law 121 = .ok (.aload_n 1, 1) := by decide +kernel
theorem dL_law_122 : decode cL_law 122 = .ok (.iconst 5, 1) := by decide +kernel
theorem dL_law_123 : decode cL_law 123 = .ok (.invokevirtual 101, 3) := by decide +kernel
theorem dL_law_126 : decode cL_law 126 = .ok (.istore 14, 2) := by decide +kernel
theorem dL_law_128 : decode cL_law 128 = .ok (.aload_n 1, 1) := by decide +kernel
theorem dL_law_129 : decode cL_law 129 = .ok (.bipush 7, 2) := by decide +kernel
theorem dL_law_131 : decode cL_law 131 = .ok (.invokevirtual 101, 3) := by decide +kernel
theorem dL_law_134 : decode cL_law 134 = .ok (.istore 15, 2) := by decide +kernel
theorem dL_law_136 : decode cL_law 136 = .ok (.aload_n 1, 1) := by decide +kernel
theorem dL_law_137 : decode cL_law 137 = .ok (.iconst 1, 1) := by decide +kernel
theorem dL_law_138 : decode cL_law 138 = .ok (.invokevirtual 101, 3) := by decide +kernel
theorem dL_law_141 : decode cL_law 141 = .ok (.istore 16, 2) := by decide +kernel
theorem dL_law_143 : decode cL_law 143 = .ok (.aload_n 1, 1) := by decide +kernel
theorem dL_law_144 : decode cL_law 144 = .ok (.iload 10, 2) := by decide +kernel
theorem dL_law_146 : decode cL_law 146 = .ok (.aload 11, 2) := by decide +kernel
theorem dL_law_148 : decode cL_law 148 = .ok (.iconst 0, 1) := by decide +kernel
theorem dL_law_149 : decode cL_law 149 = .ok (.iaload, 1) := by decide +kernel
theorem dL_law_150 : decode cL_law 150 = .ok (.aload 11, 2) := by decide +kernel
theorem dL_law_152 : decode cL_law 152 = .ok (.iconst 1, 1) := by decide +kernel
theorem dL_law_153 : decode cL_law 153 = .ok (.iaload, 1) := by decide +kernel
theorem dL_law_154 : decode cL_law 154 = .ok (.aload 11, 2) := by decide +kernel
theorem dL_law_156 : decode cL_law 156 = .ok (.iconst 2, 1) := by decide +kernel
theorem dL_law_157 : decode cL_law 157 = .ok (.iaload, 1) := by decide +kernel
theorem dL_law_158 : decode cL_law 158 = .ok (.aload 11, 2) := by decide +kernel
theorem dL_law_160 : decode cL_law 160 = .ok (.iconst 3, 1) := by decide +kernel
theorem dL_law_161 : decode cL_law 161 = .ok (.iaload, 1) := by decide +kernel
theorem dL_law_162 : decode cL_law 162 = .ok (.iconst 0, 1) := by decide +kernel
theorem dL_law_163 : decode cL_law 163 = .ok (.invokevirtual 108, 3) := by decide +kernel
theorem dL_law_166 : decode cL_law 166 = .ok (.istore 17, 2) := by decide +kernel
theorem dL_law_168 : decode cL_law 168 = .ok (.aload_n 1, 1) := by decide +kernel
theorem dL_law_169 : decode cL_law 169 = .ok (.iload 10, 2) := by decide +kernel
theorem dL_law_171 : decode cL_law 171 = .ok (.aload 11, 2) := by decide +kernel
theorem dL_law_173 : decode cL_law 173 = .ok (.iconst 0, 1) := by decide +kernel
theorem dL_law_174 : decode cL_law 174 = .ok (.iaload, 1) := by decide +kernel
theorem dL_law_175 : decode cL_law 175 = .ok (.aload 11, 2) := by decide +kernel
theorem dL_law_177 : decode cL_law 177 = .ok (.iconst 1, 1) := by decide +kernel
theorem dL_law_178 : decode cL_law 178 = .ok (.iaload, 1) := by decide +kernel
theorem dL_law_179 : decode cL_law 179 = .ok (.aload 11, 2) := by decide +kernel
theorem dL_law_181 : decode cL_law 181 = .ok (.iconst 2, 1) := by decide +kernel
theorem dL_law_182 : decode cL_law 182 = .ok (.iaload, 1) := by decide +kernel
theorem dL_law_183 : decode cL_law 183 = .ok (.aload 11, 2) := by decide +kernel
theorem dL_law_185 : decode cL_law 185 = .ok (.iconst 3, 1) := by decide +kernel
theorem dL_law_186 : decode cL_law 186 = .ok (.iaload, 1) := by decide +kernel
theorem dL_law_187 : decode cL_law 187 = .ok (.iconst 1, 1) := by decide +kernel
theorem dL_law_188 : decode cL_law 188 = .ok (.invokevirtual 108, 3) := by decide +kernel
theorem dL_law_191 : decode cL_law 191 = .ok (.istore 18, 2) := by decide +kernel
theorem dL_law_193 : decode cL_law 193 = .ok (.aload_n 1, 1) := by decide +kernel
theorem dL_law_194 : decode cL_law 194 = .ok (.iload 10, 2) := by decide +kernel
theorem dL_law_196 : decode cL_law 196 = .ok (.aload 11, 2) := by decide +kernel
theorem dL_law_198 : decode cL_law 198 = .ok (.iconst 0, 1) := by decide +kernel
theorem dL_law_199 : decode cL_law 199 = .ok (.iaload, 1) := by decide +kernel
theorem dL_law_200 : decode cL_law 200 = .ok (.aload 11, 2) := by decide +kernel
theorem dL_law_202 : decode cL_law 202 = .ok (.iconst 1, 1) := by decide +kernel
theorem dL_law_203 : decode cL_law 203 = .ok (.iaload, 1) := by decide +kernel
theorem dL_law_204 : decode cL_law 204 = .ok (.aload 11, 2) := by decide +kernel
theorem dL_law_206 : decode cL_law 206 = .ok (.iconst 2, 1) := by decide +kernel
theorem dL_law_207 : decode cL_law 207 = .ok (.iaload, 1) := by decide +kernel
theorem dL_law_208 : decode cL_law 208 = .ok (.aload 11, 2) := by decide +kernel
theorem dL_law_210 : decode cL_law 210 = .ok (.iconst 3, 1) := by decide +kernel
theorem dL_law_211 : decode cL_law 211 = .ok (.iaload, 1) := by decide +kernel
theorem dL_law_212 : decode cL_law 212 = .ok (.iconst 2, 1) := by decide +kernel
theorem dL_law_213 : decode cL_law 213 = .ok (.invokevirtual 108, 3) := by decide +kernel
theorem dL_law_216 : decode cL_law 216 = .ok (.istore 19, 2) := by decide +kernel
theorem dL_law_218 : decode cL_law 218 = .ok (.aload_n 1, 1) := by decide +kernel
theorem dL_law_219 : decode cL_law 219 = .ok (.iload 10, 2) := by decide +kernel
theorem dL_law_221 : decode cL_law 221 = .ok (.aload 11, 2) := by decide +kernel
theorem dL_law_223 : decode cL_law 223 = .ok (.iconst 0, 1) := by decide +kernel
theorem dL_law_224 : decode cL_law 224 = .ok (.iaload, 1) := by decide +kernel
theorem dL_law_225 : decode cL_law 225 = .ok (.aload 11, 2) := by decide +kernel
theorem dL_law_227 : decode cL_law 227 = .ok (.iconst 1, 1) := by decide +kernel
theorem dL_law_228 : decode cL_law 228 = .ok (.iaload, 1) := by decide +kernel
theorem dL_law_229 : decode cL_law 229 = .ok (.aload 11, 2) := by decide +kernel
theorem dL_law_231 : decode cL_law 231 = .ok (.iconst 2, 1) := by decide +kernel
theorem dL_law_232 : decode cL_law 232 = .ok (.iaload, 1) := by decide +kernel
theorem dL_law_233 : decode cL_law 233 = .ok (.aload 11, 2) := by decide +kernel
theorem dL_law_235 : decode cL_law 235 = .ok (.iconst 3, 1) := by decide +kernel
theorem dL_law_236 : decode cL_law 236 = .ok (.iaload, 1) := by decide +kernel
theorem dL_law_237 : decode cL_law 237 = .ok (.iconst 3, 1) := by decide +kernel
theorem dL_law_238 : decode cL_law 238 = .ok (.invokevirtual 108, 3) := by decide +kernel
theorem dL_law_241 : decode cL_law 241 = .ok (.istore 20, 2) := by decide +kernel
theorem dL_law_243 : decode cL_law 243 = .ok (.iload 17, 2) := by decide +kernel
theorem dL_law_245 : decode cL_law 245 = .ok (.ifCond .lt 10, 3) := by decide +kernel
theorem dL_law_248 : decode cL_law 248 = .ok (.iload 17, 2) := by decide +kernel
theorem dL_law_250 : decode cL_law 250 = .ok (.iload 12, 2) := by decide +kernel
theorem dL_law_252 : decode cL_law 252 = .ok (.if_icmp .le 5, 3) := by decide +kernel
theorem dL_law_255 : decode cL_law 255 = .ok (.iconst 0, 1) := by decide +kernel
theorem dL_law_256 : decode cL_law 256 = .ok (.ireturn, 1) := by decide +kernel
theorem dL_law_257 : decode cL_law 257 = .ok (.iload 12, 2) := by decide +kernel
theorem dL_law_259 : decode cL_law 259 = .ok (.ifCond .le 59, 3) := by decide +kernel
theorem dL_law_262 : decode cL_law 262 = .ok (.iload 17, 2) := by decide +kernel
theorem dL_law_264 : decode cL_law 264 = .ok (.iload 12, 2) := by decide +kernel
theorem dL_law_266 : decode cL_law 266 = .ok (.if_icmp .ge 52, 3) := by decide +kernel
theorem dL_law_269 : decode cL_law 269 = .ok (.aload_n 1, 1) := by decide +kernel
theorem dL_law_270 : decode cL_law 270 = .ok (.iload 10, 2) := by decide +kernel
theorem dL_law_272 : decode cL_law 272 = .ok (.aload 11, 2) := by decide +kernel
theorem dL_law_274 : decode cL_law 274 = .ok (.iconst 0, 1) := by decide +kernel
theorem dL_law_275 : decode cL_law 275 = .ok (.iaload, 1) := by decide +kernel
theorem dL_law_276 : decode cL_law 276 = .ok (.aload 11, 2) := by decide +kernel
theorem dL_law_278 : decode cL_law 278 = .ok (.iconst 1, 1) := by decide +kernel
theorem dL_law_279 : decode cL_law 279 = .ok (.iaload, 1) := by decide +kernel
theorem dL_law_280 : decode cL_law 280 = .ok (.aload 11, 2) := by decide +kernel
theorem dL_law_282 : decode cL_law 282 = .ok (.iconst 2, 1) := by decide +kernel
theorem dL_law_283 : decode cL_law 283 = .ok (.iaload, 1) := by decide +kernel
theorem dL_law_284 : decode cL_law 284 = .ok (.aload_n 1, 1) := by decide +kernel
theorem dL_law_285 : decode cL_law 285 = .ok (.iload 10, 2) := by decide +kernel
theorem dL_law_287 : decode cL_law 287 = .ok (.aload 11, 2) := by decide +kernel
theorem dL_law_289 : decode cL_law 289 = .ok (.iconst 0, 1) := by decide +kernel
theorem dL_law_290 : decode cL_law 290 = .ok (.iaload, 1) := by decide +kernel
theorem dL_law_291 : decode cL_law 291 = .ok (.aload 11, 2) := by decide +kernel
theorem dL_law_293 : decode cL_law 293 = .ok (.iconst 1, 1) := by decide +kernel
theorem dL_law_294 : decode cL_law 294 = .ok (.iaload, 1) := by decide +kernel
theorem dL_law_295 : decode cL_law 295 = .ok (.aload 11, 2) := by decide +kernel
theorem dL_law_297 : decode cL_law 297 = .ok (.iconst 2, 1) := by decide +kernel
theorem dL_law_298 : decode cL_law 298 = .ok (.iaload, 1) := by decide +kernel
theorem dL_law_299 : decode cL_law 299 = .ok (.invokevirtual 112, 3) := by decide +kernel
theorem dL_law_302 : decode cL_law 302 = .ok (.iconst 1, 1) := by decide +kernel
theorem dL_law_303 : decode cL_law 303 = .ok (.invokevirtual 108, 3) := by decide +kernel
theorem dL_law_306 : decode cL_law 306 = .ok (.iload 18, 2) := by decide +kernel
theorem dL_law_308 : decode cL_law 308 = .ok (.if_icmp .ge 10, 3) := by decide +kernel
theorem dL_law_311 : decode cL_law 311 = .ok (.iload 17, 2) := by decide +kernel
theorem dL_law_313 : decode cL_law 313 = .ok (.ifCond .le 5, 3) := by decide +kernel
theorem dL_law_316 : decode cL_law 316 = .ok (.iconst 0, 1) := by decide +kernel
theorem dL_law_317 : decode cL_law 317 = .ok (.ireturn, 1) := by decide +kernel
theorem dL_law_318 : decode cL_law 318 = .ok (.iload 8, 2) := by decide +kernel
theorem dL_law_320 : decode cL_law 320 = .ok (.bipush 6, 2) := by decide +kernel
theorem dL_law_322 : decode cL_law 322 = .ok (.ishr, 1) := by decide +kernel
theorem dL_law_323 : decode cL_law 323 = .ok (.iconst 4, 1) := by decide +kernel
theorem dL_law_324 : decode cL_law 324 = .ok (.invokestatic 9, 3) := by decide +kernel
theorem dL_law_327 : decode cL_law 327 = .ok (.ifCond .ne 131, 3) := by decide +kernel
theorem dL_law_330 : decode cL_law 330 = .ok (.iload 17, 2) := by decide +kernel
theorem dL_law_332 : decode cL_law 332 = .ok (.ifCond .le 126, 3) := by decide +kernel
theorem dL_law_335 : decode cL_law 335 = .ok (.iload 17, 2) := by decide +kernel
theorem dL_law_337 : decode cL_law 337 = .ok (.iload 12, 2) := by decide +kernel
theorem dL_law_339 : decode cL_law 339 = .ok (.if_icmp .ge 119, 3) := by decide +kernel
theorem dL_law_342 : decode cL_law 342 = .ok (.iload 9, 2) := by decide +kernel
theorem dL_law_344 : decode cL_law 344 = .ok (.bipush 8, 2) := by decide +kernel
theorem dL_law_346 : decode cL_law 346 = .ok (.if_icmp .ge 112, 3) := by decide +kernel
theorem dL_law_349 : decode cL_law 349 = .ok (.aload_n 1, 1) := by decide +kernel
theorem dL_law_350 : decode cL_law 350 = .ok (.iload 10, 2) := by decide +kernel
theorem dL_law_352 : decode cL_law 352 = .ok (.aload 11, 2) := by decide +kernel
theorem dL_law_354 : decode cL_law 354 = .ok (.iconst 0, 1) := by decide +kernel
theorem dL_law_355 : decode cL_law 355 = .ok (.iaload, 1) := by decide +kernel
theorem dL_law_356 : decode cL_law 356 = .ok (.aload 11, 2) := by decide +kernel
theorem dL_law_358 : decode cL_law 358 = .ok (.iconst 1, 1) := by decide +kernel
theorem dL_law_359 : decode cL_law 359 = .ok (.iaload, 1) := by decide +kernel
theorem dL_law_360 : decode cL_law 360 = .ok (.aload 11, 2) := by decide +kernel
theorem dL_law_362 : decode cL_law 362 = .ok (.iconst 2, 1) := by decide +kernel
theorem dL_law_363 : decode cL_law 363 = .ok (.iaload, 1) := by decide +kernel
theorem dL_law_364 : decode cL_law 364 = .ok (.aload 11, 2) := by decide +kernel
theorem dL_law_366 : decode cL_law 366 = .ok (.iconst 3, 1) := by decide +kernel
theorem dL_law_367 : decode cL_law 367 = .ok (.iaload, 1) := by decide +kernel
theorem dL_law_368 : decode cL_law 368 = .ok (.invokevirtual 74, 3) := by decide +kernel
theorem dL_law_371 : decode cL_law 371 = .ok (.iload 9, 2) := by decide +kernel
theorem dL_law_373 : decode cL_law 373 = .ok (.if_icmp .ne 83, 3) := by decide +kernel
theorem dL_law_376 : decode cL_law 376 = .ok (.aload_n 1, 1) := by decide +kernel
theorem dL_law_377 : decode cL_law 377 = .ok (.iload 9, 2) := by decide +kernel
theorem dL_law_379 : decode cL_law 379 = .ok (.iconst 0, 1) := by decide +kernel
theorem dL_law_380 : decode cL_law 380 = .ok (.invokevirtual 105, 3) := by decide +kernel
theorem dL_law_383 : decode cL_law 383 = .ok (.iload 17, 2) := by decide +kernel
theorem dL_law_385 : decode cL_law 385 = .ok (.if_icmp .ne 71, 3) := by decide +kernel
theorem dL_law_388 : decode cL_law 388 = .ok (.aload_n 1, 1) := by decide +kernel
theorem dL_law_389 : decode cL_law 389 = .ok (.iload 10, 2) := by decide +kernel
theorem dL_law_391 : decode cL_law 391 = .ok (.iconst 0, 1) := by decide +kernel
theorem dL_law_392 : decode cL_law 392 = .ok (.invokevirtual 105, 3) := by decide +kernel
theorem dL_law_395 : decode cL_law 395 = .ok (.iload 12, 2) := by decide +kernel
theorem dL_law_397 : decode cL_law 397 = .ok (.iload 17, 2) := by decide +kernel
theorem dL_law_399 : decode cL_law 399 = .ok (.isub, 1) := by decide +kernel
theorem dL_law_400 : decode cL_law 400 = .ok (.if_icmp .ne 56, 3) := by decide +kernel
theorem dL_law_403 : decode cL_law 403 = .ok (.aload_n 1, 1) := by decide +kernel
theorem dL_law_404 : decode cL_law 404 = .ok (.iconst 5, 1) := by decide +kernel
theorem dL_law_405 : decode cL_law 405 = .ok (.invokevirtual 101, 3) := by decide +kernel
theorem dL_law_408 : decode cL_law 408 = .ok (.iload 14, 2) := by decide +kernel
theorem dL_law_410 : decode cL_law 410 = .ok (.if_icmp .ne 46, 3) := by decide +kernel
theorem dL_law_413 : decode cL_law 413 = .ok (.aload_n 1, 1) := by decide +kernel
theorem dL_law_414 : decode cL_law 414 = .ok (.bipush 7, 2) := by decide +kernel
theorem dL_law_416 : decode cL_law 416 = .ok (.invokevirtual 101, 3) := by decide +kernel
theorem dL_law_419 : decode cL_law 419 = .ok (.iload 15, 2) := by decide +kernel
theorem dL_law_421 : decode cL_law 421 = .ok (.if_icmp .ne 35, 3) := by decide +kernel
theorem dL_law_424 : decode cL_law 424 = .ok (.aload_n 1, 1) := by decide +kernel
theorem dL_law_425 : decode cL_law 425 = .ok (.iload 9, 2) := by decide +kernel
theorem dL_law_427 : decode cL_law 427 = .ok (.iconst 1, 1) := by decide +kernel
theorem dL_law_428 : decode cL_law 428 = .ok (.invokevirtual 105, 3) := by decide +kernel
theorem dL_law_431 : decode cL_law 431 = .ok (.ifCond .ne 25, 3) := by decide +kernel
theorem dL_law_434 : decode cL_law 434 = .ok (.aload_n 1, 1) := by decide +kernel
theorem dL_law_435 : decode cL_law 435 = .ok (.iload 10, 2) := by decide +kernel
theorem dL_law_437 : decode cL_law 437 = .ok (.iconst 1, 1) := by decide +kernel
theorem dL_law_438 : decode cL_law 438 = .ok (.invokevirtual 105, 3) := by decide +kernel
theorem dL_law_441 : decode cL_law 441 = .ok (.iload 13, 2) := by decide +kernel
theorem dL_law_443 : decode cL_law 443 = .ok (.if_icmp .ne 13, 3) := by decide +kernel
theorem dL_law_446 : decode cL_law 446 = .ok (.aload_n 1, 1) := by decide +kernel
theorem dL_law_447 : decode cL_law 447 = .ok (.iconst 1, 1) := by decide +kernel
theorem dL_law_448 : decode cL_law 448 = .ok (.invokevirtual 101, 3) := by decide +kernel
theorem dL_law_451 : decode cL_law 451 = .ok (.iload 16, 2) := by decide +kernel
theorem dL_law_453 : decode cL_law 453 = .ok (.if_icmp .eq 244, 3) := by decide +kernel
theorem dL_law_456 : decode cL_law 456 = .ok (.iconst 0, 1) := by decide +kernel
theorem dL_law_457 : decode cL_law 457 = .ok (.ireturn, 1) := by decide +kernel
theorem dL_law_458 : decode cL_law 458 = .ok (.iload 13, 2) := by decide +kernel
theorem dL_law_460 : decode cL_law 460 = .ok (.bipush 16, 2) := by decide +kernel
theorem dL_law_462 : decode cL_law 462 = .ok (.if_icmp .ge 191, 3) := by decide +kernel
theorem dL_law_465 : decode cL_law 465 = .ok (.iconst 3, 1) := by decide +kernel
theorem dL_law_466 : decode cL_law 466 = .ok (.iload 17, 2) := by decide +kernel
theorem dL_law_468 : decode cL_law 468 = .ok (.imul, 1) := by decide +kernel
theorem dL_law_469 : decode cL_law 469 = .ok (.iload 14, 2) := by decide +kernel
theorem dL_law_471 : decode cL_law 471 = .ok (.if_icmp .gt 182, 3) := by decide +kernel
theorem dL_law_474 : decode cL_law 474 = .ok (.aload_n 1, 1) := by decide +kernel
theorem dL_law_475 : decode cL_law 475 = .ok (.iload 10, 2) := by decide +kernel
theorem dL_law_477 : decode cL_law 477 = .ok (.aload 11, 2) := by decide +kernel
theorem dL_law_479 : decode cL_law 479 = .ok (.iconst 0, 1) := by decide +kernel
theorem dL_law_480 : decode cL_law 480 = .ok (.iaload, 1) := by decide +kernel
theorem dL_law_481 : decode cL_law 481 = .ok (.aload 11, 2) := by decide +kernel
theorem dL_law_483 : decode cL_law 483 = .ok (.iconst 1, 1) := by decide +kernel
theorem dL_law_484 : decode cL_law 484 = .ok (.iaload, 1) := by decide +kernel
theorem dL_law_485 : decode cL_law 485 = .ok (.aload 11, 2) := by decide +kernel
theorem dL_law_487 : decode cL_law 487 = .ok (.iconst 2, 1) := by decide +kernel
theorem dL_law_488 : decode cL_law 488 = .ok (.iaload, 1) := by decide +kernel
theorem dL_law_489 : decode cL_law 489 = .ok (.aload 11, 2) := by decide +kernel
theorem dL_law_491 : decode cL_law 491 = .ok (.iconst 3, 1) := by decide +kernel
theorem dL_law_492 : decode cL_law 492 = .ok (.iaload, 1) := by decide +kernel
theorem dL_law_493 : decode cL_law 493 = .ok (.invokevirtual 90, 3) := by decide +kernel
theorem dL_law_496 : decode cL_law 496 = .ok (.iload 17, 2) := by decide +kernel
theorem dL_law_498 : decode cL_law 498 = .ok (.if_icmp .ne 113, 3) := by decide +kernel
theorem dL_law_501 : decode cL_law 501 = .ok (.aload_n 1, 1) := by decide +kernel
theorem dL_law_502 : decode cL_law 502 = .ok (.iload 10, 2) := by decide +kernel
theorem dL_law_504 : decode cL_law 504 = .ok (.iconst 0, 1) := by decide +kernel
theorem dL_law_505 : decode cL_law 505 = .ok (.invokevirtual 105, 3) := by decide +kernel
theorem dL_law_508 : decode cL_law 508 = .ok (.iload 12, 2) := by decide +kernel
theorem dL_law_510 : decode cL_law 510 = .ok (.iload 17, 2) := by decide +kernel
theorem dL_law_512 : decode cL_law 512 = .ok (.isub, 1) := by decide +kernel
theorem dL_law_513 : decode cL_law 513 = .ok (.if_icmp .ne 98, 3) := by decide +kernel
theorem dL_law_516 : decode cL_law 516 = .ok (.aload_n 1, 1) := by decide +kernel
theorem dL_law_517 : decode cL_law 517 = .ok (.iconst 5, 1) := by decide +kernel
theorem dL_law_518 : decode cL_law 518 = .ok (.invokevirtual 101, 3) := by decide +kernel
theorem dL_law_521 : decode cL_law 521 = .ok (.iload 14, 2) := by decide +kernel
theorem dL_law_523 : decode cL_law 523 = .ok (.iconst 3, 1) := by decide +kernel
theorem dL_law_524 : decode cL_law 524 = .ok (.iload 17, 2) := by decide +kernel
theorem dL_law_526 : decode cL_law 526 = .ok (.imul, 1) := by decide +kernel
theorem dL_law_527 : decode cL_law 527 = .ok (.isub, 1) := by decide +kernel
theorem dL_law_528 : decode cL_law 528 = .ok (.if_icmp .ne 83, 3) := by decide +kernel
theorem dL_law_531 : decode cL_law 531 = .ok (.aload_n 1, 1) := by decide +kernel
theorem dL_law_532 : decode cL_law 532 = .ok (.bipush 7, 2) := by decide +kernel
theorem dL_law_534 : decode cL_law 534 = .ok (.invokevirtual 101, 3) := by decide +kernel
theorem dL_law_537 : decode cL_law 537 = .ok (.iload 15, 2) := by decide +kernel
theorem dL_law_539 : decode cL_law 539 = .ok (.iconst 3, 1) := by decide +kernel
theorem dL_law_540 : decode cL_law 540 = .ok (.iload 17, 2) := by decide +kernel
theorem dL_law_542 : decode cL_law 542 = .ok (.imul, 1) := by decide +kernel
theorem dL_law_543 : decode cL_law 543 = .ok (.iadd, 1) := by decide +kernel
theorem dL_law_544 : decode cL_law 544 = .ok (.if_icmp .ne 67, 3) := by decide +kernel
theorem dL_law_547 : decode cL_law 547 = .ok (.aload_n 1, 1) := by decide +kernel
theorem dL_law_548 : decode cL_law 548 = .ok (.iload 10, 2) := by decide +kernel
theorem dL_law_550 : decode cL_law 550 = .ok (.bipush 7, 2) := by decide +kernel
theorem dL_law_552 : decode cL_law 552 = .ok (.invokevirtual 105, 3) := by decide +kernel
theorem dL_law_555 : decode cL_law 555 = .ok (.iload 18, 2) := by decide +kernel
theorem dL_law_557 : decode cL_law 557 = .ok (.if_icmp .ne 54, 3) := by decide +kernel
theorem dL_law_560 : decode cL_law 560 = .ok (.aload_n 1, 1) := by decide +kernel
theorem dL_law_561 : decode cL_law 561 = .ok (.iload 10, 2) := by decide +kernel
theorem dL_law_563 : decode cL_law 563 = .ok (.iconst 5, 1) := by decide +kernel
theorem dL_law_564 : decode cL_law 564 = .ok (.invokevirtual 105, 3) := by decide +kernel
theorem dL_law_567 : decode cL_law 567 = .ok (.iload 19, 2) := by decide +kernel
theorem dL_law_569 : decode cL_law 569 = .ok (.if_icmp .ne 42, 3) := by decide +kernel
theorem dL_law_572 : decode cL_law 572 = .ok (.aload_n 1, 1) := by decide +kernel
theorem dL_law_573 : decode cL_law 573 = .ok (.iload 10, 2) := by decide +kernel
theorem dL_law_575 : decode cL_law 575 = .ok (.iconst 4, 1) := by decide +kernel
theorem dL_law_576 : decode cL_law 576 = .ok (.invokevirtual 105, 3) := by decide +kernel
theorem dL_law_579 : decode cL_law 579 = .ok (.iload 20, 2) := by decide +kernel
theorem dL_law_581 : decode cL_law 581 = .ok (.if_icmp .ne 30, 3) := by decide +kernel
theorem dL_law_584 : decode cL_law 584 = .ok (.aload_n 1, 1) := by decide +kernel
theorem dL_law_585 : decode cL_law 585 = .ok (.iload 10, 2) := by decide +kernel
theorem dL_law_587 : decode cL_law 587 = .ok (.iconst 1, 1) := by decide +kernel
theorem dL_law_588 : decode cL_law 588 = .ok (.invokevirtual 105, 3) := by decide +kernel
theorem dL_law_591 : decode cL_law 591 = .ok (.iload 13, 2) := by decide +kernel
theorem dL_law_593 : decode cL_law 593 = .ok (.iconst 1, 1) := by decide +kernel
theorem dL_law_594 : decode cL_law 594 = .ok (.iadd, 1) := by decide +kernel
theorem dL_law_595 : decode cL_law 595 = .ok (.if_icmp .ne 16, 3) := by decide +kernel
theorem dL_law_598 : decode cL_law 598 = .ok (.aload_n 1, 1) := by decide +kernel
theorem dL_law_599 : decode cL_law 599 = .ok (.iconst 1, 1) := by decide +kernel
theorem dL_law_600 : decode cL_law 600 = .ok (.invokevirtual 101, 3) := by decide +kernel
theorem dL_law_603 : decode cL_law 603 = .ok (.iload 16, 2) := by decide +kernel
theorem dL_law_605 : decode cL_law 605 = .ok (.iload 17, 2) := by decide +kernel
theorem dL_law_607 : decode cL_law 607 = .ok (.isub, 1) := by decide +kernel
theorem dL_law_608 : decode cL_law 608 = .ok (.if_icmp .eq 5, 3) := by decide +kernel
theorem dL_law_611 : decode cL_law 611 = .ok (.iconst 0, 1) := by decide +kernel
theorem dL_law_612 : decode cL_law 612 = .ok (.ireturn, 1) := by decide +kernel
theorem dL_law_613 : decode cL_law 613 = .ok (.aload_n 1, 1) := by decide +kernel
theorem dL_law_614 : decode cL_law 614 = .ok (.iload 10, 2) := by decide +kernel
theorem dL_law_616 : decode cL_law 616 = .ok (.aload 11, 2) := by decide +kernel
theorem dL_law_618 : decode cL_law 618 = .ok (.iconst 0, 1) := by decide +kernel
theorem dL_law_619 : decode cL_law 619 = .ok (.iaload, 1) := by decide +kernel
theorem dL_law_620 : decode cL_law 620 = .ok (.aload 11, 2) := by decide +kernel
theorem dL_law_622 : decode cL_law 622 = .ok (.iconst 1, 1) := by decide +kernel
theorem dL_law_623 : decode cL_law 623 = .ok (.iaload, 1) := by decide +kernel
theorem dL_law_624 : decode cL_law 624 = .ok (.aload 11, 2) := by decide +kernel
theorem dL_law_626 : decode cL_law 626 = .ok (.iconst 2, 1) := by decide +kernel
theorem dL_law_627 : decode cL_law 627 = .ok (.iaload, 1) := by decide +kernel
theorem dL_law_628 : decode cL_law 628 = .ok (.aload 11, 2) := by decide +kernel
theorem dL_law_630 : decode cL_law 630 = .ok (.iconst 3, 1) := by decide +kernel
theorem dL_law_631 : decode cL_law 631 = .ok (.iaload, 1) := by decide +kernel
theorem dL_law_632 : decode cL_law 632 = .ok (.iconst 0, 1) := by decide +kernel
theorem dL_law_633 : decode cL_law 633 = .ok (.invokevirtual 108, 3) := by decide +kernel
theorem dL_law_636 : decode cL_law 636 = .ok (.ifCond .ne 15, 3) := by decide +kernel
theorem dL_law_639 : decode cL_law 639 = .ok (.aload_n 1, 1) := by decide +kernel
theorem dL_law_640 : decode cL_law 640 = .ok (.iload 10, 2) := by decide +kernel
theorem dL_law_642 : decode cL_law 642 = .ok (.iload 13, 2) := by decide +kernel
theorem dL_law_644 : decode cL_law 644 = .ok (.iconst 5, 1) := by decide +kernel
theorem dL_law_645 : decode cL_law 645 = .ok (.invokevirtual 116, 3) := by decide +kernel
theorem dL_law_648 : decode cL_law 648 = .ok (.ifCond .eq 49, 3) := by decide +kernel
theorem dL_law_651 : decode cL_law 651 = .ok (.iconst 0, 1) := by decide +kernel
theorem dL_law_652 : decode cL_law 652 = .ok (.ireturn, 1) := by decide +kernel
theorem dL_law_653 : decode cL_law 653 = .ok (.aload_n 1, 1) := by decide +kernel
theorem dL_law_654 : decode cL_law 654 = .ok (.invokevirtual 86, 3) := by decide +kernel
theorem dL_law_657 : decode cL_law 657 = .ok (.iload 14, 2) := by decide +kernel
theorem dL_law_659 : decode cL_law 659 = .ok (.if_icmp .ne 25, 3) := by decide +kernel
theorem dL_law_662 : decode cL_law 662 = .ok (.aload_n 1, 1) := by decide +kernel
theorem dL_law_663 : decode cL_law 663 = .ok (.iconst 5, 1) := by decide +kernel
theorem dL_law_664 : decode cL_law 664 = .ok (.invokevirtual 101, 3) := by decide +kernel
theorem dL_law_667 : decode cL_law 667 = .ok (.sipush 400, 3) := by decide +kernel
theorem dL_law_670 : decode cL_law 670 = .ok (.if_icmp .ne 14, 3) := by decide +kernel
theorem dL_law_673 : decode cL_law 673 = .ok (.aload_n 1, 1) := by decide +kernel
theorem dL_law_674 : decode cL_law 674 = .ok (.bipush 7, 2) := by decide +kernel
theorem dL_law_676 : decode cL_law 676 = .ok (.invokevirtual 101, 3) := by decide +kernel
theorem dL_law_679 : decode cL_law 679 = .ok (.iload 15, 2) := by decide +kernel
theorem dL_law_681 : decode cL_law 681 = .ok (.if_icmp .eq 5, 3) := by decide +kernel
theorem dL_law_684 : decode cL_law 684 = .ok (.iconst 0, 1) := by decide +kernel
theorem dL_law_685 : decode cL_law 685 = .ok (.ireturn, 1) := by decide +kernel
theorem dL_law_686 : decode cL_law 686 = .ok (.iload 6, 2) := by decide +kernel
theorem dL_law_688 : decode cL_law 688 = .ok (.sipush 400, 3) := by decide +kernel
theorem dL_law_691 : decode cL_law 691 = .ok (.iload 14, 2) := by decide +kernel
theorem dL_law_693 : decode cL_law 693 = .ok (.isub, 1) := by decide +kernel
theorem dL_law_694 : decode cL_law 694 = .ok (.iadd, 1) := by decide +kernel
theorem dL_law_695 : decode cL_law 695 = .ok (.istore 6, 2) := by decide +kernel
theorem dL_law_697 : decode cL_law 697 = .ok (.iconst 0, 1) := by decide +kernel
theorem dL_law_698 : decode cL_law 698 = .ok (.istore 21, 2) := by decide +kernel
theorem dL_law_700 : decode cL_law 700 = .ok (.iload 21, 2) := by decide +kernel
theorem dL_law_702 : decode cL_law 702 = .ok (.aload_n 1, 1) := by decide +kernel
theorem dL_law_703 : decode cL_law 703 = .ok (.iload 10, 2) := by decide +kernel
theorem dL_law_705 : decode cL_law 705 = .ok (.iconst 1, 1) := by decide +kernel
theorem dL_law_706 : decode cL_law 706 = .ok (.invokevirtual 105, 3) := by decide +kernel
theorem dL_law_709 : decode cL_law 709 = .ok (.if_icmp .ge 138, 3) := by decide +kernel
theorem dL_law_712 : decode cL_law 712 = .ok (.aload_n 1, 1) := by decide +kernel
theorem dL_law_713 : decode cL_law 713 = .ok (.iload 10, 2) := by decide +kernel
theorem dL_law_715 : decode cL_law 715 = .ok (.iload 21, 2) := by decide +kernel
theorem dL_law_717 : decode cL_law 717 = .ok (.iconst 4, 1) := by decide +kernel
theorem dL_law_718 : decode cL_law 718 = .ok (.invokevirtual 116, 3) := by decide +kernel
theorem dL_law_721 : decode cL_law 721 = .ok (.istore 22, 2) := by decide +kernel
theorem dL_law_723 : decode cL_law 723 = .ok (.aload_n 1, 1) := by decide +kernel
theorem dL_law_724 : decode cL_law 724 = .ok (.iconst 5, 1) := by decide +kernel
theorem dL_law_725 : decode cL_law 725 = .ok (.invokevirtual 101, 3) := by decide +kernel
theorem dL_law_728 : decode cL_law 728 = .ok (.istore 23, 2) := by decide +kernel
theorem dL_law_730 : decode cL_law 730 = .ok (.iload 22, 2) := by decide +kernel
theorem dL_law_732 : decode cL_law 732 = .ok (.ifCond .eq 109, 3) := by decide +kernel
theorem dL_law_735 : decode cL_law 735 = .ok (.aload_n 1, 1) := by decide +kernel
theorem dL_law_736 : decode cL_law 736 = .ok (.iload 10, 2) := by decide +kernel
theorem dL_law_738 : decode cL_law 738 = .ok (.iload 21, 2) := by decide +kernel
theorem dL_law_740 : decode cL_law 740 = .ok (.iconst 5, 1) := by decide +kernel
theorem dL_law_741 : decode cL_law 741 = .ok (.invokevirtual 116, 3) := by decide +kernel
theorem dL_law_744 : decode cL_law 744 = .ok (.iconst 1, 1) := by decide +kernel
theorem dL_law_745 : decode cL_law 745 = .ok (.if_icmp .eq 96, 3) := by decide +kernel
theorem dL_law_748 : decode cL_law 748 = .ok (.iload 22, 2) := by decide +kernel
theorem dL_law_750 : decode cL_law 750 = .ok (.iconst 5, 1) := by decide +kernel
theorem dL_law_751 : decode cL_law 751 = .ok (.iadd, 1) := by decide +kernel
theorem dL_law_752 : decode cL_law 752 = .ok (.iload 23, 2) := by decide +kernel
theorem dL_law_754 : decode cL_law 754 = .ok (.if_icmp .le 6, 3) := by decide +kernel
theorem dL_law_757 : decode cL_law 757 = .ok (.goto 84, 3) := by decide +kernel
theorem dL_law_760 : decode cL_law 760 = .ok (.aload_n 1, 1) := by decide +kernel
theorem dL_law_761 : decode cL_law 761 = .ok (.iload 10, 2) := by decide +kernel
theorem dL_law_763 : decode cL_law 763 = .ok (.bipush 7, 2) := by decide +kernel
theorem dL_law_765 : decode cL_law 765 = .ok (.invokevirtual 105, 3) := by decide +kernel
theorem dL_law_768 : decode cL_law 768 = .ok (.istore 24, 2) := by decide +kernel
theorem dL_law_770 : decode cL_law 770 = .ok (.aload_n 1, 1) := by decide +kernel
theorem dL_law_771 : decode cL_law 771 = .ok (.iload 10, 2) := by decide +kernel
theorem dL_law_773 : decode cL_law 773 = .ok (.iconst 3, 1) := by decide +kernel
theorem dL_law_774 : decode cL_law 774 = .ok (.invokevirtual 105, 3) := by decide +kernel
theorem dL_law_777 : decode cL_law 777 = .ok (.istore 25, 2) := by decide +kernel
theorem dL_law_779 : decode cL_law 779 = .ok (.aload_n 1, 1) := by decide +kernel
theorem dL_law_780 : decode cL_law 780 = .ok (.iload 10, 2) := by decide +kernel
theorem dL_law_782 : decode cL_law 782 = .ok (.iload 21, 2) := by decide +kernel
theorem dL_law_784 : decode cL_law 784 = .ok (.invokevirtual 83, 3) := by decide +kernel
theorem dL_law_787 : decode cL_law 787 = .ok (.iload 22, 2) := by decide +kernel
theorem dL_law_789 : decode cL_law 789 = .ok (.iconst 5, 1) := by decide +kernel
theorem dL_law_790 : decode cL_law 790 = .ok (.iadd, 1) := by decide +kernel
theorem dL_law_791 : decode cL_law 791 = .ok (.if_icmp .ne 48, 3) := by decide +kernel
theorem dL_law_794 : decode cL_law 794 = .ok (.aload_n 1, 1) := by decide +kernel
theorem dL_law_795 : decode cL_law 795 = .ok (.iconst 5, 1) := by decide +kernel
theorem dL_law_796 : decode cL_law 796 = .ok (.invokevirtual 101, 3) := by decide +kernel
theorem dL_law_799 : decode cL_law 799 = .ok (.iload 23, 2) := by decide +kernel
theorem dL_law_801 : decode cL_law 801 = .ok (.iload 22, 2) := by decide +kernel
theorem dL_law_803 : decode cL_law 803 = .ok (.isub, 1) := by decide +kernel
theorem dL_law_804 : decode cL_law 804 = .ok (.iconst 5, 1) := by decide +kernel
theorem dL_law_805 : decode cL_law 805 = .ok (.isub, 1) := by decide +kernel
theorem dL_law_806 : decode cL_law 806 = .ok (.if_icmp .ne 33, 3) := by decide +kernel
theorem dL_law_809 : decode cL_law 809 = .ok (.aload_n 1, 1) := by decide +kernel
theorem dL_law_810 : decode cL_law 810 = .ok (.iload 10, 2) := by decide +kernel
theorem dL_law_812 : decode cL_law 812 = .ok (.bipush 7, 2) := by decide +kernel
theorem dL_law_814 : decode cL_law 814 = .ok (.invokevirtual 105, 3) := by decide +kernel
theorem dL_law_817 : decode cL_law 817 = .ok (.iload 24, 2) := by decide +kernel
theorem dL_law_819 : decode cL_law 819 = .ok (.bipush 25, 2) := by decide +kernel
theorem dL_law_821 : decode cL_law 821 = .ok (.iadd, 1) := by decide +kernel
theorem dL_law_822 : decode cL_law 822 = .ok (.if_icmp .ne 17, 3) := by decide +kernel
theorem dL_law_825 : decode cL_law 825 = .ok (.aload_n 1, 1) := by decide +kernel
theorem dL_law_826 : decode cL_law 826 = .ok (.iload 10, 2) := by decide +kernel
theorem dL_law_828 : decode cL_law 828 = .ok (.iconst 3, 1) := by decide +kernel
theorem dL_law_829 : decode cL_law 829 = .ok (.invokevirtual 105, 3) := by decide +kernel
theorem dL_law_832 : decode cL_law 832 = .ok (.iload 25, 2) := by decide +kernel
theorem dL_law_834 : decode cL_law 834 = .ok (.iconst 1, 1) := by decide +kernel
theorem dL_law_835 : decode cL_law 835 = .ok (.iadd, 1) := by decide +kernel
theorem dL_law_836 : decode cL_law 836 = .ok (.if_icmp .eq 11, 3) := by decide +kernel
theorem dL_law_839 : decode cL_law 839 = .ok (.iconst 0, 1) := by decide +kernel
theorem dL_law_840 : decode cL_law 840 = .ok (.ireturn, 1) := by decide +kernel
theorem dL_law_841 : decode cL_law 841 = .ok (.iinc 21 1, 3) := by decide +kernel
theorem dL_law_844 : decode cL_law 844 = .ok (.goto (-144), 3) := by decide +kernel
theorem dL_law_847 : decode cL_law 847 = .ok (.aload_n 1, 1) := by decide +kernel
theorem dL_law_848 : decode cL_law 848 = .ok (.iconst 5, 1) := by decide +kernel
theorem dL_law_849 : decode cL_law 849 = .ok (.invokevirtual 101, 3) := by decide +kernel
theorem dL_law_852 : decode cL_law 852 = .ok (.aload_n 1, 1) := by decide +kernel
theorem dL_law_853 : decode cL_law 853 = .ok (.bipush 7, 2) := by decide +kernel
theorem dL_law_855 : decode cL_law 855 = .ok (.invokevirtual 101, 3) := by decide +kernel
theorem dL_law_858 : decode cL_law 858 = .ok (.iadd, 1) := by decide +kernel
theorem dL_law_859 : decode cL_law 859 = .ok (.sipush 400, 3) := by decide +kernel
theorem dL_law_862 : decode cL_law 862 = .ok (.iload 6, 2) := by decide +kernel
theorem dL_law_864 : decode cL_law 864 = .ok (.iadd, 1) := by decide +kernel
theorem dL_law_865 : decode cL_law 865 = .ok (.if_icmp .eq 5, 3) := by decide +kernel
theorem dL_law_868 : decode cL_law 868 = .ok (.iconst 0, 1) := by decide +kernel
theorem dL_law_869 : decode cL_law 869 = .ok (.ireturn, 1) := by decide +kernel
theorem dL_law_870 : decode cL_law 870 = .ok (.bipush 8, 2) := by decide +kernel
theorem dL_law_872 : decode cL_law 872 = .ok (.newarray .int, 2) := by decide +kernel
theorem dL_law_874 : decode cL_law 874 = .ok (.astore 21, 2) := by decide +kernel
theorem dL_law_876 : decode cL_law 876 = .ok (.iconst 0, 1) := by decide +kernel
theorem dL_law_877 : decode cL_law 877 = .ok (.istore 22, 2) := by decide +kernel
theorem dL_law_879 : decode cL_law 879 = .ok (.iload 22, 2) := by decide +kernel
theorem dL_law_881 : decode cL_law 881 = .ok (.iload_n 3, 1) := by decide +kernel
theorem dL_law_882 : decode cL_law 882 = .ok (.if_icmp .ge 85, 3) := by decide +kernel
theorem dL_law_885 : decode cL_law 885 = .ok (.iconst 0, 1) := by decide +kernel
theorem dL_law_886 : decode cL_law 886 = .ok (.istore 23, 2) := by decide +kernel
theorem dL_law_888 : decode cL_law 888 = .ok (.iload 23, 2) := by decide +kernel
theorem dL_law_890 : decode cL_law 890 = .ok (.iload 4, 2) := by decide +kernel
theorem dL_law_892 : decode cL_law 892 = .ok (.if_icmp .ge 69, 3) := by decide +kernel
theorem dL_law_895 : decode cL_law 895 = .ok (.iconst 0, 1) := by decide +kernel
theorem dL_law_896 : decode cL_law 896 = .ok (.istore 24, 2) := by decide +kernel
theorem dL_law_898 : decode cL_law 898 = .ok (.iload 24, 2) := by decide +kernel
theorem dL_law_900 : decode cL_law 900 = .ok (.iload 5, 2) := by decide +kernel
theorem dL_law_902 : decode cL_law 902 = .ok (.if_icmp .ge 53, 3) := by decide +kernel
theorem dL_law_905 : decode cL_law 905 = .ok (.aload_n 1, 1) := by decide +kernel
theorem dL_law_906 : decode cL_law 906 = .ok (.iload 22, 2) := by decide +kernel
theorem dL_law_908 : decode cL_law 908 = .ok (.iload 23, 2) := by decide +kernel
theorem dL_law_910 : decode cL_law 910 = .ok (.iload 24, 2) := by decide +kernel
theorem dL_law_912 : decode cL_law 912 = .ok (.invokevirtual 118, 3) := by decide +kernel
theorem dL_law_915 : decode cL_law 915 = .ok (.istore 25, 2) := by decide +kernel
theorem dL_law_917 : decode cL_law 917 = .ok (.iload 25, 2) := by decide +kernel
theorem dL_law_919 : decode cL_law 919 = .ok (.iconst (-1), 1) := by decide +kernel
theorem dL_law_920 : decode cL_law 920 = .ok (.if_icmp .lt 13, 3) := by decide +kernel
theorem dL_law_923 : decode cL_law 923 = .ok (.iload 25, 2) := by decide +kernel
theorem dL_law_925 : decode cL_law 925 = .ok (.aload_n 1, 1) := by decide +kernel
theorem dL_law_926 : decode cL_law 926 = .ok (.iconst 2, 1) := by decide +kernel
theorem dL_law_927 : decode cL_law 927 = .ok (.invokevirtual 101, 3) := by decide +kernel
theorem dL_law_930 : decode cL_law 930 = .ok (.if_icmp .lt 5, 3) := by decide +kernel
theorem dL_law_933 : decode cL_law 933 = .ok (.iconst 0, 1) := by decide +kernel
theorem dL_law_934 : decode cL_law 934 = .ok (.ireturn, 1) := by decide +kernel
theorem dL_law_935 : decode cL_law 935 = .ok (.iload 25, 2) := by decide +kernel
theorem dL_law_937 : decode cL_law 937 = .ok (.ifCond .lt 12, 3) := by decide +kernel
theorem dL_law_940 : decode cL_law 940 = .ok (.aload 21, 2) := by decide +kernel
theorem dL_law_942 : decode cL_law 942 = .ok (.iload 25, 2) := by decide +kernel
theorem dL_law_944 : decode cL_law 944 = .ok (.dup2, 1) := by decide +kernel
theorem dL_law_945 : decode cL_law 945 = .ok (.iaload, 1) := by decide +kernel
theorem dL_law_946 : decode cL_law 946 = .ok (.iconst 1, 1) := by decide +kernel
theorem dL_law_947 : decode cL_law 947 = .ok (.iadd, 1) := by decide +kernel
theorem dL_law_948 : decode cL_law 948 = .ok (.iastore, 1) := by decide +kernel
theorem dL_law_949 : decode cL_law 949 = .ok (.iinc 24 1, 3) := by decide +kernel
theorem dL_law_952 : decode cL_law 952 = .ok (.goto (-54), 3) := by decide +kernel
theorem dL_law_955 : decode cL_law 955 = .ok (.iinc 23 1, 3) := by decide +kernel
theorem dL_law_958 : decode cL_law 958 = .ok (.goto (-70), 3) := by decide +kernel
theorem dL_law_961 : decode cL_law 961 = .ok (.iinc 22 1, 3) := by decide +kernel
theorem dL_law_964 : decode cL_law 964 = .ok (.goto (-85), 3) := by decide +kernel
theorem dL_law_967 : decode cL_law 967 = .ok (.iconst 0, 1) := by decide +kernel
theorem dL_law_968 : decode cL_law 968 = .ok (.istore 22, 2) := by decide +kernel
theorem dL_law_970 : decode cL_law 970 = .ok (.iconst 0, 1) := by decide +kernel
theorem dL_law_971 : decode cL_law 971 = .ok (.istore 23, 2) := by decide +kernel
theorem dL_law_973 : decode cL_law 973 = .ok (.iconst 0, 1) := by decide +kernel
theorem dL_law_974 : decode cL_law 974 = .ok (.istore 24, 2) := by decide +kernel
theorem dL_law_976 : decode cL_law 976 = .ok (.iload 24, 2) := by decide +kernel
theorem dL_law_978 : decode cL_law 978 = .ok (.aload_n 1, 1) := by decide +kernel
theorem dL_law_979 : decode cL_law 979 = .ok (.iconst 2, 1) := by decide +kernel
theorem dL_law_980 : decode cL_law 980 = .ok (.invokevirtual 101, 3) := by decide +kernel
theorem dL_law_983 : decode cL_law 983 = .ok (.if_icmp .ge 423, 3) := by decide +kernel
theorem dL_law_986 : decode cL_law 986 = .ok (.aload_n 1, 1) := by decide +kernel
theorem dL_law_987 : decode cL_law 987 = .ok (.iload 24, 2) := by decide +kernel
theorem dL_law_989 : decode cL_law 989 = .ok (.iconst 0, 1) := by decide +kernel
theorem dL_law_990 : decode cL_law 990 = .ok (.invokevirtual 105, 3) := by decide +kernel
theorem dL_law_993 : decode cL_law 993 = .ok (.istore 25, 2) := by decide +kernel
theorem dL_law_995 : decode cL_law 995 = .ok (.iload 22, 2) := by decide +kernel
theorem dL_law_997 : decode cL_law 997 = .ok (.iload 25, 2) := by decide +kernel
theorem dL_law_999 : decode cL_law 999 = .ok (.iadd, 1) := by decide +kernel
theorem dL_law_1000 : decode cL_law 1000 = .ok (.istore 22, 2) := by decide +kernel
theorem dL_law_1002 : decode cL_law 1002 = .ok (.iload 23, 2) := by decide +kernel
theorem dL_law_1004 : decode cL_law 1004 = .ok (.aload_n 1, 1) := by decide +kernel
theorem dL_law_1005 : decode cL_law 1005 = .ok (.iload 24, 2) := by decide +kernel
theorem dL_law_1007 : decode cL_law 1007 = .ok (.bipush 7, 2) := by decide +kernel
theorem dL_law_1009 : decode cL_law 1009 = .ok (.invokevirtual 105, 3) := by decide +kernel
theorem dL_law_1012 : decode cL_law 1012 = .ok (.iadd, 1) := by decide +kernel
theorem dL_law_1013 : decode cL_law 1013 = .ok (.istore 23, 2) := by decide +kernel
theorem dL_law_1015 : decode cL_law 1015 = .ok (.iload 25, 2) := by decide +kernel
theorem dL_law_1017 : decode cL_law 1017 = .ok (.aload 21, 2) := by decide +kernel
theorem dL_law_1019 : decode cL_law 1019 = .ok (.iload 24, 2) := by decide +kernel
theorem dL_law_1021 : decode cL_law 1021 = .ok (.iaload, 1) := by decide +kernel
theorem dL_law_1022 : decode cL_law 1022 = .ok (.if_icmp .ne 91, 3) := by decide +kernel
theorem dL_law_1025 : decode cL_law 1025 = .ok (.aload_n 1, 1) := by decide +kernel
theorem dL_law_1026 : decode cL_law 1026 = .ok (.iload 24, 2) := by decide +kernel
theorem dL_law_1028 : decode cL_law 1028 = .ok (.bipush 8, 2) := by decide +kernel
theorem dL_law_1030 : decode cL_law 1030 = .ok (.invokevirtual 105, 3) := by decide +kernel
theorem dL_law_1033 : decode cL_law 1033 = .ok (.iload 25, 2) := by decide +kernel
theorem dL_law_1035 : decode cL_law 1035 = .ok (.if_icmp .gt 78, 3) := by decide +kernel
theorem dL_law_1038 : decode cL_law 1038 = .ok (.iload 25, 2) := by decide +kernel
theorem dL_law_1040 : decode cL_law 1040 = .ok (.ifCond .le 15, 3) := by decide +kernel
theorem dL_law_1043 : decode cL_law 1043 = .ok (.aload_n 1, 1) := by decide +kernel
theorem dL_law_1044 : decode cL_law 1044 = .ok (.iload 24, 2) := by decide +kernel
theorem dL_law_1046 : decode cL_law 1046 = .ok (.bipush 8, 2) := by decide +kernel
theorem dL_law_1048 : decode cL_law 1048 = .ok (.invokevirtual 105, 3) := by decide +kernel
theorem dL_law_1051 : decode cL_law 1051 = .ok (.iconst 1, 1) := by decide +kernel
theorem dL_law_1052 : decode cL_law 1052 = .ok (.if_icmp .lt 61, 3) := by decide +kernel
theorem dL_law_1055 : decode cL_law 1055 = .ok (.aload_n 1, 1) := by decide +kernel
theorem dL_law_1056 : decode cL_law 1056 = .ok (.iload 24, 2) := by decide +kernel
theorem dL_law_1058 : decode cL_law 1058 = .ok (.iconst 3, 1) := by decide +kernel
theorem dL_law_1059 : decode cL_law 1059 = .ok (.invokevirtual 105, 3) := by decide +kernel
theorem dL_law_1062 : decode cL_law 1062 = .ok (.aload_n 1, 1) := by decide +kernel
theorem dL_law_1063 : decode cL_law 1063 = .ok (.iload 24, 2) := by decide +kernel
theorem dL_law_1065 : decode cL_law 1065 = .ok (.iconst 2, 1) := by decide +kernel
theorem dL_law_1066 : decode cL_law 1066 = .ok (.invokevirtual 105, 3) := by decide +kernel
theorem dL_law_1069 : decode cL_law 1069 = .ok (.if_icmp .gt 44, 3) := by decide +kernel
theorem dL_law_1072 : decode cL_law 1072 = .ok (.aload_n 1, 1) := by decide +kernel
theorem dL_law_1073 : decode cL_law 1073 = .ok (.iload 24, 2) := by decide +kernel
theorem dL_law_1075 : decode cL_law 1075 = .ok (.iconst 2, 1) := by decide +kernel
theorem dL_law_1076 : decode cL_law 1076 = .ok (.invokevirtual 105, 3) := by decide +kernel
theorem dL_law_1079 : decode cL_law 1079 = .ok (.aload_n 1, 1) := by decide +kernel
theorem dL_law_1080 : decode cL_law 1080 = .ok (.iload 24, 2) := by decide +kernel
theorem dL_law_1082 : decode cL_law 1082 = .ok (.iconst 1, 1) := by decide +kernel
theorem dL_law_1083 : decode cL_law 1083 = .ok (.invokevirtual 105, 3) := by decide +kernel
theorem dL_law_1086 : decode cL_law 1086 = .ok (.if_icmp .gt 27, 3) := by decide +kernel
theorem dL_law_1089 : decode cL_law 1089 = .ok (.aload_n 1, 1) := by decide +kernel
theorem dL_law_1090 : decode cL_law 1090 = .ok (.iload 24, 2) := by decide +kernel
theorem dL_law_1092 : decode cL_law 1092 = .ok (.iconst 5, 1) := by decide +kernel
theorem dL_law_1093 : decode cL_law 1093 = .ok (.invokevirtual 105, 3) := by decide +kernel
theorem dL_law_1096 : decode cL_law 1096 = .ok (.aload_n 1, 1) := by decide +kernel
theorem dL_law_1097 : decode cL_law 1097 = .ok (.iload 24, 2) := by decide +kernel
theorem dL_law_1099 : decode cL_law 1099 = .ok (.bipush 6, 2) := by decide +kernel
theorem dL_law_1101 : decode cL_law 1101 = .ok (.invokevirtual 105, 3) := by decide +kernel
theorem dL_law_1104 : decode cL_law 1104 = .ok (.iadd, 1) := by decide +kernel
theorem dL_law_1105 : decode cL_law 1105 = .ok (.aload_n 2, 1) := by decide +kernel
theorem dL_law_1106 : decode cL_law 1106 = .ok (.getfield 47, 3) := by decide +kernel
theorem dL_law_1109 : decode cL_law 1109 = .ok (.arraylength, 1) := by decide +kernel
theorem dL_law_1110 : decode cL_law 1110 = .ok (.if_icmp .le 5, 3) := by decide +kernel
theorem dL_law_1113 : decode cL_law 1113 = .ok (.iconst 0, 1) := by decide +kernel
theorem dL_law_1114 : decode cL_law 1114 = .ok (.ireturn, 1) := by decide +kernel
theorem dL_law_1115 : decode cL_law 1115 = .ok (.iconst 0, 1) := by decide +kernel
theorem dL_law_1116 : decode cL_law 1116 = .ok (.istore 26, 2) := by decide +kernel
theorem dL_law_1118 : decode cL_law 1118 = .ok (.iconst 0, 1) := by decide +kernel
theorem dL_law_1119 : decode cL_law 1119 = .ok (.istore 27, 2) := by decide +kernel
theorem dL_law_1121 : decode cL_law 1121 = .ok (.iload 27, 2) := by decide +kernel
theorem dL_law_1123 : decode cL_law 1123 = .ok (.aload_n 2, 1) := by decide +kernel
theorem dL_law_1124 : decode cL_law 1124 = .ok (.getfield 47, 3) := by decide +kernel
theorem dL_law_1127 : decode cL_law 1127 = .ok (.arraylength, 1) := by decide +kernel
theorem dL_law_1128 : decode cL_law 1128 = .ok (.if_icmp .ge 200, 3) := by decide +kernel
theorem dL_law_1131 : decode cL_law 1131 = .ok (.aload_n 1, 1) := by decide +kernel
theorem dL_law_1132 : decode cL_law 1132 = .ok (.iload 27, 2) := by decide +kernel
theorem dL_law_1134 : decode cL_law 1134 = .ok (.iload 24, 2) := by decide +kernel
theorem dL_law_1136 : decode cL_law 1136 = .ok (.iconst 0, 1) := by decide +kernel
theorem dL_law_1137 : decode cL_law 1137 = .ok (.invokevirtual 120, 3) := by decide +kernel
theorem dL_law_1140 : decode cL_law 1140 = .ok (.istore 28, 2) := by decide +kernel
theorem dL_law_1142 : decode cL_law 1142 = .ok (.aload_n 1, 1) := by decide +kernel
theorem dL_law_1143 : decode cL_law 1143 = .ok (.iload 27, 2) := by decide +kernel
theorem dL_law_1145 : decode cL_law 1145 = .ok (.iload 24, 2) := by decide +kernel
theorem dL_law_1147 : decode cL_law 1147 = .ok (.iconst 1, 1) := by decide +kernel
theorem dL_law_1148 : decode cL_law 1148 = .ok (.invokevirtual 120, 3) := by decide +kernel
theorem dL_law_1151 : decode cL_law 1151 = .ok (.istore 29, 2) := by decide +kernel
theorem dL_law_1153 : decode cL_law 1153 = .ok (.iload 29, 2) := by decide +kernel
theorem dL_law_1155 : decode cL_law 1155 = .ok (.iload 28, 2) := by decide +kernel
theorem dL_law_1157 : decode cL_law 1157 = .ok (.if_icmp .gt 34, 3) := by decide +kernel
theorem dL_law_1160 : decode cL_law 1160 = .ok (.aload_n 1, 1) := by decide +kernel
theorem dL_law_1161 : decode cL_law 1161 = .ok (.iload 27, 2) := by decide +kernel
theorem dL_law_1163 : decode cL_law 1163 = .ok (.iload 24, 2) := by decide +kernel
theorem dL_law_1165 : decode cL_law 1165 = .ok (.iconst 2, 1) := by decide +kernel
theorem dL_law_1166 : decode cL_law 1166 = .ok (.invokevirtual 120, 3) := by decide +kernel
theorem dL_law_1169 : decode cL_law 1169 = .ok (.iload 28, 2) := by decide +kernel
theorem dL_law_1171 : decode cL_law 1171 = .ok (.ifCond .ne 7, 3) := by decide +kernel
theorem dL_law_1174 : decode cL_law 1174 = .ok (.iconst (-1), 1) := by decide +kernel
theorem dL_law_1175 : decode cL_law 1175 = .ok (.goto 13, 3) := by decide +kernel
theorem dL_law_1178 : decode cL_law 1178 = .ok (.iload 29, 2) := by decide +kernel
theorem dL_law_1180 : decode cL_law 1180 = .ok (.ifCond .le 7, 3) := by decide +kernel
theorem dL_law_1183 : decode cL_law 1183 = .ok (.iconst 1, 1) := by decide +kernel
theorem dL_law_1184 : decode cL_law 1184 = .ok (.goto 4, 3) := by decide +kernel
theorem dL_law_1187 : decode cL_law 1187 = .ok (.iconst 0, 1) := by decide +kernel
theorem dL_law_1188 : decode cL_law 1188 = .ok (.if_icmp .eq 5, 3) := by decide +kernel
theorem dL_law_1191 : decode cL_law 1191 = .ok (.iconst 0, 1) := by decide +kernel
theorem dL_law_1192 : decode cL_law 1192 = .ok (.ireturn, 1) := by decide +kernel
theorem dL_law_1193 : decode cL_law 1193 = .ok (.iload 26, 2) := by decide +kernel
theorem dL_law_1195 : decode cL_law 1195 = .ok (.iload 28, 2) := by decide +kernel
theorem dL_law_1197 : decode cL_law 1197 = .ok (.ifCond .ne 7, 3) := by decide +kernel
theorem dL_law_1200 : decode cL_law 1200 = .ok (.iconst 0, 1) := by decide +kernel
theorem dL_law_1201 : decode cL_law 1201 = .ok (.goto 24, 3) := by decide +kernel
theorem dL_law_1204 : decode cL_law 1204 = .ok (.iload 29, 2) := by decide +kernel
theorem dL_law_1206 : decode cL_law 1206 = .ok (.ifCond .le 8, 3) := by decide +kernel
theorem dL_law_1209 : decode cL_law 1209 = .ok (.bipush 6, 2) := by decide +kernel
theorem dL_law_1211 : decode cL_law 1211 = .ok (.goto 4, 3) := by decide +kernel
theorem dL_law_1214 : decode cL_law 1214 = .ok (.iconst 2, 1) := by decide +kernel
theorem dL_law_1215 : decode cL_law 1215 = .ok (.aload_n 2, 1) := by decide +kernel
theorem dL_law_1216 : decode cL_law 1216 = .ok (.getfield 47, 3) := by decide +kernel
theorem dL_law_1219 : decode cL_law 1219 = .ok (.iload 27, 2) := by decide +kernel
theorem dL_law_1221 : decode cL_law 1221 = .ok (.aaload, 1) := by decide +kernel
theorem dL_law_1222 : decode cL_law 1222 = .ok (.iconst 4, 1) := by decide +kernel
theorem dL_law_1223 : decode cL_law 1223 = .ok (.iaload, 1) := by decide +kernel
theorem dL_law_1224 : decode cL_law 1224 = .ok (.imul, 1) := by decide +kernel
theorem dL_law_1225 : decode cL_law 1225 = .ok (.iadd, 1) := by decide +kernel
theorem dL_law_1226 : decode cL_law 1226 = .ok (.istore 26, 2) := by decide +kernel
theorem dL_law_1228 : decode cL_law 1228 = .ok (.iload 28, 2) := by decide +kernel
theorem dL_law_1230 : decode cL_law 1230 = .ok (.ifCond .eq 92, 3) := by decide +kernel
theorem dL_law_1233 : decode cL_law 1233 = .ok (.iload 27, 2) := by decide +kernel
theorem dL_law_1235 : decode cL_law 1235 = .ok (.iconst 1, 1) := by decide +kernel
theorem dL_law_1236 : decode cL_law 1236 = .ok (.if_icmp .le 6, 3) := by decide +kernel
theorem dL_law_1239 : decode cL_law 1239 = .ok (.goto 83, 3) := by decide +kernel
theorem dL_law_1242 : decode cL_law 1242 = .ok (.aload_n 1, 1) := by decide +kernel
theorem dL_law_1243 : decode cL_law 1243 = .ok (.iload 27, 2) := by decide +kernel
theorem dL_law_1245 : decode cL_law 1245 = .ok (.iload 24, 2) := by decide +kernel
theorem dL_law_1247 : decode cL_law 1247 = .ok (.iconst 0, 1) := by decide +kernel
theorem dL_law_1248 : decode cL_law 1248 = .ok (.invokevirtual 123, 3) := by decide +kernel
theorem dL_law_1251 : decode cL_law 1251 = .ok (.istore 30, 2) := by decide +kernel
theorem dL_law_1253 : decode cL_law 1253 = .ok (.aload_n 1, 1) := by decide +kernel
theorem dL_law_1254 : decode cL_law 1254 = .ok (.iload 27, 2) := by decide +kernel
theorem dL_law_1256 : decode cL_law 1256 = .ok (.iload 24, 2) := by decide +kernel
theorem dL_law_1258 : decode cL_law 1258 = .ok (.iconst 1, 1) := by decide +kernel
theorem dL_law_1259 : decode cL_law 1259 = .ok (.invokevirtual 123, 3) := by decide +kernel
theorem dL_law_1262 : decode cL_law 1262 = .ok (.istore 31, 2) := by decide +kernel
theorem dL_law_1264 : decode cL_law 1264 = .ok (.aload_n 1, 1) := by decide +kernel
theorem dL_law_1265 : decode cL_law 1265 = .ok (.iload 24, 2) := by decide +kernel
theorem dL_law_1267 : decode cL_law 1267 = .ok (.iload 30, 2) := by decide +kernel
theorem dL_law_1269 : decode cL_law 1269 = .ok (.bipush 9, 2) := by decide +kernel
theorem dL_law_1271 : decode cL_law 1271 = .ok (.idiv, 1) := by decide +kernel
theorem dL_law_1272 : decode cL_law 1272 = .ok (.iconst 1, 1) := by decide +kernel
theorem dL_law_1273 : decode cL_law 1273 = .ok (.isub, 1) := by decide +kernel
theorem dL_law_1274 : decode cL_law 1274 = .ok (.iload 30, 2) := by decide +kernel
theorem dL_law_1276 : decode cL_law 1276 = .ok (.iconst 3, 1) := by decide +kernel
theorem dL_law_1277 : decode cL_law 1277 = .ok (.idiv, 1) := by decide +kernel
theorem dL_law_1278 : decode cL_law 1278 = .ok (.iconst 3, 1) := by decide +kernel
theorem dL_law_1279 : decode cL_law 1279 = .ok (.irem, 1) := by decide +kernel
theorem dL_law_1280 : decode cL_law 1280 = .ok (.iconst 1, 1) := by decide +kernel
theorem dL_law_1281 : decode cL_law 1281 = .ok (.isub, 1) := by decide +kernel
theorem dL_law_1282 : decode cL_law 1282 = .ok (.iload 30, 2) := by decide +kernel
theorem dL_law_1284 : decode cL_law 1284 = .ok (.iconst 3, 1) := by decide +kernel
theorem dL_law_1285 : decode cL_law 1285 = .ok (.irem, 1) := by decide +kernel
theorem dL_law_1286 : decode cL_law 1286 = .ok (.iconst 1, 1) := by decide +kernel
theorem dL_law_1287 : decode cL_law 1287 = .ok (.isub, 1) := by decide +kernel
theorem dL_law_1288 : decode cL_law 1288 = .ok (.iload 31, 2) := by decide +kernel
theorem dL_law_1290 : decode cL_law 1290 = .ok (.iconst 0, 1) := by decide +kernel
theorem dL_law_1291 : decode cL_law 1291 = .ok (.invokevirtual 108, 3) := by decide +kernel
theorem dL_law_1294 : decode cL_law 1294 = .ok (.aload_n 1, 1) := by decide +kernel
theorem dL_law_1295 : decode cL_law 1295 = .ok (.iload 27, 2) := by decide +kernel
theorem dL_law_1297 : decode cL_law 1297 = .ok (.iload 24, 2) := by decide +kernel
theorem dL_law_1299 : decode cL_law 1299 = .ok (.iconst 2, 1) := by decide +kernel
theorem dL_law_1300 : decode cL_law 1300 = .ok (.invokevirtual 123, 3) := by decide +kernel
theorem dL_law_1303 : decode cL_law 1303 = .ok (.if_icmp .ne 17, 3) := by decide +kernel
theorem dL_law_1306 : decode cL_law 1306 = .ok (.aload_n 1, 1) := by decide +kernel
theorem dL_law_1307 : decode cL_law 1307 = .ok (.iload 27, 2) := by decide +kernel
theorem dL_law_1309 : decode cL_law 1309 = .ok (.iload 24, 2) := by decide +kernel
theorem dL_law_1311 : decode cL_law 1311 = .ok (.iconst 2, 1) := by decide +kernel
theorem dL_law_1312 : decode cL_law 1312 = .ok (.invokevirtual 123, 3) := by decide +kernel
theorem dL_law_1315 : decode cL_law 1315 = .ok (.iload 28, 2) := by decide +kernel
theorem dL_law_1317 : decode cL_law 1317 = .ok (.if_icmp .ge 5, 3) := by decide +kernel
theorem dL_law_1320 : decode cL_law 1320 = .ok (.iconst 0, 1) := by decide +kernel
theorem dL_law_1321 : decode cL_law 1321 = .ok (.ireturn, 1) := by decide +kernel
theorem dL_law_1322 : decode cL_law 1322 = .ok (.iinc 27 1, 3) := by decide +kernel
theorem dL_law_1325 : decode cL_law 1325 = .ok (.goto (-204), 3) := by decide +kernel
theorem dL_law_1328 : decode cL_law 1328 = .ok (.aload_n 1, 1) := by decide +kernel
theorem dL_law_1329 : decode cL_law 1329 = .ok (.iload 24, 2) := by decide +kernel
theorem dL_law_1331 : decode cL_law 1331 = .ok (.bipush 7, 2) := by decide +kernel
theorem dL_law_1333 : decode cL_law 1333 = .ok (.invokevirtual 105, 3) := by decide +kernel
theorem dL_law_1336 : decode cL_law 1336 = .ok (.iload 25, 2) := by decide +kernel
theorem dL_law_1338 : decode cL_law 1338 = .ok (.ifCond .ne 7, 3) := by decide +kernel
theorem dL_law_1341 : decode cL_law 1341 = .ok (.iconst 0, 1) := by decide +kernel
theorem dL_law_1342 : decode cL_law 1342 = .ok (.goto 53, 3) := by decide +kernel
theorem dL_law_1345 : decode cL_law 1345 = .ok (.iload 25, 2) := by decide +kernel
theorem dL_law_1347 : decode cL_law 1347 = .ok (.iload 25, 2) := by decide +kernel
theorem dL_law_1349 : decode cL_law 1349 = .ok (.imul, 1) := by decide +kernel
theorem dL_law_1350 : decode cL_law 1350 = .ok (.bipush 10, 2) := by decide +kernel
theorem dL_law_1352 : decode cL_law 1352 = .ok (.idiv, 1) := by decide +kernel
theorem dL_law_1353 : decode cL_law 1353 = .ok (.bipush 10, 2) := by decide +kernel
theorem dL_law_1355 : decode cL_law 1355 = .ok (.iload 25, 2) := by decide +kernel
theorem dL_law_1357 : decode cL_law 1357 = .ok (.imul, 1) := by decide +kernel
theorem dL_law_1358 : decode cL_law 1358 = .ok (.iadd, 1) := by decide +kernel
theorem dL_law_1359 : decode cL_law 1359 = .ok (.bipush 10, 2) := by decide +kernel
theorem dL_law_1361 : decode cL_law 1361 = .ok (.bipush 100, 2) := by decide +kernel
theorem dL_law_1363 : decode cL_law 1363 = .ok (.iload 26, 2) := by decide +kernel
theorem dL_law_1365 : decode cL_law 1365 = .ok (.isub, 1) := by decide +kernel
theorem dL_law_1366 : decode cL_law 1366 = .ok (.invokestatic 20, 3) := by decide +kernel
theorem dL_law_1369 : decode cL_law 1369 = .ok (.imul, 1) := by decide +kernel
theorem dL_law_1370 : decode cL_law 1370 = .ok (.bipush 100, 2) := by decide +kernel
theorem dL_law_1372 : decode cL_law 1372 = .ok (.idiv, 1) := by decide +kernel
theorem dL_law_1373 : decode cL_law 1373 = .ok (.bipush 25, 2) := by decide +kernel
theorem dL_law_1375 : decode cL_law 1375 = .ok (.aload_n 1, 1) := by decide +kernel
theorem dL_law_1376 : decode cL_law 1376 = .ok (.iload 24, 2) := by decide +kernel
theorem dL_law_1378 : decode cL_law 1378 = .ok (.iconst 3, 1) := by decide +kernel
theorem dL_law_1379 : decode cL_law 1379 = .ok (.invokevirtual 105, 3) := by decide +kernel
theorem dL_law_1382 : decode cL_law 1382 = .ok (.imul, 1) := by decide +kernel
theorem dL_law_1383 : decode cL_law 1383 = .ok (.iadd, 1) := by decide +kernel
theorem dL_law_1384 : decode cL_law 1384 = .ok (.bipush 40, 2) := by decide +kernel
theorem dL_law_1386 : decode cL_law 1386 = .ok (.aload_n 1, 1) := by decide +kernel
theorem dL_law_1387 : decode cL_law 1387 = .ok (.iload 24, 2) := by decide +kernel
theorem dL_law_1389 : decode cL_law 1389 = .ok (.iconst 4, 1) := by decide +kernel
theorem dL_law_1390 : decode cL_law 1390 = .ok (.invokevirtual 105, 3) := by decide +kernel
theorem dL_law_1393 : decode cL_law 1393 = .ok (.imul, 1) := by decide +kernel
theorem dL_law_1394 : decode cL_law 1394 = .ok (.iadd, 1) := by decide +kernel
theorem dL_law_1395 : decode cL_law 1395 = .ok (.if_icmp .eq 5, 3) := by decide +kernel
theorem dL_law_1398 : decode cL_law 1398 = .ok (.iconst 0, 1) := by decide +kernel
theorem dL_law_1399 : decode cL_law 1399 = .ok (.ireturn, 1) := by decide +kernel
theorem dL_law_1400 : decode cL_law 1400 = .ok (.iinc 24 1, 3) := by decide +kernel
theorem dL_law_1403 : decode cL_law 1403 = .ok (.goto (-427), 3) := by decide +kernel
theorem dL_law_1406 : decode cL_law 1406 = .ok (.aload_n 1, 1) := by decide +kernel
theorem dL_law_1407 : decode cL_law 1407 = .ok (.iconst 1, 1) := by decide +kernel
theorem dL_law_1408 : decode cL_law 1408 = .ok (.invokevirtual 101, 3) := by decide +kernel
theorem dL_law_1411 : decode cL_law 1411 = .ok (.iload 22, 2) := by decide +kernel
theorem dL_law_1413 : decode cL_law 1413 = .ok (.if_icmp .ne 34, 3) := by decide +kernel
theorem dL_law_1416 : decode cL_law 1416 = .ok (.aload_n 1, 1) := by decide +kernel
theorem dL_law_1417 : decode cL_law 1417 = .ok (.bipush 6, 2) := by decide +kernel
theorem dL_law_1419 : decode cL_law 1419 = .ok (.invokevirtual 101, 3) := by decide +kernel
theorem dL_law_1422 : decode cL_law 1422 = .ok (.iload 23, 2) := by decide +kernel
theorem dL_law_1424 : decode cL_law 1424 = .ok (.if_icmp .ne 23, 3) := by decide +kernel
theorem dL_law_1427 : decode cL_law 1427 = .ok (.aload_n 1, 1) := by decide +kernel
theorem dL_law_1428 : decode cL_law 1428 = .ok (.invokevirtual 126, 3) := by decide +kernel
theorem dL_law_1431 : decode cL_law 1431 = .ok (.iload 22, 2) := by decide +kernel
theorem dL_law_1433 : decode cL_law 1433 = .ok (.i2d, 1) := by decide +kernel
theorem dL_law_1434 : decode cL_law 1434 = .ok (.iload_n 3, 1) := by decide +kernel
theorem dL_law_1435 : decode cL_law 1435 = .ok (.iload 4, 2) := by decide +kernel
theorem dL_law_1437 : decode cL_law 1437 = .ok (.imul, 1) := by decide +kernel
theorem dL_law_1438 : decode cL_law 1438 = .ok (.iload 5, 2) := by decide +kernel
theorem dL_law_1440 : decode cL_law 1440 = .ok (.imul, 1) := by decide +kernel
theorem dL_law_1441 : decode cL_law 1441 = .ok (.i2d, 1) := by decide +kernel
theorem dL_law_1442 : decode cL_law 1442 = .ok (.ddiv, 1) := by decide +kernel
theorem dL_law_1443 : decode cL_law 1443 = .ok (.dcmp .l, 1) := by decide +kernel
theorem dL_law_1444 : decode cL_law 1444 = .ok (.ifCond .eq 5, 3) := by decide +kernel
theorem dL_law_1447 : decode cL_law 1447 = .ok (.iconst 0, 1) := by decide +kernel
theorem dL_law_1448 : decode cL_law 1448 = .ok (.ireturn, 1) := by decide +kernel
theorem dL_law_1449 : decode cL_law 1449 = .ok (.iinc 7 1, 3) := by decide +kernel
theorem dL_law_1452 : decode cL_law 1452 = .ok (.goto (-1398), 3) := by decide +kernel
theorem dL_law_1455 : decode cL_law 1455 = .ok (.iconst 1, 1) := by decide +kernel
theorem dL_law_1456 : decode cL_law 1456 = .ok (.ireturn, 1) := by decide +kernel
abbrev vwCl : List vw_C := [(RX0, TX0, 5), (RX1, TX1, 7), (RX2, TX2, 7), (RX3, TX3, 5), (RX4, TX4, 6), (RX5, TX5, 6), (RX6, TX6, 5)]
