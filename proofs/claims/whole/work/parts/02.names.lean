def RX0 : String := "MeltPool$Machine"
def TX0 : u_T := fun k => match k with
  | 0 => ("MeltPool$Machine", "number", "I", true)
  | 1 => ("MeltPool$Machine", "dust", "I", false)
  | 2 => ("MeltPool$Machine", "powder", "LMeltPool$Powder;", false)
  | 3 => ("MeltPool$Machine", "load", "I", false)
  | 4 => ("MeltPool$Machine", "growing", "LMeltPool$Piece;", false)
  | 5 => ("MeltPool$Machine", "proofs", "[I", true)
  | _ => ("MeltPool$Machine", "proofCount", "I", false)
def tyX0 : Nat → FieldType := fun k => match k with
  | 0 => .int
  | 1 => .int
  | 2 => .object "MeltPool$Powder"
  | 3 => .int
  | 4 => .object "MeltPool$Piece"
  | 5 => .array .int
  | _ => .int
abbrev wsX00 : List Cond := u_ws RX0 TX0 7
theorem nmX0 : ∀ a, a < 7 → ∀ b, b < 7 → a ≠ b → (TX0 a).2.1 ≠ (TX0 b).2.1 := by decide +kernel
theorem tyX0_ok : ∀ k, k < 7 → parseFieldDescriptor (TX0 k).2.2.1 = some (tyX0 k) := by decide +kernel
abbrev cX0_init : ByteArray := prog_2_method_1_code
def yX0_init : MethodName := ⟨RX0, "<init>", "(I)V"⟩
abbrev cX0_putIn : ByteArray := prog_2_method_2_code
def yX0_putIn : MethodName := ⟨RX0, "putIn", "(LMeltPool$Powder;)V"⟩
abbrev cX0_giveBack : ByteArray := prog_2_method_3_code
def yX0_giveBack : MethodName := ⟨RX0, "giveBack", "(I)V"⟩
abbrev cX0_hasProof : ByteArray := prog_2_method_4_code
def yX0_hasProof : MethodName := ⟨RX0, "hasProof", "(I)Z"⟩
abbrev cX0_addProof : ByteArray := prog_2_method_5_code
def yX0_addProof : MethodName := ⟨RX0, "addProof", "(I)V"⟩
def RX1 : String := "MeltPool$Melt"
def TX1 : u_T := fun k => match k with
  | 0 => ("MeltPool$Melt", "warmth", "[D", true)
  | 1 => ("MeltPool$Melt", "lacks", "I", false)
  | _ => ("MeltPool$Melt", "holes", "I", false)
def tyX1 : Nat → FieldType := fun k => match k with
  | 0 => .array .double
  | 1 => .int
  | _ => .int
abbrev wsX10 : List Cond := u_ws RX1 TX1 3
theorem nmX1 : ∀ a, a < 3 → ∀ b, b < 3 → a ≠ b → (TX1 a).2.1 ≠ (TX1 b).2.1 := by decide +kernel
theorem tyX1_ok : ∀ k, k < 3 → parseFieldDescriptor (TX1 k).2.2.1 = some (tyX1 k) := by decide +kernel
abbrev cX1_init : ByteArray := prog_3_method_1_code
def yX1_init : MethodName := ⟨RX1, "<init>", "()V"⟩
abbrev cX1_cool : ByteArray := prog_3_method_2_code
def yX1_cool : MethodName := ⟨RX1, "cool", "()V"⟩
abbrev cX1_shine : ByteArray := prog_3_method_3_code
def yX1_shine : MethodName := ⟨RX1, "shine", "(JJD)V"⟩
abbrev cX1_judge : ByteArray := prog_3_method_4_code
def yX1_judge : MethodName := ⟨RX1, "judge", "(D)V"⟩
def RX2 : String := "MeltPool$Piece"
def TX2 : u_T := fun k => match k with
  | 0 => ("MeltPool$Piece", "number", "I", true)
  | 1 => ("MeltPool$Piece", "solid", "LMeltPool$Solid;", true)
  | 2 => ("MeltPool$Piece", "melt", "LMeltPool$Melt;", true)
  | 3 => ("MeltPool$Piece", "state", "I", false)
  | 4 => ("MeltPool$Piece", "done", "I", false)
  | 5 => ("MeltPool$Piece", "curl", "D", false)
  | 6 => ("MeltPool$Piece", "stops", "I", false)
  | 7 => ("MeltPool$Piece", "machine", "LMeltPool$Machine;", false)
  | 8 => ("MeltPool$Piece", "power", "I", false)
  | 9 => ("MeltPool$Piece", "speed", "I", false)
  | 10 => ("MeltPool$Piece", "uses", "I", false)
  | 11 => ("MeltPool$Piece", "past", "I", false)
  | _ => ("MeltPool$Piece", "window", "I", false)
def tyX2 : Nat → FieldType := fun k => match k with
  | 0 => .int
  | 1 => .object "MeltPool$Solid"
  | 2 => .object "MeltPool$Melt"
  | 3 => .int
  | 4 => .int
  | 5 => .double
  | 6 => .int
  | 7 => .object "MeltPool$Machine"
  | 8 => .int
  | 9 => .int
  | 10 => .int
  | 11 => .int
  | _ => .int
abbrev wsX20 : List Cond := u_ws RX2 TX2 13
theorem nmX2 : ∀ a, a < 13 → ∀ b, b < 13 → a ≠ b → (TX2 a).2.1 ≠ (TX2 b).2.1 := by decide +kernel
theorem tyX2_ok : ∀ k, k < 13 → parseFieldDescriptor (TX2 k).2.2.1 = some (tyX2 k) := by decide +kernel
abbrev cX2_init : ByteArray := prog_4_method_1_code
def yX2_init : MethodName := ⟨RX2, "<init>", "(I)V"⟩
abbrev cX2_begin : ByteArray := prog_4_method_2_code
def yX2_begin : MethodName := ⟨RX2, "begin", "(LMeltPool$Machine;LMeltPool$Powder;II)V"⟩
abbrev cX2_addLayer : ByteArray := prog_4_method_3_code
def yX2_addLayer : MethodName := ⟨RX2, "addLayer", "()V"⟩
abbrev cX2_isStruck : ByteArray := prog_4_method_4_code
def yX2_isStruck : MethodName := ⟨RX2, "isStruck", "()Z"⟩
abbrev cX2_density : ByteArray := prog_4_method_5_code
def yX2_density : MethodName := ⟨RX2, "density", "()D"⟩
abbrev cX2_isDense : ByteArray := prog_4_method_6_code
def yX2_isDense : MethodName := ⟨RX2, "isDense", "()Z"⟩
def RX3 : String := "MeltPool$Powder"
def TX3 : u_T := fun k => match k with
  | 0 => ("MeltPool$Powder", "number", "I", true)
  | 1 => ("MeltPool$Powder", "alloy", "I", false)
  | 2 => ("MeltPool$Powder", "grams", "I", false)
  | 3 => ("MeltPool$Powder", "uses", "I", false)
  | 4 => ("MeltPool$Powder", "past", "I", false)
  | _ => ("MeltPool$Powder", "machine", "I", false)
def tyX3 : Nat → FieldType := fun k => match k with
  | 0 => .int
  | 1 => .int
  | 2 => .int
  | 3 => .int
  | 4 => .int
  | _ => .int
abbrev wsX30 : List Cond := u_ws RX3 TX3 6
theorem nmX3 : ∀ a, a < 6 → ∀ b, b < 6 → a ≠ b → (TX3 a).2.1 ≠ (TX3 b).2.1 := by decide +kernel
theorem tyX3_ok : ∀ k, k < 6 → parseFieldDescriptor (TX3 k).2.2.1 = some (tyX3 k) := by decide +kernel
abbrev cX3_init : ByteArray := prog_5_method_1_code
def yX3_init : MethodName := ⟨RX3, "<init>", "(I)V"⟩
abbrev cX3_takeIn : ByteArray := prog_5_method_2_code
def yX3_takeIn : MethodName := ⟨RX3, "takeIn", "(LMeltPool$Powder;)V"⟩
def RX4 : String := "MeltPool$Solid"
def TX4 : u_T := fun k => match k with
  | 0 => ("MeltPool$Solid", "cells", "[J", true)
  | 1 => ("MeltPool$Solid", "hanging", "[J", true)
  | _ => ("MeltPool$Solid", "support", "[J", true)
def tyX4 : Nat → FieldType := fun k => match k with
  | 0 => .array .long
  | 1 => .array .long
  | _ => .array .long
abbrev wsX40 : List Cond := u_ws RX4 TX4 3
theorem nmX4 : ∀ a, a < 3 → ∀ b, b < 3 → a ≠ b → (TX4 a).2.1 ≠ (TX4 b).2.1 := by decide +kernel
theorem tyX4_ok : ∀ k, k < 3 → parseFieldDescriptor (TX4 k).2.2.1 = some (tyX4 k) := by decide +kernel
abbrev cX4_init : ByteArray := prog_6_method_1_code
def yX4_init : MethodName := ⟨RX4, "<init>", "()V"⟩
abbrev cX4_tell : ByteArray := prog_6_method_2_code
def yX4_tell : MethodName := ⟨RX4, "tell", "(IJ)V"⟩
abbrev cX4_becomeCopy : ByteArray := prog_6_method_3_code
def yX4_becomeCopy : MethodName := ⟨RX4, "becomeCopy", "(LMeltPool$Solid;)V"⟩
abbrev cX4_becomeLaid : ByteArray := prog_6_method_4_code
def yX4_becomeLaid : MethodName := ⟨RX4, "becomeLaid", "(LMeltPool$Solid;I)V"⟩
abbrev cX4_putLaid : ByteArray := prog_6_method_5_code
def yX4_putLaid : MethodName := ⟨RX4, "putLaid", "(IIII)V"⟩
abbrev cX4_put : ByteArray := prog_6_method_6_code
def yX4_put : MethodName := ⟨RX4, "put", "(III)V"⟩
abbrev cX4_lower : ByteArray := prog_6_method_7_code
def yX4_lower : MethodName := ⟨RX4, "lower", "()V"⟩
abbrev cX4_reckonSets : ByteArray := prog_6_method_8_code
def yX4_reckonSets : MethodName := ⟨RX4, "reckonSets", "()V"⟩
abbrev cX4_height : ByteArray := prog_6_method_9_code
def yX4_height : MethodName := ⟨RX4, "height", "()I"⟩
abbrev cX4_gramsOf : ByteArray := prog_6_method_10_code
def yX4_gramsOf : MethodName := ⟨RX4, "gramsOf", "(I)I"⟩
abbrev cX4_cellCount : ByteArray := prog_6_method_11_code
def yX4_cellCount : MethodName := ⟨RX4, "cellCount", "()I"⟩
abbrev cX4_hangingCount : ByteArray := prog_6_method_12_code
def yX4_hangingCount : MethodName := ⟨RX4, "hangingCount", "()I"⟩
abbrev cX4_supportCount : ByteArray := prog_6_method_13_code
def yX4_supportCount : MethodName := ⟨RX4, "supportCount", "()I"⟩
abbrev cX4_islandCount : ByteArray := prog_6_method_14_code
def yX4_islandCount : MethodName := ⟨RX4, "islandCount", "()I"⟩
abbrev cX4_islandsOf : ByteArray := prog_6_method_15_code
def yX4_islandsOf : MethodName := ⟨RX4, "islandsOf", "(JJ)I"⟩
abbrev cX4_partOf : ByteArray := prog_6_method_16_code
def yX4_partOf : MethodName := ⟨RX4, "partOf", "(JJ)J"⟩
abbrev cX4_withNeighbours : ByteArray := prog_6_method_17_code
def yX4_withNeighbours : MethodName := ⟨RX4, "withNeighbours", "(J)J"⟩
abbrev cX4_countOf : ByteArray := prog_6_method_18_code
def yX4_countOf : MethodName := ⟨RX4, "countOf", "([J)I"⟩
def RX5 : String := "MeltPool"
def TX5 : u_T := fun k => match k with
  | 0 => ("MeltPool", "pieces", "[LMeltPool$Piece;", true)
  | 1 => ("MeltPool", "powders", "[LMeltPool$Powder;", true)
  | 2 => ("MeltPool", "machines", "[LMeltPool$Machine;", true)
  | 3 => ("MeltPool", "pieceCount", "I", false)
  | 4 => ("MeltPool", "powderCount", "I", false)
  | 5 => ("MeltPool", "strikes", "I", false)
  | 6 => ("MeltPool", "layersDone", "I", false)
  | 7 => ("MeltPool", "trialSolid", "LMeltPool$Solid;", true)
  | _ => ("MeltPool", "trialMelt", "LMeltPool$Melt;", true)
def tyX5 : Nat → FieldType := fun k => match k with
  | 0 => .array (.object "MeltPool$Piece")
  | 1 => .array (.object "MeltPool$Powder")
  | 2 => .array (.object "MeltPool$Machine")
  | 3 => .int
  | 4 => .int
  | 5 => .int
  | 6 => .int
  | 7 => .object "MeltPool$Solid"
  | _ => .object "MeltPool$Melt"
abbrev wsX50 : List Cond := u_ws RX5 TX5 9
theorem nmX5 : ∀ a, a < 9 → ∀ b, b < 9 → a ≠ b → (TX5 a).2.1 ≠ (TX5 b).2.1 := by decide +kernel
theorem tyX5_ok : ∀ k, k < 9 → parseFieldDescriptor (TX5 k).2.2.1 = some (tyX5 k) := by decide +kernel
abbrev cX5_init : ByteArray := prog_1_method_1_code
def yX5_init : MethodName := ⟨RX5, "<init>", "()V"⟩
abbrev cX5_piece : ByteArray := prog_1_method_2_code
def yX5_piece : MethodName := ⟨RX5, "piece", "()I"⟩
abbrev cX5_layer : ByteArray := prog_1_method_3_code
def yX5_layer : MethodName := ⟨RX5, "layer", "(IIJ)I"⟩
abbrev cX5_lay : ByteArray := prog_1_method_4_code
def yX5_lay : MethodName := ⟨RX5, "lay", "(II)I"⟩
abbrev cX5_powder : ByteArray := prog_1_method_5_code
def yX5_powder : MethodName := ⟨RX5, "powder", "(II)I"⟩
abbrev cX5_blend : ByteArray := prog_1_method_6_code
def yX5_blend : MethodName := ⟨RX5, "blend", "(II)I"⟩
abbrev cX5_load : ByteArray := prog_1_method_7_code
def yX5_load : MethodName := ⟨RX5, "load", "(II)I"⟩
abbrev cX5_unload : ByteArray := prog_1_method_8_code
def yX5_unload : MethodName := ⟨RX5, "unload", "(I)I"⟩
abbrev cX5_clean : ByteArray := prog_1_method_9_code
def yX5_clean : MethodName := ⟨RX5, "clean", "(I)I"⟩
abbrev cX5_start : ByteArray := prog_1_method_10_code
def yX5_start : MethodName := ⟨RX5, "start", "(IIII)I"⟩
abbrev cX5_grow : ByteArray := prog_1_method_11_code
def yX5_grow : MethodName := ⟨RX5, "grow", "(II)I"⟩
abbrev cX5_stop : ByteArray := prog_1_method_12_code
def yX5_stop : MethodName := ⟨RX5, "stop", "(I)I"⟩
abbrev cX5_growNext : ByteArray := prog_1_method_13_code
def yX5_growNext : MethodName := ⟨RX5, "growNext", "(LMeltPool$Machine;)Z"⟩
abbrev cX5_relieve : ByteArray := prog_1_method_14_code
def yX5_relieve : MethodName := ⟨RX5, "relieve", "(I)I"⟩
abbrev cX5_saw : ByteArray := prog_1_method_15_code
def yX5_saw : MethodName := ⟨RX5, "saw", "(I)Z"⟩
abbrev cX5_press : ByteArray := prog_1_method_16_code
def yX5_press : MethodName := ⟨RX5, "press", "(I)I"⟩
abbrev cX5_prove : ByteArray := prog_1_method_17_code
def yX5_prove : MethodName := ⟨RX5, "prove", "(I)Z"⟩
abbrev cX5_accept : ByteArray := prog_1_method_18_code
def yX5_accept : MethodName := ⟨RX5, "accept", "(I)I"⟩
abbrev cX5_ofPiece : ByteArray := prog_1_method_19_code
def yX5_ofPiece : MethodName := ⟨RX5, "ofPiece", "(II)I"⟩
abbrev cX5_ofLayer : ByteArray := prog_1_method_20_code
def yX5_ofLayer : MethodName := ⟨RX5, "ofLayer", "(III)J"⟩
abbrev cX5_ofPowder : ByteArray := prog_1_method_21_code
def yX5_ofPowder : MethodName := ⟨RX5, "ofPowder", "(II)I"⟩
abbrev cX5_ofMachine : ByteArray := prog_1_method_22_code
def yX5_ofMachine : MethodName := ⟨RX5, "ofMachine", "(II)I"⟩
abbrev cX5_warm : ByteArray := prog_1_method_23_code
def yX5_warm : MethodName := ⟨RX5, "warm", "(III)D"⟩
abbrev cX5_measure : ByteArray := prog_1_method_24_code
def yX5_measure : MethodName := ⟨RX5, "measure", "(II)D"⟩
abbrev cX5_recall : ByteArray := prog_1_method_25_code
def yX5_recall : MethodName := ⟨RX5, "recall", "(I)I"⟩
abbrev cX5_many : ByteArray := prog_1_method_26_code
def yX5_many : MethodName := ⟨RX5, "many", "(I)I"⟩
abbrev cX5_proofsOfAll : ByteArray := prog_1_method_27_code
def yX5_proofsOfAll : MethodName := ⟨RX5, "proofsOfAll", "()I"⟩
abbrev cX5_piecesThatAre : ByteArray := prog_1_method_28_code
def yX5_piecesThatAre : MethodName := ⟨RX5, "piecesThatAre", "(I)I"⟩
abbrev cX5_gramsOfAll : ByteArray := prog_1_method_29_code
def yX5_gramsOfAll : MethodName := ⟨RX5, "gramsOfAll", "()I"⟩
abbrev cX5_wouldHold : ByteArray := prog_1_method_30_code
def yX5_wouldHold : MethodName := ⟨RX5, "wouldHold", "(II)I"⟩
abbrev cX5_bestWay : ByteArray := prog_1_method_31_code
def yX5_bestWay : MethodName := ⟨RX5, "bestWay", "(I)I"⟩
abbrev cX5_bestSpeed : ByteArray := prog_1_method_32_code
def yX5_bestSpeed : MethodName := ⟨RX5, "bestSpeed", "(II)I"⟩
abbrev cX5_flawsAt : ByteArray := prog_1_method_33_code
def yX5_flawsAt : MethodName := ⟨RX5, "flawsAt", "(LMeltPool$Solid;D)I"⟩
abbrev cX5_digest : ByteArray := prog_1_method_34_code
def yX5_digest : MethodName := ⟨RX5, "digest", "()J"⟩
abbrev cX5_digestPiece : ByteArray := prog_1_method_35_code
def yX5_digestPiece : MethodName := ⟨RX5, "digestPiece", "(JI)J"⟩
abbrev cX5_pieceAt : ByteArray := prog_1_method_36_code
def yX5_pieceAt : MethodName := ⟨RX5, "pieceAt", "(I)LMeltPool$Piece;"⟩
abbrev cX5_powderAt : ByteArray := prog_1_method_37_code
def yX5_powderAt : MethodName := ⟨RX5, "powderAt", "(I)LMeltPool$Powder;"⟩
abbrev cX5_machineAt : ByteArray := prog_1_method_38_code
def yX5_machineAt : MethodName := ⟨RX5, "machineAt", "(I)LMeltPool$Machine;"⟩
abbrev cX5_checkLayer : ByteArray := prog_1_method_39_code
def yX5_checkLayer : MethodName := ⟨RX5, "checkLayer", "(I)V"⟩
abbrev cX5_checkWay : ByteArray := prog_1_method_40_code
def yX5_checkWay : MethodName := ⟨RX5, "checkWay", "(I)V"⟩
abbrev cX5_checkPower : ByteArray := prog_1_method_41_code
def yX5_checkPower : MethodName := ⟨RX5, "checkPower", "(I)V"⟩
abbrev cX5_checkSolid : ByteArray := prog_1_method_42_code
def yX5_checkSolid : MethodName := ⟨RX5, "checkSolid", "(LMeltPool$Piece;)V"⟩
abbrev cX5_checkSawn : ByteArray := prog_1_method_43_code
def yX5_checkSawn : MethodName := ⟨RX5, "checkSawn", "(LMeltPool$Piece;)V"⟩
abbrev cX5_checkGrowing : ByteArray := prog_1_method_44_code
def yX5_checkGrowing : MethodName := ⟨RX5, "checkGrowing", "(LMeltPool$Machine;)LMeltPool$Piece;"⟩
abbrev cX5_energyOf : ByteArray := prog_1_method_45_code
def yX5_energyOf : MethodName := ⟨RX5, "energyOf", "(II)D"⟩
def RX6 : String := "MeltPoolModel$Growth"
def TX6 : u_T := fun k => match k with
  | 0 => ("MeltPoolModel$Growth", "energy", "D", true)
  | 1 => ("MeltPoolModel$Growth", "warm", "[D", true)
  | 2 => ("MeltPoolModel$Growth", "curl", "D", false)
  | 3 => ("MeltPoolModel$Growth", "lacks", "I", false)
  | 4 => ("MeltPoolModel$Growth", "holes", "I", false)
  | _ => ("MeltPoolModel$Growth", "done", "I", false)
def tyX6 : Nat → FieldType := fun k => match k with
  | 0 => .double
  | 1 => .array .double
  | 2 => .double
  | 3 => .int
  | 4 => .int
  | _ => .int
abbrev wsX60 : List Cond := u_ws RX6 TX6 6
theorem nmX6 : ∀ a, a < 6 → ∀ b, b < 6 → a ≠ b → (TX6 a).2.1 ≠ (TX6 b).2.1 := by decide +kernel
theorem tyX6_ok : ∀ k, k < 6 → parseFieldDescriptor (TX6 k).2.2.1 = some (tyX6 k) := by decide +kernel
abbrev cX6_init : ByteArray := prog_9_method_1_code
def yX6_init : MethodName := ⟨RX6, "<init>", "(II)V"⟩
abbrev cX6_grow : ByteArray := prog_9_method_2_code
def yX6_grow : MethodName := ⟨RX6, "grow", "(LMeltPoolModel$Solid;)V"⟩
def RX7 : String := "MeltPoolModel$Machine"
def TX7 : u_T := fun k => match k with
  | 0 => ("MeltPoolModel$Machine", "dust", "I", false)
  | 1 => ("MeltPoolModel$Machine", "powder", "I", false)
  | 2 => ("MeltPoolModel$Machine", "load", "I", false)
  | 3 => ("MeltPoolModel$Machine", "piece", "I", false)
  | _ => ("MeltPoolModel$Machine", "proofs", "Ljava/util/List;", true)
def tyX7 : Nat → FieldType := fun k => match k with
  | 0 => .int
  | 1 => .int
  | 2 => .int
  | 3 => .int
  | _ => .object "java/util/List"
abbrev wsX70 : List Cond := u_ws RX7 TX7 5
theorem nmX7 : ∀ a, a < 5 → ∀ b, b < 5 → a ≠ b → (TX7 a).2.1 ≠ (TX7 b).2.1 := by decide +kernel
theorem tyX7_ok : ∀ k, k < 5 → parseFieldDescriptor (TX7 k).2.2.1 = some (tyX7 k) := by decide +kernel
abbrev cX7_init : ByteArray := prog_10_method_1_code
def yX7_init : MethodName := ⟨RX7, "<init>", "()V"⟩
abbrev cX7_isProved : ByteArray := prog_10_method_2_code
def yX7_isProved : MethodName := ⟨RX7, "isProved", "(III)Z"⟩
def RX8 : String := "MeltPoolModel$Piece"
def TX8 : u_T := fun k => match k with
  | 0 => ("MeltPoolModel$Piece", "solid", "LMeltPoolModel$Solid;", false)
  | 1 => ("MeltPoolModel$Piece", "state", "I", false)
  | 2 => ("MeltPoolModel$Piece", "growth", "LMeltPoolModel$Growth;", false)
  | 3 => ("MeltPoolModel$Piece", "stops", "I", false)
  | 4 => ("MeltPoolModel$Piece", "machine", "I", false)
  | 5 => ("MeltPoolModel$Piece", "power", "I", false)
  | 6 => ("MeltPoolModel$Piece", "speed", "I", false)
  | 7 => ("MeltPoolModel$Piece", "uses", "I", false)
  | _ => ("MeltPoolModel$Piece", "past", "I", false)
def tyX8 : Nat → FieldType := fun k => match k with
  | 0 => .object "MeltPoolModel$Solid"
  | 1 => .int
  | 2 => .object "MeltPoolModel$Growth"
  | 3 => .int
  | 4 => .int
  | 5 => .int
  | 6 => .int
  | 7 => .int
  | _ => .int
abbrev wsX80 : List Cond := u_ws RX8 TX8 9
theorem nmX8 : ∀ a, a < 9 → ∀ b, b < 9 → a ≠ b → (TX8 a).2.1 ≠ (TX8 b).2.1 := by decide +kernel
theorem tyX8_ok : ∀ k, k < 9 → parseFieldDescriptor (TX8 k).2.2.1 = some (tyX8 k) := by decide +kernel
abbrev cX8_init : ByteArray := prog_11_method_1_code
def yX8_init : MethodName := ⟨RX8, "<init>", "()V"⟩
abbrev cX8_density : ByteArray := prog_11_method_2_code
def yX8_density : MethodName := ⟨RX8, "density", "()D"⟩
def RX9 : String := "MeltPoolModel$Powder"
def TX9 : u_T := fun k => match k with
  | 0 => ("MeltPoolModel$Powder", "alloy", "I", true)
  | 1 => ("MeltPoolModel$Powder", "grams", "I", false)
  | 2 => ("MeltPoolModel$Powder", "uses", "I", false)
  | 3 => ("MeltPoolModel$Powder", "past", "I", false)
  | _ => ("MeltPoolModel$Powder", "machine", "I", false)
def tyX9 : Nat → FieldType := fun k => match k with
  | 0 => .int
  | 1 => .int
  | 2 => .int
  | 3 => .int
  | _ => .int
abbrev wsX90 : List Cond := u_ws RX9 TX9 5
theorem nmX9 : ∀ a, a < 5 → ∀ b, b < 5 → a ≠ b → (TX9 a).2.1 ≠ (TX9 b).2.1 := by decide +kernel
theorem tyX9_ok : ∀ k, k < 5 → parseFieldDescriptor (TX9 k).2.2.1 = some (tyX9 k) := by decide +kernel
abbrev cX9_init : ByteArray := prog_12_method_1_code
def yX9_init : MethodName := ⟨RX9, "<init>", "(III)V"⟩
def RX10 : String := "MeltPoolModel$Solid"
def TX10 : u_T := fun k => match k with
  | _ => ("MeltPoolModel$Solid", "sets", "[J", true)
def tyX10 : Nat → FieldType := fun k => match k with
  | _ => .array .long
abbrev wsX100 : List Cond := u_ws RX10 TX10 1
theorem nmX10 : ∀ a, a < 1 → ∀ b, b < 1 → a ≠ b → (TX10 a).2.1 ≠ (TX10 b).2.1 := by decide +kernel
theorem tyX10_ok : ∀ k, k < 1 → parseFieldDescriptor (TX10 k).2.2.1 = some (tyX10 k) := by decide +kernel
abbrev cX10_init : ByteArray := prog_13_method_1_code
def yX10_init : MethodName := ⟨RX10, "<init>", "()V"⟩
abbrev cX10_height : ByteArray := prog_13_method_2_code
def yX10_height : MethodName := ⟨RX10, "height", "()I"⟩
abbrev cX10_cells : ByteArray := prog_13_method_3_code
def yX10_cells : MethodName := ⟨RX10, "cells", "()I"⟩
abbrev cX10_hangs : ByteArray := prog_13_method_4_code
def yX10_hangs : MethodName := ⟨RX10, "hangs", "(I)J"⟩
abbrev cX10_hangs_ : ByteArray := prog_13_method_5_code
def yX10_hangs_ : MethodName := ⟨RX10, "hangs", "()I"⟩
abbrev cX10_support : ByteArray := prog_13_method_6_code
def yX10_support : MethodName := ⟨RX10, "support", "(I)J"⟩
abbrev cX10_supports : ByteArray := prog_13_method_7_code
def yX10_supports : MethodName := ⟨RX10, "supports", "()I"⟩
abbrev cX10_islands : ByteArray := prog_13_method_8_code
def yX10_islands : MethodName := ⟨RX10, "islands", "()I"⟩
abbrev cX10_laid : ByteArray := prog_13_method_9_code
def yX10_laid : MethodName := ⟨RX10, "laid", "(I)LMeltPoolModel$Solid;"⟩
def RX11 : String := "MeltPoolModel"
def TX11 : u_T := fun k => match k with
  | 0 => ("MeltPoolModel", "thrown", "I", false)
  | 1 => ("MeltPoolModel", "strikes", "I", false)
  | 2 => ("MeltPoolModel", "done", "I", false)
  | 3 => ("MeltPoolModel", "pieces", "Ljava/util/List;", true)
  | 4 => ("MeltPoolModel", "powders", "Ljava/util/List;", true)
  | _ => ("MeltPoolModel", "machines", "[LMeltPoolModel$Machine;", true)
def tyX11 : Nat → FieldType := fun k => match k with
  | 0 => .int
  | 1 => .int
  | 2 => .int
  | 3 => .object "java/util/List"
  | 4 => .object "java/util/List"
  | _ => .array (.object "MeltPoolModel$Machine")
abbrev wsX110 : List Cond := u_ws RX11 TX11 6
theorem nmX11 : ∀ a, a < 6 → ∀ b, b < 6 → a ≠ b → (TX11 a).2.1 ≠ (TX11 b).2.1 := by decide +kernel
theorem tyX11_ok : ∀ k, k < 6 → parseFieldDescriptor (TX11 k).2.2.1 = some (tyX11 k) := by decide +kernel
abbrev cX11_init : ByteArray := prog_8_method_1_code
def yX11_init : MethodName := ⟨RX11, "<init>", "()V"⟩
abbrev cX11_thrown : ByteArray := prog_8_method_2_code
def yX11_thrown : MethodName := ⟨RX11, "thrown", "()I"⟩
abbrev cX11_no : ByteArray := prog_8_method_3_code
def yX11_no : MethodName := ⟨RX11, "no", "(I)I"⟩
abbrev cX11_in : ByteArray := prog_8_method_4_code
def yX11_in : MethodName := ⟨RX11, "in", "(III)Z"⟩
abbrev cX11_has : ByteArray := prog_8_method_5_code
def yX11_has : MethodName := ⟨RX11, "has", "(JI)Z"⟩
abbrev cX11_size : ByteArray := prog_8_method_6_code
def yX11_size : MethodName := ⟨RX11, "size", "(J)I"⟩
abbrev cX11_grown : ByteArray := prog_8_method_7_code
def yX11_grown : MethodName := ⟨RX11, "grown", "(J)J"⟩
abbrev cX11_isPiece : ByteArray := prog_8_method_8_code
def yX11_isPiece : MethodName := ⟨RX11, "isPiece", "(I)Z"⟩
abbrev cX11_isPowder : ByteArray := prog_8_method_9_code
def yX11_isPowder : MethodName := ⟨RX11, "isPowder", "(I)Z"⟩
abbrev cX11_isMachine : ByteArray := prog_8_method_10_code
def yX11_isMachine : MethodName := ⟨RX11, "isMachine", "(I)Z"⟩
abbrev cX11_piece : ByteArray := prog_8_method_11_code
def yX11_piece : MethodName := ⟨RX11, "piece", "()I"⟩
abbrev cX11_layer : ByteArray := prog_8_method_12_code
def yX11_layer : MethodName := ⟨RX11, "layer", "(IIJ)I"⟩
abbrev cX11_lay : ByteArray := prog_8_method_13_code
def yX11_lay : MethodName := ⟨RX11, "lay", "(II)I"⟩
abbrev cX11_powder : ByteArray := prog_8_method_14_code
def yX11_powder : MethodName := ⟨RX11, "powder", "(II)I"⟩
abbrev cX11_blend : ByteArray := prog_8_method_15_code
def yX11_blend : MethodName := ⟨RX11, "blend", "(II)I"⟩
abbrev cX11_load : ByteArray := prog_8_method_16_code
def yX11_load : MethodName := ⟨RX11, "load", "(II)I"⟩
abbrev cX11_giveBack : ByteArray := prog_8_method_17_code
def yX11_giveBack : MethodName := ⟨RX11, "giveBack", "(LMeltPoolModel$Machine;I)LMeltPoolModel$Powder;"⟩
abbrev cX11_unload : ByteArray := prog_8_method_18_code
def yX11_unload : MethodName := ⟨RX11, "unload", "(I)I"⟩
abbrev cX11_clean : ByteArray := prog_8_method_19_code
def yX11_clean : MethodName := ⟨RX11, "clean", "(I)I"⟩
abbrev cX11_start : ByteArray := prog_8_method_20_code
def yX11_start : MethodName := ⟨RX11, "start", "(IIII)I"⟩
abbrev cX11_grow : ByteArray := prog_8_method_21_code
def yX11_grow : MethodName := ⟨RX11, "grow", "(II)I"⟩
abbrev cX11_stop : ByteArray := prog_8_method_22_code
def yX11_stop : MethodName := ⟨RX11, "stop", "(I)I"⟩
abbrev cX11_relieve : ByteArray := prog_8_method_23_code
def yX11_relieve : MethodName := ⟨RX11, "relieve", "(I)I"⟩
abbrev cX11_saw : ByteArray := prog_8_method_24_code
def yX11_saw : MethodName := ⟨RX11, "saw", "(I)Z"⟩
abbrev cX11_press : ByteArray := prog_8_method_25_code
def yX11_press : MethodName := ⟨RX11, "press", "(I)I"⟩
abbrev cX11_alloyOf : ByteArray := prog_8_method_26_code
def yX11_alloyOf : MethodName := ⟨RX11, "alloyOf", "(LMeltPoolModel$Piece;)I"⟩
abbrev cX11_prove : ByteArray := prog_8_method_27_code
def yX11_prove : MethodName := ⟨RX11, "prove", "(I)Z"⟩
abbrev cX11_accept : ByteArray := prog_8_method_28_code
def yX11_accept : MethodName := ⟨RX11, "accept", "(I)I"⟩
abbrev cX11_pieceNow : ByteArray := prog_8_method_29_code
def yX11_pieceNow : MethodName := ⟨RX11, "pieceNow", "(LMeltPoolModel$Piece;I)I"⟩
abbrev cX11_ofPiece : ByteArray := prog_8_method_30_code
def yX11_ofPiece : MethodName := ⟨RX11, "ofPiece", "(II)I"⟩
abbrev cX11_layerNow : ByteArray := prog_8_method_31_code
def yX11_layerNow : MethodName := ⟨RX11, "layerNow", "(LMeltPoolModel$Solid;II)J"⟩
abbrev cX11_ofLayer : ByteArray := prog_8_method_32_code
def yX11_ofLayer : MethodName := ⟨RX11, "ofLayer", "(III)J"⟩
abbrev cX11_powderNow : ByteArray := prog_8_method_33_code
def yX11_powderNow : MethodName := ⟨RX11, "powderNow", "(II)I"⟩
abbrev cX11_ofPowder : ByteArray := prog_8_method_34_code
def yX11_ofPowder : MethodName := ⟨RX11, "ofPowder", "(II)I"⟩
abbrev cX11_machineNow : ByteArray := prog_8_method_35_code
def yX11_machineNow : MethodName := ⟨RX11, "machineNow", "(II)I"⟩
abbrev cX11_ofMachine : ByteArray := prog_8_method_36_code
def yX11_ofMachine : MethodName := ⟨RX11, "ofMachine", "(II)I"⟩
abbrev cX11_warm : ByteArray := prog_8_method_37_code
def yX11_warm : MethodName := ⟨RX11, "warm", "(III)D"⟩
abbrev cX11_measure : ByteArray := prog_8_method_38_code
def yX11_measure : MethodName := ⟨RX11, "measure", "(II)D"⟩
abbrev cX11_recallNow : ByteArray := prog_8_method_39_code
def yX11_recallNow : MethodName := ⟨RX11, "recallNow", "(I)I"⟩
abbrev cX11_recall : ByteArray := prog_8_method_40_code
def yX11_recall : MethodName := ⟨RX11, "recall", "(I)I"⟩
abbrev cX11_count : ByteArray := prog_8_method_41_code
def yX11_count : MethodName := ⟨RX11, "count", "(I)I"⟩
abbrev cX11_manyNow : ByteArray := prog_8_method_42_code
def yX11_manyNow : MethodName := ⟨RX11, "manyNow", "(I)I"⟩
abbrev cX11_many : ByteArray := prog_8_method_43_code
def yX11_many : MethodName := ⟨RX11, "many", "(I)I"⟩
abbrev cX11_wouldHold : ByteArray := prog_8_method_44_code
def yX11_wouldHold : MethodName := ⟨RX11, "wouldHold", "(II)I"⟩
abbrev cX11_bestNow : ByteArray := prog_8_method_45_code
def yX11_bestNow : MethodName := ⟨RX11, "bestNow", "(LMeltPoolModel$Solid;)I"⟩
abbrev cX11_bestWay : ByteArray := prog_8_method_46_code
def yX11_bestWay : MethodName := ⟨RX11, "bestWay", "(I)I"⟩
abbrev cX11_speedNow : ByteArray := prog_8_method_47_code
def yX11_speedNow : MethodName := ⟨RX11, "speedNow", "(LMeltPoolModel$Solid;I)I"⟩
abbrev cX11_bestSpeed : ByteArray := prog_8_method_48_code
def yX11_bestSpeed : MethodName := ⟨RX11, "bestSpeed", "(II)I"⟩
abbrev cX11_digest : ByteArray := prog_8_method_49_code
def yX11_digest : MethodName := ⟨RX11, "digest", "()J"⟩
def RJx145de : String := "java/io/Serializable"
def TJx145de : u_T := fun k => match k with
  | _ => ("", "", "", false)
def tyJx145de : Nat → FieldType := fun k => match k with
  | _ => .int
abbrev wsJx145de0 : List Cond := u_ws RJx145de TJx145de 0
theorem nmJx145de : ∀ a, a < 0 → ∀ b, b < 0 → a ≠ b → (TJx145de a).2.1 ≠ (TJx145de b).2.1 := by decide +kernel
theorem tyJx145de_ok : ∀ k, k < 0 → parseFieldDescriptor (TJx145de k).2.2.1 = some (tyJx145de k) := by decide +kernel
def RJx8e188 : String := "java/lang/Cloneable"
def TJx8e188 : u_T := fun k => match k with
  | _ => ("", "", "", false)
def tyJx8e188 : Nat → FieldType := fun k => match k with
  | _ => .int
abbrev wsJx8e1880 : List Cond := u_ws RJx8e188 TJx8e188 0
theorem nmJx8e188 : ∀ a, a < 0 → ∀ b, b < 0 → a ≠ b → (TJx8e188 a).2.1 ≠ (TJx8e188 b).2.1 := by decide +kernel
theorem tyJx8e188_ok : ∀ k, k < 0 → parseFieldDescriptor (TJx8e188 k).2.2.1 = some (tyJx8e188 k) := by decide +kernel
def RJxab1ab : String := "java/lang/Iterable"
def TJxab1ab : u_T := fun k => match k with
  | _ => ("", "", "", false)
def tyJxab1ab : Nat → FieldType := fun k => match k with
  | _ => .int
abbrev wsJxab1ab0 : List Cond := u_ws RJxab1ab TJxab1ab 0
theorem nmJxab1ab : ∀ a, a < 0 → ∀ b, b < 0 → a ≠ b → (TJxab1ab a).2.1 ≠ (TJxab1ab b).2.1 := by decide +kernel
theorem tyJxab1ab_ok : ∀ k, k < 0 → parseFieldDescriptor (TJxab1ab k).2.2.1 = some (tyJxab1ab k) := by decide +kernel
def RJ13 : String := "java/lang/Long"
def TJ13 : u_T := fun k => match k with
  | _ => ("", "", "", false)
def tyJ13 : Nat → FieldType := fun k => match k with
  | _ => .int
abbrev wsJ130 : List Cond := u_ws RJ13 TJ13 0
theorem nmJ13 : ∀ a, a < 0 → ∀ b, b < 0 → a ≠ b → (TJ13 a).2.1 ≠ (TJ13 b).2.1 := by decide +kernel
theorem tyJ13_ok : ∀ k, k < 0 → parseFieldDescriptor (TJ13 k).2.2.1 = some (tyJ13 k) := by decide +kernel
abbrev cJ13_bitCount_95d88 : ByteArray := prog_21_method_50_code
def yJ13_bitCount_95d88 : MethodName := ⟨RJ13, "bitCount", "(J)I"⟩
def RJ9 : String := "java/lang/Math"
def TJ9 : u_T := fun k => match k with
  | _ => ("", "", "", false)
def tyJ9 : Nat → FieldType := fun k => match k with
  | _ => .int
abbrev wsJ90 : List Cond := u_ws RJ9 TJ9 0
theorem nmJ9 : ∀ a, a < 0 → ∀ b, b < 0 → a ≠ b → (TJ9 a).2.1 ≠ (TJ9 b).2.1 := by decide +kernel
theorem tyJ9_ok : ∀ k, k < 0 → parseFieldDescriptor (TJ9 k).2.2.1 = some (tyJ9 k) := by decide +kernel
abbrev cJ9_max_7cf53 : ByteArray := prog_22_method_65_code
def yJ9_max_7cf53 : MethodName := ⟨RJ9, "max", "(II)I"⟩
abbrev cJ9_min_7cf53 : ByteArray := prog_22_method_69_code
def yJ9_min_7cf53 : MethodName := ⟨RJ9, "min", "(II)I"⟩
def RJ0 : String := "java/lang/String"
def TJ0 : u_T := fun k => match k with
  | _ => ("", "", "", false)
def tyJ0 : Nat → FieldType := fun k => match k with
  | _ => .int
abbrev wsJ00 : List Cond := u_ws RJ0 TJ0 0
theorem nmJ0 : ∀ a, a < 0 → ∀ b, b < 0 → a ≠ b → (TJ0 a).2.1 ≠ (TJ0 b).2.1 := by decide +kernel
theorem tyJ0_ok : ∀ k, k < 0 → parseFieldDescriptor (TJ0 k).2.2.1 = some (tyJ0 k) := by decide +kernel
def RJ10 : String := "java/lang/System"
def TJ10 : u_T := fun k => match k with
  | _ => ("", "", "", false)
def tyJ10 : Nat → FieldType := fun k => match k with
  | _ => .int
abbrev wsJ100 : List Cond := u_ws RJ10 TJ10 0
theorem nmJ10 : ∀ a, a < 0 → ∀ b, b < 0 → a ≠ b → (TJ10 a).2.1 ≠ (TJ10 b).2.1 := by decide +kernel
theorem tyJ10_ok : ∀ k, k < 0 → parseFieldDescriptor (TJ10 k).2.2.1 = some (tyJ10 k) := by decide +kernel
def RJxa1e45 : String := "java/util/AbstractCollection"
def TJxa1e45 : u_T := fun k => match k with
  | _ => ("", "", "", false)
def tyJxa1e45 : Nat → FieldType := fun k => match k with
  | _ => .int
abbrev wsJxa1e450 : List Cond := u_ws RJxa1e45 TJxa1e45 0
theorem nmJxa1e45 : ∀ a, a < 0 → ∀ b, b < 0 → a ≠ b → (TJxa1e45 a).2.1 ≠ (TJxa1e45 b).2.1 := by decide +kernel
theorem tyJxa1e45_ok : ∀ k, k < 0 → parseFieldDescriptor (TJxa1e45 k).2.2.1 = some (tyJxa1e45 k) := by decide +kernel
abbrev cJxa1e45_init_da8c8 : ByteArray := prog_27_method_1_code
def yJxa1e45_init_da8c8 : MethodName := ⟨RJxa1e45, "<init>", "()V"⟩
def RJxc12de : String := "java/util/AbstractList"
def TJxc12de : u_T := fun k => match k with
  | _ => ("", "", "", false)
def tyJxc12de : Nat → FieldType := fun k => match k with
  | _ => .int
abbrev wsJxc12de0 : List Cond := u_ws RJxc12de TJxc12de 0
theorem nmJxc12de : ∀ a, a < 0 → ∀ b, b < 0 → a ≠ b → (TJxc12de a).2.1 ≠ (TJxc12de b).2.1 := by decide +kernel
theorem tyJxc12de_ok : ∀ k, k < 0 → parseFieldDescriptor (TJxc12de k).2.2.1 = some (tyJxc12de k) := by decide +kernel
abbrev cJxc12de_init_da8c8 : ByteArray := prog_28_method_1_code
def yJxc12de_init_da8c8 : MethodName := ⟨RJxc12de, "<init>", "()V"⟩
def RJx4a65c : String := "java/util/ArrayList"
def TJx4a65c : u_T := fun k => match k with
  | 0 => ("java/util/AbstractList", "modCount", "I", false)
  | 1 => ("java/util/ArrayList", "elementData", "[Ljava/lang/Object;", false)
  | _ => ("java/util/ArrayList", "size", "I", false)
def tyJx4a65c : Nat → FieldType := fun k => match k with
  | 0 => .int
  | 1 => .array (.object "java/lang/Object")
  | _ => .int
abbrev wsJx4a65c0 : List Cond := u_ws RJx4a65c TJx4a65c 3
theorem nmJx4a65c : ∀ a, a < 3 → ∀ b, b < 3 → a ≠ b → (TJx4a65c a).2.1 ≠ (TJx4a65c b).2.1 := by decide +kernel
theorem tyJx4a65c_ok : ∀ k, k < 3 → parseFieldDescriptor (TJx4a65c k).2.2.1 = some (tyJx4a65c k) := by decide +kernel
abbrev cJx4a65c_init_da8c8 : ByteArray := prog_29_method_2_code
def yJx4a65c_init_da8c8 : MethodName := ⟨RJx4a65c, "<init>", "()V"⟩
abbrev cJx4a65c_grow_92f84 : ByteArray := prog_29_method_6_code
def yJx4a65c_grow_92f84 : MethodName := ⟨RJx4a65c, "grow", "(I)[Ljava/lang/Object;"⟩
abbrev cJx4a65c_grow_d5877 : ByteArray := prog_29_method_7_code
def yJx4a65c_grow_d5877 : MethodName := ⟨RJx4a65c, "grow", "()[Ljava/lang/Object;"⟩
abbrev cJx4a65c_size_8abf5 : ByteArray := prog_29_method_8_code
def yJx4a65c_size_8abf5 : MethodName := ⟨RJx4a65c, "size", "()I"⟩
abbrev cJx4a65c_elementData_915e3 : ByteArray := prog_29_method_18_code
def yJx4a65c_elementData_915e3 : MethodName := ⟨RJx4a65c, "elementData", "(I)Ljava/lang/Object;"⟩
abbrev cJx4a65c_get_915e3 : ByteArray := prog_29_method_20_code
def yJx4a65c_get_915e3 : MethodName := ⟨RJx4a65c, "get", "(I)Ljava/lang/Object;"⟩
abbrev cJx4a65c_add_72be8 : ByteArray := prog_29_method_24_code
def yJx4a65c_add_72be8 : MethodName := ⟨RJx4a65c, "add", "(Ljava/lang/Object;[Ljava/lang/Object;I)V"⟩
abbrev cJx4a65c_add_9ea2d : ByteArray := prog_29_method_25_code
def yJx4a65c_add_9ea2d : MethodName := ⟨RJx4a65c, "add", "(Ljava/lang/Object;)Z"⟩
abbrev cJx4a65c_remove_915e3 : ByteArray := prog_29_method_29_code
def yJx4a65c_remove_915e3 : MethodName := ⟨RJx4a65c, "remove", "(I)Ljava/lang/Object;"⟩
abbrev cJx4a65c_fastRemove_b59b0 : ByteArray := prog_29_method_39_code
def yJx4a65c_fastRemove_b59b0 : MethodName := ⟨RJx4a65c, "fastRemove", "([Ljava/lang/Object;I)V"⟩
def RJ7 : String := "java/util/Arrays"
def TJ7 : u_T := fun k => match k with
  | _ => ("", "", "", false)
def tyJ7 : Nat → FieldType := fun k => match k with
  | _ => .int
abbrev wsJ70 : List Cond := u_ws RJ7 TJ7 0
theorem nmJ7 : ∀ a, a < 0 → ∀ b, b < 0 → a ≠ b → (TJ7 a).2.1 ≠ (TJ7 b).2.1 := by decide +kernel
theorem tyJ7_ok : ∀ k, k < 0 → parseFieldDescriptor (TJ7 k).2.2.1 = some (tyJ7 k) := by decide +kernel
abbrev cJ7_fill_d0a16 : ByteArray := prog_30_method_101_code
def yJ7_fill_d0a16 : MethodName := ⟨RJ7, "fill", "([JJ)V"⟩
abbrev cJ7_fill_7f8df : ByteArray := prog_30_method_113_code
def yJ7_fill_7f8df : MethodName := ⟨RJ7, "fill", "([DD)V"⟩
abbrev cJ7_copyOf_1904c : ByteArray := prog_30_method_119_code
def yJ7_copyOf_1904c : MethodName := ⟨RJ7, "copyOf", "([Ljava/lang/Object;I)[Ljava/lang/Object;"⟩
abbrev cJ7_copyOf_6403c : ByteArray := prog_30_method_120_code
def yJ7_copyOf_6403c : MethodName := ⟨RJ7, "copyOf", "([Ljava/lang/Object;ILjava/lang/Class;)[Ljava/lang/Object;"⟩
def RJx5ef63 : String := "java/util/Collection"
def TJx5ef63 : u_T := fun k => match k with
  | _ => ("", "", "", false)
def tyJx5ef63 : Nat → FieldType := fun k => match k with
  | _ => .int
abbrev wsJx5ef630 : List Cond := u_ws RJx5ef63 TJx5ef63 0
theorem nmJx5ef63 : ∀ a, a < 0 → ∀ b, b < 0 → a ≠ b → (TJx5ef63 a).2.1 ≠ (TJx5ef63 b).2.1 := by decide +kernel
theorem tyJx5ef63_ok : ∀ k, k < 0 → parseFieldDescriptor (TJx5ef63 k).2.2.1 = some (tyJx5ef63 k) := by decide +kernel
def RJxbd725 : String := "java/util/List"
def TJxbd725 : u_T := fun k => match k with
  | _ => ("", "", "", false)
def tyJxbd725 : Nat → FieldType := fun k => match k with
  | _ => .int
abbrev wsJxbd7250 : List Cond := u_ws RJxbd725 TJxbd725 0
theorem nmJxbd725 : ∀ a, a < 0 → ∀ b, b < 0 → a ≠ b → (TJxbd725 a).2.1 ≠ (TJxbd725 b).2.1 := by decide +kernel
theorem tyJxbd725_ok : ∀ k, k < 0 → parseFieldDescriptor (TJxbd725 k).2.2.1 = some (tyJxbd725 k) := by decide +kernel
def RJ15 : String := "java/util/Objects"
def TJ15 : u_T := fun k => match k with
  | _ => ("", "", "", false)
def tyJ15 : Nat → FieldType := fun k => match k with
  | _ => .int
abbrev wsJ150 : List Cond := u_ws RJ15 TJ15 0
theorem nmJ15 : ∀ a, a < 0 → ∀ b, b < 0 → a ≠ b → (TJ15 a).2.1 ≠ (TJ15 b).2.1 := by decide +kernel
theorem tyJ15_ok : ∀ k, k < 0 → parseFieldDescriptor (TJ15 k).2.2.1 = some (tyJ15 k) := by decide +kernel
abbrev cJ15_checkIndex_7cf53 : ByteArray := prog_33_method_17_code
def yJ15_checkIndex_7cf53 : MethodName := ⟨RJ15, "checkIndex", "(II)I"⟩
def RJxf0a74 : String := "java/util/RandomAccess"
def TJxf0a74 : u_T := fun k => match k with
  | _ => ("", "", "", false)
def tyJxf0a74 : Nat → FieldType := fun k => match k with
  | _ => .int
abbrev wsJxf0a740 : List Cond := u_ws RJxf0a74 TJxf0a74 0
theorem nmJxf0a74 : ∀ a, a < 0 → ∀ b, b < 0 → a ≠ b → (TJxf0a74 a).2.1 ≠ (TJxf0a74 b).2.1 := by decide +kernel
theorem tyJxf0a74_ok : ∀ k, k < 0 → parseFieldDescriptor (TJxf0a74 k).2.2.1 = some (tyJxf0a74 k) := by decide +kernel
def RJxa66e6 : String := "java/util/SequencedCollection"
def TJxa66e6 : u_T := fun k => match k with
  | _ => ("", "", "", false)
def tyJxa66e6 : Nat → FieldType := fun k => match k with
  | _ => .int
abbrev wsJxa66e60 : List Cond := u_ws RJxa66e6 TJxa66e6 0
theorem nmJxa66e6 : ∀ a, a < 0 → ∀ b, b < 0 → a ≠ b → (TJxa66e6 a).2.1 ≠ (TJxa66e6 b).2.1 := by decide +kernel
theorem tyJxa66e6_ok : ∀ k, k < 0 → parseFieldDescriptor (TJxa66e6 k).2.2.1 = some (tyJxa66e6 k) := by decide +kernel
def RJ8 : String := "jdk/internal/util/ArraysSupport"
def TJ8 : u_T := fun k => match k with
  | _ => ("", "", "", false)
def tyJ8 : Nat → FieldType := fun k => match k with
  | _ => .int
abbrev wsJ80 : List Cond := u_ws RJ8 TJ8 0
theorem nmJ8 : ∀ a, a < 0 → ∀ b, b < 0 → a ≠ b → (TJ8 a).2.1 ≠ (TJ8 b).2.1 := by decide +kernel
theorem tyJ8_ok : ∀ k, k < 0 → parseFieldDescriptor (TJ8 k).2.2.1 = some (tyJ8 k) := by decide +kernel
abbrev cJ8_newLength_cabcc : ByteArray := prog_36_method_27_code
def yJ8_newLength_cabcc : MethodName := ⟨RJ8, "newLength", "(III)I"⟩
abbrev cJ8_hugeLength_7cf53 : ByteArray := prog_36_method_28_code
def yJ8_hugeLength_7cf53 : MethodName := ⟨RJ8, "hugeLength", "(II)I"⟩
def RJ3 : String := "jdk/internal/util/Preconditions"
def TJ3 : u_T := fun k => match k with
  | _ => ("", "", "", false)
def tyJ3 : Nat → FieldType := fun k => match k with
  | _ => .int
abbrev wsJ30 : List Cond := u_ws RJ3 TJ3 0
theorem nmJ3 : ∀ a, a < 0 → ∀ b, b < 0 → a ≠ b → (TJ3 a).2.1 ≠ (TJ3 b).2.1 := by decide +kernel
theorem tyJ3_ok : ∀ k, k < 0 → parseFieldDescriptor (TJ3 k).2.2.1 = some (tyJ3 k) := by decide +kernel
abbrev cJ3_checkIndex_8e157 : ByteArray := prog_37_method_11_code
def yJ3_checkIndex_8e157 : MethodName := ⟨RJ3, "checkIndex", "(IILjava/util/function/BiFunction;)I"⟩
def RL : String := "MeltPoolLaw"
abbrev cL_piece : ByteArray := method_3_code
def yL_piece : MethodName := ⟨RL, "piece", "(LMeltPool;[J)I"⟩
abbrev cL_layer : ByteArray := method_4_code
def yL_layer : MethodName := ⟨RL, "layer", "(LMeltPool;IIJ[J)I"⟩
abbrev cL_lay : ByteArray := method_5_code
def yL_lay : MethodName := ⟨RL, "lay", "(LMeltPool;II[J)I"⟩
abbrev cL_powder : ByteArray := method_6_code
def yL_powder : MethodName := ⟨RL, "powder", "(LMeltPool;II[J)I"⟩
abbrev cL_blend : ByteArray := method_7_code
def yL_blend : MethodName := ⟨RL, "blend", "(LMeltPool;II[J)I"⟩
abbrev cL_load : ByteArray := method_8_code
def yL_load : MethodName := ⟨RL, "load", "(LMeltPool;II[J)I"⟩
abbrev cL_unload : ByteArray := method_9_code
def yL_unload : MethodName := ⟨RL, "unload", "(LMeltPool;I[J)I"⟩
abbrev cL_clean : ByteArray := method_10_code
def yL_clean : MethodName := ⟨RL, "clean", "(LMeltPool;I[J)I"⟩
abbrev cL_start : ByteArray := method_11_code
def yL_start : MethodName := ⟨RL, "start", "(LMeltPool;IIII[J)I"⟩
abbrev cL_grow : ByteArray := method_12_code
def yL_grow : MethodName := ⟨RL, "grow", "(LMeltPool;II[J)I"⟩
abbrev cL_stop : ByteArray := method_13_code
def yL_stop : MethodName := ⟨RL, "stop", "(LMeltPool;I[J)I"⟩
abbrev cL_relieve : ByteArray := method_14_code
def yL_relieve : MethodName := ⟨RL, "relieve", "(LMeltPool;I[J)I"⟩
abbrev cL_saw : ByteArray := method_15_code
def yL_saw : MethodName := ⟨RL, "saw", "(LMeltPool;I[J)I"⟩
abbrev cL_press : ByteArray := method_16_code
def yL_press : MethodName := ⟨RL, "press", "(LMeltPool;I[J)I"⟩
abbrev cL_prove : ByteArray := method_17_code
def yL_prove : MethodName := ⟨RL, "prove", "(LMeltPool;I[J)I"⟩
abbrev cL_accept : ByteArray := method_18_code
def yL_accept : MethodName := ⟨RL, "accept", "(LMeltPool;I[J)I"⟩
abbrev cL_ofPiece : ByteArray := method_19_code
def yL_ofPiece : MethodName := ⟨RL, "ofPiece", "(LMeltPool;II[J)I"⟩
abbrev cL_ofLayer : ByteArray := method_20_code
def yL_ofLayer : MethodName := ⟨RL, "ofLayer", "(LMeltPool;III[J)I"⟩
abbrev cL_ofPowder : ByteArray := method_21_code
def yL_ofPowder : MethodName := ⟨RL, "ofPowder", "(LMeltPool;II[J)I"⟩
abbrev cL_ofMachine : ByteArray := method_22_code
def yL_ofMachine : MethodName := ⟨RL, "ofMachine", "(LMeltPool;II[J)I"⟩
abbrev cL_warm : ByteArray := method_23_code
def yL_warm : MethodName := ⟨RL, "warm", "(LMeltPool;III[D)I"⟩
abbrev cL_measure : ByteArray := method_24_code
def yL_measure : MethodName := ⟨RL, "measure", "(LMeltPool;II[D)I"⟩
abbrev cL_recall : ByteArray := method_25_code
def yL_recall : MethodName := ⟨RL, "recall", "(LMeltPool;I[J)I"⟩
abbrev cL_many : ByteArray := method_26_code
def yL_many : MethodName := ⟨RL, "many", "(LMeltPool;I[J)I"⟩
abbrev cL_wouldHold : ByteArray := method_27_code
def yL_wouldHold : MethodName := ⟨RL, "wouldHold", "(LMeltPool;II[J)I"⟩
abbrev cL_bestWay : ByteArray := method_28_code
def yL_bestWay : MethodName := ⟨RL, "bestWay", "(LMeltPool;I[J)I"⟩
abbrev cL_bestSpeed : ByteArray := method_29_code
def yL_bestSpeed : MethodName := ⟨RL, "bestSpeed", "(LMeltPool;II[J)I"⟩
abbrev cL_law : ByteArray := code
def yL_law : MethodName := ⟨RL, "law", "([I)Z"⟩
abbrev vwCl : List vw_C := [(RJx4a65c, TJx4a65c, 3), (RX0, TX0, 7), (RX1, TX1, 3), (RX2, TX2, 13), (RX3, TX3, 6), (RX4, TX4, 3), (RX5, TX5, 9), (RX6, TX6, 6), (RX7, TX7, 5), (RX8, TX8, 9), (RX9, TX9, 5), (RX10, TX10, 1), (RX11, TX11, 6)]
