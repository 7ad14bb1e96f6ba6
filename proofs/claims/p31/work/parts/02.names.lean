def RX0 : String := "MeltPool$Machine"
def TX0 : u_T := fun k => match k with
  | 0 => ("MeltPool$Machine", "number", "I", true)
  | 1 => ("MeltPool$Machine", "dust", "I", false)
  | 2 => ("MeltPool$Machine", "powder", "LMeltPool$Powder;", false)
  | 3 => ("MeltPool$Machine", "load", "I", false)
  | 4 => ("MeltPool$Machine", "growing", "LMeltPool$Piece;", false)
  | 5 => ("MeltPool$Machine", "proofs", "[I", true)
  | _ => ("MeltPool$Machine", "proofCount", "I", false)
def tyX0 : Nat → FieldType := fun k => match k with
  | 0 => .int
  | 1 => .int
  | 2 => .object "MeltPool$Powder"
  | 3 => .int
  | 4 => .object "MeltPool$Piece"
  | 5 => .array .int
  | _ => .int
abbrev wsX00 : List Cond := u_ws RX0 TX0 7
theorem nmX0 : ∀ a, a < 7 → ∀ b, b < 7 → a ≠ b → (TX0 a).2.1 ≠ (TX0 b).2.1 := by decide +kernel
theorem tyX0_ok : ∀ k, k < 7 → parseFieldDescriptor (TX0 k).2.2.1 = some (tyX0 k) := by decide +kernel
abbrev cX0_init : ByteArray := prog_2_method_1_code
def yX0_init : MethodName := ⟨RX0, "<init>", "(I)V"⟩
abbrev cX0_putIn : ByteArray := prog_2_method_2_code
def yX0_putIn : MethodName := ⟨RX0, "putIn", "(LMeltPool$Powder;)V"⟩
abbrev cX0_giveBack : ByteArray := prog_2_method_3_code
def yX0_giveBack : MethodName := ⟨RX0, "giveBack", "(I)V"⟩
def RX1 : String := "MeltPool$Melt"
def TX1 : u_T := fun k => match k with
  | 0 => ("MeltPool$Melt", "warmth", "[D", true)
  | 1 => ("MeltPool$Melt", "lacks", "I", false)
  | _ => ("MeltPool$Melt", "holes", "I", false)
def tyX1 : Nat → FieldType := fun k => match k with
  | 0 => .array .double
  | 1 => .int
  | _ => .int
abbrev wsX10 : List Cond := u_ws RX1 TX1 3
theorem nmX1 : ∀ a, a < 3 → ∀ b, b < 3 → a ≠ b → (TX1 a).2.1 ≠ (TX1 b).2.1 := by decide +kernel
theorem tyX1_ok : ∀ k, k < 3 → parseFieldDescriptor (TX1 k).2.2.1 = some (tyX1 k) := by decide +kernel
abbrev cX1_init : ByteArray := prog_3_method_1_code
def yX1_init : MethodName := ⟨RX1, "<init>", "()V"⟩
abbrev cX1_cool : ByteArray := prog_3_method_2_code
def yX1_cool : MethodName := ⟨RX1, "cool", "()V"⟩
abbrev cX1_shine : ByteArray := prog_3_method_3_code
def yX1_shine : MethodName := ⟨RX1, "shine", "(JJD)V"⟩
abbrev cX1_judge : ByteArray := prog_3_method_4_code
def yX1_judge : MethodName := ⟨RX1, "judge", "(D)V"⟩
def RX2 : String := "MeltPool$Piece"
def TX2 : u_T := fun k => match k with
  | 0 => ("MeltPool$Piece", "number", "I", true)
  | 1 => ("MeltPool$Piece", "solid", "LMeltPool$Solid;", true)
  | 2 => ("MeltPool$Piece", "melt", "LMeltPool$Melt;", true)
  | 3 => ("MeltPool$Piece", "state", "I", false)
  | 4 => ("MeltPool$Piece", "done", "I", false)
  | 5 => ("MeltPool$Piece", "curl", "D", false)
  | 6 => ("MeltPool$Piece", "stops", "I", false)
  | 7 => ("MeltPool$Piece", "machine", "LMeltPool$Machine;", false)
  | 8 => ("MeltPool$Piece", "power", "I", false)
  | 9 => ("MeltPool$Piece", "speed", "I", false)
  | 10 => ("MeltPool$Piece", "uses", "I", false)
  | 11 => ("MeltPool$Piece", "past", "I", false)
  | _ => ("MeltPool$Piece", "window", "I", false)
def tyX2 : Nat → FieldType := fun k => match k with
  | 0 => .int
  | 1 => .object "MeltPool$Solid"
  | 2 => .object "MeltPool$Melt"
  | 3 => .int
  | 4 => .int
  | 5 => .double
  | 6 => .int
  | 7 => .object "MeltPool$Machine"
  | 8 => .int
  | 9 => .int
  | 10 => .int
  | 11 => .int
  | _ => .int
abbrev wsX20 : List Cond := u_ws RX2 TX2 13
theorem nmX2 : ∀ a, a < 13 → ∀ b, b < 13 → a ≠ b → (TX2 a).2.1 ≠ (TX2 b).2.1 := by decide +kernel
theorem tyX2_ok : ∀ k, k < 13 → parseFieldDescriptor (TX2 k).2.2.1 = some (tyX2 k) := by decide +kernel
abbrev cX2_init : ByteArray := prog_4_method_1_code
def yX2_init : MethodName := ⟨RX2, "<init>", "(I)V"⟩
abbrev cX2_begin : ByteArray := prog_4_method_2_code
def yX2_begin : MethodName := ⟨RX2, "begin", "(LMeltPool$Machine;LMeltPool$Powder;II)V"⟩
abbrev cX2_addLayer : ByteArray := prog_4_method_3_code
def yX2_addLayer : MethodName := ⟨RX2, "addLayer", "()V"⟩
abbrev cX2_isStruck : ByteArray := prog_4_method_4_code
def yX2_isStruck : MethodName := ⟨RX2, "isStruck", "()Z"⟩
abbrev cX2_density : ByteArray := prog_4_method_5_code
def yX2_density : MethodName := ⟨RX2, "density", "()D"⟩
def RX3 : String := "MeltPool$Powder"
def TX3 : u_T := fun k => match k with
  | 0 => ("MeltPool$Powder", "number", "I", true)
  | 1 => ("MeltPool$Powder", "alloy", "I", false)
  | 2 => ("MeltPool$Powder", "grams", "I", false)
  | 3 => ("MeltPool$Powder", "uses", "I", false)
  | 4 => ("MeltPool$Powder", "past", "I", false)
  | _ => ("MeltPool$Powder", "machine", "I", false)
def tyX3 : Nat → FieldType := fun k => match k with
  | 0 => .int
  | 1 => .int
  | 2 => .int
  | 3 => .int
  | 4 => .int
  | _ => .int
abbrev wsX30 : List Cond := u_ws RX3 TX3 6
theorem nmX3 : ∀ a, a < 6 → ∀ b, b < 6 → a ≠ b → (TX3 a).2.1 ≠ (TX3 b).2.1 := by decide +kernel
theorem tyX3_ok : ∀ k, k < 6 → parseFieldDescriptor (TX3 k).2.2.1 = some (tyX3 k) := by decide +kernel
abbrev cX3_init : ByteArray := prog_5_method_1_code
def yX3_init : MethodName := ⟨RX3, "<init>", "(I)V"⟩
abbrev cX3_takeIn : ByteArray := prog_5_method_2_code
def yX3_takeIn : MethodName := ⟨RX3, "takeIn", "(LMeltPool$Powder;)V"⟩
def RX4 : String := "MeltPool$Solid"
def TX4 : u_T := fun k => match k with
  | 0 => ("MeltPool$Solid", "cells", "[J", true)
  | 1 => ("MeltPool$Solid", "hanging", "[J", true)
  | _ => ("MeltPool$Solid", "support", "[J", true)
def tyX4 : Nat → FieldType := fun k => match k with
  | 0 => .array .long
  | 1 => .array .long
  | _ => .array .long
abbrev wsX40 : List Cond := u_ws RX4 TX4 3
theorem nmX4 : ∀ a, a < 3 → ∀ b, b < 3 → a ≠ b → (TX4 a).2.1 ≠ (TX4 b).2.1 := by decide +kernel
theorem tyX4_ok : ∀ k, k < 3 → parseFieldDescriptor (TX4 k).2.2.1 = some (tyX4 k) := by decide +kernel
abbrev cX4_init : ByteArray := prog_6_method_1_code
def yX4_init : MethodName := ⟨RX4, "<init>", "()V"⟩
abbrev cX4_tell : ByteArray := prog_6_method_2_code
def yX4_tell : MethodName := ⟨RX4, "tell", "(IJ)V"⟩
abbrev cX4_becomeCopy : ByteArray := prog_6_method_3_code
def yX4_becomeCopy : MethodName := ⟨RX4, "becomeCopy", "(LMeltPool$Solid;)V"⟩
abbrev cX4_becomeLaid : ByteArray := prog_6_method_4_code
def yX4_becomeLaid : MethodName := ⟨RX4, "becomeLaid", "(LMeltPool$Solid;I)V"⟩
abbrev cX4_putLaid : ByteArray := prog_6_method_5_code
def yX4_putLaid : MethodName := ⟨RX4, "putLaid", "(IIII)V"⟩
abbrev cX4_put : ByteArray := prog_6_method_6_code
def yX4_put : MethodName := ⟨RX4, "put", "(III)V"⟩
abbrev cX4_lower : ByteArray := prog_6_method_7_code
def yX4_lower : MethodName := ⟨RX4, "lower", "()V"⟩
abbrev cX4_reckonSets : ByteArray := prog_6_method_8_code
def yX4_reckonSets : MethodName := ⟨RX4, "reckonSets", "()V"⟩
abbrev cX4_height : ByteArray := prog_6_method_9_code
def yX4_height : MethodName := ⟨RX4, "height", "()I"⟩
abbrev cX4_gramsOf : ByteArray := prog_6_method_10_code
def yX4_gramsOf : MethodName := ⟨RX4, "gramsOf", "(I)I"⟩
abbrev cX4_cellCount : ByteArray := prog_6_method_11_code
def yX4_cellCount : MethodName := ⟨RX4, "cellCount", "()I"⟩
abbrev cX4_hangingCount : ByteArray := prog_6_method_12_code
def yX4_hangingCount : MethodName := ⟨RX4, "hangingCount", "()I"⟩
abbrev cX4_supportCount : ByteArray := prog_6_method_13_code
def yX4_supportCount : MethodName := ⟨RX4, "supportCount", "()I"⟩
abbrev cX4_islandCount : ByteArray := prog_6_method_14_code
def yX4_islandCount : MethodName := ⟨RX4, "islandCount", "()I"⟩
abbrev cX4_islandsOf : ByteArray := prog_6_method_15_code
def yX4_islandsOf : MethodName := ⟨RX4, "islandsOf", "(JJ)I"⟩
abbrev cX4_partOf : ByteArray := prog_6_method_16_code
def yX4_partOf : MethodName := ⟨RX4, "partOf", "(JJ)J"⟩
abbrev cX4_withNeighbours : ByteArray := prog_6_method_17_code
def yX4_withNeighbours : MethodName := ⟨RX4, "withNeighbours", "(J)J"⟩
abbrev cX4_countOf : ByteArray := prog_6_method_18_code
def yX4_countOf : MethodName := ⟨RX4, "countOf", "([J)I"⟩
def RX5 : String := "MeltPool"
def TX5 : u_T := fun k => match k with
  | 0 => ("MeltPool", "pieces", "[LMeltPool$Piece;", true)
  | 1 => ("MeltPool", "powders", "[LMeltPool$Powder;", true)
  | 2 => ("MeltPool", "machines", "[LMeltPool$Machine;", true)
  | 3 => ("MeltPool", "pieceCount", "I", false)
  | 4 => ("MeltPool", "powderCount", "I", false)
  | 5 => ("MeltPool", "strikes", "I", false)
  | 6 => ("MeltPool", "layersDone", "I", false)
  | 7 => ("MeltPool", "trialSolid", "LMeltPool$Solid;", true)
  | _ => ("MeltPool", "trialMelt", "LMeltPool$Melt;", true)
def tyX5 : Nat → FieldType := fun k => match k with
  | 0 => .array (.object "MeltPool$Piece")
  | 1 => .array (.object "MeltPool$Powder")
  | 2 => .array (.object "MeltPool$Machine")
  | 3 => .int
  | 4 => .int
  | 5 => .int
  | 6 => .int
  | 7 => .object "MeltPool$Solid"
  | _ => .object "MeltPool$Melt"
abbrev wsX50 : List Cond := u_ws RX5 TX5 9
theorem nmX5 : ∀ a, a < 9 → ∀ b, b < 9 → a ≠ b → (TX5 a).2.1 ≠ (TX5 b).2.1 := by decide +kernel
theorem tyX5_ok : ∀ k, k < 9 → parseFieldDescriptor (TX5 k).2.2.1 = some (tyX5 k) := by decide +kernel
abbrev cX5_init : ByteArray := prog_1_method_1_code
def yX5_init : MethodName := ⟨RX5, "<init>", "()V"⟩
abbrev cX5_piece : ByteArray := prog_1_method_2_code
def yX5_piece : MethodName := ⟨RX5, "piece", "()I"⟩
abbrev cX5_layer : ByteArray := prog_1_method_3_code
def yX5_layer : MethodName := ⟨RX5, "layer", "(IIJ)I"⟩
abbrev cX5_lay : ByteArray := prog_1_method_4_code
def yX5_lay : MethodName := ⟨RX5, "lay", "(II)I"⟩
abbrev cX5_powder : ByteArray := prog_1_method_5_code
def yX5_powder : MethodName := ⟨RX5, "powder", "(II)I"⟩
abbrev cX5_blend : ByteArray := prog_1_method_6_code
def yX5_blend : MethodName := ⟨RX5, "blend", "(II)I"⟩
abbrev cX5_load : ByteArray := prog_1_method_7_code
def yX5_load : MethodName := ⟨RX5, "load", "(II)I"⟩
abbrev cX5_unload : ByteArray := prog_1_method_8_code
def yX5_unload : MethodName := ⟨RX5, "unload", "(I)I"⟩
abbrev cX5_start : ByteArray := prog_1_method_10_code
def yX5_start : MethodName := ⟨RX5, "start", "(IIII)I"⟩
abbrev cX5_grow : ByteArray := prog_1_method_11_code
def yX5_grow : MethodName := ⟨RX5, "grow", "(II)I"⟩
abbrev cX5_growNext : ByteArray := prog_1_method_13_code
def yX5_growNext : MethodName := ⟨RX5, "growNext", "(LMeltPool$Machine;)Z"⟩
abbrev cX5_ofPiece : ByteArray := prog_1_method_19_code
def yX5_ofPiece : MethodName := ⟨RX5, "ofPiece", "(II)I"⟩
abbrev cX5_ofLayer : ByteArray := prog_1_method_20_code
def yX5_ofLayer : MethodName := ⟨RX5, "ofLayer", "(III)J"⟩
abbrev cX5_ofPowder : ByteArray := prog_1_method_21_code
def yX5_ofPowder : MethodName := ⟨RX5, "ofPowder", "(II)I"⟩
abbrev cX5_ofMachine : ByteArray := prog_1_method_22_code
def yX5_ofMachine : MethodName := ⟨RX5, "ofMachine", "(II)I"⟩
abbrev cX5_measure : ByteArray := prog_1_method_24_code
def yX5_measure : MethodName := ⟨RX5, "measure", "(II)D"⟩
abbrev cX5_recall : ByteArray := prog_1_method_25_code
def yX5_recall : MethodName := ⟨RX5, "recall", "(I)I"⟩
abbrev cX5_many : ByteArray := prog_1_method_26_code
def yX5_many : MethodName := ⟨RX5, "many", "(I)I"⟩
abbrev cX5_proofsOfAll : ByteArray := prog_1_method_27_code
def yX5_proofsOfAll : MethodName := ⟨RX5, "proofsOfAll", "()I"⟩
abbrev cX5_piecesThatAre : ByteArray := prog_1_method_28_code
def yX5_piecesThatAre : MethodName := ⟨RX5, "piecesThatAre", "(I)I"⟩
abbrev cX5_gramsOfAll : ByteArray := prog_1_method_29_code
def yX5_gramsOfAll : MethodName := ⟨RX5, "gramsOfAll", "()I"⟩
abbrev cX5_wouldHold : ByteArray := prog_1_method_30_code
def yX5_wouldHold : MethodName := ⟨RX5, "wouldHold", "(II)I"⟩
abbrev cX5_bestWay : ByteArray := prog_1_method_31_code
def yX5_bestWay : MethodName := ⟨RX5, "bestWay", "(I)I"⟩
abbrev cX5_bestSpeed : ByteArray := prog_1_method_32_code
def yX5_bestSpeed : MethodName := ⟨RX5, "bestSpeed", "(II)I"⟩
abbrev cX5_flawsAt : ByteArray := prog_1_method_33_code
def yX5_flawsAt : MethodName := ⟨RX5, "flawsAt", "(LMeltPool$Solid;D)I"⟩
abbrev cX5_digest : ByteArray := prog_1_method_34_code
def yX5_digest : MethodName := ⟨RX5, "digest", "()J"⟩
abbrev cX5_digestPiece : ByteArray := prog_1_method_35_code
def yX5_digestPiece : MethodName := ⟨RX5, "digestPiece", "(JI)J"⟩
abbrev cX5_pieceAt : ByteArray := prog_1_method_36_code
def yX5_pieceAt : MethodName := ⟨RX5, "pieceAt", "(I)LMeltPool$Piece;"⟩
abbrev cX5_powderAt : ByteArray := prog_1_method_37_code
def yX5_powderAt : MethodName := ⟨RX5, "powderAt", "(I)LMeltPool$Powder;"⟩
abbrev cX5_machineAt : ByteArray := prog_1_method_38_code
def yX5_machineAt : MethodName := ⟨RX5, "machineAt", "(I)LMeltPool$Machine;"⟩
abbrev cX5_checkLayer : ByteArray := prog_1_method_39_code
def yX5_checkLayer : MethodName := ⟨RX5, "checkLayer", "(I)V"⟩
abbrev cX5_checkWay : ByteArray := prog_1_method_40_code
def yX5_checkWay : MethodName := ⟨RX5, "checkWay", "(I)V"⟩
abbrev cX5_checkPower : ByteArray := prog_1_method_41_code
def yX5_checkPower : MethodName := ⟨RX5, "checkPower", "(I)V"⟩
abbrev cX5_checkSolid : ByteArray := prog_1_method_42_code
def yX5_checkSolid : MethodName := ⟨RX5, "checkSolid", "(LMeltPool$Piece;)V"⟩
abbrev cX5_checkGrowing : ByteArray := prog_1_method_44_code
def yX5_checkGrowing : MethodName := ⟨RX5, "checkGrowing", "(LMeltPool$Machine;)LMeltPool$Piece;"⟩
abbrev cX5_energyOf : ByteArray := prog_1_method_45_code
def yX5_energyOf : MethodName := ⟨RX5, "energyOf", "(II)D"⟩
def RX6 : String := "MeltPoolLaw$Told"
def TX6 : u_T := fun k => match k with
  | 0 => ("MeltPoolLaw$Told", "m", "LMeltPool;", true)
  | 1 => ("MeltPoolLaw$Told", "s", "[I", true)
  | 2 => ("MeltPoolLaw$Told", "draws", "I", false)
  | 3 => ("MeltPoolLaw$Told", "solids", "[[Z", false)
  | 4 => ("MeltPoolLaw$Told", "pieces", "[[I", false)
  | 5 => ("MeltPoolLaw$Told", "curls", "[D", false)
  | 6 => ("MeltPoolLaw$Told", "powders", "[[I", false)
  | 7 => ("MeltPoolLaw$Told", "machines", "[[I", false)
  | 8 => ("MeltPoolLaw$Told", "warm", "[[D", false)
  | 9 => ("MeltPoolLaw$Told", "proofs", "[[I", false)
  | _ => ("MeltPoolLaw$Told", "sums", "[I", false)
def tyX6 : Nat → FieldType := fun k => match k with
  | 0 => .object "MeltPool"
  | 1 => .array .int
  | 2 => .int
  | 3 => .array (.array .boolean)
  | 4 => .array (.array .int)
  | 5 => .array .double
  | 6 => .array (.array .int)
  | 7 => .array (.array .int)
  | 8 => .array (.array .double)
  | 9 => .array (.array .int)
  | _ => .array .int
abbrev wsX60 : List Cond := u_ws RX6 TX6 11
theorem nmX6 : ∀ a, a < 11 → ∀ b, b < 11 → a ≠ b → (TX6 a).2.1 ≠ (TX6 b).2.1 := by decide +kernel
theorem tyX6_ok : ∀ k, k < 11 → parseFieldDescriptor (TX6 k).2.2.1 = some (tyX6 k) := by decide +kernel
abbrev cX6_init : ByteArray := prog_8_method_1_code
def yX6_init : MethodName := ⟨RX6, "<init>", "([II)V"⟩
abbrev cX6_draw : ByteArray := prog_8_method_2_code
def yX6_draw : MethodName := ⟨RX6, "draw", "(I)I"⟩
abbrev cX6_plus : ByteArray := prog_8_method_3_code
def yX6_plus : MethodName := ⟨RX6, "plus", "([[I[I)[[I"⟩
abbrev cX6_piece : ByteArray := prog_8_method_4_code
def yX6_piece : MethodName := ⟨RX6, "piece", "()Z"⟩
abbrev cX6_layer : ByteArray := prog_8_method_6_code
def yX6_layer : MethodName := ⟨RX6, "layer", "(II)Z"⟩
def RX7 : String := "MeltPoolModel$Growth"
def TX7 : u_T := fun k => match k with
  | _ => ("", "", "", false)
def tyX7 : Nat → FieldType := fun k => match k with
  | _ => .int
abbrev wsX70 : List Cond := u_ws RX7 TX7 0
theorem nmX7 : ∀ a, a < 0 → ∀ b, b < 0 → a ≠ b → (TX7 a).2.1 ≠ (TX7 b).2.1 := by decide +kernel
theorem tyX7_ok : ∀ k, k < 0 → parseFieldDescriptor (TX7 k).2.2.1 = some (tyX7 k) := by decide +kernel
def RX8 : String := "MeltPoolModel$Machine"
def TX8 : u_T := fun k => match k with
  | _ => ("", "", "", false)
def tyX8 : Nat → FieldType := fun k => match k with
  | _ => .int
abbrev wsX80 : List Cond := u_ws RX8 TX8 0
theorem nmX8 : ∀ a, a < 0 → ∀ b, b < 0 → a ≠ b → (TX8 a).2.1 ≠ (TX8 b).2.1 := by decide +kernel
theorem tyX8_ok : ∀ k, k < 0 → parseFieldDescriptor (TX8 k).2.2.1 = some (tyX8 k) := by decide +kernel
def RX9 : String := "MeltPoolModel$Piece"
def TX9 : u_T := fun k => match k with
  | _ => ("", "", "", false)
def tyX9 : Nat → FieldType := fun k => match k with
  | _ => .int
abbrev wsX90 : List Cond := u_ws RX9 TX9 0
theorem nmX9 : ∀ a, a < 0 → ∀ b, b < 0 → a ≠ b → (TX9 a).2.1 ≠ (TX9 b).2.1 := by decide +kernel
theorem tyX9_ok : ∀ k, k < 0 → parseFieldDescriptor (TX9 k).2.2.1 = some (tyX9 k) := by decide +kernel
def RX10 : String := "MeltPoolModel$Powder"
def TX10 : u_T := fun k => match k with
  | _ => ("", "", "", false)
def tyX10 : Nat → FieldType := fun k => match k with
  | _ => .int
abbrev wsX100 : List Cond := u_ws RX10 TX10 0
theorem nmX10 : ∀ a, a < 0 → ∀ b, b < 0 → a ≠ b → (TX10 a).2.1 ≠ (TX10 b).2.1 := by decide +kernel
theorem tyX10_ok : ∀ k, k < 0 → parseFieldDescriptor (TX10 k).2.2.1 = some (tyX10 k) := by decide +kernel
def RX11 : String := "MeltPoolModel$Solid"
def TX11 : u_T := fun k => match k with
  | _ => ("", "", "", false)
def tyX11 : Nat → FieldType := fun k => match k with
  | _ => .int
abbrev wsX110 : List Cond := u_ws RX11 TX11 0
theorem nmX11 : ∀ a, a < 0 → ∀ b, b < 0 → a ≠ b → (TX11 a).2.1 ≠ (TX11 b).2.1 := by decide +kernel
theorem tyX11_ok : ∀ k, k < 0 → parseFieldDescriptor (TX11 k).2.2.1 = some (tyX11 k) := by decide +kernel
def RX12 : String := "MeltPoolModel"
def TX12 : u_T := fun k => match k with
  | _ => ("", "", "", false)
def tyX12 : Nat → FieldType := fun k => match k with
  | _ => .int
abbrev wsX120 : List Cond := u_ws RX12 TX12 0
theorem nmX12 : ∀ a, a < 0 → ∀ b, b < 0 → a ≠ b → (TX12 a).2.1 ≠ (TX12 b).2.1 := by decide +kernel
theorem tyX12_ok : ∀ k, k < 0 → parseFieldDescriptor (TX12 k).2.2.1 = some (tyX12 k) := by decide +kernel
def RJx145de : String := "java/io/Serializable"
def TJx145de : u_T := fun k => match k with
  | _ => ("", "", "", false)
def tyJx145de : Nat → FieldType := fun k => match k with
  | _ => .int
abbrev wsJx145de0 : List Cond := u_ws RJx145de TJx145de 0
theorem nmJx145de : ∀ a, a < 0 → ∀ b, b < 0 → a ≠ b → (TJx145de a).2.1 ≠ (TJx145de b).2.1 := by decide +kernel
theorem tyJx145de_ok : ∀ k, k < 0 → parseFieldDescriptor (TJx145de k).2.2.1 = some (tyJx145de k) := by decide +kernel
def RJ13 : String := "java/lang/Long"
def TJ13 : u_T := fun k => match k with
  | _ => ("", "", "", false)
def tyJ13 : Nat → FieldType := fun k => match k with
  | _ => .int
abbrev wsJ130 : List Cond := u_ws RJ13 TJ13 0
theorem nmJ13 : ∀ a, a < 0 → ∀ b, b < 0 → a ≠ b → (TJ13 a).2.1 ≠ (TJ13 b).2.1 := by decide +kernel
theorem tyJ13_ok : ∀ k, k < 0 → parseFieldDescriptor (TJ13 k).2.2.1 = some (tyJ13 k) := by decide +kernel
abbrev cJ13_bitCount_95d88 : ByteArray := prog_19_method_50_code
def yJ13_bitCount_95d88 : MethodName := ⟨RJ13, "bitCount", "(J)I"⟩
def RJ9 : String := "java/lang/Math"
def TJ9 : u_T := fun k => match k with
  | _ => ("", "", "", false)
def tyJ9 : Nat → FieldType := fun k => match k with
  | _ => .int
abbrev wsJ90 : List Cond := u_ws RJ9 TJ9 0
theorem nmJ9 : ∀ a, a < 0 → ∀ b, b < 0 → a ≠ b → (TJ9 a).2.1 ≠ (TJ9 b).2.1 := by decide +kernel
theorem tyJ9_ok : ∀ k, k < 0 → parseFieldDescriptor (TJ9 k).2.2.1 = some (tyJ9 k) := by decide +kernel
abbrev cJ9_max_7cf53 : ByteArray := prog_20_method_65_code
def yJ9_max_7cf53 : MethodName := ⟨RJ9, "max", "(II)I"⟩
abbrev cJ9_min_7cf53 : ByteArray := prog_20_method_69_code
def yJ9_min_7cf53 : MethodName := ⟨RJ9, "min", "(II)I"⟩
def RJ0 : String := "java/lang/String"
def TJ0 : u_T := fun k => match k with
  | _ => ("", "", "", false)
def tyJ0 : Nat → FieldType := fun k => match k with
  | _ => .int
abbrev wsJ00 : List Cond := u_ws RJ0 TJ0 0
theorem nmJ0 : ∀ a, a < 0 → ∀ b, b < 0 → a ≠ b → (TJ0 a).2.1 ≠ (TJ0 b).2.1 := by decide +kernel
theorem tyJ0_ok : ∀ k, k < 0 → parseFieldDescriptor (TJ0 k).2.2.1 = some (tyJ0 k) := by decide +kernel
def RJ10 : String := "java/lang/System"
def TJ10 : u_T := fun k => match k with
  | _ => ("", "", "", false)
def tyJ10 : Nat → FieldType := fun k => match k with
  | _ => .int
abbrev wsJ100 : List Cond := u_ws RJ10 TJ10 0
theorem nmJ10 : ∀ a, a < 0 → ∀ b, b < 0 → a ≠ b → (TJ10 a).2.1 ≠ (TJ10 b).2.1 := by decide +kernel
theorem tyJ10_ok : ∀ k, k < 0 → parseFieldDescriptor (TJ10 k).2.2.1 = some (tyJ10 k) := by decide +kernel
def RJ7 : String := "java/util/Arrays"
def TJ7 : u_T := fun k => match k with
  | _ => ("", "", "", false)
def tyJ7 : Nat → FieldType := fun k => match k with
  | _ => .int
abbrev wsJ70 : List Cond := u_ws RJ7 TJ7 0
theorem nmJ7 : ∀ a, a < 0 → ∀ b, b < 0 → a ≠ b → (TJ7 a).2.1 ≠ (TJ7 b).2.1 := by decide +kernel
theorem tyJ7_ok : ∀ k, k < 0 → parseFieldDescriptor (TJ7 k).2.2.1 = some (tyJ7 k) := by decide +kernel
abbrev cJ7_fill_d0a16 : ByteArray := prog_25_method_101_code
def yJ7_fill_d0a16 : MethodName := ⟨RJ7, "fill", "([JJ)V"⟩
abbrev cJ7_fill_7f8df : ByteArray := prog_25_method_113_code
def yJ7_fill_7f8df : MethodName := ⟨RJ7, "fill", "([DD)V"⟩
def RL : String := "MeltPoolLaw"
abbrev cL_below : ByteArray := method_2_code
def yL_below : MethodName := ⟨RL, "below", "(II)I"⟩
abbrev cL_cell : ByteArray := method_3_code
def yL_cell : MethodName := ⟨RL, "cell", "([II)I"⟩
abbrev cL_law : ByteArray := code
def yL_law : MethodName := ⟨RL, "law", "([I)Z"⟩
abbrev cL_sum : ByteArray := method_5_code
def yL_sum : MethodName := ⟨RL, "sum", "(LMeltPool;II)I"⟩
abbrev vwCl : List vw_C := [(RX6, TX6, 11), (RX0, TX0, 7), (RX1, TX1, 3), (RX2, TX2, 13), (RX3, TX3, 6), (RX4, TX4, 3), (RX5, TX5, 9)]
