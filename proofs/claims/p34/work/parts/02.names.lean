def RX0 : String := "SignMasons$Book"
def TX0 : u_T := fun k => match k with
  | 0 => ("SignMasons$Book", "places", "LSignMasons$Places;", true)
  | 1 => ("SignMasons$Book", "looks", "[I", true)
  | 2 => ("SignMasons$Book", "meanings", "[I", true)
  | _ => ("SignMasons$Book", "count", "I", false)
def tyX0 : Nat → FieldType := fun k => match k with
  | 0 => .object "SignMasons$Places"
  | 1 => .array .int
  | 2 => .array .int
  | _ => .int
abbrev wsX00 : List Cond := u_ws RX0 TX0 4
theorem nmX0 : ∀ a, a < 4 → ∀ b, b < 4 → a ≠ b → (TX0 a).2.1 ≠ (TX0 b).2.1 := by decide +kernel
theorem tyX0_ok : ∀ k, k < 4 → parseFieldDescriptor (TX0 k).2.2.1 = some (tyX0 k) := by decide +kernel
abbrev cX0_init : ByteArray := prog_2_method_1_code
def yX0_init : MethodName := ⟨RX0, "<init>", "(LSignMasons$Places;)V"⟩
abbrev cX0_hasRoomFor : ByteArray := prog_2_method_3_code
def yX0_hasRoomFor : MethodName := ⟨RX0, "hasRoomFor", "(I)Z"⟩
abbrev cX0_append : ByteArray := prog_2_method_4_code
def yX0_append : MethodName := ⟨RX0, "append", "(II)I"⟩
abbrev cX0_remove : ByteArray := prog_2_method_5_code
def yX0_remove : MethodName := ⟨RX0, "remove", "(I)I"⟩
abbrev cX0_find : ByteArray := prog_2_method_6_code
def yX0_find : MethodName := ⟨RX0, "find", "(I)I"⟩
abbrev cX0_hasAlike : ByteArray := prog_2_method_7_code
def yX0_hasAlike : MethodName := ⟨RX0, "hasAlike", "(I)Z"⟩
abbrev cX0_firstUnlike : ByteArray := prog_2_method_8_code
def yX0_firstUnlike : MethodName := ⟨RX0, "firstUnlike", "(I)I"⟩
abbrev cX0_countAlike : ByteArray := prog_2_method_9_code
def yX0_countAlike : MethodName := ⟨RX0, "countAlike", "()I"⟩
abbrev cX0_countThumbApart : ByteArray := prog_2_method_11_code
def yX0_countThumbApart : MethodName := ⟨RX0, "countThumbApart", "()I"⟩
abbrev cX0_nearestBut : ByteArray := prog_2_method_12_code
def yX0_nearestBut : MethodName := ⟨RX0, "nearestBut", "(II)I"⟩
abbrev cX0_fewestApart : ByteArray := prog_2_method_13_code
def yX0_fewestApart : MethodName := ⟨RX0, "fewestApart", "()I"⟩
abbrev cX0_countNear : ByteArray := prog_2_method_14_code
def yX0_countNear : MethodName := ⟨RX0, "countNear", "(I)I"⟩
abbrev cX0_signNearMost : ByteArray := prog_2_method_15_code
def yX0_signNearMost : MethodName := ⟨RX0, "signNearMost", "()I"⟩
abbrev cX0_meaningRead : ByteArray := prog_2_method_17_code
def yX0_meaningRead : MethodName := ⟨RX0, "meaningRead", "(I)I"⟩
abbrev cX0_countUnderstood : ByteArray := prog_2_method_18_code
def yX0_countUnderstood : MethodName := ⟨RX0, "countUnderstood", "(LSignMasons$Book;)I"⟩
abbrev cX0_countMisread : ByteArray := prog_2_method_19_code
def yX0_countMisread : MethodName := ⟨RX0, "countMisread", "(LSignMasons$Book;)I"⟩
abbrev cX0_countCommon : ByteArray := prog_2_method_20_code
def yX0_countCommon : MethodName := ⟨RX0, "countCommon", "(LSignMasons$Book;)I"⟩
def RX1 : String := "SignMasons$Look"
def TX1 : u_T := fun k => match k with
  | _ => ("", "", "", false)
def tyX1 : Nat → FieldType := fun k => match k with
  | _ => .int
abbrev wsX10 : List Cond := u_ws RX1 TX1 0
theorem nmX1 : ∀ a, a < 0 → ∀ b, b < 0 → a ≠ b → (TX1 a).2.1 ≠ (TX1 b).2.1 := by decide +kernel
theorem tyX1_ok : ∀ k, k < 0 → parseFieldDescriptor (TX1 k).2.2.1 = some (tyX1 k) := by decide +kernel
abbrev cX1_of : ByteArray := prog_3_method_2_code
def yX1_of : MethodName := ⟨RX1, "of", "(IIII)I"⟩
abbrev cX1_shape : ByteArray := prog_3_method_3_code
def yX1_shape : MethodName := ⟨RX1, "shape", "(I)I"⟩
abbrev cX1_thumb : ByteArray := prog_3_method_4_code
def yX1_thumb : MethodName := ⟨RX1, "thumb", "(I)I"⟩
abbrev cX1_movement : ByteArray := prog_3_method_5_code
def yX1_movement : MethodName := ⟨RX1, "movement", "(I)I"⟩
abbrev cX1_place : ByteArray := prog_3_method_6_code
def yX1_place : MethodName := ⟨RX1, "place", "(I)I"⟩
abbrev cX1_withThumb : ByteArray := prog_3_method_7_code
def yX1_withThumb : MethodName := ⟨RX1, "withThumb", "(II)I"⟩
abbrev cX1_sameButForPlace : ByteArray := prog_3_method_8_code
def yX1_sameButForPlace : MethodName := ⟨RX1, "sameButForPlace", "(II)Z"⟩
def RX2 : String := "SignMasons$Places"
def TX2 : u_T := fun k => match k with
  | 0 => ("SignMasons$Places", "groupAt", "[I", true)
  | _ => ("SignMasons$Places", "groupCount", "I", false)
def tyX2 : Nat → FieldType := fun k => match k with
  | 0 => .array .int
  | _ => .int
abbrev wsX20 : List Cond := u_ws RX2 TX2 2
theorem nmX2 : ∀ a, a < 2 → ∀ b, b < 2 → a ≠ b → (TX2 a).2.1 ≠ (TX2 b).2.1 := by decide +kernel
theorem tyX2_ok : ∀ k, k < 2 → parseFieldDescriptor (TX2 k).2.2.1 = some (tyX2 k) := by decide +kernel
abbrev cX2_init : ByteArray := prog_4_method_1_code
def yX2_init : MethodName := ⟨RX2, "<init>", "()V"⟩
abbrev cX2_unite : ByteArray := prog_4_method_2_code
def yX2_unite : MethodName := ⟨RX2, "unite", "(II)V"⟩
abbrev cX2_sameGroup : ByteArray := prog_4_method_3_code
def yX2_sameGroup : MethodName := ⟨RX2, "sameGroup", "(II)Z"⟩
abbrev cX2_stepsBetween : ByteArray := prog_4_method_5_code
def yX2_stepsBetween : MethodName := ⟨RX2, "stepsBetween", "(II)I"⟩
abbrev cX2_alike : ByteArray := prog_4_method_6_code
def yX2_alike : MethodName := ⟨RX2, "alike", "(II)Z"⟩
abbrev cX2_distance : ByteArray := prog_4_method_8_code
def yX2_distance : MethodName := ⟨RX2, "distance", "(II)I"⟩
def RX3 : String := "SignMasons"
def TX3 : u_T := fun k => match k with
  | 0 => ("SignMasons", "places", "LSignMasons$Places;", true)
  | 1 => ("SignMasons", "books", "[LSignMasons$Book;", true)
  | 2 => ("SignMasons", "trial", "LSignMasons$Book;", true)
  | _ => ("SignMasons", "lodgeCount", "I", false)
def tyX3 : Nat → FieldType := fun k => match k with
  | 0 => .object "SignMasons$Places"
  | 1 => .array (.object "SignMasons$Book")
  | 2 => .object "SignMasons$Book"
  | _ => .int
abbrev wsX30 : List Cond := u_ws RX3 TX3 4
theorem nmX3 : ∀ a, a < 4 → ∀ b, b < 4 → a ≠ b → (TX3 a).2.1 ≠ (TX3 b).2.1 := by decide +kernel
theorem tyX3_ok : ∀ k, k < 4 → parseFieldDescriptor (TX3 k).2.2.1 = some (tyX3 k) := by decide +kernel
abbrev cX3_init : ByteArray := prog_1_method_1_code
def yX3_init : MethodName := ⟨RX3, "<init>", "()V"⟩
abbrev cX3_addLodge : ByteArray := prog_1_method_2_code
def yX3_addLodge : MethodName := ⟨RX3, "addLodge", "()I"⟩
abbrev cX3_addSign : ByteArray := prog_1_method_3_code
def yX3_addSign : MethodName := ⟨RX3, "addSign", "(IIIIII)I"⟩
abbrev cX3_forget : ByteArray := prog_1_method_4_code
def yX3_forget : MethodName := ⟨RX3, "forget", "(II)I"⟩
abbrev cX3_setThumb : ByteArray := prog_1_method_5_code
def yX3_setThumb : MethodName := ⟨RX3, "setThumb", "(III)I"⟩
abbrev cX3_join : ByteArray := prog_1_method_6_code
def yX3_join : MethodName := ⟨RX3, "join", "(II)I"⟩
abbrev cX3_borrow : ByteArray := prog_1_method_7_code
def yX3_borrow : MethodName := ⟨RX3, "borrow", "(III)I"⟩
abbrev cX3_groups : ByteArray := prog_1_method_8_code
def yX3_groups : MethodName := ⟨RX3, "groups", "()I"⟩
abbrev cX3_areJoined : ByteArray := prog_1_method_9_code
def yX3_areJoined : MethodName := ⟨RX3, "areJoined", "(II)Z"⟩
abbrev cX3_steps : ByteArray := prog_1_method_10_code
def yX3_steps : MethodName := ⟨RX3, "steps", "(II)I"⟩
abbrev cX3_lodges : ByteArray := prog_1_method_11_code
def yX3_lodges : MethodName := ⟨RX3, "lodges", "()I"⟩
abbrev cX3_signsOf : ByteArray := prog_1_method_12_code
def yX3_signsOf : MethodName := ⟨RX3, "signsOf", "(I)I"⟩
abbrev cX3_shapeOf : ByteArray := prog_1_method_13_code
def yX3_shapeOf : MethodName := ⟨RX3, "shapeOf", "(II)I"⟩
abbrev cX3_thumbOf : ByteArray := prog_1_method_14_code
def yX3_thumbOf : MethodName := ⟨RX3, "thumbOf", "(II)I"⟩
abbrev cX3_placeOf : ByteArray := prog_1_method_15_code
def yX3_placeOf : MethodName := ⟨RX3, "placeOf", "(II)I"⟩
abbrev cX3_meaningOf : ByteArray := prog_1_method_16_code
def yX3_meaningOf : MethodName := ⟨RX3, "meaningOf", "(II)I"⟩
abbrev cX3_signFor : ByteArray := prog_1_method_17_code
def yX3_signFor : MethodName := ⟨RX3, "signFor", "(II)I"⟩
abbrev cX3_apart : ByteArray := prog_1_method_18_code
def yX3_apart : MethodName := ⟨RX3, "apart", "(III)I"⟩
abbrev cX3_alikePairs : ByteArray := prog_1_method_19_code
def yX3_alikePairs : MethodName := ⟨RX3, "alikePairs", "(I)I"⟩
abbrev cX3_thumbPairs : ByteArray := prog_1_method_20_code
def yX3_thumbPairs : MethodName := ⟨RX3, "thumbPairs", "(I)I"⟩
abbrev cX3_closest : ByteArray := prog_1_method_21_code
def yX3_closest : MethodName := ⟨RX3, "closest", "(I)I"⟩
abbrev cX3_mostMistaken : ByteArray := prog_1_method_22_code
def yX3_mostMistaken : MethodName := ⟨RX3, "mostMistaken", "(I)I"⟩
abbrev cX3_read : ByteArray := prog_1_method_23_code
def yX3_read : MethodName := ⟨RX3, "read", "(III)I"⟩
abbrev cX3_understood : ByteArray := prog_1_method_25_code
def yX3_understood : MethodName := ⟨RX3, "understood", "(II)I"⟩
abbrev cX3_misread : ByteArray := prog_1_method_26_code
def yX3_misread : MethodName := ⟨RX3, "misread", "(II)I"⟩
abbrev cX3_common : ByteArray := prog_1_method_27_code
def yX3_common : MethodName := ⟨RX3, "common", "(II)I"⟩
abbrev cX3_meanSigns : ByteArray := prog_1_method_31_code
def yX3_meanSigns : MethodName := ⟨RX3, "meanSigns", "()D"⟩
abbrev cX3_isBelow : ByteArray := prog_1_method_37_code
def yX3_isBelow : MethodName := ⟨RX3, "isBelow", "(II)Z"⟩
abbrev cX3_bookOf : ByteArray := prog_1_method_38_code
def yX3_bookOf : MethodName := ⟨RX3, "bookOf", "(I)LSignMasons$Book;"⟩
abbrev cX3_lookOf : ByteArray := prog_1_method_39_code
def yX3_lookOf : MethodName := ⟨RX3, "lookOf", "(II)I"⟩
abbrev cX3_checkSign : ByteArray := prog_1_method_40_code
def yX3_checkSign : MethodName := ⟨RX3, "checkSign", "(LSignMasons$Book;I)V"⟩
abbrev cX3_checkPlace : ByteArray := prog_1_method_41_code
def yX3_checkPlace : MethodName := ⟨RX3, "checkPlace", "(I)V"⟩
abbrev cX3_checkLook : ByteArray := prog_1_method_42_code
def yX3_checkLook : MethodName := ⟨RX3, "checkLook", "(IIII)V"⟩
def RX4 : String := "SignMasonsLaw$Sim"
def TX4 : u_T := fun k => match k with
  | 0 => ("SignMasonsLaw$Sim", "books", "[[[I", false)
  | _ => ("SignMasonsLaw$Sim", "joined", "[[Z", false)
def tyX4 : Nat → FieldType := fun k => match k with
  | 0 => .array (.array (.array .int))
  | _ => .array (.array .boolean)
abbrev wsX40 : List Cond := u_ws RX4 TX4 2
theorem nmX4 : ∀ a, a < 2 → ∀ b, b < 2 → a ≠ b → (TX4 a).2.1 ≠ (TX4 b).2.1 := by decide +kernel
theorem tyX4_ok : ∀ k, k < 2 → parseFieldDescriptor (TX4 k).2.2.1 = some (tyX4 k) := by decide +kernel
abbrev cX4_init : ByteArray := prog_6_method_1_code
def yX4_init : MethodName := ⟨RX4, "<init>", "()V"⟩
abbrev cX4_addLodge : ByteArray := prog_6_method_2_code
def yX4_addLodge : MethodName := ⟨RX4, "addLodge", "()V"⟩
abbrev cX4_add : ByteArray := prog_6_method_3_code
def yX4_add : MethodName := ⟨RX4, "add", "(I[I)V"⟩
abbrev cX4_remove : ByteArray := prog_6_method_4_code
def yX4_remove : MethodName := ⟨RX4, "remove", "(II)V"⟩
abbrev cX4_join : ByteArray := prog_6_method_5_code
def yX4_join : MethodName := ⟨RX4, "join", "(II)V"⟩
abbrev cX4_groups : ByteArray := prog_6_method_6_code
def yX4_groups : MethodName := ⟨RX4, "groups", "()I"⟩
abbrev cX4_steps : ByteArray := prog_6_method_7_code
def yX4_steps : MethodName := ⟨RX4, "steps", "(II)I"⟩
abbrev cX4_far : ByteArray := prog_6_method_8_code
def yX4_far : MethodName := ⟨RX4, "far", "([I[I)I"⟩
abbrev cX4_read : ByteArray := prog_6_method_9_code
def yX4_read : MethodName := ⟨RX4, "read", "([II)I"⟩
abbrev cX4_signFor : ByteArray := prog_6_method_10_code
def yX4_signFor : MethodName := ⟨RX4, "signFor", "(II)I"⟩
abbrev cX4_borrowed : ByteArray := prog_6_method_11_code
def yX4_borrowed : MethodName := ⟨RX4, "borrowed", "([II)[I"⟩
abbrev cX4_alike : ByteArray := prog_6_method_12_code
def yX4_alike : MethodName := ⟨RX4, "alike", "(I)I"⟩
abbrev cX4_understood : ByteArray := prog_6_method_13_code
def yX4_understood : MethodName := ⟨RX4, "understood", "(II)I"⟩
abbrev cX4_isSame : ByteArray := prog_6_method_14_code
def yX4_isSame : MethodName := ⟨RX4, "isSame", "(LSignMasons;)Z"⟩
def RX5 : String := "SignMasonsModel"
def TX5 : u_T := fun k => match k with
  | _ => ("", "", "", false)
def tyX5 : Nat → FieldType := fun k => match k with
  | _ => .int
abbrev wsX50 : List Cond := u_ws RX5 TX5 0
theorem nmX5 : ∀ a, a < 0 → ∀ b, b < 0 → a ≠ b → (TX5 a).2.1 ≠ (TX5 b).2.1 := by decide +kernel
theorem tyX5_ok : ∀ k, k < 0 → parseFieldDescriptor (TX5 k).2.2.1 = some (tyX5 k) := by decide +kernel
def RJ6 : String := "java/lang/Integer"
def TJ6 : u_T := fun k => match k with
  | _ => ("", "", "", false)
def tyJ6 : Nat → FieldType := fun k => match k with
  | _ => .int
abbrev wsJ60 : List Cond := u_ws RJ6 TJ6 0
theorem nmJ6 : ∀ a, a < 0 → ∀ b, b < 0 → a ≠ b → (TJ6 a).2.1 ≠ (TJ6 b).2.1 := by decide +kernel
theorem tyJ6_ok : ∀ k, k < 0 → parseFieldDescriptor (TJ6 k).2.2.1 = some (tyJ6 k) := by decide +kernel
abbrev cJ6_bitCount_0f7a4 : ByteArray := prog_12_method_49_code
def yJ6_bitCount_0f7a4 : MethodName := ⟨RJ6, "bitCount", "(I)I"⟩
def RJ9 : String := "java/lang/Math"
def TJ9 : u_T := fun k => match k with
  | _ => ("", "", "", false)
def tyJ9 : Nat → FieldType := fun k => match k with
  | _ => .int
abbrev wsJ90 : List Cond := u_ws RJ9 TJ9 0
theorem nmJ9 : ∀ a, a < 0 → ∀ b, b < 0 → a ≠ b → (TJ9 a).2.1 ≠ (TJ9 b).2.1 := by decide +kernel
theorem tyJ9_ok : ∀ k, k < 0 → parseFieldDescriptor (TJ9 k).2.2.1 = some (tyJ9 k) := by decide +kernel
abbrev cJ9_abs_0f7a4 : ByteArray := prog_13_method_59_code
def yJ9_abs_0f7a4 : MethodName := ⟨RJ9, "abs", "(I)I"⟩
abbrev cJ9_min_7cf53 : ByteArray := prog_13_method_69_code
def yJ9_min_7cf53 : MethodName := ⟨RJ9, "min", "(II)I"⟩
def RJ0 : String := "java/lang/String"
def TJ0 : u_T := fun k => match k with
  | _ => ("", "", "", false)
def tyJ0 : Nat → FieldType := fun k => match k with
  | _ => .int
abbrev wsJ00 : List Cond := u_ws RJ0 TJ0 0
theorem nmJ0 : ∀ a, a < 0 → ∀ b, b < 0 → a ≠ b → (TJ0 a).2.1 ≠ (TJ0 b).2.1 := by decide +kernel
theorem tyJ0_ok : ∀ k, k < 0 → parseFieldDescriptor (TJ0 k).2.2.1 = some (tyJ0 k) := by decide +kernel
def RL : String := "SignMasonsLaw"
abbrev cL_below : ByteArray := method_2_code
def yL_below : MethodName := ⟨RL, "below", "(II)I"⟩
abbrev cL_cell : ByteArray := method_3_code
def yL_cell : MethodName := ⟨RL, "cell", "([II)I"⟩
abbrev cL_act : ByteArray := method_4_code
def yL_act : MethodName := ⟨RL, "act", "(LSignMasons;LSignMasonsLaw$Sim;I)Z"⟩
abbrev cL_build : ByteArray := method_5_code
def yL_build : MethodName := ⟨RL, "build", "(LSignMasons;[I)LSignMasonsLaw$Sim;"⟩
abbrev cL_law : ByteArray := code
def yL_law : MethodName := ⟨RL, "law", "([I)Z"⟩
abbrev vwCl : List vw_C := [(RX0, TX0, 4), (RX2, TX2, 2), (RX3, TX3, 4), (RX4, TX4, 2)]
