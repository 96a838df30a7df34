def RX0 : String := "TransitGate$Binding"
def TX0 : u_T := fun k => match k with
  | 0 => ("TransitGate$Binding", "protocol", "I", true)
  | 1 => ("TransitGate$Binding", "innerHigh", "J", true)
  | 2 => ("TransitGate$Binding", "innerLow", "J", true)
  | 3 => ("TransitGate$Binding", "innerPort", "I", true)
  | 4 => ("TransitGate$Binding", "poolNumber", "I", true)
  | _ => ("TransitGate$Binding", "outerPort", "I", true)
def tyX0 : Nat → FieldType := fun k => match k with
  | 0 => .int
  | 1 => .long
  | 2 => .long
  | 3 => .int
  | 4 => .int
  | _ => .int
abbrev wsX00 : List Cond := u_ws RX0 TX0 6
theorem nmX0 : ∀ a, a < 6 → ∀ b, b < 6 → a ≠ b → (TX0 a).2.1 ≠ (TX0 b).2.1 := by decide +kernel
theorem tyX0_ok : ∀ k, k < 6 → parseFieldDescriptor (TX0 k).2.2.1 = some (tyX0 k) := by decide +kernel
abbrev cX0_init : ByteArray := prog_2_method_1_code
def yX0_init : MethodName := ⟨RX0, "<init>", "(LTransitGate$Flow;JJII)V"⟩
abbrev cX0_isOf : ByteArray := prog_2_method_2_code
def yX0_isOf : MethodName := ⟨RX0, "isOf", "(JJ)Z"⟩
def RX1 : String := "TransitGate$Bytes"
def TX1 : u_T := fun k => match k with
  | 0 => ("TransitGate$Bytes", "cells", "[B", true)
  | _ => ("TransitGate$Bytes", "length", "I", false)
def tyX1 : Nat → FieldType := fun k => match k with
  | 0 => .array .byte
  | _ => .int
abbrev wsX10 : List Cond := u_ws RX1 TX1 2
theorem nmX1 : ∀ a, a < 2 → ∀ b, b < 2 → a ≠ b → (TX1 a).2.1 ≠ (TX1 b).2.1 := by decide +kernel
theorem tyX1_ok : ∀ k, k < 2 → parseFieldDescriptor (TX1 k).2.2.1 = some (tyX1 k) := by decide +kernel
abbrev cX1_init : ByteArray := prog_3_method_1_code
def yX1_init : MethodName := ⟨RX1, "<init>", "(I)V"⟩
abbrev cX1_length : ByteArray := prog_3_method_2_code
def yX1_length : MethodName := ⟨RX1, "length", "()I"⟩
abbrev cX1_resize : ByteArray := prog_3_method_3_code
def yX1_resize : MethodName := ⟨RX1, "resize", "(I)V"⟩
abbrev cX1_octet : ByteArray := prog_3_method_4_code
def yX1_octet : MethodName := ⟨RX1, "octet", "(I)I"⟩
abbrev cX1_pair : ByteArray := prog_3_method_5_code
def yX1_pair : MethodName := ⟨RX1, "pair", "(I)I"⟩
abbrev cX1_quad : ByteArray := prog_3_method_6_code
def yX1_quad : MethodName := ⟨RX1, "quad", "(I)I"⟩
abbrev cX1_eight : ByteArray := prog_3_method_7_code
def yX1_eight : MethodName := ⟨RX1, "eight", "(I)J"⟩
abbrev cX1_put : ByteArray := prog_3_method_8_code
def yX1_put : MethodName := ⟨RX1, "put", "(II)V"⟩
abbrev cX1_putPair : ByteArray := prog_3_method_9_code
def yX1_putPair : MethodName := ⟨RX1, "putPair", "(II)V"⟩
abbrev cX1_putQuad : ByteArray := prog_3_method_10_code
def yX1_putQuad : MethodName := ⟨RX1, "putQuad", "(II)V"⟩
abbrev cX1_putEight : ByteArray := prog_3_method_11_code
def yX1_putEight : MethodName := ⟨RX1, "putEight", "(IJ)V"⟩
abbrev cX1_number : ByteArray := prog_3_method_12_code
def yX1_number : MethodName := ⟨RX1, "number", "(II)J"⟩
abbrev cX1_putNumber : ByteArray := prog_3_method_13_code
def yX1_putNumber : MethodName := ⟨RX1, "putNumber", "(IIJ)V"⟩
abbrev cX1_copy : ByteArray := prog_3_method_14_code
def yX1_copy : MethodName := ⟨RX1, "copy", "(LTransitGate$Bytes;III)V"⟩
def RX2 : String := "TransitGate$Flow"
def TX2 : u_T := fun k => match k with
  | 0 => ("TransitGate$Flow", "isFromInside", "Z", true)
  | 1 => ("TransitGate$Flow", "protocol", "I", true)
  | 2 => ("TransitGate$Flow", "port", "I", true)
  | 3 => ("TransitGate$Flow", "farAddress", "I", true)
  | 4 => ("TransitGate$Flow", "farPort", "I", true)
  | _ => ("TransitGate$Flow", "event", "I", true)
def tyX2 : Nat → FieldType := fun k => match k with
  | 0 => .boolean
  | 1 => .int
  | 2 => .int
  | 3 => .int
  | 4 => .int
  | _ => .int
abbrev wsX20 : List Cond := u_ws RX2 TX2 6
theorem nmX2 : ∀ a, a < 6 → ∀ b, b < 6 → a ≠ b → (TX2 a).2.1 ≠ (TX2 b).2.1 := by decide +kernel
theorem tyX2_ok : ∀ k, k < 6 → parseFieldDescriptor (TX2 k).2.2.1 = some (tyX2 k) := by decide +kernel
abbrev cX2_init : ByteArray := prog_4_method_1_code
def yX2_init : MethodName := ⟨RX2, "<init>", "(ZIIIII)V"⟩
abbrev cX2_fromInside : ByteArray := prog_4_method_2_code
def yX2_fromInside : MethodName := ⟨RX2, "fromInside", "(LTransitGate$Bytes;I)LTransitGate$Flow;"⟩
abbrev cX2_fromOutside : ByteArray := prog_4_method_3_code
def yX2_fromOutside : MethodName := ⟨RX2, "fromOutside", "(LTransitGate$Bytes;)LTransitGate$Flow;"⟩
abbrev cX2_mayOpen : ByteArray := prog_4_method_4_code
def yX2_mayOpen : MethodName := ⟨RX2, "mayOpen", "()Z"⟩
def RX3 : String := "TransitGate$Maker"
def TX3 : u_T := fun k => match k with
  | _ => ("", "", "", false)
def tyX3 : Nat → FieldType := fun k => match k with
  | _ => .int
abbrev wsX30 : List Cond := u_ws RX3 TX3 0
theorem nmX3 : ∀ a, a < 0 → ∀ b, b < 0 → a ≠ b → (TX3 a).2.1 ≠ (TX3 b).2.1 := by decide +kernel
theorem tyX3_ok : ∀ k, k < 0 → parseFieldDescriptor (TX3 k).2.2.1 = some (tyX3 k) := by decide +kernel
abbrev cX3_toFour : ByteArray := prog_5_method_2_code
def yX3_toFour : MethodName := ⟨RX3, "toFour", "(LTransitGate$Bytes;LTransitGate$Bytes;LTransitGate$Binding;III)V"⟩
abbrev cX3_toSix : ByteArray := prog_5_method_3_code
def yX3_toSix : MethodName := ⟨RX3, "toSix", "(LTransitGate$Bytes;LTransitGate$Bytes;LTransitGate$Binding;LTransitGate$Site;)V"⟩
abbrev cX3_errorToSix : ByteArray := prog_5_method_4_code
def yX3_errorToSix : MethodName := ⟨RX3, "errorToSix", "(LTransitGate$Bytes;LTransitGate$Bytes;LTransitGate$Binding;LTransitGate$Site;)V"⟩
abbrev cX3_withinToSix : ByteArray := prog_5_method_5_code
def yX3_withinToSix : MethodName := ⟨RX3, "withinToSix", "(LTransitGate$Bytes;LTransitGate$Bytes;LTransitGate$Binding;LTransitGate$Site;)V"⟩
abbrev cX3_putErrorKind : ByteArray := prog_5_method_6_code
def yX3_putErrorKind : MethodName := ⟨RX3, "putErrorKind", "(LTransitGate$Bytes;LTransitGate$Bytes;)V"⟩
abbrev cX3_unreachableCode : ByteArray := prog_5_method_7_code
def yX3_unreachableCode : MethodName := ⟨RX3, "unreachableCode", "(I)I"⟩
abbrev cX3_putSixHead : ByteArray := prog_5_method_8_code
def yX3_putSixHead : MethodName := ⟨RX3, "putSixHead", "(LTransitGate$Bytes;IIIII)V"⟩
abbrev cX3_putEmbedded : ByteArray := prog_5_method_9_code
def yX3_putEmbedded : MethodName := ⟨RX3, "putEmbedded", "(LTransitGate$Bytes;IILTransitGate$Site;)V"⟩
abbrev cX3_putInner : ByteArray := prog_5_method_10_code
def yX3_putInner : MethodName := ⟨RX3, "putInner", "(LTransitGate$Bytes;ILTransitGate$Binding;)V"⟩
def RX4 : String := "TransitGate$Part"
def TX4 : u_T := fun k => match k with
  | _ => ("", "", "", false)
def tyX4 : Nat → FieldType := fun k => match k with
  | _ => .int
abbrev wsX40 : List Cond := u_ws RX4 TX4 0
theorem nmX4 : ∀ a, a < 0 → ∀ b, b < 0 → a ≠ b → (TX4 a).2.1 ≠ (TX4 b).2.1 := by decide +kernel
theorem tyX4_ok : ∀ k, k < 0 → parseFieldDescriptor (TX4 k).2.2.1 = some (tyX4 k) := by decide +kernel
abbrev cX4_headOf : ByteArray := prog_6_method_2_code
def yX4_headOf : MethodName := ⟨RX4, "headOf", "(LTransitGate$Bytes;)I"⟩
abbrev cX4_protocolOf : ByteArray := prog_6_method_3_code
def yX4_protocolOf : MethodName := ⟨RX4, "protocolOf", "(LTransitGate$Bytes;I)I"⟩
abbrev cX4_sumAt : ByteArray := prog_6_method_4_code
def yX4_sumAt : MethodName := ⟨RX4, "sumAt", "(I)I"⟩
abbrev cX4_hasPorts : ByteArray := prog_6_method_5_code
def yX4_hasPorts : MethodName := ⟨RX4, "hasPorts", "(I)Z"⟩
abbrev cX4_sourcePortAt : ByteArray := prog_6_method_6_code
def yX4_sourcePortAt : MethodName := ⟨RX4, "sourcePortAt", "(I)I"⟩
abbrev cX4_destinationPortAt : ByteArray := prog_6_method_7_code
def yX4_destinationPortAt : MethodName := ⟨RX4, "destinationPortAt", "(I)I"⟩
abbrev cX4_sourcePort : ByteArray := prog_6_method_8_code
def yX4_sourcePort : MethodName := ⟨RX4, "sourcePort", "(LTransitGate$Bytes;II)I"⟩
abbrev cX4_destinationPort : ByteArray := prog_6_method_9_code
def yX4_destinationPort : MethodName := ⟨RX4, "destinationPort", "(LTransitGate$Bytes;II)I"⟩
abbrev cX4_isSoundTcp : ByteArray := prog_6_method_10_code
def yX4_isSoundTcp : MethodName := ⟨RX4, "isSoundTcp", "(LTransitGate$Bytes;I)Z"⟩
abbrev cX4_isSoundUdp : ByteArray := prog_6_method_11_code
def yX4_isSoundUdp : MethodName := ⟨RX4, "isSoundUdp", "(LTransitGate$Bytes;I)Z"⟩
abbrev cX4_isLongEnoughIcmp : ByteArray := prog_6_method_12_code
def yX4_isLongEnoughIcmp : MethodName := ⟨RX4, "isLongEnoughIcmp", "(LTransitGate$Bytes;I)Z"⟩
abbrev cX4_isError : ByteArray := prog_6_method_13_code
def yX4_isError : MethodName := ⟨RX4, "isError", "(LTransitGate$Bytes;)Z"⟩
abbrev cX4_eventOf : ByteArray := prog_6_method_14_code
def yX4_eventOf : MethodName := ⟨RX4, "eventOf", "(LTransitGate$Bytes;II)I"⟩
def RX5 : String := "TransitGate$Pool"
def TX5 : u_T := fun k => match k with
  | 0 => ("TransitGate$Pool", "rows", "[I", true)
  | _ => ("TransitGate$Pool", "used", "I", false)
def tyX5 : Nat → FieldType := fun k => match k with
  | 0 => .array .int
  | _ => .int
abbrev wsX50 : List Cond := u_ws RX5 TX5 2
theorem nmX5 : ∀ a, a < 2 → ∀ b, b < 2 → a ≠ b → (TX5 a).2.1 ≠ (TX5 b).2.1 := by decide +kernel
theorem tyX5_ok : ∀ k, k < 2 → parseFieldDescriptor (TX5 k).2.2.1 = some (tyX5 k) := by decide +kernel
abbrev cX5_init : ByteArray := prog_7_method_1_code
def yX5_init : MethodName := ⟨RX5, "<init>", "()V"⟩
abbrev cX5_isOdd : ByteArray := prog_7_method_2_code
def yX5_isOdd : MethodName := ⟨RX5, "isOdd", "(I)Z"⟩
abbrev cX5_size : ByteArray := prog_7_method_3_code
def yX5_size : MethodName := ⟨RX5, "size", "()I"⟩
abbrev cX5_at : ByteArray := prog_7_method_4_code
def yX5_at : MethodName := ⟨RX5, "at", "(I)I"⟩
abbrev cX5_numberOf : ByteArray := prog_7_method_5_code
def yX5_numberOf : MethodName := ⟨RX5, "numberOf", "(I)I"⟩
abbrev cX5_has : ByteArray := prog_7_method_6_code
def yX5_has : MethodName := ⟨RX5, "has", "(I)Z"⟩
abbrev cX5_join : ByteArray := prog_7_method_7_code
def yX5_join : MethodName := ⟨RX5, "join", "(I)I"⟩
def RX6 : String := "TransitGate$Rules"
def TX6 : u_T := fun k => match k with
  | _ => ("", "", "", false)
def tyX6 : Nat → FieldType := fun k => match k with
  | _ => .int
abbrev wsX60 : List Cond := u_ws RX6 TX6 0
theorem nmX6 : ∀ a, a < 0 → ∀ b, b < 0 → a ≠ b → (TX6 a).2.1 ≠ (TX6 b).2.1 := by decide +kernel
theorem tyX6_ok : ∀ k, k < 0 → parseFieldDescriptor (TX6 k).2.2.1 = some (tyX6 k) := by decide +kernel
abbrev cX6_faultFromInside : ByteArray := prog_8_method_2_code
def yX6_faultFromInside : MethodName := ⟨RX6, "faultFromInside", "(LTransitGate$Bytes;LTransitGate$Site;LTransitGate$Pool;)I"⟩
abbrev cX6_faultFromOutside : ByteArray := prog_8_method_3_code
def yX6_faultFromOutside : MethodName := ⟨RX6, "faultFromOutside", "(LTransitGate$Bytes;LTransitGate$Site;LTransitGate$Pool;)I"⟩
abbrev cX6_isFramedSix : ByteArray := prog_8_method_4_code
def yX6_isFramedSix : MethodName := ⟨RX6, "isFramedSix", "(LTransitGate$Bytes;)Z"⟩
abbrev cX6_isKnownSix : ByteArray := prog_8_method_5_code
def yX6_isKnownSix : MethodName := ⟨RX6, "isKnownSix", "(LTransitGate$Bytes;)Z"⟩
abbrev cX6_isEchoSix : ByteArray := prog_8_method_6_code
def yX6_isEchoSix : MethodName := ⟨RX6, "isEchoSix", "(LTransitGate$Bytes;)Z"⟩
abbrev cX6_isPlacedSix : ByteArray := prog_8_method_7_code
def yX6_isPlacedSix : MethodName := ⟨RX6, "isPlacedSix", "(LTransitGate$Bytes;LTransitGate$Site;LTransitGate$Pool;)Z"⟩
abbrev cX6_isFramedFour : ByteArray := prog_8_method_8_code
def yX6_isFramedFour : MethodName := ⟨RX6, "isFramedFour", "(LTransitGate$Bytes;)Z"⟩
abbrev cX6_isKnownFour : ByteArray := prog_8_method_9_code
def yX6_isKnownFour : MethodName := ⟨RX6, "isKnownFour", "(LTransitGate$Bytes;)Z"⟩
abbrev cX6_isKnownIcmpFour : ByteArray := prog_8_method_10_code
def yX6_isKnownIcmpFour : MethodName := ⟨RX6, "isKnownIcmpFour", "(LTransitGate$Bytes;)Z"⟩
abbrev cX6_hasKnownWithin : ByteArray := prog_8_method_11_code
def yX6_hasKnownWithin : MethodName := ⟨RX6, "hasKnownWithin", "(LTransitGate$Bytes;)Z"⟩
abbrev cX6_isPlacedFour : ByteArray := prog_8_method_12_code
def yX6_isPlacedFour : MethodName := ⟨RX6, "isPlacedFour", "(LTransitGate$Bytes;LTransitGate$Site;LTransitGate$Pool;)Z"⟩
def RX7 : String := "TransitGate$Session"
def TX7 : u_T := fun k => match k with
  | 0 => ("TransitGate$Session", "owner", "LTransitGate$Binding;", true)
  | 1 => ("TransitGate$Session", "farAddress", "I", true)
  | 2 => ("TransitGate$Session", "farPort", "I", true)
  | 3 => ("TransitGate$Session", "state", "I", false)
  | _ => ("TransitGate$Session", "end", "J", false)
def tyX7 : Nat → FieldType := fun k => match k with
  | 0 => .object "TransitGate$Binding"
  | 1 => .int
  | 2 => .int
  | 3 => .int
  | _ => .long
abbrev wsX70 : List Cond := u_ws RX7 TX7 5
theorem nmX7 : ∀ a, a < 5 → ∀ b, b < 5 → a ≠ b → (TX7 a).2.1 ≠ (TX7 b).2.1 := by decide +kernel
theorem tyX7_ok : ∀ k, k < 5 → parseFieldDescriptor (TX7 k).2.2.1 = some (tyX7 k) := by decide +kernel
abbrev cX7_init : ByteArray := prog_9_method_1_code
def yX7_init : MethodName := ⟨RX7, "<init>", "(LTransitGate$Binding;LTransitGate$Flow;J)V"⟩
abbrev cX7_meet : ByteArray := prog_9_method_2_code
def yX7_meet : MethodName := ⟨RX7, "meet", "(LTransitGate$Flow;J)V"⟩
abbrev cX7_firstState : ByteArray := prog_9_method_3_code
def yX7_firstState : MethodName := ⟨RX7, "firstState", "(LTransitGate$Flow;)I"⟩
abbrev cX7_stateAfter : ByteArray := prog_9_method_4_code
def yX7_stateAfter : MethodName := ⟨RX7, "stateAfter", "(IZ)I"⟩
abbrev cX7_lifetime : ByteArray := prog_9_method_5_code
def yX7_lifetime : MethodName := ⟨RX7, "lifetime", "(II)I"⟩
def RX8 : String := "TransitGate$Site"
def TX8 : u_T := fun k => match k with
  | 0 => ("TransitGate$Site", "first", "J", false)
  | 1 => ("TransitGate$Site", "second", "J", false)
  | 2 => ("TransitGate$Site", "bits", "I", false)
  | _ => ("TransitGate$Site", "behindByte8", "I", false)
def tyX8 : Nat → FieldType := fun k => match k with
  | 0 => .long
  | 1 => .long
  | 2 => .int
  | _ => .int
abbrev wsX80 : List Cond := u_ws RX8 TX8 4
theorem nmX8 : ∀ a, a < 4 → ∀ b, b < 4 → a ≠ b → (TX8 a).2.1 ≠ (TX8 b).2.1 := by decide +kernel
theorem tyX8_ok : ∀ k, k < 4 → parseFieldDescriptor (TX8 k).2.2.1 = some (tyX8 k) := by decide +kernel
abbrev cX8_init : ByteArray := prog_10_method_1_code
def yX8_init : MethodName := ⟨RX8, "<init>", "()V"⟩
abbrev cX8_bits : ByteArray := prog_10_method_2_code
def yX8_bits : MethodName := ⟨RX8, "bits", "()I"⟩
abbrev cX8_isSet : ByteArray := prog_10_method_3_code
def yX8_isSet : MethodName := ⟨RX8, "isSet", "()Z"⟩
abbrev cX8_settle : ByteArray := prog_10_method_4_code
def yX8_settle : MethodName := ⟨RX8, "settle", "(JJI)Z"⟩
abbrev cX8_embedHigh : ByteArray := prog_10_method_5_code
def yX8_embedHigh : MethodName := ⟨RX8, "embedHigh", "(I)J"⟩
abbrev cX8_embedLow : ByteArray := prog_10_method_6_code
def yX8_embedLow : MethodName := ⟨RX8, "embedLow", "(I)J"⟩
abbrev cX8_draw : ByteArray := prog_10_method_7_code
def yX8_draw : MethodName := ⟨RX8, "draw", "(JJ)J"⟩
abbrev cX8_covers : ByteArray := prog_10_method_8_code
def yX8_covers : MethodName := ⟨RX8, "covers", "(JJ)Z"⟩
abbrev cX8_headMask : ByteArray := prog_10_method_9_code
def yX8_headMask : MethodName := ⟨RX8, "headMask", "(I)J"⟩
abbrev cX8_tailMask : ByteArray := prog_10_method_10_code
def yX8_tailMask : MethodName := ⟨RX8, "tailMask", "(I)J"⟩
def RX9 : String := "TransitGate$Sums"
def TX9 : u_T := fun k => match k with
  | _ => ("", "", "", false)
def tyX9 : Nat → FieldType := fun k => match k with
  | _ => .int
abbrev wsX90 : List Cond := u_ws RX9 TX9 0
theorem nmX9 : ∀ a, a < 0 → ∀ b, b < 0 → a ≠ b → (TX9 a).2.1 ≠ (TX9 b).2.1 := by decide +kernel
theorem tyX9_ok : ∀ k, k < 0 → parseFieldDescriptor (TX9 k).2.2.1 = some (tyX9 k) := by decide +kernel
abbrev cX9_ofHead : ByteArray := prog_11_method_2_code
def yX9_ofHead : MethodName := ⟨RX9, "ofHead", "(LTransitGate$Bytes;)I"⟩
abbrev cX9_ofPart : ByteArray := prog_11_method_3_code
def yX9_ofPart : MethodName := ⟨RX9, "ofPart", "(LTransitGate$Bytes;III)I"⟩
abbrev cX9_headIsRight : ByteArray := prog_11_method_4_code
def yX9_headIsRight : MethodName := ⟨RX9, "headIsRight", "(LTransitGate$Bytes;)Z"⟩
abbrev cX9_partIsRight : ByteArray := prog_11_method_5_code
def yX9_partIsRight : MethodName := ⟨RX9, "partIsRight", "(LTransitGate$Bytes;I)Z"⟩
abbrev cX9_putPart : ByteArray := prog_11_method_6_code
def yX9_putPart : MethodName := ⟨RX9, "putPart", "(LTransitGate$Bytes;I)V"⟩
abbrev cX9_words : ByteArray := prog_11_method_7_code
def yX9_words : MethodName := ⟨RX9, "words", "(LTransitGate$Bytes;III)I"⟩
abbrev cX9_closed : ByteArray := prog_11_method_8_code
def yX9_closed : MethodName := ⟨RX9, "closed", "(I)I"⟩
def RX10 : String := "TransitGate$Table"
def TX10 : u_T := fun k => match k with
  | 0 => ("TransitGate$Table", "bindings", "Ljava/util/ArrayList;", true)
  | 1 => ("TransitGate$Table", "sessions", "Ljava/util/ArrayList;", true)
  | _ => ("TransitGate$Table", "time", "J", false)
def tyX10 : Nat → FieldType := fun k => match k with
  | 0 => .object "java/util/ArrayList"
  | 1 => .object "java/util/ArrayList"
  | _ => .long
abbrev wsX100 : List Cond := u_ws RX10 TX10 3
theorem nmX10 : ∀ a, a < 3 → ∀ b, b < 3 → a ≠ b → (TX10 a).2.1 ≠ (TX10 b).2.1 := by decide +kernel
theorem tyX10_ok : ∀ k, k < 3 → parseFieldDescriptor (TX10 k).2.2.1 = some (tyX10 k) := by decide +kernel
abbrev cX10_init : ByteArray := prog_12_method_1_code
def yX10_init : MethodName := ⟨RX10, "<init>", "()V"⟩
abbrev cX10_time : ByteArray := prog_12_method_2_code
def yX10_time : MethodName := ⟨RX10, "time", "()J"⟩
abbrev cX10_bindingCount : ByteArray := prog_12_method_3_code
def yX10_bindingCount : MethodName := ⟨RX10, "bindingCount", "()I"⟩
abbrev cX10_sessionCount : ByteArray := prog_12_method_4_code
def yX10_sessionCount : MethodName := ⟨RX10, "sessionCount", "()I"⟩
abbrev cX10_bindingAt : ByteArray := prog_12_method_5_code
def yX10_bindingAt : MethodName := ⟨RX10, "bindingAt", "(I)LTransitGate$Binding;"⟩
abbrev cX10_sessionAt : ByteArray := prog_12_method_6_code
def yX10_sessionAt : MethodName := ⟨RX10, "sessionAt", "(I)LTransitGate$Session;"⟩
abbrev cX10_forget : ByteArray := prog_12_method_7_code
def yX10_forget : MethodName := ⟨RX10, "forget", "()V"⟩
abbrev cX10_numberOf : ByteArray := prog_12_method_8_code
def yX10_numberOf : MethodName := ⟨RX10, "numberOf", "(LTransitGate$Binding;)I"⟩
abbrev cX10_sessionsOf : ByteArray := prog_12_method_9_code
def yX10_sessionsOf : MethodName := ⟨RX10, "sessionsOf", "(LTransitGate$Binding;)I"⟩
abbrev cX10_pass : ByteArray := prog_12_method_10_code
def yX10_pass : MethodName := ⟨RX10, "pass", "(I)I"⟩
abbrev cX10_letIdleBindingsGo : ByteArray := prog_12_method_11_code
def yX10_letIdleBindingsGo : MethodName := ⟨RX10, "letIdleBindingsGo", "()V"⟩
abbrev cX10_admitFromInside : ByteArray := prog_12_method_12_code
def yX10_admitFromInside : MethodName := ⟨RX10, "admitFromInside", "(LTransitGate$Flow;JJI)LTransitGate$Binding;"⟩
abbrev cX10_admitFromOutside : ByteArray := prog_12_method_13_code
def yX10_admitFromOutside : MethodName := ⟨RX10, "admitFromOutside", "(LTransitGate$Flow;I)LTransitGate$Binding;"⟩
abbrev cX10_byOuter : ByteArray := prog_12_method_14_code
def yX10_byOuter : MethodName := ⟨RX10, "byOuter", "(III)LTransitGate$Binding;"⟩
abbrev cX10_byInner : ByteArray := prog_12_method_15_code
def yX10_byInner : MethodName := ⟨RX10, "byInner", "(LTransitGate$Flow;JJ)LTransitGate$Binding;"⟩
abbrev cX10_meetsSession : ByteArray := prog_12_method_16_code
def yX10_meetsSession : MethodName := ⟨RX10, "meetsSession", "(LTransitGate$Binding;LTransitGate$Flow;)Z"⟩
abbrev cX10_mayAddSession : ByteArray := prog_12_method_17_code
def yX10_mayAddSession : MethodName := ⟨RX10, "mayAddSession", "(LTransitGate$Flow;)Z"⟩
abbrev cX10_bind : ByteArray := prog_12_method_18_code
def yX10_bind : MethodName := ⟨RX10, "bind", "(LTransitGate$Flow;JJI)LTransitGate$Binding;"⟩
abbrev cX10_numberFor : ByteArray := prog_12_method_19_code
def yX10_numberFor : MethodName := ⟨RX10, "numberFor", "(JJI)I"⟩
abbrev cX10_bindingsAt : ByteArray := prog_12_method_20_code
def yX10_bindingsAt : MethodName := ⟨RX10, "bindingsAt", "(I)I"⟩
abbrev cX10_freePort : ByteArray := prog_12_method_21_code
def yX10_freePort : MethodName := ⟨RX10, "freePort", "(LTransitGate$Flow;I)I"⟩
abbrev cX10_firstPort : ByteArray := prog_12_method_22_code
def yX10_firstPort : MethodName := ⟨RX10, "firstPort", "(LTransitGate$Flow;)I"⟩
def RX11 : String := "TransitGate"
def TX11 : u_T := fun k => match k with
  | 0 => ("TransitGate", "tape", "LTransitGate$Bytes;", true)
  | 1 => ("TransitGate", "out", "LTransitGate$Bytes;", true)
  | 2 => ("TransitGate", "site", "LTransitGate$Site;", true)
  | 3 => ("TransitGate", "addresses", "LTransitGate$Pool;", true)
  | 4 => ("TransitGate", "table", "LTransitGate$Table;", true)
  | 5 => ("TransitGate", "dropped", "[I", true)
  | 6 => ("TransitGate", "made", "I", false)
  | _ => ("TransitGate", "identification", "I", false)
def tyX11 : Nat → FieldType := fun k => match k with
  | 0 => .object "TransitGate$Bytes"
  | 1 => .object "TransitGate$Bytes"
  | 2 => .object "TransitGate$Site"
  | 3 => .object "TransitGate$Pool"
  | 4 => .object "TransitGate$Table"
  | 5 => .array .int
  | 6 => .int
  | _ => .int
abbrev wsX110 : List Cond := u_ws RX11 TX11 8
theorem nmX11 : ∀ a, a < 8 → ∀ b, b < 8 → a ≠ b → (TX11 a).2.1 ≠ (TX11 b).2.1 := by decide +kernel
theorem tyX11_ok : ∀ k, k < 8 → parseFieldDescriptor (TX11 k).2.2.1 = some (tyX11 k) := by decide +kernel
abbrev cX11_init : ByteArray := prog_1_method_1_code
def yX11_init : MethodName := ⟨RX11, "<init>", "()V"⟩
abbrev cX11_prefix : ByteArray := prog_1_method_2_code
def yX11_prefix : MethodName := ⟨RX11, "prefix", "(JJI)Z"⟩
abbrev cX11_pool : ByteArray := prog_1_method_3_code
def yX11_pool : MethodName := ⟨RX11, "pool", "(I)I"⟩
abbrev cX11_high : ByteArray := prog_1_method_4_code
def yX11_high : MethodName := ⟨RX11, "high", "(I)J"⟩
abbrev cX11_low : ByteArray := prog_1_method_5_code
def yX11_low : MethodName := ⟨RX11, "low", "(I)J"⟩
abbrev cX11_drawn : ByteArray := prog_1_method_6_code
def yX11_drawn : MethodName := ⟨RX11, "drawn", "(JJ)J"⟩
abbrev cX11_feed : ByteArray := prog_1_method_7_code
def yX11_feed : MethodName := ⟨RX11, "feed", "(IIIII)Z"⟩
abbrev cX11_inside : ByteArray := prog_1_method_8_code
def yX11_inside : MethodName := ⟨RX11, "inside", "(I)I"⟩
abbrev cX11_outside : ByteArray := prog_1_method_9_code
def yX11_outside : MethodName := ⟨RX11, "outside", "(I)I"⟩
abbrev cX11_word : ByteArray := prog_1_method_10_code
def yX11_word : MethodName := ⟨RX11, "word", "(I)I"⟩
abbrev cX11_take : ByteArray := prog_1_method_11_code
def yX11_take : MethodName := ⟨RX11, "take", "()I"⟩
abbrev cX11_bend : ByteArray := prog_1_method_12_code
def yX11_bend : MethodName := ⟨RX11, "bend", "(II)I"⟩
abbrev cX11_sign : ByteArray := prog_1_method_13_code
def yX11_sign : MethodName := ⟨RX11, "sign", "(II)I"⟩
abbrev cX11_signHead : ByteArray := prog_1_method_14_code
def yX11_signHead : MethodName := ⟨RX11, "signHead", "()I"⟩
abbrev cX11_tick : ByteArray := prog_1_method_15_code
def yX11_tick : MethodName := ⟨RX11, "tick", "(I)I"⟩
abbrev cX11_binding : ByteArray := prog_1_method_16_code
def yX11_binding : MethodName := ⟨RX11, "binding", "(II)I"⟩
abbrev cX11_inner : ByteArray := prog_1_method_17_code
def yX11_inner : MethodName := ⟨RX11, "inner", "(IZ)J"⟩
abbrev cX11_session : ByteArray := prog_1_method_18_code
def yX11_session : MethodName := ⟨RX11, "session", "(II)I"⟩
abbrev cX11_count : ByteArray := prog_1_method_19_code
def yX11_count : MethodName := ⟨RX11, "count", "(I)I"⟩
abbrev cX11_closePacket : ByteArray := prog_1_method_20_code
def yX11_closePacket : MethodName := ⟨RX11, "closePacket", "(I)I"⟩
abbrev cX11_passFromInside : ByteArray := prog_1_method_21_code
def yX11_passFromInside : MethodName := ⟨RX11, "passFromInside", "()I"⟩
abbrev cX11_passFromOutside : ByteArray := prog_1_method_22_code
def yX11_passFromOutside : MethodName := ⟨RX11, "passFromOutside", "()I"⟩
abbrev cX11_passError : ByteArray := prog_1_method_23_code
def yX11_passError : MethodName := ⟨RX11, "passError", "()I"⟩
def RX12 : String := "TransitGateModel"
def TX12 : u_T := fun k => match k with
  | 0 => ("TransitGateModel", "tape", "[B", true)
  | 1 => ("TransitGateModel", "taped", "I", false)
  | 2 => ("TransitGateModel", "out", "[B", true)
  | 3 => ("TransitGateModel", "outSize", "I", false)
  | 4 => ("TransitGateModel", "in", "[B", true)
  | 5 => ("TransitGateModel", "size", "I", false)
  | 6 => ("TransitGateModel", "bits", "I", false)
  | 7 => ("TransitGateModel", "prefixHigh", "J", false)
  | 8 => ("TransitGateModel", "prefixLow", "J", false)
  | 9 => ("TransitGateModel", "pools", "I", false)
  | 10 => ("TransitGateModel", "pool", "[I", true)
  | 11 => ("TransitGateModel", "bindings", "I", false)
  | 12 => ("TransitGateModel", "protocol", "[I", true)
  | 13 => ("TransitGateModel", "innerHigh", "[J", true)
  | 14 => ("TransitGateModel", "innerLow", "[J", true)
  | 15 => ("TransitGateModel", "innerPort", "[I", true)
  | 16 => ("TransitGateModel", "outer", "[I", true)
  | 17 => ("TransitGateModel", "outerPort", "[I", true)
  | 18 => ("TransitGateModel", "sessions", "I", false)
  | 19 => ("TransitGateModel", "bindingOf", "[I", true)
  | 20 => ("TransitGateModel", "far", "[I", true)
  | 21 => ("TransitGateModel", "farPort", "[I", true)
  | 22 => ("TransitGateModel", "state", "[I", true)
  | 23 => ("TransitGateModel", "end", "[I", true)
  | 24 => ("TransitGateModel", "time", "I", false)
  | 25 => ("TransitGateModel", "made", "I", false)
  | 26 => ("TransitGateModel", "dropped", "[I", true)
  | _ => ("TransitGateModel", "identification", "I", false)
def tyX12 : Nat → FieldType := fun k => match k with
  | 0 => .array .byte
  | 1 => .int
  | 2 => .array .byte
  | 3 => .int
  | 4 => .array .byte
  | 5 => .int
  | 6 => .int
  | 7 => .long
  | 8 => .long
  | 9 => .int
  | 10 => .array .int
  | 11 => .int
  | 12 => .array .int
  | 13 => .array .long
  | 14 => .array .long
  | 15 => .array .int
  | 16 => .array .int
  | 17 => .array .int
  | 18 => .int
  | 19 => .array .int
  | 20 => .array .int
  | 21 => .array .int
  | 22 => .array .int
  | 23 => .array .int
  | 24 => .int
  | 25 => .int
  | 26 => .array .int
  | _ => .int
abbrev wsX120 : List Cond := u_ws RX12 TX12 28
theorem nmX12 : ∀ a, a < 28 → ∀ b, b < 28 → a ≠ b → (TX12 a).2.1 ≠ (TX12 b).2.1 := by decide +kernel
theorem tyX12_ok : ∀ k, k < 28 → parseFieldDescriptor (TX12 k).2.2.1 = some (tyX12 k) := by decide +kernel
abbrev cX12_init : ByteArray := prog_14_method_1_code
def yX12_init : MethodName := ⟨RX12, "<init>", "()V"⟩
abbrev cX12_isIn : ByteArray := prog_14_method_3_code
def yX12_isIn : MethodName := ⟨RX12, "isIn", "(JJJ)Z"⟩
abbrev cX12_placeOf : ByteArray := prog_14_method_4_code
def yX12_placeOf : MethodName := ⟨RX12, "placeOf", "(I)I"⟩
abbrev cX12_byteOf : ByteArray := prog_14_method_5_code
def yX12_byteOf : MethodName := ⟨RX12, "byteOf", "(JJI)I"⟩
abbrev cX12_with : ByteArray := prog_14_method_6_code
def yX12_with : MethodName := ⟨RX12, "with", "(JII)J"⟩
abbrev cX12_prefix : ByteArray := prog_14_method_7_code
def yX12_prefix : MethodName := ⟨RX12, "prefix", "(JJI)Z"⟩
abbrev cX12_isOdd : ByteArray := prog_14_method_8_code
def yX12_isOdd : MethodName := ⟨RX12, "isOdd", "(I)Z"⟩
abbrev cX12_poolOf : ByteArray := prog_14_method_9_code
def yX12_poolOf : MethodName := ⟨RX12, "poolOf", "(I)I"⟩
abbrev cX12_pool : ByteArray := prog_14_method_10_code
def yX12_pool : MethodName := ⟨RX12, "pool", "(I)I"⟩
abbrev cX12_high : ByteArray := prog_14_method_11_code
def yX12_high : MethodName := ⟨RX12, "high", "(I)J"⟩
abbrev cX12_low : ByteArray := prog_14_method_12_code
def yX12_low : MethodName := ⟨RX12, "low", "(I)J"⟩
abbrev cX12_isOfPrefix : ByteArray := prog_14_method_13_code
def yX12_isOfPrefix : MethodName := ⟨RX12, "isOfPrefix", "(JJ)Z"⟩
abbrev cX12_drawnOf : ByteArray := prog_14_method_14_code
def yX12_drawnOf : MethodName := ⟨RX12, "drawnOf", "(JJ)I"⟩
abbrev cX12_drawn : ByteArray := prog_14_method_15_code
def yX12_drawn : MethodName := ⟨RX12, "drawn", "(JJ)J"⟩
abbrev cX12_feed : ByteArray := prog_14_method_16_code
def yX12_feed : MethodName := ⟨RX12, "feed", "(IIIII)Z"⟩
abbrev cX12_begin : ByteArray := prog_14_method_17_code
def yX12_begin : MethodName := ⟨RX12, "begin", "(I)V"⟩
abbrev cX12_at : ByteArray := prog_14_method_18_code
def yX12_at : MethodName := ⟨RX12, "at", "([BI)I"⟩
abbrev cX12_two : ByteArray := prog_14_method_19_code
def yX12_two : MethodName := ⟨RX12, "two", "([BI)I"⟩
abbrev cX12_four : ByteArray := prog_14_method_20_code
def yX12_four : MethodName := ⟨RX12, "four", "([BI)I"⟩
abbrev cX12_eight : ByteArray := prog_14_method_21_code
def yX12_eight : MethodName := ⟨RX12, "eight", "([BI)J"⟩
abbrev cX12_put : ByteArray := prog_14_method_22_code
def yX12_put : MethodName := ⟨RX12, "put", "([BIIJ)V"⟩
abbrev cX12_words : ByteArray := prog_14_method_23_code
def yX12_words : MethodName := ⟨RX12, "words", "([BIII)J"⟩
abbrev cX12_folded : ByteArray := prog_14_method_24_code
def yX12_folded : MethodName := ⟨RX12, "folded", "(J)I"⟩
abbrev cX12_sumOf : ByteArray := prog_14_method_25_code
def yX12_sumOf : MethodName := ⟨RX12, "sumOf", "([BIIII)I"⟩
abbrev cX12_placeOfSum : ByteArray := prog_14_method_26_code
def yX12_placeOfSum : MethodName := ⟨RX12, "placeOfSum", "(I)I"⟩
abbrev cX12_isRight : ByteArray := prog_14_method_27_code
def yX12_isRight : MethodName := ⟨RX12, "isRight", "(II)Z"⟩
abbrev cX12_headSum : ByteArray := prog_14_method_28_code
def yX12_headSum : MethodName := ⟨RX12, "headSum", "([B)I"⟩
abbrev cX12_sessionsOf : ByteArray := prog_14_method_29_code
def yX12_sessionsOf : MethodName := ⟨RX12, "sessionsOf", "(I)I"⟩
abbrev cX12_findInner : ByteArray := prog_14_method_30_code
def yX12_findInner : MethodName := ⟨RX12, "findInner", "(IJJI)I"⟩
abbrev cX12_findOuter : ByteArray := prog_14_method_31_code
def yX12_findOuter : MethodName := ⟨RX12, "findOuter", "(III)I"⟩
abbrev cX12_findSession : ByteArray := prog_14_method_32_code
def yX12_findSession : MethodName := ⟨RX12, "findSession", "(III)I"⟩
abbrev cX12_bestPool : ByteArray := prog_14_method_33_code
def yX12_bestPool : MethodName := ⟨RX12, "bestPool", "(JJ)I"⟩
abbrev cX12_makeBinding : ByteArray := prog_14_method_34_code
def yX12_makeBinding : MethodName := ⟨RX12, "makeBinding", "(IJJI)I"⟩
abbrev cX12_makeSession : ByteArray := prog_14_method_35_code
def yX12_makeSession : MethodName := ⟨RX12, "makeSession", "(IIIZ)I"⟩
abbrev cX12_anew : ByteArray := prog_14_method_36_code
def yX12_anew : MethodName := ⟨RX12, "anew", "(I)V"⟩
abbrev cX12_becomes : ByteArray := prog_14_method_37_code
def yX12_becomes : MethodName := ⟨RX12, "becomes", "(II)V"⟩
abbrev cX12_kindOf : ByteArray := prog_14_method_38_code
def yX12_kindOf : MethodName := ⟨RX12, "kindOf", "([BI)I"⟩
abbrev cX12_goesOn : ByteArray := prog_14_method_39_code
def yX12_goesOn : MethodName := ⟨RX12, "goesOn", "(IIZ)V"⟩
abbrev cX12_sweep : ByteArray := prog_14_method_40_code
def yX12_sweep : MethodName := ⟨RX12, "sweep", "()I"⟩
abbrev cX12_dropBinding : ByteArray := prog_14_method_41_code
def yX12_dropBinding : MethodName := ⟨RX12, "dropBinding", "(I)V"⟩
abbrev cX12_tick : ByteArray := prog_14_method_42_code
def yX12_tick : MethodName := ⟨RX12, "tick", "(I)I"⟩
abbrev cX12_drops : ByteArray := prog_14_method_43_code
def yX12_drops : MethodName := ⟨RX12, "drops", "(I)I"⟩
abbrev cX12_isBadPart : ByteArray := prog_14_method_44_code
def yX12_isBadPart : MethodName := ⟨RX12, "isBadPart", "(II)Z"⟩
abbrev cX12_lackOfInside : ByteArray := prog_14_method_45_code
def yX12_lackOfInside : MethodName := ⟨RX12, "lackOfInside", "()I"⟩
abbrev cX12_inside : ByteArray := prog_14_method_46_code
def yX12_inside : MethodName := ⟨RX12, "inside", "(I)I"⟩
abbrev cX12_makeInner : ByteArray := prog_14_method_47_code
def yX12_makeInner : MethodName := ⟨RX12, "makeInner", "(III)V"⟩
abbrev cX12_isError : ByteArray := prog_14_method_48_code
def yX12_isError : MethodName := ⟨RX12, "isError", "()Z"⟩
abbrev cX12_isBadError : ByteArray := prog_14_method_49_code
def yX12_isBadError : MethodName := ⟨RX12, "isBadError", "()Z"⟩
abbrev cX12_lackOfOutside : ByteArray := prog_14_method_50_code
def yX12_lackOfOutside : MethodName := ⟨RX12, "lackOfOutside", "()I"⟩
abbrev cX12_outside : ByteArray := prog_14_method_51_code
def yX12_outside : MethodName := ⟨RX12, "outside", "(I)I"⟩
abbrev cX12_head : ByteArray := prog_14_method_52_code
def yX12_head : MethodName := ⟨RX12, "head", "(III)V"⟩
abbrev cX12_finish : ByteArray := prog_14_method_53_code
def yX12_finish : MethodName := ⟨RX12, "finish", "(I)V"⟩
abbrev cX12_errorCame : ByteArray := prog_14_method_54_code
def yX12_errorCame : MethodName := ⟨RX12, "errorCame", "()I"⟩
abbrev cX12_word : ByteArray := prog_14_method_55_code
def yX12_word : MethodName := ⟨RX12, "word", "(I)I"⟩
abbrev cX12_take : ByteArray := prog_14_method_56_code
def yX12_take : MethodName := ⟨RX12, "take", "()I"⟩
abbrev cX12_bend : ByteArray := prog_14_method_57_code
def yX12_bend : MethodName := ⟨RX12, "bend", "(II)I"⟩
abbrev cX12_sign : ByteArray := prog_14_method_58_code
def yX12_sign : MethodName := ⟨RX12, "sign", "(II)I"⟩
abbrev cX12_signHead : ByteArray := prog_14_method_59_code
def yX12_signHead : MethodName := ⟨RX12, "signHead", "()I"⟩
abbrev cX12_binding : ByteArray := prog_14_method_60_code
def yX12_binding : MethodName := ⟨RX12, "binding", "(II)I"⟩
abbrev cX12_inner : ByteArray := prog_14_method_61_code
def yX12_inner : MethodName := ⟨RX12, "inner", "(IZ)J"⟩
abbrev cX12_session : ByteArray := prog_14_method_62_code
def yX12_session : MethodName := ⟨RX12, "session", "(II)I"⟩
abbrev cX12_count : ByteArray := prog_14_method_63_code
def yX12_count : MethodName := ⟨RX12, "count", "(I)I"⟩
def RJx145de : String := "java/io/Serializable"
def TJx145de : u_T := fun k => match k with
  | _ => ("", "", "", false)
def tyJx145de : Nat → FieldType := fun k => match k with
  | _ => .int
abbrev wsJx145de0 : List Cond := u_ws RJx145de TJx145de 0
theorem nmJx145de : ∀ a, a < 0 → ∀ b, b < 0 → a ≠ b → (TJx145de a).2.1 ≠ (TJx145de b).2.1 := by decide +kernel
theorem tyJx145de_ok : ∀ k, k < 0 → parseFieldDescriptor (TJx145de k).2.2.1 = some (tyJx145de k) := by decide +kernel
def RJx8e188 : String := "java/lang/Cloneable"
def TJx8e188 : u_T := fun k => match k with
  | _ => ("", "", "", false)
def tyJx8e188 : Nat → FieldType := fun k => match k with
  | _ => .int
abbrev wsJx8e1880 : List Cond := u_ws RJx8e188 TJx8e188 0
theorem nmJx8e188 : ∀ a, a < 0 → ∀ b, b < 0 → a ≠ b → (TJx8e188 a).2.1 ≠ (TJx8e188 b).2.1 := by decide +kernel
theorem tyJx8e188_ok : ∀ k, k < 0 → parseFieldDescriptor (TJx8e188 k).2.2.1 = some (tyJx8e188 k) := by decide +kernel
def RJxab1ab : String := "java/lang/Iterable"
def TJxab1ab : u_T := fun k => match k with
  | _ => ("", "", "", false)
def tyJxab1ab : Nat → FieldType := fun k => match k with
  | _ => .int
abbrev wsJxab1ab0 : List Cond := u_ws RJxab1ab TJxab1ab 0
theorem nmJxab1ab : ∀ a, a < 0 → ∀ b, b < 0 → a ≠ b → (TJxab1ab a).2.1 ≠ (TJxab1ab b).2.1 := by decide +kernel
theorem tyJxab1ab_ok : ∀ k, k < 0 → parseFieldDescriptor (TJxab1ab k).2.2.1 = some (tyJxab1ab k) := by decide +kernel
def RJ9 : String := "java/lang/Math"
def TJ9 : u_T := fun k => match k with
  | _ => ("", "", "", false)
def tyJ9 : Nat → FieldType := fun k => match k with
  | _ => .int
abbrev wsJ90 : List Cond := u_ws RJ9 TJ9 0
theorem nmJ9 : ∀ a, a < 0 → ∀ b, b < 0 → a ≠ b → (TJ9 a).2.1 ≠ (TJ9 b).2.1 := by decide +kernel
theorem tyJ9_ok : ∀ k, k < 0 → parseFieldDescriptor (TJ9 k).2.2.1 = some (tyJ9 k) := by decide +kernel
abbrev cJ9_max_7cf53 : ByteArray := prog_18_method_65_code
def yJ9_max_7cf53 : MethodName := ⟨RJ9, "max", "(II)I"⟩
abbrev cJ9_min_7cf53 : ByteArray := prog_18_method_69_code
def yJ9_min_7cf53 : MethodName := ⟨RJ9, "min", "(II)I"⟩
abbrev cJ9_min_f86c9 : ByteArray := prog_18_method_70_code
def yJ9_min_f86c9 : MethodName := ⟨RJ9, "min", "(JJ)J"⟩
def RJ10 : String := "java/lang/System"
def TJ10 : u_T := fun k => match k with
  | _ => ("", "", "", false)
def tyJ10 : Nat → FieldType := fun k => match k with
  | _ => .int
abbrev wsJ100 : List Cond := u_ws RJ10 TJ10 0
theorem nmJ10 : ∀ a, a < 0 → ∀ b, b < 0 → a ≠ b → (TJ10 a).2.1 ≠ (TJ10 b).2.1 := by decide +kernel
theorem tyJ10_ok : ∀ k, k < 0 → parseFieldDescriptor (TJ10 k).2.2.1 = some (tyJ10 k) := by decide +kernel
def RJxa1e45 : String := "java/util/AbstractCollection"
def TJxa1e45 : u_T := fun k => match k with
  | _ => ("", "", "", false)
def tyJxa1e45 : Nat → FieldType := fun k => match k with
  | _ => .int
abbrev wsJxa1e450 : List Cond := u_ws RJxa1e45 TJxa1e45 0
theorem nmJxa1e45 : ∀ a, a < 0 → ∀ b, b < 0 → a ≠ b → (TJxa1e45 a).2.1 ≠ (TJxa1e45 b).2.1 := by decide +kernel
theorem tyJxa1e45_ok : ∀ k, k < 0 → parseFieldDescriptor (TJxa1e45 k).2.2.1 = some (tyJxa1e45 k) := by decide +kernel
abbrev cJxa1e45_init_da8c8 : ByteArray := prog_20_method_1_code
def yJxa1e45_init_da8c8 : MethodName := ⟨RJxa1e45, "<init>", "()V"⟩
def RJxc12de : String := "java/util/AbstractList"
def TJxc12de : u_T := fun k => match k with
  | _ => ("", "", "", false)
def tyJxc12de : Nat → FieldType := fun k => match k with
  | _ => .int
abbrev wsJxc12de0 : List Cond := u_ws RJxc12de TJxc12de 0
theorem nmJxc12de : ∀ a, a < 0 → ∀ b, b < 0 → a ≠ b → (TJxc12de a).2.1 ≠ (TJxc12de b).2.1 := by decide +kernel
theorem tyJxc12de_ok : ∀ k, k < 0 → parseFieldDescriptor (TJxc12de k).2.2.1 = some (tyJxc12de k) := by decide +kernel
abbrev cJxc12de_init_da8c8 : ByteArray := prog_21_method_1_code
def yJxc12de_init_da8c8 : MethodName := ⟨RJxc12de, "<init>", "()V"⟩
def RJx4a65c : String := "java/util/ArrayList"
def TJx4a65c : u_T := fun k => match k with
  | 0 => ("java/util/AbstractList", "modCount", "I", false)
  | 1 => ("java/util/ArrayList", "elementData", "[Ljava/lang/Object;", false)
  | _ => ("java/util/ArrayList", "size", "I", false)
def tyJx4a65c : Nat → FieldType := fun k => match k with
  | 0 => .int
  | 1 => .array (.object "java/lang/Object")
  | _ => .int
abbrev wsJx4a65c0 : List Cond := u_ws RJx4a65c TJx4a65c 3
theorem nmJx4a65c : ∀ a, a < 3 → ∀ b, b < 3 → a ≠ b → (TJx4a65c a).2.1 ≠ (TJx4a65c b).2.1 := by decide +kernel
theorem tyJx4a65c_ok : ∀ k, k < 3 → parseFieldDescriptor (TJx4a65c k).2.2.1 = some (tyJx4a65c k) := by decide +kernel
abbrev cJx4a65c_init_da8c8 : ByteArray := prog_22_method_2_code
def yJx4a65c_init_da8c8 : MethodName := ⟨RJx4a65c, "<init>", "()V"⟩
abbrev cJx4a65c_grow_92f84 : ByteArray := prog_22_method_6_code
def yJx4a65c_grow_92f84 : MethodName := ⟨RJx4a65c, "grow", "(I)[Ljava/lang/Object;"⟩
abbrev cJx4a65c_grow_d5877 : ByteArray := prog_22_method_7_code
def yJx4a65c_grow_d5877 : MethodName := ⟨RJx4a65c, "grow", "()[Ljava/lang/Object;"⟩
abbrev cJx4a65c_size_8abf5 : ByteArray := prog_22_method_8_code
def yJx4a65c_size_8abf5 : MethodName := ⟨RJx4a65c, "size", "()I"⟩
abbrev cJx4a65c_elementData_915e3 : ByteArray := prog_22_method_18_code
def yJx4a65c_elementData_915e3 : MethodName := ⟨RJx4a65c, "elementData", "(I)Ljava/lang/Object;"⟩
abbrev cJx4a65c_get_915e3 : ByteArray := prog_22_method_20_code
def yJx4a65c_get_915e3 : MethodName := ⟨RJx4a65c, "get", "(I)Ljava/lang/Object;"⟩
abbrev cJx4a65c_add_72be8 : ByteArray := prog_22_method_24_code
def yJx4a65c_add_72be8 : MethodName := ⟨RJx4a65c, "add", "(Ljava/lang/Object;[Ljava/lang/Object;I)V"⟩
abbrev cJx4a65c_add_9ea2d : ByteArray := prog_22_method_25_code
def yJx4a65c_add_9ea2d : MethodName := ⟨RJx4a65c, "add", "(Ljava/lang/Object;)Z"⟩
abbrev cJx4a65c_remove_915e3 : ByteArray := prog_22_method_29_code
def yJx4a65c_remove_915e3 : MethodName := ⟨RJx4a65c, "remove", "(I)Ljava/lang/Object;"⟩
abbrev cJx4a65c_fastRemove_b59b0 : ByteArray := prog_22_method_39_code
def yJx4a65c_fastRemove_b59b0 : MethodName := ⟨RJx4a65c, "fastRemove", "([Ljava/lang/Object;I)V"⟩
abbrev cJx4a65c_clear_da8c8 : ByteArray := prog_22_method_40_code
def yJx4a65c_clear_da8c8 : MethodName := ⟨RJx4a65c, "clear", "()V"⟩
def RJ7 : String := "java/util/Arrays"
def TJ7 : u_T := fun k => match k with
  | _ => ("", "", "", false)
def tyJ7 : Nat → FieldType := fun k => match k with
  | _ => .int
abbrev wsJ70 : List Cond := u_ws RJ7 TJ7 0
theorem nmJ7 : ∀ a, a < 0 → ∀ b, b < 0 → a ≠ b → (TJ7 a).2.1 ≠ (TJ7 b).2.1 := by decide +kernel
theorem tyJ7_ok : ∀ k, k < 0 → parseFieldDescriptor (TJ7 k).2.2.1 = some (tyJ7 k) := by decide +kernel
abbrev cJ7_copyOf_1904c : ByteArray := prog_23_method_119_code
def yJ7_copyOf_1904c : MethodName := ⟨RJ7, "copyOf", "([Ljava/lang/Object;I)[Ljava/lang/Object;"⟩
abbrev cJ7_copyOf_6403c : ByteArray := prog_23_method_120_code
def yJ7_copyOf_6403c : MethodName := ⟨RJ7, "copyOf", "([Ljava/lang/Object;ILjava/lang/Class;)[Ljava/lang/Object;"⟩
def RJx5ef63 : String := "java/util/Collection"
def TJx5ef63 : u_T := fun k => match k with
  | _ => ("", "", "", false)
def tyJx5ef63 : Nat → FieldType := fun k => match k with
  | _ => .int
abbrev wsJx5ef630 : List Cond := u_ws RJx5ef63 TJx5ef63 0
theorem nmJx5ef63 : ∀ a, a < 0 → ∀ b, b < 0 → a ≠ b → (TJx5ef63 a).2.1 ≠ (TJx5ef63 b).2.1 := by decide +kernel
theorem tyJx5ef63_ok : ∀ k, k < 0 → parseFieldDescriptor (TJx5ef63 k).2.2.1 = some (tyJx5ef63 k) := by decide +kernel
def RJxbd725 : String := "java/util/List"
def TJxbd725 : u_T := fun k => match k with
  | _ => ("", "", "", false)
def tyJxbd725 : Nat → FieldType := fun k => match k with
  | _ => .int
abbrev wsJxbd7250 : List Cond := u_ws RJxbd725 TJxbd725 0
theorem nmJxbd725 : ∀ a, a < 0 → ∀ b, b < 0 → a ≠ b → (TJxbd725 a).2.1 ≠ (TJxbd725 b).2.1 := by decide +kernel
theorem tyJxbd725_ok : ∀ k, k < 0 → parseFieldDescriptor (TJxbd725 k).2.2.1 = some (tyJxbd725 k) := by decide +kernel
def RJ15 : String := "java/util/Objects"
def TJ15 : u_T := fun k => match k with
  | _ => ("", "", "", false)
def tyJ15 : Nat → FieldType := fun k => match k with
  | _ => .int
abbrev wsJ150 : List Cond := u_ws RJ15 TJ15 0
theorem nmJ15 : ∀ a, a < 0 → ∀ b, b < 0 → a ≠ b → (TJ15 a).2.1 ≠ (TJ15 b).2.1 := by decide +kernel
theorem tyJ15_ok : ∀ k, k < 0 → parseFieldDescriptor (TJ15 k).2.2.1 = some (tyJ15 k) := by decide +kernel
abbrev cJ15_checkIndex_7cf53 : ByteArray := prog_26_method_17_code
def yJ15_checkIndex_7cf53 : MethodName := ⟨RJ15, "checkIndex", "(II)I"⟩
def RJxf0a74 : String := "java/util/RandomAccess"
def TJxf0a74 : u_T := fun k => match k with
  | _ => ("", "", "", false)
def tyJxf0a74 : Nat → FieldType := fun k => match k with
  | _ => .int
abbrev wsJxf0a740 : List Cond := u_ws RJxf0a74 TJxf0a74 0
theorem nmJxf0a74 : ∀ a, a < 0 → ∀ b, b < 0 → a ≠ b → (TJxf0a74 a).2.1 ≠ (TJxf0a74 b).2.1 := by decide +kernel
theorem tyJxf0a74_ok : ∀ k, k < 0 → parseFieldDescriptor (TJxf0a74 k).2.2.1 = some (tyJxf0a74 k) := by decide +kernel
def RJxa66e6 : String := "java/util/SequencedCollection"
def TJxa66e6 : u_T := fun k => match k with
  | _ => ("", "", "", false)
def tyJxa66e6 : Nat → FieldType := fun k => match k with
  | _ => .int
abbrev wsJxa66e60 : List Cond := u_ws RJxa66e6 TJxa66e6 0
theorem nmJxa66e6 : ∀ a, a < 0 → ∀ b, b < 0 → a ≠ b → (TJxa66e6 a).2.1 ≠ (TJxa66e6 b).2.1 := by decide +kernel
theorem tyJxa66e6_ok : ∀ k, k < 0 → parseFieldDescriptor (TJxa66e6 k).2.2.1 = some (tyJxa66e6 k) := by decide +kernel
def RJ8 : String := "jdk/internal/util/ArraysSupport"
def TJ8 : u_T := fun k => match k with
  | _ => ("", "", "", false)
def tyJ8 : Nat → FieldType := fun k => match k with
  | _ => .int
abbrev wsJ80 : List Cond := u_ws RJ8 TJ8 0
theorem nmJ8 : ∀ a, a < 0 → ∀ b, b < 0 → a ≠ b → (TJ8 a).2.1 ≠ (TJ8 b).2.1 := by decide +kernel
theorem tyJ8_ok : ∀ k, k < 0 → parseFieldDescriptor (TJ8 k).2.2.1 = some (tyJ8 k) := by decide +kernel
abbrev cJ8_newLength_cabcc : ByteArray := prog_29_method_27_code
def yJ8_newLength_cabcc : MethodName := ⟨RJ8, "newLength", "(III)I"⟩
abbrev cJ8_hugeLength_7cf53 : ByteArray := prog_29_method_28_code
def yJ8_hugeLength_7cf53 : MethodName := ⟨RJ8, "hugeLength", "(II)I"⟩
def RJ3 : String := "jdk/internal/util/Preconditions"
def TJ3 : u_T := fun k => match k with
  | _ => ("", "", "", false)
def tyJ3 : Nat → FieldType := fun k => match k with
  | _ => .int
abbrev wsJ30 : List Cond := u_ws RJ3 TJ3 0
theorem nmJ3 : ∀ a, a < 0 → ∀ b, b < 0 → a ≠ b → (TJ3 a).2.1 ≠ (TJ3 b).2.1 := by decide +kernel
theorem tyJ3_ok : ∀ k, k < 0 → parseFieldDescriptor (TJ3 k).2.2.1 = some (tyJ3 k) := by decide +kernel
abbrev cJ3_checkIndex_8e157 : ByteArray := prog_30_method_11_code
def yJ3_checkIndex_8e157 : MethodName := ⟨RJ3, "checkIndex", "(IILjava/util/function/BiFunction;)I"⟩
def RL : String := "TransitGateLaw"
abbrev cL_law : ByteArray := code
def yL_law : MethodName := ⟨RL, "law", "([I)Z"⟩
abbrev vwCl : List vw_C := [(RJx4a65c, TJx4a65c, 3), (RX0, TX0, 6), (RX1, TX1, 2), (RX2, TX2, 6), (RX5, TX5, 2), (RX7, TX7, 5), (RX8, TX8, 4), (RX10, TX10, 3), (RX11, TX11, 8), (RX12, TX12, 28)]
