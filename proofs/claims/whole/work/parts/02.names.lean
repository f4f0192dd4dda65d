def RX0 : String := "HopYard$Allotment"
def TX0 : u_T := fun k => match k with
  | 0 => ("HopYard$Allotment", "rates", "[I", true)
  | 1 => ("HopYard$Allotment", "places", "[I", true)
  | 2 => ("HopYard$Allotment", "worth", "[I", true)
  | _ => ("HopYard$Allotment", "sets", "I", false)
def tyX0 : Nat → FieldType := fun k => match k with
  | 0 => .array .int
  | 1 => .array .int
  | 2 => .array .int
  | _ => .int
theorem nmX0 : ∀ a, a < 4 → ∀ b, b < 4 → a ≠ b → (TX0 a).2.1 ≠ (TX0 b).2.1 := by decide +kernel
theorem tyX0_ok : ∀ k, k < 4 → parseFieldDescriptor (TX0 k).2.2.1 = some (tyX0 k) := by decide +kernel
abbrev cX0_init : ByteArray := prog_2_method_1_code
def yX0_init : MethodName := ⟨RX0, "<init>", "()V"⟩
abbrev cX0_begin : ByteArray := prog_2_method_2_code
def yX0_begin : MethodName := ⟨RX0, "begin", "(Ljava/util/ArrayList;)V"⟩
abbrev cX0_addGang : ByteArray := prog_2_method_3_code
def yX0_addGang : MethodName := ⟨RX0, "addGang", "(II)V"⟩
abbrev cX0_offer : ByteArray := prog_2_method_4_code
def yX0_offer : MethodName := ⟨RX0, "offer", "(II)V"⟩
abbrev cX0_bushels : ByteArray := prog_2_method_5_code
def yX0_bushels : MethodName := ⟨RX0, "bushels", "()I"⟩
abbrev cX0_number : ByteArray := prog_2_method_6_code
def yX0_number : MethodName := ⟨RX0, "number", "()I"⟩
def RX1 : String := "HopYard$Doubled"
def TX1 : u_T := fun k => match k with
  | _ => ("", "", "", false)
def tyX1 : Nat → FieldType := fun k => match k with
  | _ => .int
theorem nmX1 : ∀ a, a < 0 → ∀ b, b < 0 → a ≠ b → (TX1 a).2.1 ≠ (TX1 b).2.1 := by decide +kernel
theorem tyX1_ok : ∀ k, k < 0 → parseFieldDescriptor (TX1 k).2.2.1 = some (tyX1 k) := by decide +kernel
abbrev cX1_init : ByteArray := prog_3_method_1_code
def yX1_init : MethodName := ⟨RX1, "<init>", "()V"⟩
abbrev cX1_dries : ByteArray := prog_3_method_2_code
def yX1_dries : MethodName := ⟨RX1, "dries", "(I)I"⟩
abbrev cX1_marks : ByteArray := prog_3_method_3_code
def yX1_marks : MethodName := ⟨RX1, "marks", "()I"⟩
def RX2 : String := "HopYard$Draught"
def TX2 : u_T := fun k => match k with
  | _ => ("", "", "", false)
def tyX2 : Nat → FieldType := fun k => match k with
  | _ => .int
theorem nmX2 : ∀ a, a < 0 → ∀ b, b < 0 → a ≠ b → (TX2 a).2.1 ≠ (TX2 b).2.1 := by decide +kernel
theorem tyX2_ok : ∀ k, k < 0 → parseFieldDescriptor (TX2 k).2.2.1 = some (tyX2 k) := by decide +kernel
abbrev cX2_init : ByteArray := prog_4_method_1_code
def yX2_init : MethodName := ⟨RX2, "<init>", "()V"⟩
abbrev cX2_dries : ByteArray := prog_4_method_2_code
def yX2_dries : MethodName := ⟨RX2, "dries", "(I)I"⟩
abbrev cX2_marks : ByteArray := prog_4_method_3_code
def yX2_marks : MethodName := ⟨RX2, "marks", "()I"⟩
def RX3 : String := "HopYard$Gang"
def TX3 : u_T := fun k => match k with
  | 0 => ("HopYard$Gang", "rate", "I", true)
  | 1 => ("HopYard$Gang", "measure", "I", true)
  | 2 => ("HopYard$Gang", "at", "I", false)
  | 3 => ("HopYard$Gang", "picked", "I", false)
  | 4 => ("HopYard$Gang", "told", "I", false)
  | _ => ("HopYard$Gang", "pay", "I", false)
def tyX3 : Nat → FieldType := fun k => match k with
  | 0 => .int
  | 1 => .int
  | 2 => .int
  | 3 => .int
  | 4 => .int
  | _ => .int
theorem nmX3 : ∀ a, a < 6 → ∀ b, b < 6 → a ≠ b → (TX3 a).2.1 ≠ (TX3 b).2.1 := by decide +kernel
theorem tyX3_ok : ∀ k, k < 6 → parseFieldDescriptor (TX3 k).2.2.1 = some (tyX3 k) := by decide +kernel
abbrev cX3_init : ByteArray := prog_5_method_1_code
def yX3_init : MethodName := ⟨RX3, "<init>", "(II)V"⟩
abbrev cX3_enter : ByteArray := prog_5_method_2_code
def yX3_enter : MethodName := ⟨RX3, "enter", "(II)V"⟩
def RX4 : String := "HopYard$Garden"
def TX4 : u_T := fun k => match k with
  | 0 => ("HopYard$Garden", "from", "I", true)
  | 1 => ("HopYard$Garden", "to", "I", true)
  | 2 => ("HopYard$Garden", "left", "I", false)
  | 3 => ("HopYard$Garden", "picked", "I", false)
  | 4 => ("HopYard$Garden", "lost", "I", false)
  | _ => ("HopYard$Garden", "dried", "I", false)
def tyX4 : Nat → FieldType := fun k => match k with
  | 0 => .int
  | 1 => .int
  | 2 => .int
  | 3 => .int
  | 4 => .int
  | _ => .int
theorem nmX4 : ∀ a, a < 6 → ∀ b, b < 6 → a ≠ b → (TX4 a).2.1 ≠ (TX4 b).2.1 := by decide +kernel
theorem tyX4_ok : ∀ k, k < 6 → parseFieldDescriptor (TX4 k).2.2.1 = some (tyX4 k) := by decide +kernel
abbrev cX4_init : ByteArray := prog_6_method_1_code
def yX4_init : MethodName := ⟨RX4, "<init>", "(III)V"⟩
abbrev cX4_isRipe : ByteArray := prog_6_method_2_code
def yX4_isRipe : MethodName := ⟨RX4, "isRipe", "(I)Z"⟩
abbrev cX4_yields : ByteArray := prog_6_method_3_code
def yX4_yields : MethodName := ⟨RX4, "yields", "(I)I"⟩
def RX5 : String := "HopYard$GreenHops"
def TX5 : u_T := fun k => match k with
  | 0 => ("HopYard$GreenHops", "bushels", "[I", true)
  | _ => ("HopYard$GreenHops", "inAll", "I", false)
def tyX5 : Nat → FieldType := fun k => match k with
  | 0 => .array .int
  | _ => .int
theorem nmX5 : ∀ a, a < 2 → ∀ b, b < 2 → a ≠ b → (TX5 a).2.1 ≠ (TX5 b).2.1 := by decide +kernel
theorem tyX5_ok : ∀ k, k < 2 → parseFieldDescriptor (TX5 k).2.2.1 = some (tyX5 k) := by decide +kernel
abbrev cX5_init : ByteArray := prog_7_method_1_code
def yX5_init : MethodName := ⟨RX5, "<init>", "()V"⟩
abbrev cX5_place : ByteArray := prog_7_method_2_code
def yX5_place : MethodName := ⟨RX5, "place", "(II)I"⟩
abbrev cX5_lay : ByteArray := prog_7_method_3_code
def yX5_lay : MethodName := ⟨RX5, "lay", "(III)V"⟩
abbrev cX5_give : ByteArray := prog_7_method_4_code
def yX5_give : MethodName := ⟨RX5, "give", "(III)I"⟩
abbrev cX5_ofHour : ByteArray := prog_7_method_5_code
def yX5_ofHour : MethodName := ⟨RX5, "ofHour", "(I)I"⟩
abbrev cX5_ofGarden : ByteArray := prog_7_method_6_code
def yX5_ofGarden : MethodName := ⟨RX5, "ofGarden", "(I)I"⟩
def RX6 : String := "HopYard$Kiln"
def TX6 : u_T := fun k => match k with
  | 0 => ("HopYard$Kiln", "kind", "LHopYard$Plain;", true)
  | 1 => ("HopYard$Kiln", "room", "I", true)
  | 2 => ("HopYard$Kiln", "lotGarden", "[I", true)
  | 3 => ("HopYard$Kiln", "lotBushels", "[I", true)
  | 4 => ("HopYard$Kiln", "lots", "I", false)
  | 5 => ("HopYard$Kiln", "bushels", "I", false)
  | 6 => ("HopYard$Kiln", "share", "I", false)
  | _ => ("HopYard$Kiln", "reading", "I", false)
def tyX6 : Nat → FieldType := fun k => match k with
  | 0 => .object "HopYard$Plain"
  | 1 => .int
  | 2 => .array .int
  | 3 => .array .int
  | 4 => .int
  | 5 => .int
  | 6 => .int
  | _ => .int
theorem nmX6 : ∀ a, a < 8 → ∀ b, b < 8 → a ≠ b → (TX6 a).2.1 ≠ (TX6 b).2.1 := by decide +kernel
theorem tyX6_ok : ∀ k, k < 8 → parseFieldDescriptor (TX6 k).2.2.1 = some (tyX6 k) := by decide +kernel
abbrev cX6_init : ByteArray := prog_8_method_1_code
def yX6_init : MethodName := ⟨RX6, "<init>", "(LHopYard$Plain;I)V"⟩
abbrev cX6_isEmpty : ByteArray := prog_8_method_2_code
def yX6_isEmpty : MethodName := ⟨RX6, "isEmpty", "()Z"⟩
abbrev cX6_free : ByteArray := prog_8_method_3_code
def yX6_free : MethodName := ⟨RX6, "free", "()I"⟩
abbrev cX6_take : ByteArray := prog_8_method_4_code
def yX6_take : MethodName := ⟨RX6, "take", "(II)V"⟩
abbrev cX6_clear : ByteArray := prog_8_method_5_code
def yX6_clear : MethodName := ⟨RX6, "clear", "()V"⟩
abbrev cX6_ofGarden : ByteArray := prog_8_method_6_code
def yX6_ofGarden : MethodName := ⟨RX6, "ofGarden", "(I)I"⟩
abbrev cX6_gardenBits : ByteArray := prog_8_method_7_code
def yX6_gardenBits : MethodName := ⟨RX6, "gardenBits", "()I"⟩
abbrev cX6_bears : ByteArray := prog_8_method_8_code
def yX6_bears : MethodName := ⟨RX6, "bears", "()I"⟩
def RX7 : String := "HopYard$Notices"
def TX7 : u_T := fun k => match k with
  | 0 => ("HopYard$Notices", "from", "[I", true)
  | 1 => ("HopYard$Notices", "number", "[I", true)
  | 2 => ("HopYard$Notices", "first", "I", true)
  | _ => ("HopYard$Notices", "count", "I", false)
def tyX7 : Nat → FieldType := fun k => match k with
  | 0 => .array .int
  | 1 => .array .int
  | 2 => .int
  | _ => .int
theorem nmX7 : ∀ a, a < 4 → ∀ b, b < 4 → a ≠ b → (TX7 a).2.1 ≠ (TX7 b).2.1 := by decide +kernel
theorem tyX7_ok : ∀ k, k < 4 → parseFieldDescriptor (TX7 k).2.2.1 = some (tyX7 k) := by decide +kernel
abbrev cX7_init : ByteArray := prog_9_method_1_code
def yX7_init : MethodName := ⟨RX7, "<init>", "(I)V"⟩
abbrev cX7_tell : ByteArray := prog_9_method_2_code
def yX7_tell : MethodName := ⟨RX7, "tell", "(II)Z"⟩
abbrev cX7_inForce : ByteArray := prog_9_method_3_code
def yX7_inForce : MethodName := ⟨RX7, "inForce", "(I)I"⟩
def RX8 : String := "HopYard$Plain"
def TX8 : u_T := fun k => match k with
  | _ => ("", "", "", false)
def tyX8 : Nat → FieldType := fun k => match k with
  | _ => .int
theorem nmX8 : ∀ a, a < 0 → ∀ b, b < 0 → a ≠ b → (TX8 a).2.1 ≠ (TX8 b).2.1 := by decide +kernel
theorem tyX8_ok : ∀ k, k < 0 → parseFieldDescriptor (TX8 k).2.2.1 = some (tyX8 k) := by decide +kernel
abbrev cX8_init : ByteArray := prog_10_method_1_code
def yX8_init : MethodName := ⟨RX8, "<init>", "()V"⟩
abbrev cX8_dries : ByteArray := prog_10_method_2_code
def yX8_dries : MethodName := ⟨RX8, "dries", "(I)I"⟩
abbrev cX8_marks : ByteArray := prog_10_method_3_code
def yX8_marks : MethodName := ⟨RX8, "marks", "()I"⟩
def RX9 : String := "HopYard$Press"
def TX9 : u_T := fun k => match k with
  | 0 => ("HopYard$Press", "gardens", "[I", true)
  | 1 => ("HopYard$Press", "days", "[I", true)
  | 2 => ("HopYard$Press", "pressed", "I", false)
  | 3 => ("HopYard$Press", "loose", "I", false)
  | _ => ("HopYard$Press", "looseGardens", "I", false)
def tyX9 : Nat → FieldType := fun k => match k with
  | 0 => .array .int
  | 1 => .array .int
  | 2 => .int
  | 3 => .int
  | _ => .int
theorem nmX9 : ∀ a, a < 5 → ∀ b, b < 5 → a ≠ b → (TX9 a).2.1 ≠ (TX9 b).2.1 := by decide +kernel
theorem tyX9_ok : ∀ k, k < 5 → parseFieldDescriptor (TX9 k).2.2.1 = some (tyX9 k) := by decide +kernel
abbrev cX9_init : ByteArray := prog_11_method_1_code
def yX9_init : MethodName := ⟨RX9, "<init>", "()V"⟩
abbrev cX9_led : ByteArray := prog_11_method_2_code
def yX9_led : MethodName := ⟨RX9, "led", "()I"⟩
abbrev cX9_lay : ByteArray := prog_11_method_3_code
def yX9_lay : MethodName := ⟨RX9, "lay", "(III)V"⟩
abbrev cX9_pressOne : ByteArray := prog_11_method_4_code
def yX9_pressOne : MethodName := ⟨RX9, "pressOne", "(I)V"⟩
def RX10 : String := "HopYard"
def TX10 : u_T := fun k => match k with
  | 0 => ("HopYard", "gardens", "Ljava/util/ArrayList;", true)
  | 1 => ("HopYard", "gangs", "Ljava/util/ArrayList;", true)
  | 2 => ("HopYard", "kilns", "Ljava/util/ArrayList;", true)
  | 3 => ("HopYard", "greenHops", "LHopYard$GreenHops;", true)
  | 4 => ("HopYard", "press", "LHopYard$Press;", true)
  | 5 => ("HopYard", "prices", "LHopYard$Notices;", true)
  | 6 => ("HopYard", "duties", "LHopYard$Notices;", true)
  | 7 => ("HopYard", "allotment", "LHopYard$Allotment;", true)
  | 8 => ("HopYard", "now", "I", false)
  | 9 => ("HopYard", "wait", "I", false)
  | _ => ("HopYard", "traced", "J", false)
def tyX10 : Nat → FieldType := fun k => match k with
  | 0 => .object "java/util/ArrayList"
  | 1 => .object "java/util/ArrayList"
  | 2 => .object "java/util/ArrayList"
  | 3 => .object "HopYard$GreenHops"
  | 4 => .object "HopYard$Press"
  | 5 => .object "HopYard$Notices"
  | 6 => .object "HopYard$Notices"
  | 7 => .object "HopYard$Allotment"
  | 8 => .int
  | 9 => .int
  | _ => .long
theorem nmX10 : ∀ a, a < 11 → ∀ b, b < 11 → a ≠ b → (TX10 a).2.1 ≠ (TX10 b).2.1 := by decide +kernel
theorem tyX10_ok : ∀ k, k < 11 → parseFieldDescriptor (TX10 k).2.2.1 = some (tyX10 k) := by decide +kernel
abbrev cX10_init : ByteArray := prog_1_method_1_code
def yX10_init : MethodName := ⟨RX10, "<init>", "()V"⟩
abbrev cX10_garden : ByteArray := prog_1_method_2_code
def yX10_garden : MethodName := ⟨RX10, "garden", "(III)I"⟩
abbrev cX10_gang : ByteArray := prog_1_method_3_code
def yX10_gang : MethodName := ⟨RX10, "gang", "(II)I"⟩
abbrev cX10_sends : ByteArray := prog_1_method_4_code
def yX10_sends : MethodName := ⟨RX10, "sends", "(II)I"⟩
abbrev cX10_kiln : ByteArray := prog_1_method_5_code
def yX10_kiln : MethodName := ⟨RX10, "kiln", "(II)I"⟩
abbrev cX10_read : ByteArray := prog_1_method_6_code
def yX10_read : MethodName := ⟨RX10, "read", "(II)I"⟩
abbrev cX10_drying : ByteArray := prog_1_method_7_code
def yX10_drying : MethodName := ⟨RX10, "drying", "(II)I"⟩
abbrev cX10_waits : ByteArray := prog_1_method_8_code
def yX10_waits : MethodName := ⟨RX10, "waits", "(I)I"⟩
abbrev cX10_hours : ByteArray := prog_1_method_9_code
def yX10_hours : MethodName := ⟨RX10, "hours", "(I)I"⟩
abbrev cX10_about : ByteArray := prog_1_method_10_code
def yX10_about : MethodName := ⟨RX10, "about", "(II)I"⟩
abbrev cX10_tally : ByteArray := prog_1_method_11_code
def yX10_tally : MethodName := ⟨RX10, "tally", "(II)I"⟩
abbrev cX10_in : ByteArray := prog_1_method_12_code
def yX10_in : MethodName := ⟨RX10, "in", "(II)I"⟩
abbrev cX10_green : ByteArray := prog_1_method_13_code
def yX10_green : MethodName := ⟨RX10, "green", "(I)I"⟩
abbrev cX10_pocket : ByteArray := prog_1_method_14_code
def yX10_pocket : MethodName := ⟨RX10, "pocket", "(II)I"⟩
abbrev cX10_count : ByteArray := prog_1_method_15_code
def yX10_count : MethodName := ⟨RX10, "count", "(I)I"⟩
abbrev cX10_price : ByteArray := prog_1_method_16_code
def yX10_price : MethodName := ⟨RX10, "price", "(II)I"⟩
abbrev cX10_priced : ByteArray := prog_1_method_17_code
def yX10_priced : MethodName := ⟨RX10, "priced", "(I)I"⟩
abbrev cX10_act : ByteArray := prog_1_method_18_code
def yX10_act : MethodName := ⟨RX10, "act", "(II)I"⟩
abbrev cX10_duty : ByteArray := prog_1_method_19_code
def yX10_duty : MethodName := ⟨RX10, "duty", "(I)I"⟩
abbrev cX10_bound : ByteArray := prog_1_method_20_code
def yX10_bound : MethodName := ⟨RX10, "bound", "()I"⟩
abbrev cX10_most : ByteArray := prog_1_method_21_code
def yX10_most : MethodName := ⟨RX10, "most", "(II)I"⟩
abbrev cX10_trace : ByteArray := prog_1_method_22_code
def yX10_trace : MethodName := ⟨RX10, "trace", "()J"⟩
abbrev cX10_passHour : ByteArray := prog_1_method_23_code
def yX10_passHour : MethodName := ⟨RX10, "passHour", "()V"⟩
abbrev cX10_pickHour : ByteArray := prog_1_method_24_code
def yX10_pickHour : MethodName := ⟨RX10, "pickHour", "()V"⟩
abbrev cX10_dryHour : ByteArray := prog_1_method_25_code
def yX10_dryHour : MethodName := ⟨RX10, "dryHour", "()V"⟩
abbrev cX10_unload : ByteArray := prog_1_method_26_code
def yX10_unload : MethodName := ⟨RX10, "unload", "(LHopYard$Kiln;)V"⟩
abbrev cX10_loseHour : ByteArray := prog_1_method_27_code
def yX10_loseHour : MethodName := ⟨RX10, "loseHour", "()V"⟩
abbrev cX10_fillHour : ByteArray := prog_1_method_28_code
def yX10_fillHour : MethodName := ⟨RX10, "fillHour", "()V"⟩
abbrev cX10_fill : ByteArray := prog_1_method_29_code
def yX10_fill : MethodName := ⟨RX10, "fill", "(LHopYard$Kiln;)V"⟩
abbrev cX10_inKilnsOf : ByteArray := prog_1_method_30_code
def yX10_inKilnsOf : MethodName := ⟨RX10, "inKilnsOf", "(I)I"⟩
abbrev cX10_chargedInAll : ByteArray := prog_1_method_31_code
def yX10_chargedInAll : MethodName := ⟨RX10, "chargedInAll", "()I"⟩
abbrev cX10_lostInAll : ByteArray := prog_1_method_32_code
def yX10_lostInAll : MethodName := ⟨RX10, "lostInAll", "()I"⟩
abbrev cX10_payInAll : ByteArray := prog_1_method_33_code
def yX10_payInAll : MethodName := ⟨RX10, "payInAll", "()I"⟩
abbrev cX10_gardenOf : ByteArray := prog_1_method_34_code
def yX10_gardenOf : MethodName := ⟨RX10, "gardenOf", "(I)LHopYard$Garden;"⟩
abbrev cX10_gangOf : ByteArray := prog_1_method_35_code
def yX10_gangOf : MethodName := ⟨RX10, "gangOf", "(I)LHopYard$Gang;"⟩
abbrev cX10_kilnOf : ByteArray := prog_1_method_36_code
def yX10_kilnOf : MethodName := ⟨RX10, "kilnOf", "(I)LHopYard$Kiln;"⟩
abbrev cX10_kindOf : ByteArray := prog_1_method_37_code
def yX10_kindOf : MethodName := ⟨RX10, "kindOf", "(I)LHopYard$Plain;"⟩
abbrev cX10_within : ByteArray := prog_1_method_38_code
def yX10_within : MethodName := ⟨RX10, "within", "(III)Z"⟩
def RX11 : String := "HopYardModel"
def TX11 : u_T := fun k => match k with
  | 0 => ("HopYardModel", "now", "I", false)
  | 1 => ("HopYardModel", "wait", "I", false)
  | 2 => ("HopYardModel", "gardens", "I", false)
  | 3 => ("HopYardModel", "left", "[I", true)
  | 4 => ("HopYardModel", "ripeFrom", "[I", true)
  | 5 => ("HopYardModel", "ripeTo", "[I", true)
  | 6 => ("HopYardModel", "picked", "[I", true)
  | 7 => ("HopYardModel", "lost", "[I", true)
  | 8 => ("HopYardModel", "dried", "[I", true)
  | 9 => ("HopYardModel", "gangs", "I", false)
  | 10 => ("HopYardModel", "rate", "[I", true)
  | 11 => ("HopYardModel", "measure", "[I", true)
  | 12 => ("HopYardModel", "place", "[I", true)
  | 13 => ("HopYardModel", "gangPicked", "[I", true)
  | 14 => ("HopYardModel", "gangTold", "[I", true)
  | 15 => ("HopYardModel", "gangPay", "[I", true)
  | 16 => ("HopYardModel", "green", "[I", true)
  | 17 => ("HopYardModel", "kilns", "I", false)
  | 18 => ("HopYardModel", "kind", "[I", true)
  | 19 => ("HopYardModel", "room", "[I", true)
  | 20 => ("HopYardModel", "reading", "[I", true)
  | 21 => ("HopYardModel", "share", "[I", true)
  | 22 => ("HopYardModel", "filled", "[I", true)
  | 23 => ("HopYardModel", "bushel", "[I", true)
  | 24 => ("HopYardModel", "pockets", "I", false)
  | 25 => ("HopYardModel", "pocketGardens", "[I", true)
  | 26 => ("HopYardModel", "pocketDay", "[I", true)
  | 27 => ("HopYardModel", "loose", "I", false)
  | 28 => ("HopYardModel", "looseGardens", "I", false)
  | 29 => ("HopYardModel", "prices", "I", false)
  | 30 => ("HopYardModel", "priceHour", "[I", true)
  | 31 => ("HopYardModel", "priceOf", "[I", true)
  | 32 => ("HopYardModel", "acts", "I", false)
  | 33 => ("HopYardModel", "actDay", "[I", true)
  | 34 => ("HopYardModel", "actDuty", "[I", true)
  | 35 => ("HopYardModel", "trace", "J", false)
  | _ => ("HopYardModel", "together", "[I", true)
def tyX11 : Nat → FieldType := fun k => match k with
  | 0 => .int
  | 1 => .int
  | 2 => .int
  | 3 => .array .int
  | 4 => .array .int
  | 5 => .array .int
  | 6 => .array .int
  | 7 => .array .int
  | 8 => .array .int
  | 9 => .int
  | 10 => .array .int
  | 11 => .array .int
  | 12 => .array .int
  | 13 => .array .int
  | 14 => .array .int
  | 15 => .array .int
  | 16 => .array .int
  | 17 => .int
  | 18 => .array .int
  | 19 => .array .int
  | 20 => .array .int
  | 21 => .array .int
  | 22 => .array .int
  | 23 => .array .int
  | 24 => .int
  | 25 => .array .int
  | 26 => .array .int
  | 27 => .int
  | 28 => .int
  | 29 => .int
  | 30 => .array .int
  | 31 => .array .int
  | 32 => .int
  | 33 => .array .int
  | 34 => .array .int
  | 35 => .long
  | _ => .array .int
theorem nmX11 : ∀ a, a < 37 → ∀ b, b < 37 → a ≠ b → (TX11 a).2.1 ≠ (TX11 b).2.1 := by decide +kernel
theorem tyX11_ok : ∀ k, k < 37 → parseFieldDescriptor (TX11 k).2.2.1 = some (tyX11 k) := by decide +kernel
abbrev cX11_init : ByteArray := prog_13_method_1_code
def yX11_init : MethodName := ⟨RX11, "<init>", "()V"⟩
abbrev cX11_isIn : ByteArray := prog_13_method_3_code
def yX11_isIn : MethodName := ⟨RX11, "isIn", "(III)Z"⟩
abbrev cX11_isGarden : ByteArray := prog_13_method_4_code
def yX11_isGarden : MethodName := ⟨RX11, "isGarden", "(I)Z"⟩
abbrev cX11_isGang : ByteArray := prog_13_method_5_code
def yX11_isGang : MethodName := ⟨RX11, "isGang", "(I)Z"⟩
abbrev cX11_isKiln : ByteArray := prog_13_method_6_code
def yX11_isKiln : MethodName := ⟨RX11, "isKiln", "(I)Z"⟩
abbrev cX11_garden : ByteArray := prog_13_method_7_code
def yX11_garden : MethodName := ⟨RX11, "garden", "(III)I"⟩
abbrev cX11_gang : ByteArray := prog_13_method_8_code
def yX11_gang : MethodName := ⟨RX11, "gang", "(II)I"⟩
abbrev cX11_sends : ByteArray := prog_13_method_9_code
def yX11_sends : MethodName := ⟨RX11, "sends", "(II)I"⟩
abbrev cX11_kiln : ByteArray := prog_13_method_10_code
def yX11_kiln : MethodName := ⟨RX11, "kiln", "(II)I"⟩
abbrev cX11_read : ByteArray := prog_13_method_11_code
def yX11_read : MethodName := ⟨RX11, "read", "(II)I"⟩
abbrev cX11_dryingBy : ByteArray := prog_13_method_12_code
def yX11_dryingBy : MethodName := ⟨RX11, "dryingBy", "(II)I"⟩
abbrev cX11_drying : ByteArray := prog_13_method_13_code
def yX11_drying : MethodName := ⟨RX11, "drying", "(II)I"⟩
abbrev cX11_waits : ByteArray := prog_13_method_14_code
def yX11_waits : MethodName := ⟨RX11, "waits", "(I)I"⟩
abbrev cX11_priceAt : ByteArray := prog_13_method_15_code
def yX11_priceAt : MethodName := ⟨RX11, "priceAt", "(I)I"⟩
abbrev cX11_dutyOn : ByteArray := prog_13_method_16_code
def yX11_dutyOn : MethodName := ⟨RX11, "dutyOn", "(I)I"⟩
abbrev cX11_isRipe : ByteArray := prog_13_method_17_code
def yX11_isRipe : MethodName := ⟨RX11, "isRipe", "(II)Z"⟩
abbrev cX11_picks : ByteArray := prog_13_method_18_code
def yX11_picks : MethodName := ⟨RX11, "picks", "(I)V"⟩
abbrev cX11_presses : ByteArray := prog_13_method_19_code
def yX11_presses : MethodName := ⟨RX11, "presses", "(I)V"⟩
abbrev cX11_dries : ByteArray := prog_13_method_20_code
def yX11_dries : MethodName := ⟨RX11, "dries", "(I)V"⟩
abbrev cX11_spoils : ByteArray := prog_13_method_21_code
def yX11_spoils : MethodName := ⟨RX11, "spoils", "()V"⟩
abbrev cX11_takes : ByteArray := prog_13_method_22_code
def yX11_takes : MethodName := ⟨RX11, "takes", "(I)V"⟩
abbrev cX11_oneHour : ByteArray := prog_13_method_23_code
def yX11_oneHour : MethodName := ⟨RX11, "oneHour", "()V"⟩
abbrev cX11_hours : ByteArray := prog_13_method_24_code
def yX11_hours : MethodName := ⟨RX11, "hours", "(I)I"⟩
abbrev cX11_greenOf : ByteArray := prog_13_method_25_code
def yX11_greenOf : MethodName := ⟨RX11, "greenOf", "(I)I"⟩
abbrev cX11_inKilns : ByteArray := prog_13_method_26_code
def yX11_inKilns : MethodName := ⟨RX11, "inKilns", "(I)I"⟩
abbrev cX11_about : ByteArray := prog_13_method_27_code
def yX11_about : MethodName := ⟨RX11, "about", "(II)I"⟩
abbrev cX11_tally : ByteArray := prog_13_method_28_code
def yX11_tally : MethodName := ⟨RX11, "tally", "(II)I"⟩
abbrev cX11_in : ByteArray := prog_13_method_29_code
def yX11_in : MethodName := ⟨RX11, "in", "(II)I"⟩
abbrev cX11_green : ByteArray := prog_13_method_30_code
def yX11_green : MethodName := ⟨RX11, "green", "(I)I"⟩
abbrev cX11_ledPockets : ByteArray := prog_13_method_31_code
def yX11_ledPockets : MethodName := ⟨RX11, "ledPockets", "()I"⟩
abbrev cX11_pocket : ByteArray := prog_13_method_32_code
def yX11_pocket : MethodName := ⟨RX11, "pocket", "(II)I"⟩
abbrev cX11_count : ByteArray := prog_13_method_33_code
def yX11_count : MethodName := ⟨RX11, "count", "(I)I"⟩
abbrev cX11_price : ByteArray := prog_13_method_34_code
def yX11_price : MethodName := ⟨RX11, "price", "(II)I"⟩
abbrev cX11_priced : ByteArray := prog_13_method_35_code
def yX11_priced : MethodName := ⟨RX11, "priced", "(I)I"⟩
abbrev cX11_act : ByteArray := prog_13_method_36_code
def yX11_act : MethodName := ⟨RX11, "act", "(II)I"⟩
abbrev cX11_duty : ByteArray := prog_13_method_37_code
def yX11_duty : MethodName := ⟨RX11, "duty", "(I)I"⟩
abbrev cX11_bound : ByteArray := prog_13_method_38_code
def yX11_bound : MethodName := ⟨RX11, "bound", "()I"⟩
abbrev cX11_picksBy : ByteArray := prog_13_method_39_code
def yX11_picksBy : MethodName := ⟨RX11, "picksBy", "(II)I"⟩
abbrev cX11_most : ByteArray := prog_13_method_40_code
def yX11_most : MethodName := ⟨RX11, "most", "(II)I"⟩
abbrev cX11_trace : ByteArray := prog_13_method_41_code
def yX11_trace : MethodName := ⟨RX11, "trace", "()J"⟩
def RJx145de : String := "java/io/Serializable"
def TJx145de : u_T := fun k => match k with
  | _ => ("", "", "", false)
def tyJx145de : Nat → FieldType := fun k => match k with
  | _ => .int
theorem nmJx145de : ∀ a, a < 0 → ∀ b, b < 0 → a ≠ b → (TJx145de a).2.1 ≠ (TJx145de b).2.1 := by decide +kernel
theorem tyJx145de_ok : ∀ k, k < 0 → parseFieldDescriptor (TJx145de k).2.2.1 = some (tyJx145de k) := by decide +kernel
def RJx8e188 : String := "java/lang/Cloneable"
def TJx8e188 : u_T := fun k => match k with
  | _ => ("", "", "", false)
def tyJx8e188 : Nat → FieldType := fun k => match k with
  | _ => .int
theorem nmJx8e188 : ∀ a, a < 0 → ∀ b, b < 0 → a ≠ b → (TJx8e188 a).2.1 ≠ (TJx8e188 b).2.1 := by decide +kernel
theorem tyJx8e188_ok : ∀ k, k < 0 → parseFieldDescriptor (TJx8e188 k).2.2.1 = some (tyJx8e188 k) := by decide +kernel
def RJxab1ab : String := "java/lang/Iterable"
def TJxab1ab : u_T := fun k => match k with
  | _ => ("", "", "", false)
def tyJxab1ab : Nat → FieldType := fun k => match k with
  | _ => .int
theorem nmJxab1ab : ∀ a, a < 0 → ∀ b, b < 0 → a ≠ b → (TJxab1ab a).2.1 ≠ (TJxab1ab b).2.1 := by decide +kernel
theorem tyJxab1ab_ok : ∀ k, k < 0 → parseFieldDescriptor (TJxab1ab k).2.2.1 = some (tyJxab1ab k) := by decide +kernel
def RJ9 : String := "java/lang/Math"
def TJ9 : u_T := fun k => match k with
  | _ => ("", "", "", false)
def tyJ9 : Nat → FieldType := fun k => match k with
  | _ => .int
theorem nmJ9 : ∀ a, a < 0 → ∀ b, b < 0 → a ≠ b → (TJ9 a).2.1 ≠ (TJ9 b).2.1 := by decide +kernel
theorem tyJ9_ok : ∀ k, k < 0 → parseFieldDescriptor (TJ9 k).2.2.1 = some (tyJ9 k) := by decide +kernel
abbrev cJ9_floorMod_7cf53 : ByteArray := prog_17_method_50_code
def yJ9_floorMod_7cf53 : MethodName := ⟨RJ9, "floorMod", "(II)I"⟩
abbrev cJ9_max_7cf53 : ByteArray := prog_17_method_65_code
def yJ9_max_7cf53 : MethodName := ⟨RJ9, "max", "(II)I"⟩
abbrev cJ9_min_7cf53 : ByteArray := prog_17_method_69_code
def yJ9_min_7cf53 : MethodName := ⟨RJ9, "min", "(II)I"⟩
def RJ10 : String := "java/lang/System"
def TJ10 : u_T := fun k => match k with
  | _ => ("", "", "", false)
def tyJ10 : Nat → FieldType := fun k => match k with
  | _ => .int
theorem nmJ10 : ∀ a, a < 0 → ∀ b, b < 0 → a ≠ b → (TJ10 a).2.1 ≠ (TJ10 b).2.1 := by decide +kernel
theorem tyJ10_ok : ∀ k, k < 0 → parseFieldDescriptor (TJ10 k).2.2.1 = some (tyJ10 k) := by decide +kernel
def RJxa1e45 : String := "java/util/AbstractCollection"
def TJxa1e45 : u_T := fun k => match k with
  | _ => ("", "", "", false)
def tyJxa1e45 : Nat → FieldType := fun k => match k with
  | _ => .int
theorem nmJxa1e45 : ∀ a, a < 0 → ∀ b, b < 0 → a ≠ b → (TJxa1e45 a).2.1 ≠ (TJxa1e45 b).2.1 := by decide +kernel
theorem tyJxa1e45_ok : ∀ k, k < 0 → parseFieldDescriptor (TJxa1e45 k).2.2.1 = some (tyJxa1e45 k) := by decide +kernel
abbrev cJxa1e45_init_da8c8 : ByteArray := prog_19_method_1_code
def yJxa1e45_init_da8c8 : MethodName := ⟨RJxa1e45, "<init>", "()V"⟩
def RJxc12de : String := "java/util/AbstractList"
def TJxc12de : u_T := fun k => match k with
  | _ => ("", "", "", false)
def tyJxc12de : Nat → FieldType := fun k => match k with
  | _ => .int
theorem nmJxc12de : ∀ a, a < 0 → ∀ b, b < 0 → a ≠ b → (TJxc12de a).2.1 ≠ (TJxc12de b).2.1 := by decide +kernel
theorem tyJxc12de_ok : ∀ k, k < 0 → parseFieldDescriptor (TJxc12de k).2.2.1 = some (tyJxc12de k) := by decide +kernel
abbrev cJxc12de_init_da8c8 : ByteArray := prog_20_method_1_code
def yJxc12de_init_da8c8 : MethodName := ⟨RJxc12de, "<init>", "()V"⟩
def RJx4a65c : String := "java/util/ArrayList"
def TJx4a65c : u_T := fun k => match k with
  | 0 => ("java/util/AbstractList", "modCount", "I", false)
  | 1 => ("java/util/ArrayList", "elementData", "[Ljava/lang/Object;", false)
  | _ => ("java/util/ArrayList", "size", "I", false)
def tyJx4a65c : Nat → FieldType := fun k => match k with
  | 0 => .int
  | 1 => .array (.object "java/lang/Object")
  | _ => .int
theorem nmJx4a65c : ∀ a, a < 3 → ∀ b, b < 3 → a ≠ b → (TJx4a65c a).2.1 ≠ (TJx4a65c b).2.1 := by decide +kernel
theorem tyJx4a65c_ok : ∀ k, k < 3 → parseFieldDescriptor (TJx4a65c k).2.2.1 = some (tyJx4a65c k) := by decide +kernel
abbrev cJx4a65c_init_da8c8 : ByteArray := prog_21_method_2_code
def yJx4a65c_init_da8c8 : MethodName := ⟨RJx4a65c, "<init>", "()V"⟩
abbrev cJx4a65c_grow_92f84 : ByteArray := prog_21_method_6_code
def yJx4a65c_grow_92f84 : MethodName := ⟨RJx4a65c, "grow", "(I)[Ljava/lang/Object;"⟩
abbrev cJx4a65c_grow_d5877 : ByteArray := prog_21_method_7_code
def yJx4a65c_grow_d5877 : MethodName := ⟨RJx4a65c, "grow", "()[Ljava/lang/Object;"⟩
abbrev cJx4a65c_size_8abf5 : ByteArray := prog_21_method_8_code
def yJx4a65c_size_8abf5 : MethodName := ⟨RJx4a65c, "size", "()I"⟩
abbrev cJx4a65c_elementData_915e3 : ByteArray := prog_21_method_18_code
def yJx4a65c_elementData_915e3 : MethodName := ⟨RJx4a65c, "elementData", "(I)Ljava/lang/Object;"⟩
abbrev cJx4a65c_get_915e3 : ByteArray := prog_21_method_20_code
def yJx4a65c_get_915e3 : MethodName := ⟨RJx4a65c, "get", "(I)Ljava/lang/Object;"⟩
abbrev cJx4a65c_add_72be8 : ByteArray := prog_21_method_24_code
def yJx4a65c_add_72be8 : MethodName := ⟨RJx4a65c, "add", "(Ljava/lang/Object;[Ljava/lang/Object;I)V"⟩
abbrev cJx4a65c_add_9ea2d : ByteArray := prog_21_method_25_code
def yJx4a65c_add_9ea2d : MethodName := ⟨RJx4a65c, "add", "(Ljava/lang/Object;)Z"⟩
def RJ7 : String := "java/util/Arrays"
def TJ7 : u_T := fun k => match k with
  | _ => ("", "", "", false)
def tyJ7 : Nat → FieldType := fun k => match k with
  | _ => .int
theorem nmJ7 : ∀ a, a < 0 → ∀ b, b < 0 → a ≠ b → (TJ7 a).2.1 ≠ (TJ7 b).2.1 := by decide +kernel
theorem tyJ7_ok : ∀ k, k < 0 → parseFieldDescriptor (TJ7 k).2.2.1 = some (tyJ7 k) := by decide +kernel
abbrev cJ7_copyOf_1904c : ByteArray := prog_22_method_119_code
def yJ7_copyOf_1904c : MethodName := ⟨RJ7, "copyOf", "([Ljava/lang/Object;I)[Ljava/lang/Object;"⟩
abbrev cJ7_copyOf_6403c : ByteArray := prog_22_method_120_code
def yJ7_copyOf_6403c : MethodName := ⟨RJ7, "copyOf", "([Ljava/lang/Object;ILjava/lang/Class;)[Ljava/lang/Object;"⟩
def RJx5ef63 : String := "java/util/Collection"
def TJx5ef63 : u_T := fun k => match k with
  | _ => ("", "", "", false)
def tyJx5ef63 : Nat → FieldType := fun k => match k with
  | _ => .int
theorem nmJx5ef63 : ∀ a, a < 0 → ∀ b, b < 0 → a ≠ b → (TJx5ef63 a).2.1 ≠ (TJx5ef63 b).2.1 := by decide +kernel
theorem tyJx5ef63_ok : ∀ k, k < 0 → parseFieldDescriptor (TJx5ef63 k).2.2.1 = some (tyJx5ef63 k) := by decide +kernel
def RJxbd725 : String := "java/util/List"
def TJxbd725 : u_T := fun k => match k with
  | _ => ("", "", "", false)
def tyJxbd725 : Nat → FieldType := fun k => match k with
  | _ => .int
theorem nmJxbd725 : ∀ a, a < 0 → ∀ b, b < 0 → a ≠ b → (TJxbd725 a).2.1 ≠ (TJxbd725 b).2.1 := by decide +kernel
theorem tyJxbd725_ok : ∀ k, k < 0 → parseFieldDescriptor (TJxbd725 k).2.2.1 = some (tyJxbd725 k) := by decide +kernel
def RJ15 : String := "java/util/Objects"
def TJ15 : u_T := fun k => match k with
  | _ => ("", "", "", false)
def tyJ15 : Nat → FieldType := fun k => match k with
  | _ => .int
theorem nmJ15 : ∀ a, a < 0 → ∀ b, b < 0 → a ≠ b → (TJ15 a).2.1 ≠ (TJ15 b).2.1 := by decide +kernel
theorem tyJ15_ok : ∀ k, k < 0 → parseFieldDescriptor (TJ15 k).2.2.1 = some (tyJ15 k) := by decide +kernel
abbrev cJ15_checkIndex_7cf53 : ByteArray := prog_25_method_17_code
def yJ15_checkIndex_7cf53 : MethodName := ⟨RJ15, "checkIndex", "(II)I"⟩
def RJxf0a74 : String := "java/util/RandomAccess"
def TJxf0a74 : u_T := fun k => match k with
  | _ => ("", "", "", false)
def tyJxf0a74 : Nat → FieldType := fun k => match k with
  | _ => .int
theorem nmJxf0a74 : ∀ a, a < 0 → ∀ b, b < 0 → a ≠ b → (TJxf0a74 a).2.1 ≠ (TJxf0a74 b).2.1 := by decide +kernel
theorem tyJxf0a74_ok : ∀ k, k < 0 → parseFieldDescriptor (TJxf0a74 k).2.2.1 = some (tyJxf0a74 k) := by decide +kernel
def RJxa66e6 : String := "java/util/SequencedCollection"
def TJxa66e6 : u_T := fun k => match k with
  | _ => ("", "", "", false)
def tyJxa66e6 : Nat → FieldType := fun k => match k with
  | _ => .int
theorem nmJxa66e6 : ∀ a, a < 0 → ∀ b, b < 0 → a ≠ b → (TJxa66e6 a).2.1 ≠ (TJxa66e6 b).2.1 := by decide +kernel
theorem tyJxa66e6_ok : ∀ k, k < 0 → parseFieldDescriptor (TJxa66e6 k).2.2.1 = some (tyJxa66e6 k) := by decide +kernel
def RJ8 : String := "jdk/internal/util/ArraysSupport"
def TJ8 : u_T := fun k => match k with
  | _ => ("", "", "", false)
def tyJ8 : Nat → FieldType := fun k => match k with
  | _ => .int
theorem nmJ8 : ∀ a, a < 0 → ∀ b, b < 0 → a ≠ b → (TJ8 a).2.1 ≠ (TJ8 b).2.1 := by decide +kernel
theorem tyJ8_ok : ∀ k, k < 0 → parseFieldDescriptor (TJ8 k).2.2.1 = some (tyJ8 k) := by decide +kernel
abbrev cJ8_newLength_cabcc : ByteArray := prog_28_method_27_code
def yJ8_newLength_cabcc : MethodName := ⟨RJ8, "newLength", "(III)I"⟩
abbrev cJ8_hugeLength_7cf53 : ByteArray := prog_28_method_28_code
def yJ8_hugeLength_7cf53 : MethodName := ⟨RJ8, "hugeLength", "(II)I"⟩
def RJ3 : String := "jdk/internal/util/Preconditions"
def TJ3 : u_T := fun k => match k with
  | _ => ("", "", "", false)
def tyJ3 : Nat → FieldType := fun k => match k with
  | _ => .int
theorem nmJ3 : ∀ a, a < 0 → ∀ b, b < 0 → a ≠ b → (TJ3 a).2.1 ≠ (TJ3 b).2.1 := by decide +kernel
theorem tyJ3_ok : ∀ k, k < 0 → parseFieldDescriptor (TJ3 k).2.2.1 = some (tyJ3 k) := by decide +kernel
abbrev cJ3_checkIndex_8e157 : ByteArray := prog_29_method_11_code
def yJ3_checkIndex_8e157 : MethodName := ⟨RJ3, "checkIndex", "(IILjava/util/function/BiFunction;)I"⟩
def RL : String := "HopYardLaw"
abbrev cL_law : ByteArray := code
def yL_law : MethodName := ⟨RL, "law", "([I)Z"⟩
abbrev vwCl : List vw_C := [(RJx4a65c, TJx4a65c, 3), (RX0, TX0, 4), (RX1, TX1, 0), (RX2, TX2, 0), (RX3, TX3, 6), (RX4, TX4, 6), (RX5, TX5, 2), (RX6, TX6, 8), (RX7, TX7, 4), (RX8, TX8, 0), (RX9, TX9, 5), (RX10, TX10, 11), (RX11, TX11, 37)]
