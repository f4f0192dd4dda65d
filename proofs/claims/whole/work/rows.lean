section
-- ===== PART A: goes FIRST, ahead of the names: the tables' words, and 'selects' of the private methods out of them =====
/-- a private method of a class that the tables say can be made, by its rows of tables_1 -/
def lw_okq (q : MethodName × Nat) : Prop := (q.1.cls ≠ "java/lang/invoke/MethodHandle" ∧ q.1.cls ≠ "java/lang/invoke/VarHandle") ∧ Cond.instantiable q.1.cls q.2 ∈ tables_1 ∧ Cond.privateMethod q.1 ∈ tables_1 ∧ Cond.instanceMethod q.1 ∈ tables_1
theorem lw_p0 : lw_okq (⟨"java/util/ArrayList", "add", "(Ljava/lang/Object;[Ljava/lang/Object;I)V"⟩, 3) := ⟨⟨by decide +kernel, by decide +kernel⟩, List.mem_of_getElem? (i := 31) (by decide +kernel), List.mem_of_getElem? (i := 212) (by decide +kernel), List.mem_of_getElem? (i := 213) (by decide +kernel)⟩
theorem lw_p1 : lw_okq (⟨"java/util/ArrayList", "grow", "()[Ljava/lang/Object;"⟩, 3) := ⟨⟨by decide +kernel, by decide +kernel⟩, List.mem_of_getElem? (i := 31) (by decide +kernel), List.mem_of_getElem? (i := 216) (by decide +kernel), List.mem_of_getElem? (i := 217) (by decide +kernel)⟩
theorem lw_p2 : lw_okq (⟨"java/util/ArrayList", "grow", "(I)[Ljava/lang/Object;"⟩, 3) := ⟨⟨by decide +kernel, by decide +kernel⟩, List.mem_of_getElem? (i := 31) (by decide +kernel), List.mem_of_getElem? (i := 220) (by decide +kernel), List.mem_of_getElem? (i := 221) (by decide +kernel)⟩
theorem lw_p3 : lw_okq (⟨"HopYard", "gangOf", "(I)LHopYard$Gang;"⟩, 11) := ⟨⟨by decide +kernel, by decide +kernel⟩, List.mem_of_getElem? (i := 23) (by decide +kernel), List.mem_of_getElem? (i := 307) (by decide +kernel), List.mem_of_getElem? (i := 308) (by decide +kernel)⟩
theorem lw_p4 : lw_okq (⟨"HopYard", "gardenOf", "(I)LHopYard$Garden;"⟩, 11) := ⟨⟨by decide +kernel, by decide +kernel⟩, List.mem_of_getElem? (i := 23) (by decide +kernel), List.mem_of_getElem? (i := 325) (by decide +kernel), List.mem_of_getElem? (i := 326) (by decide +kernel)⟩
theorem lw_p5 : lw_okq (⟨"HopYard", "kilnOf", "(I)LHopYard$Kiln;"⟩, 11) := ⟨⟨by decide +kernel, by decide +kernel⟩, List.mem_of_getElem? (i := 23) (by decide +kernel), List.mem_of_getElem? (i := 399) (by decide +kernel), List.mem_of_getElem? (i := 400) (by decide +kernel)⟩
theorem lw_p6 : lw_okq (⟨"HopYard", "passHour", "()V"⟩, 11) := ⟨⟨by decide +kernel, by decide +kernel⟩, List.mem_of_getElem? (i := 23) (by decide +kernel), List.mem_of_getElem? (i := 442) (by decide +kernel), List.mem_of_getElem? (i := 443) (by decide +kernel)⟩
theorem lw_p7 : lw_okq (⟨"HopYard", "pickHour", "()V"⟩, 11) := ⟨⟨by decide +kernel, by decide +kernel⟩, List.mem_of_getElem? (i := 23) (by decide +kernel), List.mem_of_getElem? (i := 446) (by decide +kernel), List.mem_of_getElem? (i := 447) (by decide +kernel)⟩
theorem lw_p8 : lw_okq (⟨"HopYard", "dryHour", "()V"⟩, 11) := ⟨⟨by decide +kernel, by decide +kernel⟩, List.mem_of_getElem? (i := 23) (by decide +kernel), List.mem_of_getElem? (i := 479) (by decide +kernel), List.mem_of_getElem? (i := 480) (by decide +kernel)⟩
theorem lw_p9 : lw_okq (⟨"HopYard", "unload", "(LHopYard$Kiln;)V"⟩, 11) := ⟨⟨by decide +kernel, by decide +kernel⟩, List.mem_of_getElem? (i := 23) (by decide +kernel), List.mem_of_getElem? (i := 487) (by decide +kernel), List.mem_of_getElem? (i := 488) (by decide +kernel)⟩
theorem lw_p10 : lw_okq (⟨"HopYard", "loseHour", "()V"⟩, 11) := ⟨⟨by decide +kernel, by decide +kernel⟩, List.mem_of_getElem? (i := 23) (by decide +kernel), List.mem_of_getElem? (i := 503) (by decide +kernel), List.mem_of_getElem? (i := 504) (by decide +kernel)⟩
theorem lw_p11 : lw_okq (⟨"HopYard", "fillHour", "()V"⟩, 11) := ⟨⟨by decide +kernel, by decide +kernel⟩, List.mem_of_getElem? (i := 23) (by decide +kernel), List.mem_of_getElem? (i := 512) (by decide +kernel), List.mem_of_getElem? (i := 513) (by decide +kernel)⟩
theorem lw_p12 : lw_okq (⟨"HopYard", "fill", "(LHopYard$Kiln;)V"⟩, 11) := ⟨⟨by decide +kernel, by decide +kernel⟩, List.mem_of_getElem? (i := 23) (by decide +kernel), List.mem_of_getElem? (i := 516) (by decide +kernel), List.mem_of_getElem? (i := 517) (by decide +kernel)⟩
theorem lw_p13 : lw_okq (⟨"HopYard", "inKilnsOf", "(I)I"⟩, 11) := ⟨⟨by decide +kernel, by decide +kernel⟩, List.mem_of_getElem? (i := 23) (by decide +kernel), List.mem_of_getElem? (i := 536) (by decide +kernel), List.mem_of_getElem? (i := 537) (by decide +kernel)⟩
theorem lw_p14 : lw_okq (⟨"HopYard", "chargedInAll", "()I"⟩, 11) := ⟨⟨by decide +kernel, by decide +kernel⟩, List.mem_of_getElem? (i := 23) (by decide +kernel), List.mem_of_getElem? (i := 577) (by decide +kernel), List.mem_of_getElem? (i := 578) (by decide +kernel)⟩
theorem lw_p15 : lw_okq (⟨"HopYard", "lostInAll", "()I"⟩, 11) := ⟨⟨by decide +kernel, by decide +kernel⟩, List.mem_of_getElem? (i := 23) (by decide +kernel), List.mem_of_getElem? (i := 581) (by decide +kernel), List.mem_of_getElem? (i := 582) (by decide +kernel)⟩
def lw_privs_1 : List (MethodName × Nat) := [(⟨"java/util/ArrayList", "add", "(Ljava/lang/Object;[Ljava/lang/Object;I)V"⟩, 3), (⟨"java/util/ArrayList", "grow", "()[Ljava/lang/Object;"⟩, 3), (⟨"java/util/ArrayList", "grow", "(I)[Ljava/lang/Object;"⟩, 3), (⟨"HopYard", "gangOf", "(I)LHopYard$Gang;"⟩, 11), (⟨"HopYard", "gardenOf", "(I)LHopYard$Garden;"⟩, 11), (⟨"HopYard", "kilnOf", "(I)LHopYard$Kiln;"⟩, 11), (⟨"HopYard", "passHour", "()V"⟩, 11), (⟨"HopYard", "pickHour", "()V"⟩, 11), (⟨"HopYard", "dryHour", "()V"⟩, 11), (⟨"HopYard", "unload", "(LHopYard$Kiln;)V"⟩, 11), (⟨"HopYard", "loseHour", "()V"⟩, 11), (⟨"HopYard", "fillHour", "()V"⟩, 11), (⟨"HopYard", "fill", "(LHopYard$Kiln;)V"⟩, 11), (⟨"HopYard", "inKilnsOf", "(I)I"⟩, 11), (⟨"HopYard", "chargedInAll", "()I"⟩, 11), (⟨"HopYard", "lostInAll", "()I"⟩, 11)]
theorem lw_r1 : ∀ q ∈ lw_privs_1, lw_okq q := List.forall_mem_cons.mpr ⟨lw_p0, List.forall_mem_cons.mpr ⟨lw_p1, List.forall_mem_cons.mpr ⟨lw_p2, List.forall_mem_cons.mpr ⟨lw_p3, List.forall_mem_cons.mpr ⟨lw_p4, List.forall_mem_cons.mpr ⟨lw_p5, List.forall_mem_cons.mpr ⟨lw_p6, List.forall_mem_cons.mpr ⟨lw_p7, List.forall_mem_cons.mpr ⟨lw_p8, List.forall_mem_cons.mpr ⟨lw_p9, List.forall_mem_cons.mpr ⟨lw_p10, List.forall_mem_cons.mpr ⟨lw_p11, List.forall_mem_cons.mpr ⟨lw_p12, List.forall_mem_cons.mpr ⟨lw_p13, List.forall_mem_cons.mpr ⟨lw_p14, List.forall_mem_cons.mpr ⟨lw_p15, fun _ h => absurd h List.not_mem_nil⟩⟩⟩⟩⟩⟩⟩⟩⟩⟩⟩⟩⟩⟩⟩⟩
theorem lw_p16 : lw_okq (⟨"HopYard", "payInAll", "()I"⟩, 11) := ⟨⟨by decide +kernel, by decide +kernel⟩, List.mem_of_getElem? (i := 23) (by decide +kernel), List.mem_of_getElem? (i := 585) (by decide +kernel), List.mem_of_getElem? (i := 586) (by decide +kernel)⟩
theorem lw_p17 : lw_okq (⟨"HopYardModel", "isGang", "(I)Z"⟩, 37) := ⟨⟨by decide +kernel, by decide +kernel⟩, List.mem_of_getElem? (i := 654) (by decide +kernel), List.mem_of_getElem? (i := 787) (by decide +kernel), List.mem_of_getElem? (i := 788) (by decide +kernel)⟩
theorem lw_p18 : lw_okq (⟨"HopYardModel", "isGarden", "(I)Z"⟩, 37) := ⟨⟨by decide +kernel, by decide +kernel⟩, List.mem_of_getElem? (i := 654) (by decide +kernel), List.mem_of_getElem? (i := 791) (by decide +kernel), List.mem_of_getElem? (i := 792) (by decide +kernel)⟩
theorem lw_p19 : lw_okq (⟨"HopYardModel", "isKiln", "(I)Z"⟩, 37) := ⟨⟨by decide +kernel, by decide +kernel⟩, List.mem_of_getElem? (i := 654) (by decide +kernel), List.mem_of_getElem? (i := 803) (by decide +kernel), List.mem_of_getElem? (i := 804) (by decide +kernel)⟩
theorem lw_p20 : lw_okq (⟨"HopYardModel", "oneHour", "()V"⟩, 37) := ⟨⟨by decide +kernel, by decide +kernel⟩, List.mem_of_getElem? (i := 654) (by decide +kernel), List.mem_of_getElem? (i := 824) (by decide +kernel), List.mem_of_getElem? (i := 825) (by decide +kernel)⟩
theorem lw_p21 : lw_okq (⟨"HopYardModel", "picks", "(I)V"⟩, 37) := ⟨⟨by decide +kernel, by decide +kernel⟩, List.mem_of_getElem? (i := 654) (by decide +kernel), List.mem_of_getElem? (i := 828) (by decide +kernel), List.mem_of_getElem? (i := 829) (by decide +kernel)⟩
theorem lw_p22 : lw_okq (⟨"HopYardModel", "isRipe", "(II)Z"⟩, 37) := ⟨⟨by decide +kernel, by decide +kernel⟩, List.mem_of_getElem? (i := 654) (by decide +kernel), List.mem_of_getElem? (i := 832) (by decide +kernel), List.mem_of_getElem? (i := 833) (by decide +kernel)⟩
theorem lw_p23 : lw_okq (⟨"HopYardModel", "priceAt", "(I)I"⟩, 37) := ⟨⟨by decide +kernel, by decide +kernel⟩, List.mem_of_getElem? (i := 654) (by decide +kernel), List.mem_of_getElem? (i := 836) (by decide +kernel), List.mem_of_getElem? (i := 837) (by decide +kernel)⟩
theorem lw_p24 : lw_okq (⟨"HopYardModel", "dries", "(I)V"⟩, 37) := ⟨⟨by decide +kernel, by decide +kernel⟩, List.mem_of_getElem? (i := 654) (by decide +kernel), List.mem_of_getElem? (i := 840) (by decide +kernel), List.mem_of_getElem? (i := 841) (by decide +kernel)⟩
theorem lw_p25 : lw_okq (⟨"HopYardModel", "presses", "(I)V"⟩, 37) := ⟨⟨by decide +kernel, by decide +kernel⟩, List.mem_of_getElem? (i := 654) (by decide +kernel), List.mem_of_getElem? (i := 844) (by decide +kernel), List.mem_of_getElem? (i := 845) (by decide +kernel)⟩
theorem lw_p26 : lw_okq (⟨"HopYardModel", "spoils", "()V"⟩, 37) := ⟨⟨by decide +kernel, by decide +kernel⟩, List.mem_of_getElem? (i := 654) (by decide +kernel), List.mem_of_getElem? (i := 848) (by decide +kernel), List.mem_of_getElem? (i := 849) (by decide +kernel)⟩
theorem lw_p27 : lw_okq (⟨"HopYardModel", "takes", "(I)V"⟩, 37) := ⟨⟨by decide +kernel, by decide +kernel⟩, List.mem_of_getElem? (i := 654) (by decide +kernel), List.mem_of_getElem? (i := 852) (by decide +kernel), List.mem_of_getElem? (i := 853) (by decide +kernel)⟩
theorem lw_p28 : lw_okq (⟨"HopYardModel", "greenOf", "(I)I"⟩, 37) := ⟨⟨by decide +kernel, by decide +kernel⟩, List.mem_of_getElem? (i := 654) (by decide +kernel), List.mem_of_getElem? (i := 860) (by decide +kernel), List.mem_of_getElem? (i := 861) (by decide +kernel)⟩
theorem lw_p29 : lw_okq (⟨"HopYardModel", "inKilns", "(I)I"⟩, 37) := ⟨⟨by decide +kernel, by decide +kernel⟩, List.mem_of_getElem? (i := 654) (by decide +kernel), List.mem_of_getElem? (i := 864) (by decide +kernel), List.mem_of_getElem? (i := 865) (by decide +kernel)⟩
theorem lw_p30 : lw_okq (⟨"HopYardModel", "ledPockets", "()I"⟩, 37) := ⟨⟨by decide +kernel, by decide +kernel⟩, List.mem_of_getElem? (i := 654) (by decide +kernel), List.mem_of_getElem? (i := 884) (by decide +kernel), List.mem_of_getElem? (i := 885) (by decide +kernel)⟩
theorem lw_p31 : lw_okq (⟨"HopYardModel", "dutyOn", "(I)I"⟩, 37) := ⟨⟨by decide +kernel, by decide +kernel⟩, List.mem_of_getElem? (i := 654) (by decide +kernel), List.mem_of_getElem? (i := 888) (by decide +kernel), List.mem_of_getElem? (i := 889) (by decide +kernel)⟩
def lw_privs_2 : List (MethodName × Nat) := [(⟨"HopYard", "payInAll", "()I"⟩, 11), (⟨"HopYardModel", "isGang", "(I)Z"⟩, 37), (⟨"HopYardModel", "isGarden", "(I)Z"⟩, 37), (⟨"HopYardModel", "isKiln", "(I)Z"⟩, 37), (⟨"HopYardModel", "oneHour", "()V"⟩, 37), (⟨"HopYardModel", "picks", "(I)V"⟩, 37), (⟨"HopYardModel", "isRipe", "(II)Z"⟩, 37), (⟨"HopYardModel", "priceAt", "(I)I"⟩, 37), (⟨"HopYardModel", "dries", "(I)V"⟩, 37), (⟨"HopYardModel", "presses", "(I)V"⟩, 37), (⟨"HopYardModel", "spoils", "()V"⟩, 37), (⟨"HopYardModel", "takes", "(I)V"⟩, 37), (⟨"HopYardModel", "greenOf", "(I)I"⟩, 37), (⟨"HopYardModel", "inKilns", "(I)I"⟩, 37), (⟨"HopYardModel", "ledPockets", "()I"⟩, 37), (⟨"HopYardModel", "dutyOn", "(I)I"⟩, 37)]
theorem lw_r2 : ∀ q ∈ lw_privs_2, lw_okq q := List.forall_mem_cons.mpr ⟨lw_p16, List.forall_mem_cons.mpr ⟨lw_p17, List.forall_mem_cons.mpr ⟨lw_p18, List.forall_mem_cons.mpr ⟨lw_p19, List.forall_mem_cons.mpr ⟨lw_p20, List.forall_mem_cons.mpr ⟨lw_p21, List.forall_mem_cons.mpr ⟨lw_p22, List.forall_mem_cons.mpr ⟨lw_p23, List.forall_mem_cons.mpr ⟨lw_p24, List.forall_mem_cons.mpr ⟨lw_p25, List.forall_mem_cons.mpr ⟨lw_p26, List.forall_mem_cons.mpr ⟨lw_p27, List.forall_mem_cons.mpr ⟨lw_p28, List.forall_mem_cons.mpr ⟨lw_p29, List.forall_mem_cons.mpr ⟨lw_p30, List.forall_mem_cons.mpr ⟨lw_p31, fun _ h => absurd h List.not_mem_nil⟩⟩⟩⟩⟩⟩⟩⟩⟩⟩⟩⟩⟩⟩⟩⟩
theorem lw_p32 : lw_okq (⟨"HopYardModel", "picksBy", "(II)I"⟩, 37) := ⟨⟨by decide +kernel, by decide +kernel⟩, List.mem_of_getElem? (i := 654) (by decide +kernel), List.mem_of_getElem? (i := 920) (by decide +kernel), List.mem_of_getElem? (i := 921) (by decide +kernel)⟩
def lw_privs_3 : List (MethodName × Nat) := [(⟨"HopYardModel", "picksBy", "(II)I"⟩, 37)]
theorem lw_r3 : ∀ q ∈ lw_privs_3, lw_okq q := List.forall_mem_cons.mpr ⟨lw_p32, fun _ h => absurd h List.not_mem_nil⟩
def lw_privs : List (MethodName × Nat) := lw_privs_1 ++ (lw_privs_2 ++ (lw_privs_3))
def lw_tbl : List Cond := k2_sels lw_privs ++ tables_1
theorem lw_privs_ok : ∀ q ∈ lw_privs, lw_okq q := by
  show ∀ q ∈ lw_privs_1 ++ (lw_privs_2 ++ (lw_privs_3)), lw_okq q
  exact List.forall_mem_append.mpr ⟨lw_r1, List.forall_mem_append.mpr ⟨lw_r2, lw_r3⟩⟩
-- ===== end of PART A; then your names; then what follows =====
end
section
def RX0 : String := "HopYard$Allotment"
def TX0 : u_T := fun k => match k with
  | 0 => ("HopYard$Allotment", "rates", "[I", true)
  | 1 => ("HopYard$Allotment", "places", "[I", true)
  | 2 => ("HopYard$Allotment", "worth", "[I", true)
  | _ => ("HopYard$Allotment", "sets", "I", false)
def tyX0 : Nat → FieldType := fun k => match k with
  | 0 => .array .int
  | 1 => .array .int
  | 2 => .array .int
  | _ => .int
theorem nmX0 : ∀ a, a < 4 → ∀ b, b < 4 → a ≠ b → (TX0 a).2.1 ≠ (TX0 b).2.1 := by decide +kernel
theorem tyX0_ok : ∀ k, k < 4 → parseFieldDescriptor (TX0 k).2.2.1 = some (tyX0 k) := by decide +kernel
abbrev cX0_init : ByteArray := prog_2_method_1_code
def yX0_init : MethodName := ⟨RX0, "<init>", "()V"⟩
abbrev cX0_begin : ByteArray := prog_2_method_2_code
def yX0_begin : MethodName := ⟨RX0, "begin", "(Ljava/util/ArrayList;)V"⟩
abbrev cX0_addGang : ByteArray := prog_2_method_3_code
def yX0_addGang : MethodName := ⟨RX0, "addGang", "(II)V"⟩
abbrev cX0_offer : ByteArray := prog_2_method_4_code
def yX0_offer : MethodName := ⟨RX0, "offer", "(II)V"⟩
abbrev cX0_bushels : ByteArray := prog_2_method_5_code
def yX0_bushels : MethodName := ⟨RX0, "bushels", "()I"⟩
abbrev cX0_number : ByteArray := prog_2_method_6_code
def yX0_number : MethodName := ⟨RX0, "number", "()I"⟩
def RX1 : String := "HopYard$Doubled"
def TX1 : u_T := fun k => match k with
  | _ => ("", "", "", false)
def tyX1 : Nat → FieldType := fun k => match k with
  | _ => .int
theorem nmX1 : ∀ a, a < 0 → ∀ b, b < 0 → a ≠ b → (TX1 a).2.1 ≠ (TX1 b).2.1 := by decide +kernel
theorem tyX1_ok : ∀ k, k < 0 → parseFieldDescriptor (TX1 k).2.2.1 = some (tyX1 k) := by decide +kernel
abbrev cX1_init : ByteArray := prog_3_method_1_code
def yX1_init : MethodName := ⟨RX1, "<init>", "()V"⟩
abbrev cX1_dries : ByteArray := prog_3_method_2_code
def yX1_dries : MethodName := ⟨RX1, "dries", "(I)I"⟩
abbrev cX1_marks : ByteArray := prog_3_method_3_code
def yX1_marks : MethodName := ⟨RX1, "marks", "()I"⟩
def RX2 : String := "HopYard$Draught"
def TX2 : u_T := fun k => match k with
  | _ => ("", "", "", false)
def tyX2 : Nat → FieldType := fun k => match k with
  | _ => .int
theorem nmX2 : ∀ a, a < 0 → ∀ b, b < 0 → a ≠ b → (TX2 a).2.1 ≠ (TX2 b).2.1 := by decide +kernel
theorem tyX2_ok : ∀ k, k < 0 → parseFieldDescriptor (TX2 k).2.2.1 = some (tyX2 k) := by decide +kernel
abbrev cX2_init : ByteArray := prog_4_method_1_code
def yX2_init : MethodName := ⟨RX2, "<init>", "()V"⟩
abbrev cX2_dries : ByteArray := prog_4_method_2_code
def yX2_dries : MethodName := ⟨RX2, "dries", "(I)I"⟩
abbrev cX2_marks : ByteArray := prog_4_method_3_code
def yX2_marks : MethodName := ⟨RX2, "marks", "()I"⟩
def RX3 : String := "HopYard$Gang"
def TX3 : u_T := fun k => match k with
  | 0 => ("HopYard$Gang", "rate", "I", true)
  | 1 => ("HopYard$Gang", "measure", "I", true)
  | 2 => ("HopYard$Gang", "at", "I", false)
  | 3 => ("HopYard$Gang", "picked", "I", false)
  | 4 => ("HopYard$Gang", "told", "I", false)
  | _ => ("HopYard$Gang", "pay", "I", false)
def tyX3 : Nat → FieldType := fun k => match k with
  | 0 => .int
  | 1 => .int
  | 2 => .int
  | 3 => .int
  | 4 => .int
  | _ => .int
theorem nmX3 : ∀ a, a < 6 → ∀ b, b < 6 → a ≠ b → (TX3 a).2.1 ≠ (TX3 b).2.1 := by decide +kernel
theorem tyX3_ok : ∀ k, k < 6 → parseFieldDescriptor (TX3 k).2.2.1 = some (tyX3 k) := by decide +kernel
abbrev cX3_init : ByteArray := prog_5_method_1_code
def yX3_init : MethodName := ⟨RX3, "<init>", "(II)V"⟩
abbrev cX3_enter : ByteArray := prog_5_method_2_code
def yX3_enter : MethodName := ⟨RX3, "enter", "(II)V"⟩
def RX4 : String := "HopYard$Garden"
def TX4 : u_T := fun k => match k with
  | 0 => ("HopYard$Garden", "from", "I", true)
  | 1 => ("HopYard$Garden", "to", "I", true)
  | 2 => ("HopYard$Garden", "left", "I", false)
  | 3 => ("HopYard$Garden", "picked", "I", false)
  | 4 => ("HopYard$Garden", "lost", "I", false)
  | _ => ("HopYard$Garden", "dried", "I", false)
def tyX4 : Nat → FieldType := fun k => match k with
  | 0 => .int
  | 1 => .int
  | 2 => .int
  | 3 => .int
  | 4 => .int
  | _ => .int
theorem nmX4 : ∀ a, a < 6 → ∀ b, b < 6 → a ≠ b → (TX4 a).2.1 ≠ (TX4 b).2.1 := by decide +kernel
theorem tyX4_ok : ∀ k, k < 6 → parseFieldDescriptor (TX4 k).2.2.1 = some (tyX4 k) := by decide +kernel
abbrev cX4_init : ByteArray := prog_6_method_1_code
def yX4_init : MethodName := ⟨RX4, "<init>", "(III)V"⟩
abbrev cX4_isRipe : ByteArray := prog_6_method_2_code
def yX4_isRipe : MethodName := ⟨RX4, "isRipe", "(I)Z"⟩
abbrev cX4_yields : ByteArray := prog_6_method_3_code
def yX4_yields : MethodName := ⟨RX4, "yields", "(I)I"⟩
def RX5 : String := "HopYard$GreenHops"
def TX5 : u_T := fun k => match k with
  | 0 => ("HopYard$GreenHops", "bushels", "[I", true)
  | _ => ("HopYard$GreenHops", "inAll", "I", false)
def tyX5 : Nat → FieldType := fun k => match k with
  | 0 => .array .int
  | _ => .int
theorem nmX5 : ∀ a, a < 2 → ∀ b, b < 2 → a ≠ b → (TX5 a).2.1 ≠ (TX5 b).2.1 := by decide +kernel
theorem tyX5_ok : ∀ k, k < 2 → parseFieldDescriptor (TX5 k).2.2.1 = some (tyX5 k) := by decide +kernel
abbrev cX5_init : ByteArray := prog_7_method_1_code
def yX5_init : MethodName := ⟨RX5, "<init>", "()V"⟩
abbrev cX5_place : ByteArray := prog_7_method_2_code
def yX5_place : MethodName := ⟨RX5, "place", "(II)I"⟩
abbrev cX5_lay : ByteArray := prog_7_method_3_code
def yX5_lay : MethodName := ⟨RX5, "lay", "(III)V"⟩
abbrev cX5_give : ByteArray := prog_7_method_4_code
def yX5_give : MethodName := ⟨RX5, "give", "(III)I"⟩
abbrev cX5_ofHour : ByteArray := prog_7_method_5_code
def yX5_ofHour : MethodName := ⟨RX5, "ofHour", "(I)I"⟩
abbrev cX5_ofGarden : ByteArray := prog_7_method_6_code
def yX5_ofGarden : MethodName := ⟨RX5, "ofGarden", "(I)I"⟩
def RX6 : String := "HopYard$Kiln"
def TX6 : u_T := fun k => match k with
  | 0 => ("HopYard$Kiln", "kind", "LHopYard$Plain;", true)
  | 1 => ("HopYard$Kiln", "room", "I", true)
  | 2 => ("HopYard$Kiln", "lotGarden", "[I", true)
  | 3 => ("HopYard$Kiln", "lotBushels", "[I", true)
  | 4 => ("HopYard$Kiln", "lots", "I", false)
  | 5 => ("HopYard$Kiln", "bushels", "I", false)
  | 6 => ("HopYard$Kiln", "share", "I", false)
  | _ => ("HopYard$Kiln", "reading", "I", false)
def tyX6 : Nat → FieldType := fun k => match k with
  | 0 => .object "HopYard$Plain"
  | 1 => .int
  | 2 => .array .int
  | 3 => .array .int
  | 4 => .int
  | 5 => .int
  | 6 => .int
  | _ => .int
theorem nmX6 : ∀ a, a < 8 → ∀ b, b < 8 → a ≠ b → (TX6 a).2.1 ≠ (TX6 b).2.1 := by decide +kernel
theorem tyX6_ok : ∀ k, k < 8 → parseFieldDescriptor (TX6 k).2.2.1 = some (tyX6 k) := by decide +kernel
abbrev cX6_init : ByteArray := prog_8_method_1_code
def yX6_init : MethodName := ⟨RX6, "<init>", "(LHopYard$Plain;I)V"⟩
abbrev cX6_isEmpty : ByteArray := prog_8_method_2_code
def yX6_isEmpty : MethodName := ⟨RX6, "isEmpty", "()Z"⟩
abbrev cX6_free : ByteArray := prog_8_method_3_code
def yX6_free : MethodName := ⟨RX6, "free", "()I"⟩
abbrev cX6_take : ByteArray := prog_8_method_4_code
def yX6_take : MethodName := ⟨RX6, "take", "(II)V"⟩
abbrev cX6_clear : ByteArray := prog_8_method_5_code
def yX6_clear : MethodName := ⟨RX6, "clear", "()V"⟩
abbrev cX6_ofGarden : ByteArray := prog_8_method_6_code
def yX6_ofGarden : MethodName := ⟨RX6, "ofGarden", "(I)I"⟩
abbrev cX6_gardenBits : ByteArray := prog_8_method_7_code
def yX6_gardenBits : MethodName := ⟨RX6, "gardenBits", "()I"⟩
abbrev cX6_bears : ByteArray := prog_8_method_8_code
def yX6_bears : MethodName := ⟨RX6, "bears", "()I"⟩
def RX7 : String := "HopYard$Notices"
def TX7 : u_T := fun k => match k with
  | 0 => ("HopYard$Notices", "from", "[I", true)
  | 1 => ("HopYard$Notices", "number", "[I", true)
  | 2 => ("HopYard$Notices", "first", "I", true)
  | _ => ("HopYard$Notices", "count", "I", false)
def tyX7 : Nat → FieldType := fun k => match k with
  | 0 => .array .int
  | 1 => .array .int
  | 2 => .int
  | _ => .int
theorem nmX7 : ∀ a, a < 4 → ∀ b, b < 4 → a ≠ b → (TX7 a).2.1 ≠ (TX7 b).2.1 := by decide +kernel
theorem tyX7_ok : ∀ k, k < 4 → parseFieldDescriptor (TX7 k).2.2.1 = some (tyX7 k) := by decide +kernel
abbrev cX7_init : ByteArray := prog_9_method_1_code
def yX7_init : MethodName := ⟨RX7, "<init>", "(I)V"⟩
abbrev cX7_tell : ByteArray := prog_9_method_2_code
def yX7_tell : MethodName := ⟨RX7, "tell", "(II)Z"⟩
abbrev cX7_inForce : ByteArray := prog_9_method_3_code
def yX7_inForce : MethodName := ⟨RX7, "inForce", "(I)I"⟩
def RX8 : String := "HopYard$Plain"
def TX8 : u_T := fun k => match k with
  | _ => ("", "", "", false)
def tyX8 : Nat → FieldType := fun k => match k with
  | _ => .int
theorem nmX8 : ∀ a, a < 0 → ∀ b, b < 0 → a ≠ b → (TX8 a).2.1 ≠ (TX8 b).2.1 := by decide +kernel
theorem tyX8_ok : ∀ k, k < 0 → parseFieldDescriptor (TX8 k).2.2.1 = some (tyX8 k) := by decide +kernel
abbrev cX8_init : ByteArray := prog_10_method_1_code
def yX8_init : MethodName := ⟨RX8, "<init>", "()V"⟩
abbrev cX8_dries : ByteArray := prog_10_method_2_code
def yX8_dries : MethodName := ⟨RX8, "dries", "(I)I"⟩
abbrev cX8_marks : ByteArray := prog_10_method_3_code
def yX8_marks : MethodName := ⟨RX8, "marks", "()I"⟩
def RX9 : String := "HopYard$Press"
def TX9 : u_T := fun k => match k with
  | 0 => ("HopYard$Press", "gardens", "[I", true)
  | 1 => ("HopYard$Press", "days", "[I", true)
  | 2 => ("HopYard$Press", "pressed", "I", false)
  | 3 => ("HopYard$Press", "loose", "I", false)
  | _ => ("HopYard$Press", "looseGardens", "I", false)
def tyX9 : Nat → FieldType := fun k => match k with
  | 0 => .array .int
  | 1 => .array .int
  | 2 => .int
  | 3 => .int
  | _ => .int
theorem nmX9 : ∀ a, a < 5 → ∀ b, b < 5 → a ≠ b → (TX9 a).2.1 ≠ (TX9 b).2.1 := by decide +kernel
theorem tyX9_ok : ∀ k, k < 5 → parseFieldDescriptor (TX9 k).2.2.1 = some (tyX9 k) := by decide +kernel
abbrev cX9_init : ByteArray := prog_11_method_1_code
def yX9_init : MethodName := ⟨RX9, "<init>", "()V"⟩
abbrev cX9_led : ByteArray := prog_11_method_2_code
def yX9_led : MethodName := ⟨RX9, "led", "()I"⟩
abbrev cX9_lay : ByteArray := prog_11_method_3_code
def yX9_lay : MethodName := ⟨RX9, "lay", "(III)V"⟩
abbrev cX9_pressOne : ByteArray := prog_11_method_4_code
def yX9_pressOne : MethodName := ⟨RX9, "pressOne", "(I)V"⟩
def RX10 : String := "HopYard"
def TX10 : u_T := fun k => match k with
  | 0 => ("HopYard", "gardens", "Ljava/util/ArrayList;", true)
  | 1 => ("HopYard", "gangs", "Ljava/util/ArrayList;", true)
  | 2 => ("HopYard", "kilns", "Ljava/util/ArrayList;", true)
  | 3 => ("HopYard", "greenHops", "LHopYard$GreenHops;", true)
  | 4 => ("HopYard", "press", "LHopYard$Press;", true)
  | 5 => ("HopYard", "prices", "LHopYard$Notices;", true)
  | 6 => ("HopYard", "duties", "LHopYard$Notices;", true)
  | 7 => ("HopYard", "allotment", "LHopYard$Allotment;", true)
  | 8 => ("HopYard", "now", "I", false)
  | 9 => ("HopYard", "wait", "I", false)
  | _ => ("HopYard", "traced", "J", false)
def tyX10 : Nat → FieldType := fun k => match k with
  | 0 => .object "java/util/ArrayList"
  | 1 => .object "java/util/ArrayList"
  | 2 => .object "java/util/ArrayList"
  | 3 => .object "HopYard$GreenHops"
  | 4 => .object "HopYard$Press"
  | 5 => .object "HopYard$Notices"
  | 6 => .object "HopYard$Notices"
  | 7 => .object "HopYard$Allotment"
  | 8 => .int
  | 9 => .int
  | _ => .long
theorem nmX10 : ∀ a, a < 11 → ∀ b, b < 11 → a ≠ b → (TX10 a).2.1 ≠ (TX10 b).2.1 := by decide +kernel
theorem tyX10_ok : ∀ k, k < 11 → parseFieldDescriptor (TX10 k).2.2.1 = some (tyX10 k) := by decide +kernel
abbrev cX10_init : ByteArray := prog_1_method_1_code
def yX10_init : MethodName := ⟨RX10, "<init>", "()V"⟩
abbrev cX10_garden : ByteArray := prog_1_method_2_code
def yX10_garden : MethodName := ⟨RX10, "garden", "(III)I"⟩
abbrev cX10_gang : ByteArray := prog_1_method_3_code
def yX10_gang : MethodName := ⟨RX10, "gang", "(II)I"⟩
abbrev cX10_sends : ByteArray := prog_1_method_4_code
def yX10_sends : MethodName := ⟨RX10, "sends", "(II)I"⟩
abbrev cX10_kiln : ByteArray := prog_1_method_5_code
def yX10_kiln : MethodName := ⟨RX10, "kiln", "(II)I"⟩
abbrev cX10_read : ByteArray := prog_1_method_6_code
def yX10_read : MethodName := ⟨RX10, "read", "(II)I"⟩
abbrev cX10_drying : ByteArray := prog_1_method_7_code
def yX10_drying : MethodName := ⟨RX10, "drying", "(II)I"⟩
abbrev cX10_waits : ByteArray := prog_1_method_8_code
def yX10_waits : MethodName := ⟨RX10, "waits", "(I)I"⟩
abbrev cX10_hours : ByteArray := prog_1_method_9_code
def yX10_hours : MethodName := ⟨RX10, "hours", "(I)I"⟩
abbrev cX10_about : ByteArray := prog_1_method_10_code
def yX10_about : MethodName := ⟨RX10, "about", "(II)I"⟩
abbrev cX10_tally : ByteArray := prog_1_method_11_code
def yX10_tally : MethodName := ⟨RX10, "tally", "(II)I"⟩
abbrev cX10_in : ByteArray := prog_1_method_12_code
def yX10_in : MethodName := ⟨RX10, "in", "(II)I"⟩
abbrev cX10_green : ByteArray := prog_1_method_13_code
def yX10_green : MethodName := ⟨RX10, "green", "(I)I"⟩
abbrev cX10_pocket : ByteArray := prog_1_method_14_code
def yX10_pocket : MethodName := ⟨RX10, "pocket", "(II)I"⟩
abbrev cX10_count : ByteArray := prog_1_method_15_code
def yX10_count : MethodName := ⟨RX10, "count", "(I)I"⟩
abbrev cX10_price : ByteArray := prog_1_method_16_code
def yX10_price : MethodName := ⟨RX10, "price", "(II)I"⟩
abbrev cX10_priced : ByteArray := prog_1_method_17_code
def yX10_priced : MethodName := ⟨RX10, "priced", "(I)I"⟩
abbrev cX10_act : ByteArray := prog_1_method_18_code
def yX10_act : MethodName := ⟨RX10, "act", "(II)I"⟩
abbrev cX10_duty : ByteArray := prog_1_method_19_code
def yX10_duty : MethodName := ⟨RX10, "duty", "(I)I"⟩
abbrev cX10_bound : ByteArray := prog_1_method_20_code
def yX10_bound : MethodName := ⟨RX10, "bound", "()I"⟩
abbrev cX10_most : ByteArray := prog_1_method_21_code
def yX10_most : MethodName := ⟨RX10, "most", "(II)I"⟩
abbrev cX10_trace : ByteArray := prog_1_method_22_code
def yX10_trace : MethodName := ⟨RX10, "trace", "()J"⟩
abbrev cX10_passHour : ByteArray := prog_1_method_23_code
def yX10_passHour : MethodName := ⟨RX10, "passHour", "()V"⟩
abbrev cX10_pickHour : ByteArray := prog_1_method_24_code
def yX10_pickHour : MethodName := ⟨RX10, "pickHour", "()V"⟩
abbrev cX10_dryHour : ByteArray := prog_1_method_25_code
def yX10_dryHour : MethodName := ⟨RX10, "dryHour", "()V"⟩
abbrev cX10_unload : ByteArray := prog_1_method_26_code
def yX10_unload : MethodName := ⟨RX10, "unload", "(LHopYard$Kiln;)V"⟩
abbrev cX10_loseHour : ByteArray := prog_1_method_27_code
def yX10_loseHour : MethodName := ⟨RX10, "loseHour", "()V"⟩
abbrev cX10_fillHour : ByteArray := prog_1_method_28_code
def yX10_fillHour : MethodName := ⟨RX10, "fillHour", "()V"⟩
abbrev cX10_fill : ByteArray := prog_1_method_29_code
def yX10_fill : MethodName := ⟨RX10, "fill", "(LHopYard$Kiln;)V"⟩
abbrev cX10_inKilnsOf : ByteArray := prog_1_method_30_code
def yX10_inKilnsOf : MethodName := ⟨RX10, "inKilnsOf", "(I)I"⟩
abbrev cX10_chargedInAll : ByteArray := prog_1_method_31_code
def yX10_chargedInAll : MethodName := ⟨RX10, "chargedInAll", "()I"⟩
abbrev cX10_lostInAll : ByteArray := prog_1_method_32_code
def yX10_lostInAll : MethodName := ⟨RX10, "lostInAll", "()I"⟩
abbrev cX10_payInAll : ByteArray := prog_1_method_33_code
def yX10_payInAll : MethodName := ⟨RX10, "payInAll", "()I"⟩
abbrev cX10_gardenOf : ByteArray := prog_1_method_34_code
def yX10_gardenOf : MethodName := ⟨RX10, "gardenOf", "(I)LHopYard$Garden;"⟩
abbrev cX10_gangOf : ByteArray := prog_1_method_35_code
def yX10_gangOf : MethodName := ⟨RX10, "gangOf", "(I)LHopYard$Gang;"⟩
abbrev cX10_kilnOf : ByteArray := prog_1_method_36_code
def yX10_kilnOf : MethodName := ⟨RX10, "kilnOf", "(I)LHopYard$Kiln;"⟩
abbrev cX10_kindOf : ByteArray := prog_1_method_37_code
def yX10_kindOf : MethodName := ⟨RX10, "kindOf", "(I)LHopYard$Plain;"⟩
abbrev cX10_within : ByteArray := prog_1_method_38_code
def yX10_within : MethodName := ⟨RX10, "within", "(III)Z"⟩
def RX11 : String := "HopYardModel"
def TX11 : u_T := fun k => match k with
  | 0 => ("HopYardModel", "now", "I", false)
  | 1 => ("HopYardModel", "wait", "I", false)
  | 2 => ("HopYardModel", "gardens", "I", false)
  | 3 => ("HopYardModel", "left", "[I", true)
  | 4 => ("HopYardModel", "ripeFrom", "[I", true)
  | 5 => ("HopYardModel", "ripeTo", "[I", true)
  | 6 => ("HopYardModel", "picked", "[I", true)
  | 7 => ("HopYardModel", "lost", "[I", true)
  | 8 => ("HopYardModel", "dried", "[I", true)
  | 9 => ("HopYardModel", "gangs", "I", false)
  | 10 => ("HopYardModel", "rate", "[I", true)
  | 11 => ("HopYardModel", "measure", "[I", true)
  | 12 => ("HopYardModel", "place", "[I", true)
  | 13 => ("HopYardModel", "gangPicked", "[I", true)
  | 14 => ("HopYardModel", "gangTold", "[I", true)
  | 15 => ("HopYardModel", "gangPay", "[I", true)
  | 16 => ("HopYardModel", "green", "[I", true)
  | 17 => ("HopYardModel", "kilns", "I", false)
  | 18 => ("HopYardModel", "kind", "[I", true)
  | 19 => ("HopYardModel", "room", "[I", true)
  | 20 => ("HopYardModel", "reading", "[I", true)
  | 21 => ("HopYardModel", "share", "[I", true)
  | 22 => ("HopYardModel", "filled", "[I", true)
  | 23 => ("HopYardModel", "bushel", "[I", true)
  | 24 => ("HopYardModel", "pockets", "I", false)
  | 25 => ("HopYardModel", "pocketGardens", "[I", true)
  | 26 => ("HopYardModel", "pocketDay", "[I", true)
  | 27 => ("HopYardModel", "loose", "I", false)
  | 28 => ("HopYardModel", "looseGardens", "I", false)
  | 29 => ("HopYardModel", "prices", "I", false)
  | 30 => ("HopYardModel", "priceHour", "[I", true)
  | 31 => ("HopYardModel", "priceOf", "[I", true)
  | 32 => ("HopYardModel", "acts", "I", false)
  | 33 => ("HopYardModel", "actDay", "[I", true)
  | 34 => ("HopYardModel", "actDuty", "[I", true)
  | 35 => ("HopYardModel", "trace", "J", false)
  | _ => ("HopYardModel", "together", "[I", true)
def tyX11 : Nat → FieldType := fun k => match k with
  | 0 => .int
  | 1 => .int
  | 2 => .int
  | 3 => .array .int
  | 4 => .array .int
  | 5 => .array .int
  | 6 => .array .int
  | 7 => .array .int
  | 8 => .array .int
  | 9 => .int
  | 10 => .array .int
  | 11 => .array .int
  | 12 => .array .int
  | 13 => .array .int
  | 14 => .array .int
  | 15 => .array .int
  | 16 => .array .int
  | 17 => .int
  | 18 => .array .int
  | 19 => .array .int
  | 20 => .array .int
  | 21 => .array .int
  | 22 => .array .int
  | 23 => .array .int
  | 24 => .int
  | 25 => .array .int
  | 26 => .array .int
  | 27 => .int
  | 28 => .int
  | 29 => .int
  | 30 => .array .int
  | 31 => .array .int
  | 32 => .int
  | 33 => .array .int
  | 34 => .array .int
  | 35 => .long
  | _ => .array .int
theorem nmX11 : ∀ a, a < 37 → ∀ b, b < 37 → a ≠ b → (TX11 a).2.1 ≠ (TX11 b).2.1 := by decide +kernel
theorem tyX11_ok : ∀ k, k < 37 → parseFieldDescriptor (TX11 k).2.2.1 = some (tyX11 k) := by decide +kernel
abbrev cX11_init : ByteArray := prog_13_method_1_code
def yX11_init : MethodName := ⟨RX11, "<init>", "()V"⟩
abbrev cX11_isIn : ByteArray := prog_13_method_3_code
def yX11_isIn : MethodName := ⟨RX11, "isIn", "(III)Z"⟩
abbrev cX11_isGarden : ByteArray := prog_13_method_4_code
def yX11_isGarden : MethodName := ⟨RX11, "isGarden", "(I)Z"⟩
abbrev cX11_isGang : ByteArray := prog_13_method_5_code
def yX11_isGang : MethodName := ⟨RX11, "isGang", "(I)Z"⟩
abbrev cX11_isKiln : ByteArray := prog_13_method_6_code
def yX11_isKiln : MethodName := ⟨RX11, "isKiln", "(I)Z"⟩
abbrev cX11_garden : ByteArray := prog_13_method_7_code
def yX11_garden : MethodName := ⟨RX11, "garden", "(III)I"⟩
abbrev cX11_gang : ByteArray := prog_13_method_8_code
def yX11_gang : MethodName := ⟨RX11, "gang", "(II)I"⟩
abbrev cX11_sends : ByteArray := prog_13_method_9_code
def yX11_sends : MethodName := ⟨RX11, "sends", "(II)I"⟩
abbrev cX11_kiln : ByteArray := prog_13_method_10_code
def yX11_kiln : MethodName := ⟨RX11, "kiln", "(II)I"⟩
abbrev cX11_read : ByteArray := prog_13_method_11_code
def yX11_read : MethodName := ⟨RX11, "read", "(II)I"⟩
abbrev cX11_dryingBy : ByteArray := prog_13_method_12_code
def yX11_dryingBy : MethodName := ⟨RX11, "dryingBy", "(II)I"⟩
abbrev cX11_drying : ByteArray := prog_13_method_13_code
def yX11_drying : MethodName := ⟨RX11, "drying", "(II)I"⟩
abbrev cX11_waits : ByteArray := prog_13_method_14_code
def yX11_waits : MethodName := ⟨RX11, "waits", "(I)I"⟩
abbrev cX11_priceAt : ByteArray := prog_13_method_15_code
def yX11_priceAt : MethodName := ⟨RX11, "priceAt", "(I)I"⟩
abbrev cX11_dutyOn : ByteArray := prog_13_method_16_code
def yX11_dutyOn : MethodName := ⟨RX11, "dutyOn", "(I)I"⟩
abbrev cX11_isRipe : ByteArray := prog_13_method_17_code
def yX11_isRipe : MethodName := ⟨RX11, "isRipe", "(II)Z"⟩
abbrev cX11_picks : ByteArray := prog_13_method_18_code
def yX11_picks : MethodName := ⟨RX11, "picks", "(I)V"⟩
abbrev cX11_presses : ByteArray := prog_13_method_19_code
def yX11_presses : MethodName := ⟨RX11, "presses", "(I)V"⟩
abbrev cX11_dries : ByteArray := prog_13_method_20_code
def yX11_dries : MethodName := ⟨RX11, "dries", "(I)V"⟩
abbrev cX11_spoils : ByteArray := prog_13_method_21_code
def yX11_spoils : MethodName := ⟨RX11, "spoils", "()V"⟩
abbrev cX11_takes : ByteArray := prog_13_method_22_code
def yX11_takes : MethodName := ⟨RX11, "takes", "(I)V"⟩
abbrev cX11_oneHour : ByteArray := prog_13_method_23_code
def yX11_oneHour : MethodName := ⟨RX11, "oneHour", "()V"⟩
abbrev cX11_hours : ByteArray := prog_13_method_24_code
def yX11_hours : MethodName := ⟨RX11, "hours", "(I)I"⟩
abbrev cX11_greenOf : ByteArray := prog_13_method_25_code
def yX11_greenOf : MethodName := ⟨RX11, "greenOf", "(I)I"⟩
abbrev cX11_inKilns : ByteArray := prog_13_method_26_code
def yX11_inKilns : MethodName := ⟨RX11, "inKilns", "(I)I"⟩
abbrev cX11_about : ByteArray := prog_13_method_27_code
def yX11_about : MethodName := ⟨RX11, "about", "(II)I"⟩
abbrev cX11_tally : ByteArray := prog_13_method_28_code
def yX11_tally : MethodName := ⟨RX11, "tally", "(II)I"⟩
abbrev cX11_in : ByteArray := prog_13_method_29_code
def yX11_in : MethodName := ⟨RX11, "in", "(II)I"⟩
abbrev cX11_green : ByteArray := prog_13_method_30_code
def yX11_green : MethodName := ⟨RX11, "green", "(I)I"⟩
abbrev cX11_ledPockets : ByteArray := prog_13_method_31_code
def yX11_ledPockets : MethodName := ⟨RX11, "ledPockets", "()I"⟩
abbrev cX11_pocket : ByteArray := prog_13_method_32_code
def yX11_pocket : MethodName := ⟨RX11, "pocket", "(II)I"⟩
abbrev cX11_count : ByteArray := prog_13_method_33_code
def yX11_count : MethodName := ⟨RX11, "count", "(I)I"⟩
abbrev cX11_price : ByteArray := prog_13_method_34_code
def yX11_price : MethodName := ⟨RX11, "price", "(II)I"⟩
abbrev cX11_priced : ByteArray := prog_13_method_35_code
def yX11_priced : MethodName := ⟨RX11, "priced", "(I)I"⟩
abbrev cX11_act : ByteArray := prog_13_method_36_code
def yX11_act : MethodName := ⟨RX11, "act", "(II)I"⟩
abbrev cX11_duty : ByteArray := prog_13_method_37_code
def yX11_duty : MethodName := ⟨RX11, "duty", "(I)I"⟩
abbrev cX11_bound : ByteArray := prog_13_method_38_code
def yX11_bound : MethodName := ⟨RX11, "bound", "()I"⟩
abbrev cX11_picksBy : ByteArray := prog_13_method_39_code
def yX11_picksBy : MethodName := ⟨RX11, "picksBy", "(II)I"⟩
abbrev cX11_most : ByteArray := prog_13_method_40_code
def yX11_most : MethodName := ⟨RX11, "most", "(II)I"⟩
abbrev cX11_trace : ByteArray := prog_13_method_41_code
def yX11_trace : MethodName := ⟨RX11, "trace", "()J"⟩
def RJx145de : String := "java/io/Serializable"
def TJx145de : u_T := fun k => match k with
  | _ => ("", "", "", false)
def tyJx145de : Nat → FieldType := fun k => match k with
  | _ => .int
theorem nmJx145de : ∀ a, a < 0 → ∀ b, b < 0 → a ≠ b → (TJx145de a).2.1 ≠ (TJx145de b).2.1 := by decide +kernel
theorem tyJx145de_ok : ∀ k, k < 0 → parseFieldDescriptor (TJx145de k).2.2.1 = some (tyJx145de k) := by decide +kernel
def RJx8e188 : String := "java/lang/Cloneable"
def TJx8e188 : u_T := fun k => match k with
  | _ => ("", "", "", false)
def tyJx8e188 : Nat → FieldType := fun k => match k with
  | _ => .int
theorem nmJx8e188 : ∀ a, a < 0 → ∀ b, b < 0 → a ≠ b → (TJx8e188 a).2.1 ≠ (TJx8e188 b).2.1 := by decide +kernel
theorem tyJx8e188_ok : ∀ k, k < 0 → parseFieldDescriptor (TJx8e188 k).2.2.1 = some (tyJx8e188 k) := by decide +kernel
def RJxab1ab : String := "java/lang/Iterable"
def TJxab1ab : u_T := fun k => match k with
  | _ => ("", "", "", false)
def tyJxab1ab : Nat → FieldType := fun k => match k with
  | _ => .int
theorem nmJxab1ab : ∀ a, a < 0 → ∀ b, b < 0 → a ≠ b → (TJxab1ab a).2.1 ≠ (TJxab1ab b).2.1 := by decide +kernel
theorem tyJxab1ab_ok : ∀ k, k < 0 → parseFieldDescriptor (TJxab1ab k).2.2.1 = some (tyJxab1ab k) := by decide +kernel
def RJ9 : String := "java/lang/Math"
def TJ9 : u_T := fun k => match k with
  | _ => ("", "", "", false)
def tyJ9 : Nat → FieldType := fun k => match k with
  | _ => .int
theorem nmJ9 : ∀ a, a < 0 → ∀ b, b < 0 → a ≠ b → (TJ9 a).2.1 ≠ (TJ9 b).2.1 := by decide +kernel
theorem tyJ9_ok : ∀ k, k < 0 → parseFieldDescriptor (TJ9 k).2.2.1 = some (tyJ9 k) := by decide +kernel
abbrev cJ9_floorMod_7cf53 : ByteArray := prog_17_method_50_code
def yJ9_floorMod_7cf53 : MethodName := ⟨RJ9, "floorMod", "(II)I"⟩
abbrev cJ9_max_7cf53 : ByteArray := prog_17_method_65_code
def yJ9_max_7cf53 : MethodName := ⟨RJ9, "max", "(II)I"⟩
abbrev cJ9_min_7cf53 : ByteArray := prog_17_method_69_code
def yJ9_min_7cf53 : MethodName := ⟨RJ9, "min", "(II)I"⟩
def RJ10 : String := "java/lang/System"
def TJ10 : u_T := fun k => match k with
  | _ => ("", "", "", false)
def tyJ10 : Nat → FieldType := fun k => match k with
  | _ => .int
theorem nmJ10 : ∀ a, a < 0 → ∀ b, b < 0 → a ≠ b → (TJ10 a).2.1 ≠ (TJ10 b).2.1 := by decide +kernel
theorem tyJ10_ok : ∀ k, k < 0 → parseFieldDescriptor (TJ10 k).2.2.1 = some (tyJ10 k) := by decide +kernel
def RJxa1e45 : String := "java/util/AbstractCollection"
def TJxa1e45 : u_T := fun k => match k with
  | _ => ("", "", "", false)
def tyJxa1e45 : Nat → FieldType := fun k => match k with
  | _ => .int
theorem nmJxa1e45 : ∀ a, a < 0 → ∀ b, b < 0 → a ≠ b → (TJxa1e45 a).2.1 ≠ (TJxa1e45 b).2.1 := by decide +kernel
theorem tyJxa1e45_ok : ∀ k, k < 0 → parseFieldDescriptor (TJxa1e45 k).2.2.1 = some (tyJxa1e45 k) := by decide +kernel
abbrev cJxa1e45_init_da8c8 : ByteArray := prog_19_method_1_code
def yJxa1e45_init_da8c8 : MethodName := ⟨RJxa1e45, "<init>", "()V"⟩
def RJxc12de : String := "java/util/AbstractList"
def TJxc12de : u_T := fun k => match k with
  | _ => ("", "", "", false)
def tyJxc12de : Nat → FieldType := fun k => match k with
  | _ => .int
theorem nmJxc12de : ∀ a, a < 0 → ∀ b, b < 0 → a ≠ b → (TJxc12de a).2.1 ≠ (TJxc12de b).2.1 := by decide +kernel
theorem tyJxc12de_ok : ∀ k, k < 0 → parseFieldDescriptor (TJxc12de k).2.2.1 = some (tyJxc12de k) := by decide +kernel
abbrev cJxc12de_init_da8c8 : ByteArray := prog_20_method_1_code
def yJxc12de_init_da8c8 : MethodName := ⟨RJxc12de, "<init>", "()V"⟩
def RJx4a65c : String := "java/util/ArrayList"
def TJx4a65c : u_T := fun k => match k with
  | 0 => ("java/util/AbstractList", "modCount", "I", false)
  | 1 => ("java/util/ArrayList", "elementData", "[Ljava/lang/Object;", false)
  | _ => ("java/util/ArrayList", "size", "I", false)
def tyJx4a65c : Nat → FieldType := fun k => match k with
  | 0 => .int
  | 1 => .array (.object "java/lang/Object")
  | _ => .int
theorem nmJx4a65c : ∀ a, a < 3 → ∀ b, b < 3 → a ≠ b → (TJx4a65c a).2.1 ≠ (TJx4a65c b).2.1 := by decide +kernel
theorem tyJx4a65c_ok : ∀ k, k < 3 → parseFieldDescriptor (TJx4a65c k).2.2.1 = some (tyJx4a65c k) := by decide +kernel
abbrev cJx4a65c_init_da8c8 : ByteArray := prog_21_method_2_code
def yJx4a65c_init_da8c8 : MethodName := ⟨RJx4a65c, "<init>", "()V"⟩
abbrev cJx4a65c_grow_92f84 : ByteArray := prog_21_method_6_code
def yJx4a65c_grow_92f84 : MethodName := ⟨RJx4a65c, "grow", "(I)[Ljava/lang/Object;"⟩
abbrev cJx4a65c_grow_d5877 : ByteArray := prog_21_method_7_code
def yJx4a65c_grow_d5877 : MethodName := ⟨RJx4a65c, "grow", "()[Ljava/lang/Object;"⟩
abbrev cJx4a65c_size_8abf5 : ByteArray := prog_21_method_8_code
def yJx4a65c_size_8abf5 : MethodName := ⟨RJx4a65c, "size", "()I"⟩
abbrev cJx4a65c_elementData_915e3 : ByteArray := prog_21_method_18_code
def yJx4a65c_elementData_915e3 : MethodName := ⟨RJx4a65c, "elementData", "(I)Ljava/lang/Object;"⟩
abbrev cJx4a65c_get_915e3 : ByteArray := prog_21_method_20_code
def yJx4a65c_get_915e3 : MethodName := ⟨RJx4a65c, "get", "(I)Ljava/lang/Object;"⟩
abbrev cJx4a65c_add_72be8 : ByteArray := prog_21_method_24_code
def yJx4a65c_add_72be8 : MethodName := ⟨RJx4a65c, "add", "(Ljava/lang/Object;[Ljava/lang/Object;I)V"⟩
abbrev cJx4a65c_add_9ea2d : ByteArray := prog_21_method_25_code
def yJx4a65c_add_9ea2d : MethodName := ⟨RJx4a65c, "add", "(Ljava/lang/Object;)Z"⟩
def RJ7 : String := "java/util/Arrays"
def TJ7 : u_T := fun k => match k with
  | _ => ("", "", "", false)
def tyJ7 : Nat → FieldType := fun k => match k with
  | _ => .int
theorem nmJ7 : ∀ a, a < 0 → ∀ b, b < 0 → a ≠ b → (TJ7 a).2.1 ≠ (TJ7 b).2.1 := by decide +kernel
theorem tyJ7_ok : ∀ k, k < 0 → parseFieldDescriptor (TJ7 k).2.2.1 = some (tyJ7 k) := by decide +kernel
abbrev cJ7_copyOf_1904c : ByteArray := prog_22_method_119_code
def yJ7_copyOf_1904c : MethodName := ⟨RJ7, "copyOf", "([Ljava/lang/Object;I)[Ljava/lang/Object;"⟩
abbrev cJ7_copyOf_6403c : ByteArray := prog_22_method_120_code
def yJ7_copyOf_6403c : MethodName := ⟨RJ7, "copyOf", "([Ljava/lang/Object;ILjava/lang/Class;)[Ljava/lang/Object;"⟩
def RJx5ef63 : String := "java/util/Collection"
def TJx5ef63 : u_T := fun k => match k with
  | _ => ("", "", "", false)
def tyJx5ef63 : Nat → FieldType := fun k => match k with
  | _ => .int
theorem nmJx5ef63 : ∀ a, a < 0 → ∀ b, b < 0 → a ≠ b → (TJx5ef63 a).2.1 ≠ (TJx5ef63 b).2.1 := by decide +kernel
theorem tyJx5ef63_ok : ∀ k, k < 0 → parseFieldDescriptor (TJx5ef63 k).2.2.1 = some (tyJx5ef63 k) := by decide +kernel
def RJxbd725 : String := "java/util/List"
def TJxbd725 : u_T := fun k => match k with
  | _ => ("", "", "", false)
def tyJxbd725 : Nat → FieldType := fun k => match k with
  | _ => .int
theorem nmJxbd725 : ∀ a, a < 0 → ∀ b, b < 0 → a ≠ b → (TJxbd725 a).2.1 ≠ (TJxbd725 b).2.1 := by decide +kernel
theorem tyJxbd725_ok : ∀ k, k < 0 → parseFieldDescriptor (TJxbd725 k).2.2.1 = some (tyJxbd725 k) := by decide +kernel
def RJ15 : String := "java/util/Objects"
def TJ15 : u_T := fun k => match k with
  | _ => ("", "", "", false)
def tyJ15 : Nat → FieldType := fun k => match k with
  | _ => .int
theorem nmJ15 : ∀ a, a < 0 → ∀ b, b < 0 → a ≠ b → (TJ15 a).2.1 ≠ (TJ15 b).2.1 := by decide +kernel
theorem tyJ15_ok : ∀ k, k < 0 → parseFieldDescriptor (TJ15 k).2.2.1 = some (tyJ15 k) := by decide +kernel
abbrev cJ15_checkIndex_7cf53 : ByteArray := prog_25_method_17_code
def yJ15_checkIndex_7cf53 : MethodName := ⟨RJ15, "checkIndex", "(II)I"⟩
def RJxf0a74 : String := "java/util/RandomAccess"
def TJxf0a74 : u_T := fun k => match k with
  | _ => ("", "", "", false)
def tyJxf0a74 : Nat → FieldType := fun k => match k with
  | _ => .int
theorem nmJxf0a74 : ∀ a, a < 0 → ∀ b, b < 0 → a ≠ b → (TJxf0a74 a).2.1 ≠ (TJxf0a74 b).2.1 := by decide +kernel
theorem tyJxf0a74_ok : ∀ k, k < 0 → parseFieldDescriptor (TJxf0a74 k).2.2.1 = some (tyJxf0a74 k) := by decide +kernel
def RJxa66e6 : String := "java/util/SequencedCollection"
def TJxa66e6 : u_T := fun k => match k with
  | _ => ("", "", "", false)
def tyJxa66e6 : Nat → FieldType := fun k => match k with
  | _ => .int
theorem nmJxa66e6 : ∀ a, a < 0 → ∀ b, b < 0 → a ≠ b → (TJxa66e6 a).2.1 ≠ (TJxa66e6 b).2.1 := by decide +kernel
theorem tyJxa66e6_ok : ∀ k, k < 0 → parseFieldDescriptor (TJxa66e6 k).2.2.1 = some (tyJxa66e6 k) := by decide +kernel
def RJ8 : String := "jdk/internal/util/ArraysSupport"
def TJ8 : u_T := fun k => match k with
  | _ => ("", "", "", false)
def tyJ8 : Nat → FieldType := fun k => match k with
  | _ => .int
theorem nmJ8 : ∀ a, a < 0 → ∀ b, b < 0 → a ≠ b → (TJ8 a).2.1 ≠ (TJ8 b).2.1 := by decide +kernel
theorem tyJ8_ok : ∀ k, k < 0 → parseFieldDescriptor (TJ8 k).2.2.1 = some (tyJ8 k) := by decide +kernel
abbrev cJ8_newLength_cabcc : ByteArray := prog_28_method_27_code
def yJ8_newLength_cabcc : MethodName := ⟨RJ8, "newLength", "(III)I"⟩
abbrev cJ8_hugeLength_7cf53 : ByteArray := prog_28_method_28_code
def yJ8_hugeLength_7cf53 : MethodName := ⟨RJ8, "hugeLength", "(II)I"⟩
def RJ3 : String := "jdk/internal/util/Preconditions"
def TJ3 : u_T := fun k => match k with
  | _ => ("", "", "", false)
def tyJ3 : Nat → FieldType := fun k => match k with
  | _ => .int
theorem nmJ3 : ∀ a, a < 0 → ∀ b, b < 0 → a ≠ b → (TJ3 a).2.1 ≠ (TJ3 b).2.1 := by decide +kernel
theorem tyJ3_ok : ∀ k, k < 0 → parseFieldDescriptor (TJ3 k).2.2.1 = some (tyJ3 k) := by decide +kernel
abbrev cJ3_checkIndex_8e157 : ByteArray := prog_29_method_11_code
def yJ3_checkIndex_8e157 : MethodName := ⟨RJ3, "checkIndex", "(IILjava/util/function/BiFunction;)I"⟩
def RL : String := "HopYardLaw"
abbrev cL_law : ByteArray := code
def yL_law : MethodName := ⟨RL, "law", "([I)Z"⟩
abbrev vwCl : List vw_C := [(RJx4a65c, TJx4a65c, 3), (RX0, TX0, 4), (RX1, TX1, 0), (RX2, TX2, 0), (RX3, TX3, 6), (RX4, TX4, 6), (RX5, TX5, 2), (RX6, TX6, 8), (RX7, TX7, 4), (RX8, TX8, 0), (RX9, TX9, 5), (RX10, TX10, 11), (RX11, TX11, 37)]
end
section
theorem dX0_init_0 : decode cX0_init 0 = .ok (.aload_n 0, 1) := by decide +kernel
theorem dX0_init_1 : decode cX0_init 1 = .ok (.invokespecial 3, 3) := by decide +kernel
theorem dX0_init_4 : decode cX0_init 4 = .ok (.aload_n 0, 1) := by decide +kernel
theorem dX0_init_5 : decode cX0_init 5 = .ok (.bipush 64, 2) := by decide +kernel
theorem dX0_init_7 : decode cX0_init 7 = .ok (.newarray .int, 2) := by decide +kernel
theorem dX0_init_9 : decode cX0_init 9 = .ok (.putfield 11, 3) := by decide +kernel
theorem dX0_init_12 : decode cX0_init 12 = .ok (.aload_n 0, 1) := by decide +kernel
theorem dX0_init_13 : decode cX0_init 13 = .ok (.bipush 64, 2) := by decide +kernel
theorem dX0_init_15 : decode cX0_init 15 = .ok (.newarray .int, 2) := by decide +kernel
theorem dX0_init_17 : decode cX0_init 17 = .ok (.putfield 15, 3) := by decide +kernel
theorem dX0_init_20 : decode cX0_init 20 = .ok (.aload_n 0, 1) := by decide +kernel
theorem dX0_init_21 : decode cX0_init 21 = .ok (.bipush 64, 2) := by decide +kernel
theorem dX0_init_23 : decode cX0_init 23 = .ok (.newarray .int, 2) := by decide +kernel
theorem dX0_init_25 : decode cX0_init 25 = .ok (.putfield 18, 3) := by decide +kernel
theorem dX0_init_28 : decode cX0_init 28 = .ok (.aload_n 0, 1) := by decide +kernel
theorem dX0_init_29 : decode cX0_init 29 = .ok (.iconst 1, 1) := by decide +kernel
theorem dX0_init_30 : decode cX0_init 30 = .ok (.putfield 21, 3) := by decide +kernel
theorem dX0_init_33 : decode cX0_init 33 = .ok (.return_, 1) := by decide +kernel
theorem dX0_begin_0 : decode cX0_begin 0 = .ok (.aload_n 0, 1) := by decide +kernel
theorem dX0_begin_1 : decode cX0_begin 1 = .ok (.iconst 1, 1) := by decide +kernel
theorem dX0_begin_2 : decode cX0_begin 2 = .ok (.putfield 21, 3) := by decide +kernel
theorem dX0_begin_5 : decode cX0_begin 5 = .ok (.aload_n 0, 1) := by decide +kernel
theorem dX0_begin_6 : decode cX0_begin 6 = .ok (.getfield 18, 3) := by decide +kernel
theorem dX0_begin_9 : decode cX0_begin 9 = .ok (.iconst 0, 1) := by decide +kernel
theorem dX0_begin_10 : decode cX0_begin 10 = .ok (.iconst 0, 1) := by decide +kernel
theorem dX0_begin_11 : decode cX0_begin 11 = .ok (.iastore, 1) := by decide +kernel
theorem dX0_begin_12 : decode cX0_begin 12 = .ok (.iconst 1, 1) := by decide +kernel
theorem dX0_begin_13 : decode cX0_begin 13 = .ok (.istore_n 2, 1) := by decide +kernel
theorem dX0_begin_14 : decode cX0_begin 14 = .ok (.iconst 0, 1) := by decide +kernel
theorem dX0_begin_15 : decode cX0_begin 15 = .ok (.istore_n 3, 1) := by decide +kernel
theorem dX0_begin_16 : decode cX0_begin 16 = .ok (.iload_n 3, 1) := by decide +kernel
theorem dX0_begin_17 : decode cX0_begin 17 = .ok (.aload_n 1, 1) := by decide +kernel
theorem dX0_begin_18 : decode cX0_begin 18 = .ok (.invokevirtual 25, 3) := by decide +kernel
theorem dX0_begin_21 : decode cX0_begin 21 = .ok (.if_icmp .ge 36, 3) := by decide +kernel
theorem dX0_begin_24 : decode cX0_begin 24 = .ok (.iload_n 3, 1) := by decide +kernel
theorem dX0_begin_25 : decode cX0_begin 25 = .ok (.bipush 6, 2) := by decide +kernel
theorem dX0_begin_27 : decode cX0_begin 27 = .ok (.if_icmp .ge 30, 3) := by decide +kernel
theorem dX0_begin_30 : decode cX0_begin 30 = .ok (.aload_n 0, 1) := by decide +kernel
theorem dX0_begin_31 : decode cX0_begin 31 = .ok (.aload_n 1, 1) := by decide +kernel
theorem dX0_begin_32 : decode cX0_begin 32 = .ok (.iload_n 3, 1) := by decide +kernel
theorem dX0_begin_33 : decode cX0_begin 33 = .ok (.invokevirtual 31, 3) := by decide +kernel
theorem dX0_begin_36 : decode cX0_begin 36 = .ok (.checkcast 35, 3) := by decide +kernel
theorem dX0_begin_39 : decode cX0_begin 39 = .ok (.getfield 37, 3) := by decide +kernel
theorem dX0_begin_42 : decode cX0_begin 42 = .ok (.iload_n 2, 1) := by decide +kernel
theorem dX0_begin_43 : decode cX0_begin 43 = .ok (.invokevirtual 40, 3) := by decide +kernel
theorem dX0_begin_46 : decode cX0_begin 46 = .ok (.iload_n 2, 1) := by decide +kernel
theorem dX0_begin_47 : decode cX0_begin 47 = .ok (.bipush 7, 2) := by decide +kernel
theorem dX0_begin_49 : decode cX0_begin 49 = .ok (.imul, 1) := by decide +kernel
theorem dX0_begin_50 : decode cX0_begin 50 = .ok (.istore_n 2, 1) := by decide +kernel
theorem dX0_begin_51 : decode cX0_begin 51 = .ok (.iinc 3 1, 3) := by decide +kernel
theorem dX0_begin_54 : decode cX0_begin 54 = .ok (.goto (-38), 3) := by decide +kernel
theorem dX0_begin_57 : decode cX0_begin 57 = .ok (.return_, 1) := by decide +kernel
theorem dX0_addGang_0 : decode cX0_addGang 0 = .ok (.aload_n 0, 1) := by decide +kernel
theorem dX0_addGang_1 : decode cX0_addGang 1 = .ok (.getfield 21, 3) := by decide +kernel
theorem dX0_addGang_4 : decode cX0_addGang 4 = .ok (.istore_n 3, 1) := by decide +kernel
theorem dX0_addGang_5 : decode cX0_addGang 5 = .ok (.iconst 0, 1) := by decide +kernel
theorem dX0_addGang_6 : decode cX0_addGang 6 = .ok (.istore 4, 2) := by decide +kernel
theorem dX0_addGang_8 : decode cX0_addGang 8 = .ok (.iload 4, 2) := by decide +kernel
theorem dX0_addGang_10 : decode cX0_addGang 10 = .ok (.iload_n 3, 1) := by decide +kernel
theorem dX0_addGang_11 : decode cX0_addGang 11 = .ok (.if_icmp .ge 64, 3) := by decide +kernel
theorem dX0_addGang_14 : decode cX0_addGang 14 = .ok (.iload_n 3, 1) := by decide +kernel
theorem dX0_addGang_15 : decode cX0_addGang 15 = .ok (.iload 4, 2) := by decide +kernel
theorem dX0_addGang_17 : decode cX0_addGang 17 = .ok (.iadd, 1) := by decide +kernel
theorem dX0_addGang_18 : decode cX0_addGang 18 = .ok (.bipush 64, 2) := by decide +kernel
theorem dX0_addGang_20 : decode cX0_addGang 20 = .ok (.if_icmp .ge 55, 3) := by decide +kernel
theorem dX0_addGang_23 : decode cX0_addGang 23 = .ok (.aload_n 0, 1) := by decide +kernel
theorem dX0_addGang_24 : decode cX0_addGang 24 = .ok (.getfield 11, 3) := by decide +kernel
theorem dX0_addGang_27 : decode cX0_addGang 27 = .ok (.iload_n 3, 1) := by decide +kernel
theorem dX0_addGang_28 : decode cX0_addGang 28 = .ok (.iload 4, 2) := by decide +kernel
theorem dX0_addGang_30 : decode cX0_addGang 30 = .ok (.iadd, 1) := by decide +kernel
theorem dX0_addGang_31 : decode cX0_addGang 31 = .ok (.aload_n 0, 1) := by decide +kernel
theorem dX0_addGang_32 : decode cX0_addGang 32 = .ok (.getfield 11, 3) := by decide +kernel
theorem dX0_addGang_35 : decode cX0_addGang 35 = .ok (.iload 4, 2) := by decide +kernel
theorem dX0_addGang_37 : decode cX0_addGang 37 = .ok (.iaload, 1) := by decide +kernel
theorem dX0_addGang_38 : decode cX0_addGang 38 = .ok (.iload_n 1, 1) := by decide +kernel
theorem dX0_addGang_39 : decode cX0_addGang 39 = .ok (.iadd, 1) := by decide +kernel
theorem dX0_addGang_40 : decode cX0_addGang 40 = .ok (.iastore, 1) := by decide +kernel
theorem dX0_addGang_41 : decode cX0_addGang 41 = .ok (.aload_n 0, 1) := by decide +kernel
theorem dX0_addGang_42 : decode cX0_addGang 42 = .ok (.getfield 15, 3) := by decide +kernel
theorem dX0_addGang_45 : decode cX0_addGang 45 = .ok (.iload_n 3, 1) := by decide +kernel
theorem dX0_addGang_46 : decode cX0_addGang 46 = .ok (.iload 4, 2) := by decide +kernel
theorem dX0_addGang_48 : decode cX0_addGang 48 = .ok (.iadd, 1) := by decide +kernel
theorem dX0_addGang_49 : decode cX0_addGang 49 = .ok (.aload_n 0, 1) := by decide +kernel
theorem dX0_addGang_50 : decode cX0_addGang 50 = .ok (.getfield 15, 3) := by decide +kernel
theorem dX0_addGang_53 : decode cX0_addGang 53 = .ok (.iload 4, 2) := by decide +kernel
theorem dX0_addGang_55 : decode cX0_addGang 55 = .ok (.iaload, 1) := by decide +kernel
theorem dX0_addGang_56 : decode cX0_addGang 56 = .ok (.iload_n 2, 1) := by decide +kernel
theorem dX0_addGang_57 : decode cX0_addGang 57 = .ok (.iadd, 1) := by decide +kernel
theorem dX0_addGang_58 : decode cX0_addGang 58 = .ok (.iastore, 1) := by decide +kernel
theorem dX0_addGang_59 : decode cX0_addGang 59 = .ok (.aload_n 0, 1) := by decide +kernel
theorem dX0_addGang_60 : decode cX0_addGang 60 = .ok (.getfield 18, 3) := by decide +kernel
theorem dX0_addGang_63 : decode cX0_addGang 63 = .ok (.iload_n 3, 1) := by decide +kernel
theorem dX0_addGang_64 : decode cX0_addGang 64 = .ok (.iload 4, 2) := by decide +kernel
theorem dX0_addGang_66 : decode cX0_addGang 66 = .ok (.iadd, 1) := by decide +kernel
theorem dX0_addGang_67 : decode cX0_addGang 67 = .ok (.iconst 0, 1) := by decide +kernel
theorem dX0_addGang_68 : decode cX0_addGang 68 = .ok (.iastore, 1) := by decide +kernel
theorem dX0_addGang_69 : decode cX0_addGang 69 = .ok (.iinc 4 1, 3) := by decide +kernel
theorem dX0_addGang_72 : decode cX0_addGang 72 = .ok (.goto (-64), 3) := by decide +kernel
theorem dX0_addGang_75 : decode cX0_addGang 75 = .ok (.aload_n 0, 1) := by decide +kernel
theorem dX0_addGang_76 : decode cX0_addGang 76 = .ok (.iconst 2, 1) := by decide +kernel
theorem dX0_addGang_77 : decode cX0_addGang 77 = .ok (.iload_n 3, 1) := by decide +kernel
theorem dX0_addGang_78 : decode cX0_addGang 78 = .ok (.imul, 1) := by decide +kernel
theorem dX0_addGang_79 : decode cX0_addGang 79 = .ok (.bipush 64, 2) := by decide +kernel
theorem dX0_addGang_81 : decode cX0_addGang 81 = .ok (.invokestatic 44, 3) := by decide +kernel
theorem dX0_addGang_84 : decode cX0_addGang 84 = .ok (.putfield 21, 3) := by decide +kernel
theorem dX0_addGang_87 : decode cX0_addGang 87 = .ok (.return_, 1) := by decide +kernel
theorem dX0_offer_0 : decode cX0_offer 0 = .ok (.aload_n 0, 1) := by decide +kernel
theorem dX0_offer_1 : decode cX0_offer 1 = .ok (.getfield 21, 3) := by decide +kernel
theorem dX0_offer_4 : decode cX0_offer 4 = .ok (.iconst 1, 1) := by decide +kernel
theorem dX0_offer_5 : decode cX0_offer 5 = .ok (.isub, 1) := by decide +kernel
theorem dX0_offer_6 : decode cX0_offer 6 = .ok (.istore_n 3, 1) := by decide +kernel
theorem dX0_offer_7 : decode cX0_offer 7 = .ok (.iload_n 3, 1) := by decide +kernel
theorem dX0_offer_8 : decode cX0_offer 8 = .ok (.ifCond .le 98, 3) := by decide +kernel
theorem dX0_offer_11 : decode cX0_offer 11 = .ok (.aload_n 0, 1) := by decide +kernel
theorem dX0_offer_12 : decode cX0_offer 12 = .ok (.getfield 18, 3) := by decide +kernel
theorem dX0_offer_15 : decode cX0_offer 15 = .ok (.iload_n 3, 1) := by decide +kernel
theorem dX0_offer_16 : decode cX0_offer 16 = .ok (.iaload, 1) := by decide +kernel
theorem dX0_offer_17 : decode cX0_offer 17 = .ok (.istore 4, 2) := by decide +kernel
theorem dX0_offer_19 : decode cX0_offer 19 = .ok (.iload_n 3, 1) := by decide +kernel
theorem dX0_offer_20 : decode cX0_offer 20 = .ok (.istore 5, 2) := by decide +kernel
theorem dX0_offer_22 : decode cX0_offer 22 = .ok (.iload 5, 2) := by decide +kernel
theorem dX0_offer_24 : decode cX0_offer 24 = .ok (.ifCond .le 68, 3) := by decide +kernel
theorem dX0_offer_27 : decode cX0_offer 27 = .ok (.aload_n 0, 1) := by decide +kernel
theorem dX0_offer_28 : decode cX0_offer 28 = .ok (.getfield 11, 3) := by decide +kernel
theorem dX0_offer_31 : decode cX0_offer 31 = .ok (.iload 5, 2) := by decide +kernel
theorem dX0_offer_33 : decode cX0_offer 33 = .ok (.iaload, 1) := by decide +kernel
theorem dX0_offer_34 : decode cX0_offer 34 = .ok (.bipush 12, 2) := by decide +kernel
theorem dX0_offer_36 : decode cX0_offer 36 = .ok (.imul, 1) := by decide +kernel
theorem dX0_offer_37 : decode cX0_offer 37 = .ok (.iload_n 2, 1) := by decide +kernel
theorem dX0_offer_38 : decode cX0_offer 38 = .ok (.invokestatic 44, 3) := by decide +kernel
theorem dX0_offer_41 : decode cX0_offer 41 = .ok (.istore 6, 2) := by decide +kernel
theorem dX0_offer_43 : decode cX0_offer 43 = .ok (.iload 6, 2) := by decide +kernel
theorem dX0_offer_45 : decode cX0_offer 45 = .ok (.ldc 50, 2) := by decide +kernel
theorem dX0_offer_47 : decode cX0_offer 47 = .ok (.imul, 1) := by decide +kernel
theorem dX0_offer_48 : decode cX0_offer 48 = .ok (.aload_n 0, 1) := by decide +kernel
theorem dX0_offer_49 : decode cX0_offer 49 = .ok (.getfield 15, 3) := by decide +kernel
theorem dX0_offer_52 : decode cX0_offer 52 = .ok (.iload 5, 2) := by decide +kernel
theorem dX0_offer_54 : decode cX0_offer 54 = .ok (.iaload, 1) := by decide +kernel
theorem dX0_offer_55 : decode cX0_offer 55 = .ok (.iload_n 1, 1) := by decide +kernel
theorem dX0_offer_56 : decode cX0_offer 56 = .ok (.iconst 1, 1) := by decide +kernel
theorem dX0_offer_57 : decode cX0_offer 57 = .ok (.iadd, 1) := by decide +kernel
theorem dX0_offer_58 : decode cX0_offer 58 = .ok (.imul, 1) := by decide +kernel
theorem dX0_offer_59 : decode cX0_offer 59 = .ok (.isub, 1) := by decide +kernel
theorem dX0_offer_60 : decode cX0_offer 60 = .ok (.istore 7, 2) := by decide +kernel
theorem dX0_offer_62 : decode cX0_offer 62 = .ok (.iload 4, 2) := by decide +kernel
theorem dX0_offer_64 : decode cX0_offer 64 = .ok (.iload 7, 2) := by decide +kernel
theorem dX0_offer_66 : decode cX0_offer 66 = .ok (.aload_n 0, 1) := by decide +kernel
theorem dX0_offer_67 : decode cX0_offer 67 = .ok (.getfield 18, 3) := by decide +kernel
theorem dX0_offer_70 : decode cX0_offer 70 = .ok (.iload_n 3, 1) := by decide +kernel
theorem dX0_offer_71 : decode cX0_offer 71 = .ok (.iload 5, 2) := by decide +kernel
theorem dX0_offer_73 : decode cX0_offer 73 = .ok (.ixor, 1) := by decide +kernel
theorem dX0_offer_74 : decode cX0_offer 74 = .ok (.iaload, 1) := by decide +kernel
theorem dX0_offer_75 : decode cX0_offer 75 = .ok (.iadd, 1) := by decide +kernel
theorem dX0_offer_76 : decode cX0_offer 76 = .ok (.invokestatic 51, 3) := by decide +kernel
theorem dX0_offer_79 : decode cX0_offer 79 = .ok (.istore 4, 2) := by decide +kernel
theorem dX0_offer_81 : decode cX0_offer 81 = .ok (.iload 5, 2) := by decide +kernel
theorem dX0_offer_83 : decode cX0_offer 83 = .ok (.iconst 1, 1) := by decide +kernel
theorem dX0_offer_84 : decode cX0_offer 84 = .ok (.isub, 1) := by decide +kernel
theorem dX0_offer_85 : decode cX0_offer 85 = .ok (.iload_n 3, 1) := by decide +kernel
theorem dX0_offer_86 : decode cX0_offer 86 = .ok (.iand, 1) := by decide +kernel
theorem dX0_offer_87 : decode cX0_offer 87 = .ok (.istore 5, 2) := by decide +kernel
theorem dX0_offer_89 : decode cX0_offer 89 = .ok (.goto (-67), 3) := by decide +kernel
theorem dX0_offer_92 : decode cX0_offer 92 = .ok (.aload_n 0, 1) := by decide +kernel
theorem dX0_offer_93 : decode cX0_offer 93 = .ok (.getfield 18, 3) := by decide +kernel
theorem dX0_offer_96 : decode cX0_offer 96 = .ok (.iload_n 3, 1) := by decide +kernel
theorem dX0_offer_97 : decode cX0_offer 97 = .ok (.iload 4, 2) := by decide +kernel
theorem dX0_offer_99 : decode cX0_offer 99 = .ok (.iastore, 1) := by decide +kernel
theorem dX0_offer_100 : decode cX0_offer 100 = .ok (.iinc 3 (-1), 3) := by decide +kernel
theorem dX0_offer_103 : decode cX0_offer 103 = .ok (.goto (-96), 3) := by decide +kernel
theorem dX0_offer_106 : decode cX0_offer 106 = .ok (.return_, 1) := by decide +kernel
theorem dX0_bushels_0 : decode cX0_bushels 0 = .ok (.aload_n 0, 1) := by decide +kernel
theorem dX0_bushels_1 : decode cX0_bushels 1 = .ok (.getfield 18, 3) := by decide +kernel
theorem dX0_bushels_4 : decode cX0_bushels 4 = .ok (.aload_n 0, 1) := by decide +kernel
theorem dX0_bushels_5 : decode cX0_bushels 5 = .ok (.getfield 21, 3) := by decide +kernel
theorem dX0_bushels_8 : decode cX0_bushels 8 = .ok (.iconst 1, 1) := by decide +kernel
theorem dX0_bushels_9 : decode cX0_bushels 9 = .ok (.isub, 1) := by decide +kernel
theorem dX0_bushels_10 : decode cX0_bushels 10 = .ok (.iaload, 1) := by decide +kernel
theorem dX0_bushels_11 : decode cX0_bushels 11 = .ok (.ldc 50, 2) := by decide +kernel
theorem dX0_bushels_13 : decode cX0_bushels 13 = .ok (.iadd, 1) := by decide +kernel
theorem dX0_bushels_14 : decode cX0_bushels 14 = .ok (.iconst 1, 1) := by decide +kernel
theorem dX0_bushels_15 : decode cX0_bushels 15 = .ok (.isub, 1) := by decide +kernel
theorem dX0_bushels_16 : decode cX0_bushels 16 = .ok (.ldc 50, 2) := by decide +kernel
theorem dX0_bushels_18 : decode cX0_bushels 18 = .ok (.idiv, 1) := by decide +kernel
theorem dX0_bushels_19 : decode cX0_bushels 19 = .ok (.ireturn, 1) := by decide +kernel
theorem dX0_number_0 : decode cX0_number 0 = .ok (.aload_n 0, 1) := by decide +kernel
theorem dX0_number_1 : decode cX0_number 1 = .ok (.invokevirtual 54, 3) := by decide +kernel
theorem dX0_number_4 : decode cX0_number 4 = .ok (.ldc 50, 2) := by decide +kernel
theorem dX0_number_6 : decode cX0_number 6 = .ok (.imul, 1) := by decide +kernel
theorem dX0_number_7 : decode cX0_number 7 = .ok (.aload_n 0, 1) := by decide +kernel
theorem dX0_number_8 : decode cX0_number 8 = .ok (.getfield 18, 3) := by decide +kernel
theorem dX0_number_11 : decode cX0_number 11 = .ok (.aload_n 0, 1) := by decide +kernel
theorem dX0_number_12 : decode cX0_number 12 = .ok (.getfield 21, 3) := by decide +kernel
theorem dX0_number_15 : decode cX0_number 15 = .ok (.iconst 1, 1) := by decide +kernel
theorem dX0_number_16 : decode cX0_number 16 = .ok (.isub, 1) := by decide +kernel
theorem dX0_number_17 : decode cX0_number 17 = .ok (.iaload, 1) := by decide +kernel
theorem dX0_number_18 : decode cX0_number 18 = .ok (.isub, 1) := by decide +kernel
theorem dX0_number_19 : decode cX0_number 19 = .ok (.ireturn, 1) := by decide +kernel
theorem dX1_init_0 : decode cX1_init 0 = .ok (.aload_n 0, 1) := by decide +kernel
theorem dX1_init_1 : decode cX1_init 1 = .ok (.invokespecial 1, 3) := by decide +kernel
theorem dX1_init_4 : decode cX1_init 4 = .ok (.return_, 1) := by decide +kernel
theorem dX1_dries_0 : decode cX1_dries 0 = .ok (.iconst 2, 1) := by decide +kernel
theorem dX1_dries_1 : decode cX1_dries 1 = .ok (.aload_n 0, 1) := by decide +kernel
theorem dX1_dries_2 : decode cX1_dries 2 = .ok (.iload_n 1, 1) := by decide +kernel
theorem dX1_dries_3 : decode cX1_dries 3 = .ok (.invokespecial 7, 3) := by decide +kernel
theorem dX1_dries_6 : decode cX1_dries 6 = .ok (.imul, 1) := by decide +kernel
theorem dX1_dries_7 : decode cX1_dries 7 = .ok (.bipush 40, 2) := by decide +kernel
theorem dX1_dries_9 : decode cX1_dries 9 = .ok (.invokestatic 11, 3) := by decide +kernel
theorem dX1_dries_12 : decode cX1_dries 12 = .ok (.ireturn, 1) := by decide +kernel
theorem dX1_marks_0 : decode cX1_marks 0 = .ok (.aload_n 0, 1) := by decide +kernel
theorem dX1_marks_1 : decode cX1_marks 1 = .ok (.invokespecial 17, 3) := by decide +kernel
theorem dX1_marks_4 : decode cX1_marks 4 = .ok (.bipush 100, 2) := by decide +kernel
theorem dX1_marks_6 : decode cX1_marks 6 = .ok (.iadd, 1) := by decide +kernel
theorem dX1_marks_7 : decode cX1_marks 7 = .ok (.ireturn, 1) := by decide +kernel
theorem dX2_init_0 : decode cX2_init 0 = .ok (.aload_n 0, 1) := by decide +kernel
theorem dX2_init_1 : decode cX2_init 1 = .ok (.invokespecial 1, 3) := by decide +kernel
theorem dX2_init_4 : decode cX2_init 4 = .ok (.return_, 1) := by decide +kernel
theorem dX2_dries_0 : decode cX2_dries 0 = .ok (.aload_n 0, 1) := by decide +kernel
theorem dX2_dries_1 : decode cX2_dries 1 = .ok (.iload_n 1, 1) := by decide +kernel
theorem dX2_dries_2 : decode cX2_dries 2 = .ok (.invokespecial 7, 3) := by decide +kernel
theorem dX2_dries_5 : decode cX2_dries 5 = .ok (.istore_n 2, 1) := by decide +kernel
theorem dX2_dries_6 : decode cX2_dries 6 = .ok (.iload_n 1, 1) := by decide +kernel
theorem dX2_dries_7 : decode cX2_dries 7 = .ok (.bipush 40, 2) := by decide +kernel
theorem dX2_dries_9 : decode cX2_dries 9 = .ok (.if_icmp .lt 9, 3) := by decide +kernel
theorem dX2_dries_12 : decode cX2_dries 12 = .ok (.iload_n 2, 1) := by decide +kernel
theorem dX2_dries_13 : decode cX2_dries 13 = .ok (.iconst 3, 1) := by decide +kernel
theorem dX2_dries_14 : decode cX2_dries 14 = .ok (.iadd, 1) := by decide +kernel
theorem dX2_dries_15 : decode cX2_dries 15 = .ok (.goto 4, 3) := by decide +kernel
theorem dX2_dries_18 : decode cX2_dries 18 = .ok (.iload_n 2, 1) := by decide +kernel
theorem dX2_dries_19 : decode cX2_dries 19 = .ok (.ireturn, 1) := by decide +kernel
theorem dX2_marks_0 : decode cX2_marks 0 = .ok (.aload_n 0, 1) := by decide +kernel
theorem dX2_marks_1 : decode cX2_marks 1 = .ok (.invokespecial 11, 3) := by decide +kernel
theorem dX2_marks_4 : decode cX2_marks 4 = .ok (.bipush 10, 2) := by decide +kernel
theorem dX2_marks_6 : decode cX2_marks 6 = .ok (.iadd, 1) := by decide +kernel
theorem dX2_marks_7 : decode cX2_marks 7 = .ok (.ireturn, 1) := by decide +kernel
theorem dX3_init_0 : decode cX3_init 0 = .ok (.aload_n 0, 1) := by decide +kernel
theorem dX3_init_1 : decode cX3_init 1 = .ok (.invokespecial 3, 3) := by decide +kernel
theorem dX3_init_4 : decode cX3_init 4 = .ok (.aload_n 0, 1) := by decide +kernel
theorem dX3_init_5 : decode cX3_init 5 = .ok (.iload_n 1, 1) := by decide +kernel
theorem dX3_init_6 : decode cX3_init 6 = .ok (.putfield 9, 3) := by decide +kernel
theorem dX3_init_9 : decode cX3_init 9 = .ok (.aload_n 0, 1) := by decide +kernel
theorem dX3_init_10 : decode cX3_init 10 = .ok (.iload_n 2, 1) := by decide +kernel
theorem dX3_init_11 : decode cX3_init 11 = .ok (.putfield 15, 3) := by decide +kernel
theorem dX3_init_14 : decode cX3_init 14 = .ok (.aload_n 0, 1) := by decide +kernel
theorem dX3_init_15 : decode cX3_init 15 = .ok (.bipush (-9), 2) := by decide +kernel
theorem dX3_init_17 : decode cX3_init 17 = .ok (.putfield 18, 3) := by decide +kernel
theorem dX3_init_20 : decode cX3_init 20 = .ok (.return_, 1) := by decide +kernel
theorem dX3_enter_0 : decode cX3_enter 0 = .ok (.iload_n 1, 1) := by decide +kernel
theorem dX3_enter_1 : decode cX3_enter 1 = .ok (.bipush 100, 2) := by decide +kernel
theorem dX3_enter_3 : decode cX3_enter 3 = .ok (.imul, 1) := by decide +kernel
theorem dX3_enter_4 : decode cX3_enter 4 = .ok (.aload_n 0, 1) := by decide +kernel
theorem dX3_enter_5 : decode cX3_enter 5 = .ok (.getfield 15, 3) := by decide +kernel
theorem dX3_enter_8 : decode cX3_enter 8 = .ok (.idiv, 1) := by decide +kernel
theorem dX3_enter_9 : decode cX3_enter 9 = .ok (.istore_n 3, 1) := by decide +kernel
theorem dX3_enter_10 : decode cX3_enter 10 = .ok (.aload_n 0, 1) := by decide +kernel
theorem dX3_enter_11 : decode cX3_enter 11 = .ok (.dup, 1) := by decide +kernel
theorem dX3_enter_12 : decode cX3_enter 12 = .ok (.getfield 21, 3) := by decide +kernel
theorem dX3_enter_15 : decode cX3_enter 15 = .ok (.iload_n 1, 1) := by decide +kernel
theorem dX3_enter_16 : decode cX3_enter 16 = .ok (.iadd, 1) := by decide +kernel
theorem dX3_enter_17 : decode cX3_enter 17 = .ok (.putfield 21, 3) := by decide +kernel
theorem dX3_enter_20 : decode cX3_enter 20 = .ok (.aload_n 0, 1) := by decide +kernel
theorem dX3_enter_21 : decode cX3_enter 21 = .ok (.dup, 1) := by decide +kernel
theorem dX3_enter_22 : decode cX3_enter 22 = .ok (.getfield 24, 3) := by decide +kernel
theorem dX3_enter_25 : decode cX3_enter 25 = .ok (.iload_n 3, 1) := by decide +kernel
theorem dX3_enter_26 : decode cX3_enter 26 = .ok (.iadd, 1) := by decide +kernel
theorem dX3_enter_27 : decode cX3_enter 27 = .ok (.putfield 24, 3) := by decide +kernel
theorem dX3_enter_30 : decode cX3_enter 30 = .ok (.aload_n 0, 1) := by decide +kernel
theorem dX3_enter_31 : decode cX3_enter 31 = .ok (.dup, 1) := by decide +kernel
theorem dX3_enter_32 : decode cX3_enter 32 = .ok (.getfield 27, 3) := by decide +kernel
theorem dX3_enter_35 : decode cX3_enter 35 = .ok (.iload_n 3, 1) := by decide +kernel
theorem dX3_enter_36 : decode cX3_enter 36 = .ok (.iload_n 2, 1) := by decide +kernel
theorem dX3_enter_37 : decode cX3_enter 37 = .ok (.imul, 1) := by decide +kernel
theorem dX3_enter_38 : decode cX3_enter 38 = .ok (.iadd, 1) := by decide +kernel
theorem dX3_enter_39 : decode cX3_enter 39 = .ok (.putfield 27, 3) := by decide +kernel
theorem dX3_enter_42 : decode cX3_enter 42 = .ok (.return_, 1) := by decide +kernel
theorem dX4_init_0 : decode cX4_init 0 = .ok (.aload_n 0, 1) := by decide +kernel
theorem dX4_init_1 : decode cX4_init 1 = .ok (.invokespecial 1, 3) := by decide +kernel
theorem dX4_init_4 : decode cX4_init 4 = .ok (.aload_n 0, 1) := by decide +kernel
theorem dX4_init_5 : decode cX4_init 5 = .ok (.iload_n 2, 1) := by decide +kernel
theorem dX4_init_6 : decode cX4_init 6 = .ok (.putfield 7, 3) := by decide +kernel
theorem dX4_init_9 : decode cX4_init 9 = .ok (.aload_n 0, 1) := by decide +kernel
theorem dX4_init_10 : decode cX4_init 10 = .ok (.iload_n 3, 1) := by decide +kernel
theorem dX4_init_11 : decode cX4_init 11 = .ok (.putfield 13, 3) := by decide +kernel
theorem dX4_init_14 : decode cX4_init 14 = .ok (.aload_n 0, 1) := by decide +kernel
theorem dX4_init_15 : decode cX4_init 15 = .ok (.iload_n 1, 1) := by decide +kernel
theorem dX4_init_16 : decode cX4_init 16 = .ok (.putfield 16, 3) := by decide +kernel
theorem dX4_init_19 : decode cX4_init 19 = .ok (.return_, 1) := by decide +kernel
theorem dX4_isRipe_0 : decode cX4_isRipe 0 = .ok (.iload_n 1, 1) := by decide +kernel
theorem dX4_isRipe_1 : decode cX4_isRipe 1 = .ok (.aload_n 0, 1) := by decide +kernel
theorem dX4_isRipe_2 : decode cX4_isRipe 2 = .ok (.getfield 7, 3) := by decide +kernel
theorem dX4_isRipe_5 : decode cX4_isRipe 5 = .ok (.aload_n 0, 1) := by decide +kernel
theorem dX4_isRipe_6 : decode cX4_isRipe 6 = .ok (.getfield 13, 3) := by decide +kernel
theorem dX4_isRipe_9 : decode cX4_isRipe 9 = .ok (.invokestatic 19, 3) := by decide +kernel
theorem dX4_isRipe_12 : decode cX4_isRipe 12 = .ok (.ireturn, 1) := by decide +kernel
theorem dX4_yields_0 : decode cX4_yields 0 = .ok (.iload_n 1, 1) := by decide +kernel
theorem dX4_yields_1 : decode cX4_yields 1 = .ok (.aload_n 0, 1) := by decide +kernel
theorem dX4_yields_2 : decode cX4_yields 2 = .ok (.getfield 16, 3) := by decide +kernel
theorem dX4_yields_5 : decode cX4_yields 5 = .ok (.invokestatic 25, 3) := by decide +kernel
theorem dX4_yields_8 : decode cX4_yields 8 = .ok (.istore_n 2, 1) := by decide +kernel
theorem dX4_yields_9 : decode cX4_yields 9 = .ok (.aload_n 0, 1) := by decide +kernel
theorem dX4_yields_10 : decode cX4_yields 10 = .ok (.dup, 1) := by decide +kernel
theorem dX4_yields_11 : decode cX4_yields 11 = .ok (.getfield 16, 3) := by decide +kernel
theorem dX4_yields_14 : decode cX4_yields 14 = .ok (.iload_n 2, 1) := by decide +kernel
theorem dX4_yields_15 : decode cX4_yields 15 = .ok (.isub, 1) := by decide +kernel
theorem dX4_yields_16 : decode cX4_yields 16 = .ok (.putfield 16, 3) := by decide +kernel
theorem dX4_yields_19 : decode cX4_yields 19 = .ok (.aload_n 0, 1) := by decide +kernel
theorem dX4_yields_20 : decode cX4_yields 20 = .ok (.dup, 1) := by decide +kernel
theorem dX4_yields_21 : decode cX4_yields 21 = .ok (.getfield 31, 3) := by decide +kernel
theorem dX4_yields_24 : decode cX4_yields 24 = .ok (.iload_n 2, 1) := by decide +kernel
theorem dX4_yields_25 : decode cX4_yields 25 = .ok (.iadd, 1) := by decide +kernel
theorem dX4_yields_26 : decode cX4_yields 26 = .ok (.putfield 31, 3) := by decide +kernel
theorem dX4_yields_29 : decode cX4_yields 29 = .ok (.iload_n 2, 1) := by decide +kernel
theorem dX4_yields_30 : decode cX4_yields 30 = .ok (.ireturn, 1) := by decide +kernel
theorem dX5_init_0 : decode cX5_init 0 = .ok (.aload_n 0, 1) := by decide +kernel
theorem dX5_init_1 : decode cX5_init 1 = .ok (.invokespecial 3, 3) := by decide +kernel
theorem dX5_init_4 : decode cX5_init 4 = .ok (.aload_n 0, 1) := by decide +kernel
theorem dX5_init_5 : decode cX5_init 5 = .ok (.sipush 150, 3) := by decide +kernel
theorem dX5_init_8 : decode cX5_init 8 = .ok (.newarray .int, 2) := by decide +kernel
theorem dX5_init_10 : decode cX5_init 10 = .ok (.putfield 11, 3) := by decide +kernel
theorem dX5_init_13 : decode cX5_init 13 = .ok (.return_, 1) := by decide +kernel
theorem dX5_place_0 : decode cX5_place 0 = .ok (.iload_n 0, 1) := by decide +kernel
theorem dX5_place_1 : decode cX5_place 1 = .ok (.bipush 25, 2) := by decide +kernel
theorem dX5_place_3 : decode cX5_place 3 = .ok (.invokestatic 15, 3) := by decide +kernel
theorem dX5_place_6 : decode cX5_place 6 = .ok (.bipush 6, 2) := by decide +kernel
theorem dX5_place_8 : decode cX5_place 8 = .ok (.imul, 1) := by decide +kernel
theorem dX5_place_9 : decode cX5_place 9 = .ok (.iload_n 1, 1) := by decide +kernel
theorem dX5_place_10 : decode cX5_place 10 = .ok (.iadd, 1) := by decide +kernel
theorem dX5_place_11 : decode cX5_place 11 = .ok (.ireturn, 1) := by decide +kernel
theorem dX5_lay_0 : decode cX5_lay 0 = .ok (.iload_n 2, 1) := by decide +kernel
theorem dX5_lay_1 : decode cX5_lay 1 = .ok (.iconst 0, 1) := by decide +kernel
theorem dX5_lay_2 : decode cX5_lay 2 = .ok (.iconst 5, 1) := by decide +kernel
theorem dX5_lay_3 : decode cX5_lay 3 = .ok (.invokestatic 21, 3) := by decide +kernel
theorem dX5_lay_6 : decode cX5_lay 6 = .ok (.ifCond .ne 4, 3) := by decide +kernel
theorem dX5_lay_9 : decode cX5_lay 9 = .ok (.return_, 1) := by decide +kernel
theorem dX5_lay_10 : decode cX5_lay 10 = .ok (.aload_n 0, 1) := by decide +kernel
theorem dX5_lay_11 : decode cX5_lay 11 = .ok (.getfield 11, 3) := by decide +kernel
theorem dX5_lay_14 : decode cX5_lay 14 = .ok (.iload_n 1, 1) := by decide +kernel
theorem dX5_lay_15 : decode cX5_lay 15 = .ok (.iload_n 2, 1) := by decide +kernel
theorem dX5_lay_16 : decode cX5_lay 16 = .ok (.invokestatic 25, 3) := by decide +kernel
theorem dX5_lay_19 : decode cX5_lay 19 = .ok (.dup2, 1) := by decide +kernel
theorem dX5_lay_20 : decode cX5_lay 20 = .ok (.iaload, 1) := by decide +kernel
theorem dX5_lay_21 : decode cX5_lay 21 = .ok (.iload_n 3, 1) := by decide +kernel
theorem dX5_lay_22 : decode cX5_lay 22 = .ok (.iadd, 1) := by decide +kernel
theorem dX5_lay_23 : decode cX5_lay 23 = .ok (.iastore, 1) := by decide +kernel
theorem dX5_lay_24 : decode cX5_lay 24 = .ok (.aload_n 0, 1) := by decide +kernel
theorem dX5_lay_25 : decode cX5_lay 25 = .ok (.dup, 1) := by decide +kernel
theorem dX5_lay_26 : decode cX5_lay 26 = .ok (.getfield 28, 3) := by decide +kernel
theorem dX5_lay_29 : decode cX5_lay 29 = .ok (.iload_n 3, 1) := by decide +kernel
theorem dX5_lay_30 : decode cX5_lay 30 = .ok (.iadd, 1) := by decide +kernel
theorem dX5_lay_31 : decode cX5_lay 31 = .ok (.putfield 28, 3) := by decide +kernel
theorem dX5_lay_34 : decode cX5_lay 34 = .ok (.return_, 1) := by decide +kernel
theorem dX5_give_0 : decode cX5_give 0 = .ok (.iload_n 2, 1) := by decide +kernel
theorem dX5_give_1 : decode cX5_give 1 = .ok (.iconst 0, 1) := by decide +kernel
theorem dX5_give_2 : decode cX5_give 2 = .ok (.iconst 5, 1) := by decide +kernel
theorem dX5_give_3 : decode cX5_give 3 = .ok (.invokestatic 21, 3) := by decide +kernel
theorem dX5_give_6 : decode cX5_give 6 = .ok (.ifCond .ne 5, 3) := by decide +kernel
theorem dX5_give_9 : decode cX5_give 9 = .ok (.iconst 0, 1) := by decide +kernel
theorem dX5_give_10 : decode cX5_give 10 = .ok (.ireturn, 1) := by decide +kernel
theorem dX5_give_11 : decode cX5_give 11 = .ok (.iload_n 1, 1) := by decide +kernel
theorem dX5_give_12 : decode cX5_give 12 = .ok (.iload_n 2, 1) := by decide +kernel
theorem dX5_give_13 : decode cX5_give 13 = .ok (.invokestatic 25, 3) := by decide +kernel
theorem dX5_give_16 : decode cX5_give 16 = .ok (.istore 4, 2) := by decide +kernel
theorem dX5_give_18 : decode cX5_give 18 = .ok (.aload_n 0, 1) := by decide +kernel
theorem dX5_give_19 : decode cX5_give 19 = .ok (.getfield 11, 3) := by decide +kernel
theorem dX5_give_22 : decode cX5_give 22 = .ok (.iload 4, 2) := by decide +kernel
theorem dX5_give_24 : decode cX5_give 24 = .ok (.iaload, 1) := by decide +kernel
theorem dX5_give_25 : decode cX5_give 25 = .ok (.iload_n 3, 1) := by decide +kernel
theorem dX5_give_26 : decode cX5_give 26 = .ok (.invokestatic 32, 3) := by decide +kernel
theorem dX5_give_29 : decode cX5_give 29 = .ok (.istore 5, 2) := by decide +kernel
theorem dX5_give_31 : decode cX5_give 31 = .ok (.aload_n 0, 1) := by decide +kernel
theorem dX5_give_32 : decode cX5_give 32 = .ok (.getfield 11, 3) := by decide +kernel
theorem dX5_give_35 : decode cX5_give 35 = .ok (.iload 4, 2) := by decide +kernel
theorem dX5_give_37 : decode cX5_give 37 = .ok (.dup2, 1) := by decide +kernel
theorem dX5_give_38 : decode cX5_give 38 = .ok (.iaload, 1) := by decide +kernel
theorem dX5_give_39 : decode cX5_give 39 = .ok (.iload 5, 2) := by decide +kernel
theorem dX5_give_41 : decode cX5_give 41 = .ok (.isub, 1) := by decide +kernel
theorem dX5_give_42 : decode cX5_give 42 = .ok (.iastore, 1) := by decide +kernel
theorem dX5_give_43 : decode cX5_give 43 = .ok (.aload_n 0, 1) := by decide +kernel
theorem dX5_give_44 : decode cX5_give 44 = .ok (.dup, 1) := by decide +kernel
theorem dX5_give_45 : decode cX5_give 45 = .ok (.getfield 28, 3) := by decide +kernel
theorem dX5_give_48 : decode cX5_give 48 = .ok (.iload 5, 2) := by decide +kernel
theorem dX5_give_50 : decode cX5_give 50 = .ok (.isub, 1) := by decide +kernel
theorem dX5_give_51 : decode cX5_give 51 = .ok (.putfield 28, 3) := by decide +kernel
theorem dX5_give_54 : decode cX5_give 54 = .ok (.iload 5, 2) := by decide +kernel
theorem dX5_give_56 : decode cX5_give 56 = .ok (.ireturn, 1) := by decide +kernel
theorem dX5_ofHour_0 : decode cX5_ofHour 0 = .ok (.iconst 0, 1) := by decide +kernel
theorem dX5_ofHour_1 : decode cX5_ofHour 1 = .ok (.istore_n 2, 1) := by decide +kernel
theorem dX5_ofHour_2 : decode cX5_ofHour 2 = .ok (.iconst 0, 1) := by decide +kernel
theorem dX5_ofHour_3 : decode cX5_ofHour 3 = .ok (.istore_n 3, 1) := by decide +kernel
theorem dX5_ofHour_4 : decode cX5_ofHour 4 = .ok (.iload_n 3, 1) := by decide +kernel
theorem dX5_ofHour_5 : decode cX5_ofHour 5 = .ok (.bipush 6, 2) := by decide +kernel
theorem dX5_ofHour_7 : decode cX5_ofHour 7 = .ok (.if_icmp .ge 22, 3) := by decide +kernel
theorem dX5_ofHour_10 : decode cX5_ofHour 10 = .ok (.iload_n 2, 1) := by decide +kernel
theorem dX5_ofHour_11 : decode cX5_ofHour 11 = .ok (.aload_n 0, 1) := by decide +kernel
theorem dX5_ofHour_12 : decode cX5_ofHour 12 = .ok (.getfield 11, 3) := by decide +kernel
theorem dX5_ofHour_15 : decode cX5_ofHour 15 = .ok (.iload_n 1, 1) := by decide +kernel
theorem dX5_ofHour_16 : decode cX5_ofHour 16 = .ok (.iload_n 3, 1) := by decide +kernel
theorem dX5_ofHour_17 : decode cX5_ofHour 17 = .ok (.invokestatic 25, 3) := by decide +kernel
theorem dX5_ofHour_20 : decode cX5_ofHour 20 = .ok (.iaload, 1) := by decide +kernel
theorem dX5_ofHour_21 : decode cX5_ofHour 21 = .ok (.iadd, 1) := by decide +kernel
theorem dX5_ofHour_22 : decode cX5_ofHour 22 = .ok (.istore_n 2, 1) := by decide +kernel
theorem dX5_ofHour_23 : decode cX5_ofHour 23 = .ok (.iinc 3 1, 3) := by decide +kernel
theorem dX5_ofHour_26 : decode cX5_ofHour 26 = .ok (.goto (-22), 3) := by decide +kernel
theorem dX5_ofHour_29 : decode cX5_ofHour 29 = .ok (.iload_n 2, 1) := by decide +kernel
theorem dX5_ofHour_30 : decode cX5_ofHour 30 = .ok (.ireturn, 1) := by decide +kernel
theorem dX5_ofGarden_0 : decode cX5_ofGarden 0 = .ok (.iload_n 1, 1) := by decide +kernel
theorem dX5_ofGarden_1 : decode cX5_ofGarden 1 = .ok (.iconst 0, 1) := by decide +kernel
theorem dX5_ofGarden_2 : decode cX5_ofGarden 2 = .ok (.iconst 5, 1) := by decide +kernel
theorem dX5_ofGarden_3 : decode cX5_ofGarden 3 = .ok (.invokestatic 21, 3) := by decide +kernel
theorem dX5_ofGarden_6 : decode cX5_ofGarden 6 = .ok (.ifCond .ne 5, 3) := by decide +kernel
theorem dX5_ofGarden_9 : decode cX5_ofGarden 9 = .ok (.iconst 0, 1) := by decide +kernel
theorem dX5_ofGarden_10 : decode cX5_ofGarden 10 = .ok (.ireturn, 1) := by decide +kernel
theorem dX5_ofGarden_11 : decode cX5_ofGarden 11 = .ok (.iconst 0, 1) := by decide +kernel
theorem dX5_ofGarden_12 : decode cX5_ofGarden 12 = .ok (.istore_n 2, 1) := by decide +kernel
theorem dX5_ofGarden_13 : decode cX5_ofGarden 13 = .ok (.iconst 0, 1) := by decide +kernel
theorem dX5_ofGarden_14 : decode cX5_ofGarden 14 = .ok (.istore_n 3, 1) := by decide +kernel
theorem dX5_ofGarden_15 : decode cX5_ofGarden 15 = .ok (.iload_n 3, 1) := by decide +kernel
theorem dX5_ofGarden_16 : decode cX5_ofGarden 16 = .ok (.bipush 25, 2) := by decide +kernel
theorem dX5_ofGarden_18 : decode cX5_ofGarden 18 = .ok (.if_icmp .ge 22, 3) := by decide +kernel
theorem dX5_ofGarden_21 : decode cX5_ofGarden 21 = .ok (.iload_n 2, 1) := by decide +kernel
theorem dX5_ofGarden_22 : decode cX5_ofGarden 22 = .ok (.aload_n 0, 1) := by decide +kernel
theorem dX5_ofGarden_23 : decode cX5_ofGarden 23 = .ok (.getfield 11, 3) := by decide +kernel
theorem dX5_ofGarden_26 : decode cX5_ofGarden 26 = .ok (.iload_n 3, 1) := by decide +kernel
theorem dX5_ofGarden_27 : decode cX5_ofGarden 27 = .ok (.iload_n 1, 1) := by decide +kernel
theorem dX5_ofGarden_28 : decode cX5_ofGarden 28 = .ok (.invokestatic 25, 3) := by decide +kernel
theorem dX5_ofGarden_31 : decode cX5_ofGarden 31 = .ok (.iaload, 1) := by decide +kernel
theorem dX5_ofGarden_32 : decode cX5_ofGarden 32 = .ok (.iadd, 1) := by decide +kernel
theorem dX5_ofGarden_33 : decode cX5_ofGarden 33 = .ok (.istore_n 2, 1) := by decide +kernel
theorem dX5_ofGarden_34 : decode cX5_ofGarden 34 = .ok (.iinc 3 1, 3) := by decide +kernel
theorem dX5_ofGarden_37 : decode cX5_ofGarden 37 = .ok (.goto (-22), 3) := by decide +kernel
theorem dX5_ofGarden_40 : decode cX5_ofGarden 40 = .ok (.iload_n 2, 1) := by decide +kernel
theorem dX5_ofGarden_41 : decode cX5_ofGarden 41 = .ok (.ireturn, 1) := by decide +kernel
theorem dX6_init_0 : decode cX6_init 0 = .ok (.aload_n 0, 1) := by decide +kernel
theorem dX6_init_1 : decode cX6_init 1 = .ok (.invokespecial 3, 3) := by decide +kernel
theorem dX6_init_4 : decode cX6_init 4 = .ok (.aload_n 0, 1) := by decide +kernel
theorem dX6_init_5 : decode cX6_init 5 = .ok (.aload_n 1, 1) := by decide +kernel
theorem dX6_init_6 : decode cX6_init 6 = .ok (.putfield 9, 3) := by decide +kernel
theorem dX6_init_9 : decode cX6_init 9 = .ok (.aload_n 0, 1) := by decide +kernel
theorem dX6_init_10 : decode cX6_init 10 = .ok (.iload_n 2, 1) := by decide +kernel
theorem dX6_init_11 : decode cX6_init 11 = .ok (.putfield 15, 3) := by decide +kernel
theorem dX6_init_14 : decode cX6_init 14 = .ok (.aload_n 0, 1) := by decide +kernel
theorem dX6_init_15 : decode cX6_init 15 = .ok (.iload_n 2, 1) := by decide +kernel
theorem dX6_init_16 : decode cX6_init 16 = .ok (.newarray .int, 2) := by decide +kernel
theorem dX6_init_18 : decode cX6_init 18 = .ok (.putfield 19, 3) := by decide +kernel
theorem dX6_init_21 : decode cX6_init 21 = .ok (.aload_n 0, 1) := by decide +kernel
theorem dX6_init_22 : decode cX6_init 22 = .ok (.iload_n 2, 1) := by decide +kernel
theorem dX6_init_23 : decode cX6_init 23 = .ok (.newarray .int, 2) := by decide +kernel
theorem dX6_init_25 : decode cX6_init 25 = .ok (.putfield 23, 3) := by decide +kernel
theorem dX6_init_28 : decode cX6_init 28 = .ok (.aload_n 0, 1) := by decide +kernel
theorem dX6_init_29 : decode cX6_init 29 = .ok (.bipush 50, 2) := by decide +kernel
theorem dX6_init_31 : decode cX6_init 31 = .ok (.putfield 26, 3) := by decide +kernel
theorem dX6_init_34 : decode cX6_init 34 = .ok (.return_, 1) := by decide +kernel
theorem dX6_isEmpty_0 : decode cX6_isEmpty 0 = .ok (.aload_n 0, 1) := by decide +kernel
theorem dX6_isEmpty_1 : decode cX6_isEmpty 1 = .ok (.getfield 29, 3) := by decide +kernel
theorem dX6_isEmpty_4 : decode cX6_isEmpty 4 = .ok (.ifCond .ne 7, 3) := by decide +kernel
theorem dX6_isEmpty_7 : decode cX6_isEmpty 7 = .ok (.iconst 1, 1) := by decide +kernel
theorem dX6_isEmpty_8 : decode cX6_isEmpty 8 = .ok (.goto 4, 3) := by decide +kernel
theorem dX6_isEmpty_11 : decode cX6_isEmpty 11 = .ok (.iconst 0, 1) := by decide +kernel
theorem dX6_isEmpty_12 : decode cX6_isEmpty 12 = .ok (.ireturn, 1) := by decide +kernel
theorem dX6_free_0 : decode cX6_free 0 = .ok (.aload_n 0, 1) := by decide +kernel
theorem dX6_free_1 : decode cX6_free 1 = .ok (.getfield 15, 3) := by decide +kernel
theorem dX6_free_4 : decode cX6_free 4 = .ok (.aload_n 0, 1) := by decide +kernel
theorem dX6_free_5 : decode cX6_free 5 = .ok (.getfield 29, 3) := by decide +kernel
theorem dX6_free_8 : decode cX6_free 8 = .ok (.isub, 1) := by decide +kernel
theorem dX6_free_9 : decode cX6_free 9 = .ok (.ireturn, 1) := by decide +kernel
theorem dX6_take_0 : decode cX6_take 0 = .ok (.iload_n 2, 1) := by decide +kernel
theorem dX6_take_1 : decode cX6_take 1 = .ok (.ifCond .le 15, 3) := by decide +kernel
theorem dX6_take_4 : decode cX6_take 4 = .ok (.aload_n 0, 1) := by decide +kernel
theorem dX6_take_5 : decode cX6_take 5 = .ok (.getfield 32, 3) := by decide +kernel
theorem dX6_take_8 : decode cX6_take 8 = .ok (.aload_n 0, 1) := by decide +kernel
theorem dX6_take_9 : decode cX6_take 9 = .ok (.getfield 19, 3) := by decide +kernel
theorem dX6_take_12 : decode cX6_take 12 = .ok (.arraylength, 1) := by decide +kernel
theorem dX6_take_13 : decode cX6_take 13 = .ok (.if_icmp .lt 4, 3) := by decide +kernel
theorem dX6_take_16 : decode cX6_take 16 = .ok (.return_, 1) := by decide +kernel
theorem dX6_take_17 : decode cX6_take 17 = .ok (.aload_n 0, 1) := by decide +kernel
theorem dX6_take_18 : decode cX6_take 18 = .ok (.getfield 19, 3) := by decide +kernel
theorem dX6_take_21 : decode cX6_take 21 = .ok (.aload_n 0, 1) := by decide +kernel
theorem dX6_take_22 : decode cX6_take 22 = .ok (.getfield 32, 3) := by decide +kernel
theorem dX6_take_25 : decode cX6_take 25 = .ok (.iload_n 1, 1) := by decide +kernel
theorem dX6_take_26 : decode cX6_take 26 = .ok (.iastore, 1) := by decide +kernel
theorem dX6_take_27 : decode cX6_take 27 = .ok (.aload_n 0, 1) := by decide +kernel
theorem dX6_take_28 : decode cX6_take 28 = .ok (.getfield 23, 3) := by decide +kernel
theorem dX6_take_31 : decode cX6_take 31 = .ok (.aload_n 0, 1) := by decide +kernel
theorem dX6_take_32 : decode cX6_take 32 = .ok (.getfield 32, 3) := by decide +kernel
theorem dX6_take_35 : decode cX6_take 35 = .ok (.iload_n 2, 1) := by decide +kernel
theorem dX6_take_36 : decode cX6_take 36 = .ok (.iastore, 1) := by decide +kernel
theorem dX6_take_37 : decode cX6_take 37 = .ok (.aload_n 0, 1) := by decide +kernel
theorem dX6_take_38 : decode cX6_take 38 = .ok (.dup, 1) := by decide +kernel
theorem dX6_take_39 : decode cX6_take 39 = .ok (.getfield 32, 3) := by decide +kernel
theorem dX6_take_42 : decode cX6_take 42 = .ok (.iconst 1, 1) := by decide +kernel
theorem dX6_take_43 : decode cX6_take 43 = .ok (.iadd, 1) := by decide +kernel
theorem dX6_take_44 : decode cX6_take 44 = .ok (.putfield 32, 3) := by decide +kernel
theorem dX6_take_47 : decode cX6_take 47 = .ok (.aload_n 0, 1) := by decide +kernel
theorem dX6_take_48 : decode cX6_take 48 = .ok (.dup, 1) := by decide +kernel
theorem dX6_take_49 : decode cX6_take 49 = .ok (.getfield 29, 3) := by decide +kernel
theorem dX6_take_52 : decode cX6_take 52 = .ok (.iload_n 2, 1) := by decide +kernel
theorem dX6_take_53 : decode cX6_take 53 = .ok (.iadd, 1) := by decide +kernel
theorem dX6_take_54 : decode cX6_take 54 = .ok (.putfield 29, 3) := by decide +kernel
theorem dX6_take_57 : decode cX6_take 57 = .ok (.return_, 1) := by decide +kernel
theorem dX6_clear_0 : decode cX6_clear 0 = .ok (.aload_n 0, 1) := by decide +kernel
theorem dX6_clear_1 : decode cX6_clear 1 = .ok (.iconst 0, 1) := by decide +kernel
theorem dX6_clear_2 : decode cX6_clear 2 = .ok (.putfield 32, 3) := by decide +kernel
theorem dX6_clear_5 : decode cX6_clear 5 = .ok (.aload_n 0, 1) := by decide +kernel
theorem dX6_clear_6 : decode cX6_clear 6 = .ok (.iconst 0, 1) := by decide +kernel
theorem dX6_clear_7 : decode cX6_clear 7 = .ok (.putfield 29, 3) := by decide +kernel
theorem dX6_clear_10 : decode cX6_clear 10 = .ok (.aload_n 0, 1) := by decide +kernel
theorem dX6_clear_11 : decode cX6_clear 11 = .ok (.iconst 0, 1) := by decide +kernel
theorem dX6_clear_12 : decode cX6_clear 12 = .ok (.putfield 35, 3) := by decide +kernel
theorem dX6_clear_15 : decode cX6_clear 15 = .ok (.return_, 1) := by decide +kernel
theorem dX6_ofGarden_0 : decode cX6_ofGarden 0 = .ok (.iconst 0, 1) := by decide +kernel
theorem dX6_ofGarden_1 : decode cX6_ofGarden 1 = .ok (.istore_n 2, 1) := by decide +kernel
theorem dX6_ofGarden_2 : decode cX6_ofGarden 2 = .ok (.iconst 0, 1) := by decide +kernel
theorem dX6_ofGarden_3 : decode cX6_ofGarden 3 = .ok (.istore_n 3, 1) := by decide +kernel
theorem dX6_ofGarden_4 : decode cX6_ofGarden 4 = .ok (.iload_n 3, 1) := by decide +kernel
theorem dX6_ofGarden_5 : decode cX6_ofGarden 5 = .ok (.aload_n 0, 1) := by decide +kernel
theorem dX6_ofGarden_6 : decode cX6_ofGarden 6 = .ok (.getfield 32, 3) := by decide +kernel
theorem dX6_ofGarden_9 : decode cX6_ofGarden 9 = .ok (.if_icmp .ge 28, 3) := by decide +kernel
theorem dX6_ofGarden_12 : decode cX6_ofGarden 12 = .ok (.aload_n 0, 1) := by decide +kernel
theorem dX6_ofGarden_13 : decode cX6_ofGarden 13 = .ok (.getfield 19, 3) := by decide +kernel
theorem dX6_ofGarden_16 : decode cX6_ofGarden 16 = .ok (.iload_n 3, 1) := by decide +kernel
theorem dX6_ofGarden_17 : decode cX6_ofGarden 17 = .ok (.iaload, 1) := by decide +kernel
theorem dX6_ofGarden_18 : decode cX6_ofGarden 18 = .ok (.iload_n 1, 1) := by decide +kernel
theorem dX6_ofGarden_19 : decode cX6_ofGarden 19 = .ok (.if_icmp .ne 12, 3) := by decide +kernel
theorem dX6_ofGarden_22 : decode cX6_ofGarden 22 = .ok (.iload_n 2, 1) := by decide +kernel
theorem dX6_ofGarden_23 : decode cX6_ofGarden 23 = .ok (.aload_n 0, 1) := by decide +kernel
theorem dX6_ofGarden_24 : decode cX6_ofGarden 24 = .ok (.getfield 23, 3) := by decide +kernel
theorem dX6_ofGarden_27 : decode cX6_ofGarden 27 = .ok (.iload_n 3, 1) := by decide +kernel
theorem dX6_ofGarden_28 : decode cX6_ofGarden 28 = .ok (.iaload, 1) := by decide +kernel
theorem dX6_ofGarden_29 : decode cX6_ofGarden 29 = .ok (.iadd, 1) := by decide +kernel
theorem dX6_ofGarden_30 : decode cX6_ofGarden 30 = .ok (.istore_n 2, 1) := by decide +kernel
theorem dX6_ofGarden_31 : decode cX6_ofGarden 31 = .ok (.iinc 3 1, 3) := by decide +kernel
theorem dX6_ofGarden_34 : decode cX6_ofGarden 34 = .ok (.goto (-30), 3) := by decide +kernel
theorem dX6_ofGarden_37 : decode cX6_ofGarden 37 = .ok (.iload_n 2, 1) := by decide +kernel
theorem dX6_ofGarden_38 : decode cX6_ofGarden 38 = .ok (.ireturn, 1) := by decide +kernel
theorem dX6_gardenBits_0 : decode cX6_gardenBits 0 = .ok (.iconst 0, 1) := by decide +kernel
theorem dX6_gardenBits_1 : decode cX6_gardenBits 1 = .ok (.istore_n 1, 1) := by decide +kernel
theorem dX6_gardenBits_2 : decode cX6_gardenBits 2 = .ok (.iconst 0, 1) := by decide +kernel
theorem dX6_gardenBits_3 : decode cX6_gardenBits 3 = .ok (.istore_n 2, 1) := by decide +kernel
theorem dX6_gardenBits_4 : decode cX6_gardenBits 4 = .ok (.iload_n 2, 1) := by decide +kernel
theorem dX6_gardenBits_5 : decode cX6_gardenBits 5 = .ok (.aload_n 0, 1) := by decide +kernel
theorem dX6_gardenBits_6 : decode cX6_gardenBits 6 = .ok (.getfield 32, 3) := by decide +kernel
theorem dX6_gardenBits_9 : decode cX6_gardenBits 9 = .ok (.if_icmp .ge 20, 3) := by decide +kernel
theorem dX6_gardenBits_12 : decode cX6_gardenBits 12 = .ok (.iload_n 1, 1) := by decide +kernel
theorem dX6_gardenBits_13 : decode cX6_gardenBits 13 = .ok (.iconst 1, 1) := by decide +kernel
theorem dX6_gardenBits_14 : decode cX6_gardenBits 14 = .ok (.aload_n 0, 1) := by decide +kernel
theorem dX6_gardenBits_15 : decode cX6_gardenBits 15 = .ok (.getfield 19, 3) := by decide +kernel
theorem dX6_gardenBits_18 : decode cX6_gardenBits 18 = .ok (.iload_n 2, 1) := by decide +kernel
theorem dX6_gardenBits_19 : decode cX6_gardenBits 19 = .ok (.iaload, 1) := by decide +kernel
theorem dX6_gardenBits_20 : decode cX6_gardenBits 20 = .ok (.ishl, 1) := by decide +kernel
theorem dX6_gardenBits_21 : decode cX6_gardenBits 21 = .ok (.ior, 1) := by decide +kernel
theorem dX6_gardenBits_22 : decode cX6_gardenBits 22 = .ok (.istore_n 1, 1) := by decide +kernel
theorem dX6_gardenBits_23 : decode cX6_gardenBits 23 = .ok (.iinc 2 1, 3) := by decide +kernel
theorem dX6_gardenBits_26 : decode cX6_gardenBits 26 = .ok (.goto (-22), 3) := by decide +kernel
theorem dX6_gardenBits_29 : decode cX6_gardenBits 29 = .ok (.iload_n 1, 1) := by decide +kernel
theorem dX6_gardenBits_30 : decode cX6_gardenBits 30 = .ok (.ireturn, 1) := by decide +kernel
theorem dX6_bears_0 : decode cX6_bears 0 = .ok (.aload_n 0, 1) := by decide +kernel
theorem dX6_bears_1 : decode cX6_bears 1 = .ok (.getfield 9, 3) := by decide +kernel
theorem dX6_bears_4 : decode cX6_bears 4 = .ok (.aload_n 0, 1) := by decide +kernel
theorem dX6_bears_5 : decode cX6_bears 5 = .ok (.getfield 26, 3) := by decide +kernel
theorem dX6_bears_8 : decode cX6_bears 8 = .ok (.invokevirtual 38, 3) := by decide +kernel
theorem dX6_bears_11 : decode cX6_bears 11 = .ok (.istore_n 1, 1) := by decide +kernel
theorem dX6_bears_12 : decode cX6_bears 12 = .ok (.iload_n 1, 1) := by decide +kernel
theorem dX6_bears_13 : decode cX6_bears 13 = .ok (.ifCond .gt 5, 3) := by decide +kernel
theorem dX6_bears_16 : decode cX6_bears 16 = .ok (.iconst 0, 1) := by decide +kernel
theorem dX6_bears_17 : decode cX6_bears 17 = .ok (.ireturn, 1) := by decide +kernel
theorem dX6_bears_18 : decode cX6_bears 18 = .ok (.bipush 60, 2) := by decide +kernel
theorem dX6_bears_20 : decode cX6_bears 20 = .ok (.iload_n 1, 1) := by decide +kernel
theorem dX6_bears_21 : decode cX6_bears 21 = .ok (.iadd, 1) := by decide +kernel
theorem dX6_bears_22 : decode cX6_bears 22 = .ok (.iconst 1, 1) := by decide +kernel
theorem dX6_bears_23 : decode cX6_bears 23 = .ok (.isub, 1) := by decide +kernel
theorem dX6_bears_24 : decode cX6_bears 24 = .ok (.iload_n 1, 1) := by decide +kernel
theorem dX6_bears_25 : decode cX6_bears 25 = .ok (.idiv, 1) := by decide +kernel
theorem dX6_bears_26 : decode cX6_bears 26 = .ok (.istore_n 2, 1) := by decide +kernel
theorem dX6_bears_27 : decode cX6_bears 27 = .ok (.aload_n 0, 1) := by decide +kernel
theorem dX6_bears_28 : decode cX6_bears 28 = .ok (.getfield 15, 3) := by decide +kernel
theorem dX6_bears_31 : decode cX6_bears 31 = .ok (.iload_n 2, 1) := by decide +kernel
theorem dX6_bears_32 : decode cX6_bears 32 = .ok (.iconst 1, 1) := by decide +kernel
theorem dX6_bears_33 : decode cX6_bears 33 = .ok (.invokestatic 44, 3) := by decide +kernel
theorem dX6_bears_36 : decode cX6_bears 36 = .ok (.idiv, 1) := by decide +kernel
theorem dX6_bears_37 : decode cX6_bears 37 = .ok (.ireturn, 1) := by decide +kernel
theorem dX7_init_0 : decode cX7_init 0 = .ok (.aload_n 0, 1) := by decide +kernel
theorem dX7_init_1 : decode cX7_init 1 = .ok (.invokespecial 3, 3) := by decide +kernel
theorem dX7_init_4 : decode cX7_init 4 = .ok (.aload_n 0, 1) := by decide +kernel
theorem dX7_init_5 : decode cX7_init 5 = .ok (.iload_n 1, 1) := by decide +kernel
theorem dX7_init_6 : decode cX7_init 6 = .ok (.putfield 9, 3) := by decide +kernel
theorem dX7_init_9 : decode cX7_init 9 = .ok (.aload_n 0, 1) := by decide +kernel
theorem dX7_init_10 : decode cX7_init 10 = .ok (.bipush 20, 2) := by decide +kernel
theorem dX7_init_12 : decode cX7_init 12 = .ok (.newarray .int, 2) := by decide +kernel
theorem dX7_init_14 : decode cX7_init 14 = .ok (.putfield 15, 3) := by decide +kernel
theorem dX7_init_17 : decode cX7_init 17 = .ok (.aload_n 0, 1) := by decide +kernel
theorem dX7_init_18 : decode cX7_init 18 = .ok (.bipush 20, 2) := by decide +kernel
theorem dX7_init_20 : decode cX7_init 20 = .ok (.newarray .int, 2) := by decide +kernel
theorem dX7_init_22 : decode cX7_init 22 = .ok (.putfield 19, 3) := by decide +kernel
theorem dX7_init_25 : decode cX7_init 25 = .ok (.return_, 1) := by decide +kernel
theorem dX7_tell_0 : decode cX7_tell 0 = .ok (.aload_n 0, 1) := by decide +kernel
theorem dX7_tell_1 : decode cX7_tell 1 = .ok (.getfield 22, 3) := by decide +kernel
theorem dX7_tell_4 : decode cX7_tell 4 = .ok (.bipush 20, 2) := by decide +kernel
theorem dX7_tell_6 : decode cX7_tell 6 = .ok (.if_icmp .lt 5, 3) := by decide +kernel
theorem dX7_tell_9 : decode cX7_tell 9 = .ok (.iconst 0, 1) := by decide +kernel
theorem dX7_tell_10 : decode cX7_tell 10 = .ok (.ireturn, 1) := by decide +kernel
theorem dX7_tell_11 : decode cX7_tell 11 = .ok (.aload_n 0, 1) := by decide +kernel
theorem dX7_tell_12 : decode cX7_tell 12 = .ok (.getfield 15, 3) := by decide +kernel
theorem dX7_tell_15 : decode cX7_tell 15 = .ok (.aload_n 0, 1) := by decide +kernel
theorem dX7_tell_16 : decode cX7_tell 16 = .ok (.getfield 22, 3) := by decide +kernel
theorem dX7_tell_19 : decode cX7_tell 19 = .ok (.iload_n 1, 1) := by decide +kernel
theorem dX7_tell_20 : decode cX7_tell 20 = .ok (.iastore, 1) := by decide +kernel
theorem dX7_tell_21 : decode cX7_tell 21 = .ok (.aload_n 0, 1) := by decide +kernel
theorem dX7_tell_22 : decode cX7_tell 22 = .ok (.getfield 19, 3) := by decide +kernel
theorem dX7_tell_25 : decode cX7_tell 25 = .ok (.aload_n 0, 1) := by decide +kernel
theorem dX7_tell_26 : decode cX7_tell 26 = .ok (.getfield 22, 3) := by decide +kernel
theorem dX7_tell_29 : decode cX7_tell 29 = .ok (.iload_n 2, 1) := by decide +kernel
theorem dX7_tell_30 : decode cX7_tell 30 = .ok (.iastore, 1) := by decide +kernel
theorem dX7_tell_31 : decode cX7_tell 31 = .ok (.aload_n 0, 1) := by decide +kernel
theorem dX7_tell_32 : decode cX7_tell 32 = .ok (.dup, 1) := by decide +kernel
theorem dX7_tell_33 : decode cX7_tell 33 = .ok (.getfield 22, 3) := by decide +kernel
theorem dX7_tell_36 : decode cX7_tell 36 = .ok (.iconst 1, 1) := by decide +kernel
theorem dX7_tell_37 : decode cX7_tell 37 = .ok (.iadd, 1) := by decide +kernel
theorem dX7_tell_38 : decode cX7_tell 38 = .ok (.putfield 22, 3) := by decide +kernel
theorem dX7_tell_41 : decode cX7_tell 41 = .ok (.iconst 1, 1) := by decide +kernel
theorem dX7_tell_42 : decode cX7_tell 42 = .ok (.ireturn, 1) := by decide +kernel
theorem dX7_inForce_0 : decode cX7_inForce 0 = .ok (.iconst (-1), 1) := by decide +kernel
theorem dX7_inForce_1 : decode cX7_inForce 1 = .ok (.istore_n 2, 1) := by decide +kernel
theorem dX7_inForce_2 : decode cX7_inForce 2 = .ok (.aload_n 0, 1) := by decide +kernel
theorem dX7_inForce_3 : decode cX7_inForce 3 = .ok (.getfield 9, 3) := by decide +kernel
theorem dX7_inForce_6 : decode cX7_inForce 6 = .ok (.istore_n 3, 1) := by decide +kernel
theorem dX7_inForce_7 : decode cX7_inForce 7 = .ok (.iconst 0, 1) := by decide +kernel
theorem dX7_inForce_8 : decode cX7_inForce 8 = .ok (.istore 4, 2) := by decide +kernel
theorem dX7_inForce_10 : decode cX7_inForce 10 = .ok (.iload 4, 2) := by decide +kernel
theorem dX7_inForce_12 : decode cX7_inForce 12 = .ok (.aload_n 0, 1) := by decide +kernel
theorem dX7_inForce_13 : decode cX7_inForce 13 = .ok (.getfield 22, 3) := by decide +kernel
theorem dX7_inForce_16 : decode cX7_inForce 16 = .ok (.if_icmp .ge 47, 3) := by decide +kernel
theorem dX7_inForce_19 : decode cX7_inForce 19 = .ok (.aload_n 0, 1) := by decide +kernel
theorem dX7_inForce_20 : decode cX7_inForce 20 = .ok (.getfield 15, 3) := by decide +kernel
theorem dX7_inForce_23 : decode cX7_inForce 23 = .ok (.iload 4, 2) := by decide +kernel
theorem dX7_inForce_25 : decode cX7_inForce 25 = .ok (.iaload, 1) := by decide +kernel
theorem dX7_inForce_26 : decode cX7_inForce 26 = .ok (.iload_n 1, 1) := by decide +kernel
theorem dX7_inForce_27 : decode cX7_inForce 27 = .ok (.if_icmp .gt 30, 3) := by decide +kernel
theorem dX7_inForce_30 : decode cX7_inForce 30 = .ok (.aload_n 0, 1) := by decide +kernel
theorem dX7_inForce_31 : decode cX7_inForce 31 = .ok (.getfield 15, 3) := by decide +kernel
theorem dX7_inForce_34 : decode cX7_inForce 34 = .ok (.iload 4, 2) := by decide +kernel
theorem dX7_inForce_36 : decode cX7_inForce 36 = .ok (.iaload, 1) := by decide +kernel
theorem dX7_inForce_37 : decode cX7_inForce 37 = .ok (.iload_n 2, 1) := by decide +kernel
theorem dX7_inForce_38 : decode cX7_inForce 38 = .ok (.if_icmp .lt 19, 3) := by decide +kernel
theorem dX7_inForce_41 : decode cX7_inForce 41 = .ok (.aload_n 0, 1) := by decide +kernel
theorem dX7_inForce_42 : decode cX7_inForce 42 = .ok (.getfield 15, 3) := by decide +kernel
theorem dX7_inForce_45 : decode cX7_inForce 45 = .ok (.iload 4, 2) := by decide +kernel
theorem dX7_inForce_47 : decode cX7_inForce 47 = .ok (.iaload, 1) := by decide +kernel
theorem dX7_inForce_48 : decode cX7_inForce 48 = .ok (.istore_n 2, 1) := by decide +kernel
theorem dX7_inForce_49 : decode cX7_inForce 49 = .ok (.aload_n 0, 1) := by decide +kernel
theorem dX7_inForce_50 : decode cX7_inForce 50 = .ok (.getfield 19, 3) := by decide +kernel
theorem dX7_inForce_53 : decode cX7_inForce 53 = .ok (.iload 4, 2) := by decide +kernel
theorem dX7_inForce_55 : decode cX7_inForce 55 = .ok (.iaload, 1) := by decide +kernel
theorem dX7_inForce_56 : decode cX7_inForce 56 = .ok (.istore_n 3, 1) := by decide +kernel
theorem dX7_inForce_57 : decode cX7_inForce 57 = .ok (.iinc 4 1, 3) := by decide +kernel
theorem dX7_inForce_60 : decode cX7_inForce 60 = .ok (.goto (-50), 3) := by decide +kernel
theorem dX7_inForce_63 : decode cX7_inForce 63 = .ok (.iload_n 3, 1) := by decide +kernel
theorem dX7_inForce_64 : decode cX7_inForce 64 = .ok (.ireturn, 1) := by decide +kernel
theorem dX8_init_0 : decode cX8_init 0 = .ok (.aload_n 0, 1) := by decide +kernel
theorem dX8_init_1 : decode cX8_init 1 = .ok (.invokespecial 1, 3) := by decide +kernel
theorem dX8_init_4 : decode cX8_init 4 = .ok (.return_, 1) := by decide +kernel
theorem dX8_dries_0 : decode cX8_dries 0 = .ok (.iload_n 1, 1) := by decide +kernel
theorem dX8_dries_1 : decode cX8_dries 1 = .ok (.iconst 5, 1) := by decide +kernel
theorem dX8_dries_2 : decode cX8_dries 2 = .ok (.idiv, 1) := by decide +kernel
theorem dX8_dries_3 : decode cX8_dries 3 = .ok (.ireturn, 1) := by decide +kernel
theorem dX8_marks_0 : decode cX8_marks 0 = .ok (.iconst 1, 1) := by decide +kernel
theorem dX8_marks_1 : decode cX8_marks 1 = .ok (.ireturn, 1) := by decide +kernel
theorem dX9_init_0 : decode cX9_init 0 = .ok (.aload_n 0, 1) := by decide +kernel
theorem dX9_init_1 : decode cX9_init 1 = .ok (.invokespecial 3, 3) := by decide +kernel
theorem dX9_init_4 : decode cX9_init 4 = .ok (.aload_n 0, 1) := by decide +kernel
theorem dX9_init_5 : decode cX9_init 5 = .ok (.bipush 100, 2) := by decide +kernel
theorem dX9_init_7 : decode cX9_init 7 = .ok (.newarray .int, 2) := by decide +kernel
theorem dX9_init_9 : decode cX9_init 9 = .ok (.putfield 9, 3) := by decide +kernel
theorem dX9_init_12 : decode cX9_init 12 = .ok (.aload_n 0, 1) := by decide +kernel
theorem dX9_init_13 : decode cX9_init 13 = .ok (.bipush 100, 2) := by decide +kernel
theorem dX9_init_15 : decode cX9_init 15 = .ok (.newarray .int, 2) := by decide +kernel
theorem dX9_init_17 : decode cX9_init 17 = .ok (.putfield 15, 3) := by decide +kernel
theorem dX9_init_20 : decode cX9_init 20 = .ok (.return_, 1) := by decide +kernel
theorem dX9_led_0 : decode cX9_led 0 = .ok (.aload_n 0, 1) := by decide +kernel
theorem dX9_led_1 : decode cX9_led 1 = .ok (.getfield 18, 3) := by decide +kernel
theorem dX9_led_4 : decode cX9_led 4 = .ok (.bipush 100, 2) := by decide +kernel
theorem dX9_led_6 : decode cX9_led 6 = .ok (.invokestatic 22, 3) := by decide +kernel
theorem dX9_led_9 : decode cX9_led 9 = .ok (.ireturn, 1) := by decide +kernel
theorem dX9_lay_0 : decode cX9_lay 0 = .ok (.iload_n 2, 1) := by decide +kernel
theorem dX9_lay_1 : decode cX9_lay 1 = .ok (.ifCond .gt 4, 3) := by decide +kernel
theorem dX9_lay_4 : decode cX9_lay 4 = .ok (.return_, 1) := by decide +kernel
theorem dX9_lay_5 : decode cX9_lay 5 = .ok (.aload_n 0, 1) := by decide +kernel
theorem dX9_lay_6 : decode cX9_lay 6 = .ok (.dup, 1) := by decide +kernel
theorem dX9_lay_7 : decode cX9_lay 7 = .ok (.getfield 28, 3) := by decide +kernel
theorem dX9_lay_10 : decode cX9_lay 10 = .ok (.iconst 1, 1) := by decide +kernel
theorem dX9_lay_11 : decode cX9_lay 11 = .ok (.iload_n 1, 1) := by decide +kernel
theorem dX9_lay_12 : decode cX9_lay 12 = .ok (.ishl, 1) := by decide +kernel
theorem dX9_lay_13 : decode cX9_lay 13 = .ok (.ior, 1) := by decide +kernel
theorem dX9_lay_14 : decode cX9_lay 14 = .ok (.putfield 28, 3) := by decide +kernel
theorem dX9_lay_17 : decode cX9_lay 17 = .ok (.aload_n 0, 1) := by decide +kernel
theorem dX9_lay_18 : decode cX9_lay 18 = .ok (.dup, 1) := by decide +kernel
theorem dX9_lay_19 : decode cX9_lay 19 = .ok (.getfield 31, 3) := by decide +kernel
theorem dX9_lay_22 : decode cX9_lay 22 = .ok (.iload_n 2, 1) := by decide +kernel
theorem dX9_lay_23 : decode cX9_lay 23 = .ok (.iadd, 1) := by decide +kernel
theorem dX9_lay_24 : decode cX9_lay 24 = .ok (.putfield 31, 3) := by decide +kernel
theorem dX9_lay_27 : decode cX9_lay 27 = .ok (.aload_n 0, 1) := by decide +kernel
theorem dX9_lay_28 : decode cX9_lay 28 = .ok (.getfield 31, 3) := by decide +kernel
theorem dX9_lay_31 : decode cX9_lay 31 = .ok (.bipush 20, 2) := by decide +kernel
theorem dX9_lay_33 : decode cX9_lay 33 = .ok (.if_icmp .lt 29, 3) := by decide +kernel
theorem dX9_lay_36 : decode cX9_lay 36 = .ok (.aload_n 0, 1) := by decide +kernel
theorem dX9_lay_37 : decode cX9_lay 37 = .ok (.iload_n 3, 1) := by decide +kernel
theorem dX9_lay_38 : decode cX9_lay 38 = .ok (.invokevirtual 34, 3) := by decide +kernel
theorem dX9_lay_41 : decode cX9_lay 41 = .ok (.aload_n 0, 1) := by decide +kernel
theorem dX9_lay_42 : decode cX9_lay 42 = .ok (.iconst 1, 1) := by decide +kernel
theorem dX9_lay_43 : decode cX9_lay 43 = .ok (.iload_n 1, 1) := by decide +kernel
theorem dX9_lay_44 : decode cX9_lay 44 = .ok (.ishl, 1) := by decide +kernel
theorem dX9_lay_45 : decode cX9_lay 45 = .ok (.putfield 28, 3) := by decide +kernel
theorem dX9_lay_48 : decode cX9_lay 48 = .ok (.aload_n 0, 1) := by decide +kernel
theorem dX9_lay_49 : decode cX9_lay 49 = .ok (.dup, 1) := by decide +kernel
theorem dX9_lay_50 : decode cX9_lay 50 = .ok (.getfield 31, 3) := by decide +kernel
theorem dX9_lay_53 : decode cX9_lay 53 = .ok (.bipush 20, 2) := by decide +kernel
theorem dX9_lay_55 : decode cX9_lay 55 = .ok (.isub, 1) := by decide +kernel
theorem dX9_lay_56 : decode cX9_lay 56 = .ok (.putfield 31, 3) := by decide +kernel
theorem dX9_lay_59 : decode cX9_lay 59 = .ok (.goto (-32), 3) := by decide +kernel
theorem dX9_lay_62 : decode cX9_lay 62 = .ok (.aload_n 0, 1) := by decide +kernel
theorem dX9_lay_63 : decode cX9_lay 63 = .ok (.getfield 31, 3) := by decide +kernel
theorem dX9_lay_66 : decode cX9_lay 66 = .ok (.ifCond .ne 8, 3) := by decide +kernel
theorem dX9_lay_69 : decode cX9_lay 69 = .ok (.aload_n 0, 1) := by decide +kernel
theorem dX9_lay_70 : decode cX9_lay 70 = .ok (.iconst 0, 1) := by decide +kernel
theorem dX9_lay_71 : decode cX9_lay 71 = .ok (.putfield 28, 3) := by decide +kernel
theorem dX9_lay_74 : decode cX9_lay 74 = .ok (.return_, 1) := by decide +kernel
theorem dX9_pressOne_0 : decode cX9_pressOne 0 = .ok (.aload_n 0, 1) := by decide +kernel
theorem dX9_pressOne_1 : decode cX9_pressOne 1 = .ok (.getfield 18, 3) := by decide +kernel
theorem dX9_pressOne_4 : decode cX9_pressOne 4 = .ok (.bipush 100, 2) := by decide +kernel
theorem dX9_pressOne_6 : decode cX9_pressOne 6 = .ok (.if_icmp .ge 26, 3) := by decide +kernel
theorem dX9_pressOne_9 : decode cX9_pressOne 9 = .ok (.aload_n 0, 1) := by decide +kernel
theorem dX9_pressOne_10 : decode cX9_pressOne 10 = .ok (.getfield 9, 3) := by decide +kernel
theorem dX9_pressOne_13 : decode cX9_pressOne 13 = .ok (.aload_n 0, 1) := by decide +kernel
theorem dX9_pressOne_14 : decode cX9_pressOne 14 = .ok (.getfield 18, 3) := by decide +kernel
theorem dX9_pressOne_17 : decode cX9_pressOne 17 = .ok (.aload_n 0, 1) := by decide +kernel
theorem dX9_pressOne_18 : decode cX9_pressOne 18 = .ok (.getfield 28, 3) := by decide +kernel
theorem dX9_pressOne_21 : decode cX9_pressOne 21 = .ok (.iastore, 1) := by decide +kernel
theorem dX9_pressOne_22 : decode cX9_pressOne 22 = .ok (.aload_n 0, 1) := by decide +kernel
theorem dX9_pressOne_23 : decode cX9_pressOne 23 = .ok (.getfield 15, 3) := by decide +kernel
theorem dX9_pressOne_26 : decode cX9_pressOne 26 = .ok (.aload_n 0, 1) := by decide +kernel
theorem dX9_pressOne_27 : decode cX9_pressOne 27 = .ok (.getfield 18, 3) := by decide +kernel
theorem dX9_pressOne_30 : decode cX9_pressOne 30 = .ok (.iload_n 1, 1) := by decide +kernel
theorem dX9_pressOne_31 : decode cX9_pressOne 31 = .ok (.iastore, 1) := by decide +kernel
theorem dX9_pressOne_32 : decode cX9_pressOne 32 = .ok (.aload_n 0, 1) := by decide +kernel
theorem dX9_pressOne_33 : decode cX9_pressOne 33 = .ok (.dup, 1) := by decide +kernel
theorem dX9_pressOne_34 : decode cX9_pressOne 34 = .ok (.getfield 18, 3) := by decide +kernel
theorem dX9_pressOne_37 : decode cX9_pressOne 37 = .ok (.iconst 1, 1) := by decide +kernel
theorem dX9_pressOne_38 : decode cX9_pressOne 38 = .ok (.iadd, 1) := by decide +kernel
theorem dX9_pressOne_39 : decode cX9_pressOne 39 = .ok (.putfield 18, 3) := by decide +kernel
theorem dX9_pressOne_42 : decode cX9_pressOne 42 = .ok (.return_, 1) := by decide +kernel
theorem dJ9_floorMod_7cf53_0 : decode cJ9_floorMod_7cf53 0 = .ok (.iload_n 0, 1) := by decide +kernel
theorem dJ9_floorMod_7cf53_1 : decode cJ9_floorMod_7cf53 1 = .ok (.iload_n 1, 1) := by decide +kernel
theorem dJ9_floorMod_7cf53_2 : decode cJ9_floorMod_7cf53 2 = .ok (.irem, 1) := by decide +kernel
theorem dJ9_floorMod_7cf53_3 : decode cJ9_floorMod_7cf53 3 = .ok (.istore_n 2, 1) := by decide +kernel
theorem dJ9_floorMod_7cf53_4 : decode cJ9_floorMod_7cf53 4 = .ok (.iload_n 0, 1) := by decide +kernel
theorem dJ9_floorMod_7cf53_5 : decode cJ9_floorMod_7cf53 5 = .ok (.iload_n 1, 1) := by decide +kernel
theorem dJ9_floorMod_7cf53_6 : decode cJ9_floorMod_7cf53 6 = .ok (.ixor, 1) := by decide +kernel
theorem dJ9_floorMod_7cf53_7 : decode cJ9_floorMod_7cf53 7 = .ok (.ifCond .ge 11, 3) := by decide +kernel
theorem dJ9_floorMod_7cf53_10 : decode cJ9_floorMod_7cf53 10 = .ok (.iload_n 2, 1) := by decide +kernel
theorem dJ9_floorMod_7cf53_11 : decode cJ9_floorMod_7cf53 11 = .ok (.ifCond .eq 7, 3) := by decide +kernel
theorem dJ9_floorMod_7cf53_14 : decode cJ9_floorMod_7cf53 14 = .ok (.iload_n 2, 1) := by decide +kernel
theorem dJ9_floorMod_7cf53_15 : decode cJ9_floorMod_7cf53 15 = .ok (.iload_n 1, 1) := by decide +kernel
theorem dJ9_floorMod_7cf53_16 : decode cJ9_floorMod_7cf53 16 = .ok (.iadd, 1) := by decide +kernel
theorem dJ9_floorMod_7cf53_17 : decode cJ9_floorMod_7cf53 17 = .ok (.ireturn, 1) := by decide +kernel
theorem dJ9_floorMod_7cf53_18 : decode cJ9_floorMod_7cf53 18 = .ok (.iload_n 2, 1) := by decide +kernel
theorem dJ9_floorMod_7cf53_19 : decode cJ9_floorMod_7cf53 19 = .ok (.ireturn, 1) := by decide +kernel
theorem dJ9_max_7cf53_0 : decode cJ9_max_7cf53 0 = .ok (.iload_n 0, 1) := by decide +kernel
theorem dJ9_max_7cf53_1 : decode cJ9_max_7cf53 1 = .ok (.iload_n 1, 1) := by decide +kernel
theorem dJ9_max_7cf53_2 : decode cJ9_max_7cf53 2 = .ok (.if_icmp .lt 7, 3) := by decide +kernel
theorem dJ9_max_7cf53_5 : decode cJ9_max_7cf53 5 = .ok (.iload_n 0, 1) := by decide +kernel
theorem dJ9_max_7cf53_6 : decode cJ9_max_7cf53 6 = .ok (.goto 4, 3) := by decide +kernel
theorem dJ9_max_7cf53_9 : decode cJ9_max_7cf53 9 = .ok (.iload_n 1, 1) := by decide +kernel
theorem dJ9_max_7cf53_10 : decode cJ9_max_7cf53 10 = .ok (.ireturn, 1) := by decide +kernel
theorem dJ9_min_7cf53_0 : decode cJ9_min_7cf53 0 = .ok (.iload_n 0, 1) := by decide +kernel
theorem dJ9_min_7cf53_1 : decode cJ9_min_7cf53 1 = .ok (.iload_n 1, 1) := by decide +kernel
theorem dJ9_min_7cf53_2 : decode cJ9_min_7cf53 2 = .ok (.if_icmp .gt 7, 3) := by decide +kernel
theorem dJ9_min_7cf53_5 : decode cJ9_min_7cf53 5 = .ok (.iload_n 0, 1) := by decide +kernel
theorem dJ9_min_7cf53_6 : decode cJ9_min_7cf53 6 = .ok (.goto 4, 3) := by decide +kernel
theorem dJ9_min_7cf53_9 : decode cJ9_min_7cf53 9 = .ok (.iload_n 1, 1) := by decide +kernel
theorem dJ9_min_7cf53_10 : decode cJ9_min_7cf53 10 = .ok (.ireturn, 1) := by decide +kernel
theorem dJxa1e45_init_da8c8_0 : decode cJxa1e45_init_da8c8 0 = .ok (.aload_n 0, 1) := by decide +kernel
theorem dJxa1e45_init_da8c8_1 : decode cJxa1e45_init_da8c8 1 = .ok (.invokespecial 1, 3) := by decide +kernel
theorem dJxa1e45_init_da8c8_4 : decode cJxa1e45_init_da8c8 4 = .ok (.return_, 1) := by decide +kernel
theorem dJxc12de_init_da8c8_0 : decode cJxc12de_init_da8c8 0 = .ok (.aload_n 0, 1) := by decide +kernel
theorem dJxc12de_init_da8c8_1 : decode cJxc12de_init_da8c8 1 = .ok (.invokespecial 1, 3) := by decide +kernel
theorem dJxc12de_init_da8c8_4 : decode cJxc12de_init_da8c8 4 = .ok (.aload_n 0, 1) := by decide +kernel
theorem dJxc12de_init_da8c8_5 : decode cJxc12de_init_da8c8 5 = .ok (.iconst 0, 1) := by decide +kernel
theorem dJxc12de_init_da8c8_6 : decode cJxc12de_init_da8c8 6 = .ok (.putfield 7, 3) := by decide +kernel
theorem dJxc12de_init_da8c8_9 : decode cJxc12de_init_da8c8 9 = .ok (.return_, 1) := by decide +kernel
theorem dJx4a65c_init_da8c8_0 : decode cJx4a65c_init_da8c8 0 = .ok (.aload_n 0, 1) := by decide +kernel
theorem dJx4a65c_init_da8c8_1 : decode cJx4a65c_init_da8c8 1 = .ok (.invokespecial 1, 3) := by decide +kernel
theorem dJx4a65c_init_da8c8_4 : decode cJx4a65c_init_da8c8 4 = .ok (.aload_n 0, 1) := by decide +kernel
theorem dJx4a65c_init_da8c8_5 : decode cJx4a65c_init_da8c8 5 = .ok (.getstatic 39, 3) := by decide +kernel
theorem dJx4a65c_init_da8c8_8 : decode cJx4a65c_init_da8c8 8 = .ok (.putfield 9, 3) := by decide +kernel
theorem dJx4a65c_init_da8c8_11 : decode cJx4a65c_init_da8c8 11 = .ok (.return_, 1) := by decide +kernel
theorem dJx4a65c_grow_92f84_0 : decode cJx4a65c_grow_92f84 0 = .ok (.aload_n 0, 1) := by decide +kernel
theorem dJx4a65c_grow_92f84_1 : decode cJx4a65c_grow_92f84 1 = .ok (.getfield 9, 3) := by decide +kernel
theorem dJx4a65c_grow_92f84_4 : decode cJx4a65c_grow_92f84 4 = .ok (.arraylength, 1) := by decide +kernel
theorem dJx4a65c_grow_92f84_5 : decode cJx4a65c_grow_92f84 5 = .ok (.istore_n 2, 1) := by decide +kernel
theorem dJx4a65c_grow_92f84_6 : decode cJx4a65c_grow_92f84 6 = .ok (.iload_n 2, 1) := by decide +kernel
theorem dJx4a65c_grow_92f84_7 : decode cJx4a65c_grow_92f84 7 = .ok (.ifCond .gt 13, 3) := by decide +kernel
theorem dJx4a65c_grow_92f84_10 : decode cJx4a65c_grow_92f84 10 = .ok (.aload_n 0, 1) := by decide +kernel
theorem dJx4a65c_grow_92f84_11 : decode cJx4a65c_grow_92f84 11 = .ok (.getfield 9, 3) := by decide +kernel
theorem dJx4a65c_grow_92f84_14 : decode cJx4a65c_grow_92f84 14 = .ok (.getstatic 39, 3) := by decide +kernel
theorem dJx4a65c_grow_92f84_17 : decode cJx4a65c_grow_92f84 17 = .ok (.if_acmp .eq 28, 3) := by decide +kernel
theorem dJx4a65c_grow_92f84_20 : decode cJx4a65c_grow_92f84 20 = .ok (.iload_n 2, 1) := by decide +kernel
theorem dJx4a65c_grow_92f84_21 : decode cJx4a65c_grow_92f84 21 = .ok (.iload_n 1, 1) := by decide +kernel
theorem dJx4a65c_grow_92f84_22 : decode cJx4a65c_grow_92f84 22 = .ok (.iload_n 2, 1) := by decide +kernel
theorem dJx4a65c_grow_92f84_23 : decode cJx4a65c_grow_92f84 23 = .ok (.isub, 1) := by decide +kernel
theorem dJx4a65c_grow_92f84_24 : decode cJx4a65c_grow_92f84 24 = .ok (.iload_n 2, 1) := by decide +kernel
theorem dJx4a65c_grow_92f84_25 : decode cJx4a65c_grow_92f84 25 = .ok (.iconst 1, 1) := by decide +kernel
theorem dJx4a65c_grow_92f84_26 : decode cJx4a65c_grow_92f84 26 = .ok (.ishr, 1) := by decide +kernel
theorem dJx4a65c_grow_92f84_27 : decode cJx4a65c_grow_92f84 27 = .ok (.invokestatic 73, 3) := by decide +kernel
theorem dJx4a65c_grow_92f84_30 : decode cJx4a65c_grow_92f84 30 = .ok (.istore_n 3, 1) := by decide +kernel
theorem dJx4a65c_grow_92f84_31 : decode cJx4a65c_grow_92f84 31 = .ok (.aload_n 0, 1) := by decide +kernel
theorem dJx4a65c_grow_92f84_32 : decode cJx4a65c_grow_92f84 32 = .ok (.aload_n 0, 1) := by decide +kernel
theorem dJx4a65c_grow_92f84_33 : decode cJx4a65c_grow_92f84 33 = .ok (.getfield 9, 3) := by decide +kernel
theorem dJx4a65c_grow_92f84_36 : decode cJx4a65c_grow_92f84 36 = .ok (.iload_n 3, 1) := by decide +kernel
theorem dJx4a65c_grow_92f84_37 : decode cJx4a65c_grow_92f84 37 = .ok (.invokestatic 66, 3) := by decide +kernel
theorem dJx4a65c_grow_92f84_40 : decode cJx4a65c_grow_92f84 40 = .ok (.dup_x1, 1) := by decide +kernel
theorem dJx4a65c_grow_92f84_41 : decode cJx4a65c_grow_92f84 41 = .ok (.putfield 9, 3) := by decide +kernel
theorem dJx4a65c_grow_92f84_44 : decode cJx4a65c_grow_92f84 44 = .ok (.areturn, 1) := by decide +kernel
theorem dJx4a65c_grow_92f84_45 : decode cJx4a65c_grow_92f84 45 = .ok (.aload_n 0, 1) := by decide +kernel
theorem dJx4a65c_grow_92f84_46 : decode cJx4a65c_grow_92f84 46 = .ok (.bipush 10, 2) := by decide +kernel
theorem dJx4a65c_grow_92f84_48 : decode cJx4a65c_grow_92f84 48 = .ok (.iload_n 1, 1) := by decide +kernel
theorem dJx4a65c_grow_92f84_49 : decode cJx4a65c_grow_92f84 49 = .ok (.invokestatic 79, 3) := by decide +kernel
theorem dJx4a65c_grow_92f84_52 : decode cJx4a65c_grow_92f84 52 = .ok (.anewarray 7, 3) := by decide +kernel
theorem dJx4a65c_grow_92f84_55 : decode cJx4a65c_grow_92f84 55 = .ok (.dup_x1, 1) := by decide +kernel
theorem dJx4a65c_grow_92f84_56 : decode cJx4a65c_grow_92f84 56 = .ok (.putfield 9, 3) := by decide +kernel
theorem dJx4a65c_grow_92f84_59 : decode cJx4a65c_grow_92f84 59 = .ok (.areturn, 1) := by decide +kernel
theorem dJx4a65c_grow_d5877_0 : decode cJx4a65c_grow_d5877 0 = .ok (.aload_n 0, 1) := by decide +kernel
theorem dJx4a65c_grow_d5877_1 : decode cJx4a65c_grow_d5877 1 = .ok (.aload_n 0, 1) := by decide +kernel
theorem dJx4a65c_grow_d5877_2 : decode cJx4a65c_grow_d5877 2 = .ok (.getfield 48, 3) := by decide +kernel
theorem dJx4a65c_grow_d5877_5 : decode cJx4a65c_grow_d5877 5 = .ok (.iconst 1, 1) := by decide +kernel
theorem dJx4a65c_grow_d5877_6 : decode cJx4a65c_grow_d5877 6 = .ok (.iadd, 1) := by decide +kernel
theorem dJx4a65c_grow_d5877_7 : decode cJx4a65c_grow_d5877 7 = .ok (.invokevirtual 69, 3) := by decide +kernel
theorem dJx4a65c_grow_d5877_10 : decode cJx4a65c_grow_d5877 10 = .ok (.areturn, 1) := by decide +kernel
theorem dJx4a65c_size_8abf5_0 : decode cJx4a65c_size_8abf5 0 = .ok (.aload_n 0, 1) := by decide +kernel
theorem dJx4a65c_size_8abf5_1 : decode cJx4a65c_size_8abf5 1 = .ok (.getfield 48, 3) := by decide +kernel
theorem dJx4a65c_size_8abf5_4 : decode cJx4a65c_size_8abf5 4 = .ok (.ireturn, 1) := by decide +kernel
theorem dJx4a65c_elementData_915e3_0 : decode cJx4a65c_elementData_915e3 0 = .ok (.aload_n 0, 1) := by decide +kernel
theorem dJx4a65c_elementData_915e3_1 : decode cJx4a65c_elementData_915e3 1 = .ok (.getfield 9, 3) := by decide +kernel
theorem dJx4a65c_elementData_915e3_4 : decode cJx4a65c_elementData_915e3 4 = .ok (.iload_n 1, 1) := by decide +kernel
theorem dJx4a65c_elementData_915e3_5 : decode cJx4a65c_elementData_915e3 5 = .ok (.aaload, 1) := by decide +kernel
theorem dJx4a65c_elementData_915e3_6 : decode cJx4a65c_elementData_915e3 6 = .ok (.areturn, 1) := by decide +kernel
theorem dJx4a65c_get_915e3_0 : decode cJx4a65c_get_915e3 0 = .ok (.iload_n 1, 1) := by decide +kernel
theorem dJx4a65c_get_915e3_1 : decode cJx4a65c_get_915e3 1 = .ok (.aload_n 0, 1) := by decide +kernel
theorem dJx4a65c_get_915e3_2 : decode cJx4a65c_get_915e3 2 = .ok (.getfield 48, 3) := by decide +kernel
theorem dJx4a65c_get_915e3_5 : decode cJx4a65c_get_915e3 5 = .ok (.invokestatic 118, 3) := by decide +kernel
theorem dJx4a65c_get_915e3_8 : decode cJx4a65c_get_915e3 8 = .ok (.pop, 1) := by decide +kernel
theorem dJx4a65c_get_915e3_9 : decode cJx4a65c_get_915e3 9 = .ok (.aload_n 0, 1) := by decide +kernel
theorem dJx4a65c_get_915e3_10 : decode cJx4a65c_get_915e3 10 = .ok (.iload_n 1, 1) := by decide +kernel
theorem dJx4a65c_get_915e3_11 : decode cJx4a65c_get_915e3 11 = .ok (.invokevirtual 123, 3) := by decide +kernel
theorem dJx4a65c_get_915e3_14 : decode cJx4a65c_get_915e3 14 = .ok (.areturn, 1) := by decide +kernel
theorem dJx4a65c_add_72be8_0 : decode cJx4a65c_add_72be8 0 = .ok (.iload_n 3, 1) := by decide +kernel
theorem dJx4a65c_add_72be8_1 : decode cJx4a65c_add_72be8 1 = .ok (.aload_n 2, 1) := by decide +kernel
theorem dJx4a65c_add_72be8_2 : decode cJx4a65c_add_72be8 2 = .ok (.arraylength, 1) := by decide +kernel
theorem dJx4a65c_add_72be8_3 : decode cJx4a65c_add_72be8 3 = .ok (.if_icmp .ne 8, 3) := by decide +kernel
theorem dJx4a65c_add_72be8_6 : decode cJx4a65c_add_72be8 6 = .ok (.aload_n 0, 1) := by decide +kernel
theorem dJx4a65c_add_72be8_7 : decode cJx4a65c_add_72be8 7 = .ok (.invokevirtual 129, 3) := by decide +kernel
theorem dJx4a65c_add_72be8_10 : decode cJx4a65c_add_72be8 10 = .ok (.astore_n 2, 1) := by decide +kernel
theorem dJx4a65c_add_72be8_11 : decode cJx4a65c_add_72be8 11 = .ok (.aload_n 2, 1) := by decide +kernel
theorem dJx4a65c_add_72be8_12 : decode cJx4a65c_add_72be8 12 = .ok (.iload_n 3, 1) := by decide +kernel
theorem dJx4a65c_add_72be8_13 : decode cJx4a65c_add_72be8 13 = .ok (.aload_n 1, 1) := by decide +kernel
theorem dJx4a65c_add_72be8_14 : decode cJx4a65c_add_72be8 14 = .ok (.aastore, 1) := by decide +kernel
theorem dJx4a65c_add_72be8_15 : decode cJx4a65c_add_72be8 15 = .ok (.aload_n 0, 1) := by decide +kernel
theorem dJx4a65c_add_72be8_16 : decode cJx4a65c_add_72be8 16 = .ok (.iload_n 3, 1) := by decide +kernel
theorem dJx4a65c_add_72be8_17 : decode cJx4a65c_add_72be8 17 = .ok (.iconst 1, 1) := by decide +kernel
theorem dJx4a65c_add_72be8_18 : decode cJx4a65c_add_72be8 18 = .ok (.iadd, 1) := by decide +kernel
theorem dJx4a65c_add_72be8_19 : decode cJx4a65c_add_72be8 19 = .ok (.putfield 48, 3) := by decide +kernel
theorem dJx4a65c_add_72be8_22 : decode cJx4a65c_add_72be8 22 = .ok (.return_, 1) := by decide +kernel
theorem dJx4a65c_add_9ea2d_0 : decode cJx4a65c_add_9ea2d 0 = .ok (.aload_n 0, 1) := by decide +kernel
theorem dJx4a65c_add_9ea2d_1 : decode cJx4a65c_add_9ea2d 1 = .ok (.dup, 1) := by decide +kernel
theorem dJx4a65c_add_9ea2d_2 : decode cJx4a65c_add_9ea2d 2 = .ok (.getfield 63, 3) := by decide +kernel
theorem dJx4a65c_add_9ea2d_5 : decode cJx4a65c_add_9ea2d 5 = .ok (.iconst 1, 1) := by decide +kernel
theorem dJx4a65c_add_9ea2d_6 : decode cJx4a65c_add_9ea2d 6 = .ok (.iadd, 1) := by decide +kernel
theorem dJx4a65c_add_9ea2d_7 : decode cJx4a65c_add_9ea2d 7 = .ok (.putfield 63, 3) := by decide +kernel
theorem dJx4a65c_add_9ea2d_10 : decode cJx4a65c_add_9ea2d 10 = .ok (.aload_n 0, 1) := by decide +kernel
theorem dJx4a65c_add_9ea2d_11 : decode cJx4a65c_add_9ea2d 11 = .ok (.aload_n 1, 1) := by decide +kernel
theorem dJx4a65c_add_9ea2d_12 : decode cJx4a65c_add_9ea2d 12 = .ok (.aload_n 0, 1) := by decide +kernel
theorem dJx4a65c_add_9ea2d_13 : decode cJx4a65c_add_9ea2d 13 = .ok (.getfield 9, 3) := by decide +kernel
theorem dJx4a65c_add_9ea2d_16 : decode cJx4a65c_add_9ea2d 16 = .ok (.aload_n 0, 1) := by decide +kernel
theorem dJx4a65c_add_9ea2d_17 : decode cJx4a65c_add_9ea2d 17 = .ok (.getfield 48, 3) := by decide +kernel
theorem dJx4a65c_add_9ea2d_20 : decode cJx4a65c_add_9ea2d 20 = .ok (.invokevirtual 131, 3) := by decide +kernel
theorem dJx4a65c_add_9ea2d_23 : decode cJx4a65c_add_9ea2d 23 = .ok (.iconst 1, 1) := by decide +kernel
theorem dJx4a65c_add_9ea2d_24 : decode cJx4a65c_add_9ea2d 24 = .ok (.ireturn, 1) := by decide +kernel
theorem dJ7_copyOf_1904c_0 : decode cJ7_copyOf_1904c 0 = .ok (.aload_n 0, 1) := by decide +kernel
theorem dJ7_copyOf_1904c_1 : decode cJ7_copyOf_1904c 1 = .ok (.iload_n 1, 1) := by decide +kernel
theorem dJ7_copyOf_1904c_2 : decode cJ7_copyOf_1904c 2 = .ok (.aload_n 0, 1) := by decide +kernel
theorem dJ7_copyOf_1904c_3 : decode cJ7_copyOf_1904c 3 = .ok (.invokevirtual 86, 3) := by decide +kernel
theorem dJ7_copyOf_1904c_6 : decode cJ7_copyOf_1904c 6 = .ok (.invokestatic 300, 3) := by decide +kernel
theorem dJ7_copyOf_1904c_9 : decode cJ7_copyOf_1904c 9 = .ok (.areturn, 1) := by decide +kernel
theorem dJ7_copyOf_6403c_0 : decode cJ7_copyOf_6403c 0 = .ok (.aload_n 2, 1) := by decide +kernel
theorem dJ7_copyOf_6403c_1 : decode cJ7_copyOf_6403c 1 = .ok (.ldc 110, 2) := by decide +kernel
theorem dJ7_copyOf_6403c_3 : decode cJ7_copyOf_6403c 3 = .ok (.if_acmp .ne 10, 3) := by decide +kernel
theorem dJ7_copyOf_6403c_6 : decode cJ7_copyOf_6403c 6 = .ok (.iload_n 1, 1) := by decide +kernel
theorem dJ7_copyOf_6403c_7 : decode cJ7_copyOf_6403c 7 = .ok (.anewarray 2, 3) := by decide +kernel
theorem dJ7_copyOf_6403c_10 : decode cJ7_copyOf_6403c 10 = .ok (.goto 14, 3) := by decide +kernel
theorem dJ7_copyOf_6403c_13 : decode cJ7_copyOf_6403c 13 = .ok (.aload_n 2, 1) := by decide +kernel
theorem dJ7_copyOf_6403c_14 : decode cJ7_copyOf_6403c 14 = .ok (.invokevirtual 90, 3) := by decide +kernel
theorem dJ7_copyOf_6403c_17 : decode cJ7_copyOf_6403c 17 = .ok (.iload_n 1, 1) := by decide +kernel
theorem dJ7_copyOf_6403c_18 : decode cJ7_copyOf_6403c 18 = .ok (.invokestatic 95, 3) := by decide +kernel
theorem dJ7_copyOf_6403c_21 : decode cJ7_copyOf_6403c 21 = .ok (.checkcast 110, 3) := by decide +kernel
theorem dJ7_copyOf_6403c_24 : decode cJ7_copyOf_6403c 24 = .ok (.astore_n 3, 1) := by decide +kernel
theorem dJ7_copyOf_6403c_25 : decode cJ7_copyOf_6403c 25 = .ok (.aload_n 0, 1) := by decide +kernel
theorem dJ7_copyOf_6403c_26 : decode cJ7_copyOf_6403c 26 = .ok (.iconst 0, 1) := by decide +kernel
theorem dJ7_copyOf_6403c_27 : decode cJ7_copyOf_6403c 27 = .ok (.aload_n 3, 1) := by decide +kernel
theorem dJ7_copyOf_6403c_28 : decode cJ7_copyOf_6403c 28 = .ok (.iconst 0, 1) := by decide +kernel
theorem dJ7_copyOf_6403c_29 : decode cJ7_copyOf_6403c 29 = .ok (.aload_n 0, 1) := by decide +kernel
theorem dJ7_copyOf_6403c_30 : decode cJ7_copyOf_6403c 30 = .ok (.arraylength, 1) := by decide +kernel
theorem dJ7_copyOf_6403c_31 : decode cJ7_copyOf_6403c 31 = .ok (.iload_n 1, 1) := by decide +kernel
theorem dJ7_copyOf_6403c_32 : decode cJ7_copyOf_6403c 32 = .ok (.invokestatic 304, 3) := by decide +kernel
theorem dJ7_copyOf_6403c_35 : decode cJ7_copyOf_6403c 35 = .ok (.invokestatic 150, 3) := by decide +kernel
theorem dJ7_copyOf_6403c_38 : decode cJ7_copyOf_6403c 38 = .ok (.aload_n 3, 1) := by decide +kernel
theorem dJ7_copyOf_6403c_39 : decode cJ7_copyOf_6403c 39 = .ok (.areturn, 1) := by decide +kernel
theorem dJ15_checkIndex_7cf53_0 : decode cJ15_checkIndex_7cf53 0 = .ok (.iload_n 0, 1) := by decide +kernel
theorem dJ15_checkIndex_7cf53_1 : decode cJ15_checkIndex_7cf53 1 = .ok (.iload_n 1, 1) := by decide +kernel
theorem dJ15_checkIndex_7cf53_2 : decode cJ15_checkIndex_7cf53 2 = .ok (.aconst_null, 1) := by decide +kernel
theorem dJ15_checkIndex_7cf53_3 : decode cJ15_checkIndex_7cf53 3 = .ok (.invokestatic 105, 3) := by decide +kernel
theorem dJ15_checkIndex_7cf53_6 : decode cJ15_checkIndex_7cf53 6 = .ok (.ireturn, 1) := by decide +kernel
theorem dJ8_newLength_cabcc_0 : decode cJ8_newLength_cabcc 0 = .ok (.iload_n 0, 1) := by decide +kernel
theorem dJ8_newLength_cabcc_1 : decode cJ8_newLength_cabcc 1 = .ok (.iload_n 1, 1) := by decide +kernel
theorem dJ8_newLength_cabcc_2 : decode cJ8_newLength_cabcc 2 = .ok (.iload_n 2, 1) := by decide +kernel
theorem dJ8_newLength_cabcc_3 : decode cJ8_newLength_cabcc 3 = .ok (.invokestatic 194, 3) := by decide +kernel
theorem dJ8_newLength_cabcc_6 : decode cJ8_newLength_cabcc 6 = .ok (.iadd, 1) := by decide +kernel
theorem dJ8_newLength_cabcc_7 : decode cJ8_newLength_cabcc 7 = .ok (.istore_n 3, 1) := by decide +kernel
theorem dJ8_newLength_cabcc_8 : decode cJ8_newLength_cabcc 8 = .ok (.iconst 0, 1) := by decide +kernel
theorem dJ8_newLength_cabcc_9 : decode cJ8_newLength_cabcc 9 = .ok (.iload_n 3, 1) := by decide +kernel
theorem dJ8_newLength_cabcc_10 : decode cJ8_newLength_cabcc 10 = .ok (.if_icmp .ge 11, 3) := by decide +kernel
theorem dJ8_newLength_cabcc_13 : decode cJ8_newLength_cabcc 13 = .ok (.iload_n 3, 1) := by decide +kernel
theorem dJ8_newLength_cabcc_14 : decode cJ8_newLength_cabcc 14 = .ok (.ldc 200, 2) := by decide +kernel
theorem dJ8_newLength_cabcc_16 : decode cJ8_newLength_cabcc 16 = .ok (.if_icmp .gt 5, 3) := by decide +kernel
theorem dJ8_newLength_cabcc_19 : decode cJ8_newLength_cabcc 19 = .ok (.iload_n 3, 1) := by decide +kernel
theorem dJ8_newLength_cabcc_20 : decode cJ8_newLength_cabcc 20 = .ok (.ireturn, 1) := by decide +kernel
theorem dJ8_newLength_cabcc_21 : decode cJ8_newLength_cabcc 21 = .ok (.iload_n 0, 1) := by decide +kernel
theorem dJ8_newLength_cabcc_22 : decode cJ8_newLength_cabcc 22 = .ok (.iload_n 1, 1) := by decide +kernel
theorem dJ8_newLength_cabcc_23 : decode cJ8_newLength_cabcc 23 = .ok (.invokestatic 201, 3) := by decide +kernel
theorem dJ8_newLength_cabcc_26 : decode cJ8_newLength_cabcc 26 = .ok (.ireturn, 1) := by decide +kernel
theorem dJ8_hugeLength_7cf53_0 : decode cJ8_hugeLength_7cf53 0 = .ok (.iload_n 0, 1) := by decide +kernel
theorem dJ8_hugeLength_7cf53_1 : decode cJ8_hugeLength_7cf53 1 = .ok (.iload_n 1, 1) := by decide +kernel
theorem dJ8_hugeLength_7cf53_2 : decode cJ8_hugeLength_7cf53 2 = .ok (.iadd, 1) := by decide +kernel
theorem dJ8_hugeLength_7cf53_3 : decode cJ8_hugeLength_7cf53 3 = .ok (.istore_n 2, 1) := by decide +kernel
theorem dJ8_hugeLength_7cf53_4 : decode cJ8_hugeLength_7cf53 4 = .ok (.iload_n 2, 1) := by decide +kernel
theorem dJ8_hugeLength_7cf53_5 : decode cJ8_hugeLength_7cf53 5 = .ok (.ifCond .ge 44, 3) := by decide +kernel
theorem dJ8_hugeLength_7cf53_8 : decode cJ8_hugeLength_7cf53 8 = .ok (.new 204, 3) := by decide +kernel
theorem dJ8_hugeLength_7cf53_11 : decode cJ8_hugeLength_7cf53 11 = .ok (.dup, 1) := by decide +kernel
theorem dJ8_hugeLength_7cf53_12 : decode cJ8_hugeLength_7cf53 12 = .ok (.new 89, 3) := by decide +kernel
theorem dJ8_hugeLength_7cf53_15 : decode cJ8_hugeLength_7cf53 15 = .ok (.dup, 1) := by decide +kernel
theorem dJ8_hugeLength_7cf53_16 : decode cJ8_hugeLength_7cf53 16 = .ok (.invokespecial 91, 3) := by decide +kernel
theorem dJ8_hugeLength_7cf53_19 : decode cJ8_hugeLength_7cf53 19 = .ok (.ldc 206, 2) := by decide +kernel
theorem dJ8_hugeLength_7cf53_21 : decode cJ8_hugeLength_7cf53 21 = .ok (.invokevirtual 94, 3) := by decide +kernel
theorem dJ8_hugeLength_7cf53_24 : decode cJ8_hugeLength_7cf53 24 = .ok (.iload_n 0, 1) := by decide +kernel
theorem dJ8_hugeLength_7cf53_25 : decode cJ8_hugeLength_7cf53 25 = .ok (.invokevirtual 98, 3) := by decide +kernel
theorem dJ8_hugeLength_7cf53_28 : decode cJ8_hugeLength_7cf53 28 = .ok (.ldc 208, 2) := by decide +kernel
theorem dJ8_hugeLength_7cf53_30 : decode cJ8_hugeLength_7cf53 30 = .ok (.invokevirtual 94, 3) := by decide +kernel
theorem dJ8_hugeLength_7cf53_33 : decode cJ8_hugeLength_7cf53 33 = .ok (.iload_n 1, 1) := by decide +kernel
theorem dJ8_hugeLength_7cf53_34 : decode cJ8_hugeLength_7cf53 34 = .ok (.invokevirtual 98, 3) := by decide +kernel
theorem dJ8_hugeLength_7cf53_37 : decode cJ8_hugeLength_7cf53 37 = .ok (.ldc 210, 2) := by decide +kernel
theorem dJ8_hugeLength_7cf53_39 : decode cJ8_hugeLength_7cf53 39 = .ok (.invokevirtual 94, 3) := by decide +kernel
theorem dJ8_hugeLength_7cf53_42 : decode cJ8_hugeLength_7cf53 42 = .ok (.invokevirtual 101, 3) := by decide +kernel
theorem dJ8_hugeLength_7cf53_45 : decode cJ8_hugeLength_7cf53 45 = .ok (.invokespecial 212, 3) := by decide +kernel
theorem dJ8_hugeLength_7cf53_48 : decode cJ8_hugeLength_7cf53 48 = .ok (.athrow, 1) := by decide +kernel
theorem dJ8_hugeLength_7cf53_49 : decode cJ8_hugeLength_7cf53 49 = .ok (.iload_n 2, 1) := by decide +kernel
theorem dJ8_hugeLength_7cf53_50 : decode cJ8_hugeLength_7cf53 50 = .ok (.ldc 200, 2) := by decide +kernel
theorem dJ8_hugeLength_7cf53_52 : decode cJ8_hugeLength_7cf53 52 = .ok (.if_icmp .gt 6, 3) := by decide +kernel
theorem dJ8_hugeLength_7cf53_55 : decode cJ8_hugeLength_7cf53 55 = .ok (.ldc 200, 2) := by decide +kernel
theorem dJ8_hugeLength_7cf53_57 : decode cJ8_hugeLength_7cf53 57 = .ok (.ireturn, 1) := by decide +kernel
theorem dJ8_hugeLength_7cf53_58 : decode cJ8_hugeLength_7cf53 58 = .ok (.iload_n 2, 1) := by decide +kernel
theorem dJ8_hugeLength_7cf53_59 : decode cJ8_hugeLength_7cf53 59 = .ok (.ireturn, 1) := by decide +kernel
theorem dJ3_checkIndex_8e157_0 : decode cJ3_checkIndex_8e157 0 = .ok (.iload_n 0, 1) := by decide +kernel
theorem dJ3_checkIndex_8e157_1 : decode cJ3_checkIndex_8e157 1 = .ok (.ifCond .lt 8, 3) := by decide +kernel
theorem dJ3_checkIndex_8e157_4 : decode cJ3_checkIndex_8e157 4 = .ok (.iload_n 0, 1) := by decide +kernel
theorem dJ3_checkIndex_8e157_5 : decode cJ3_checkIndex_8e157 5 = .ok (.iload_n 1, 1) := by decide +kernel
theorem dJ3_checkIndex_8e157_6 : decode cJ3_checkIndex_8e157 6 = .ok (.if_icmp .lt 10, 3) := by decide +kernel
theorem dJ3_checkIndex_8e157_9 : decode cJ3_checkIndex_8e157 9 = .ok (.aload_n 2, 1) := by decide +kernel
theorem dJ3_checkIndex_8e157_10 : decode cJ3_checkIndex_8e157 10 = .ok (.iload_n 0, 1) := by decide +kernel
theorem dJ3_checkIndex_8e157_11 : decode cJ3_checkIndex_8e157 11 = .ok (.iload_n 1, 1) := by decide +kernel
theorem dJ3_checkIndex_8e157_12 : decode cJ3_checkIndex_8e157 12 = .ok (.invokestatic 95, 3) := by decide +kernel
theorem dJ3_checkIndex_8e157_15 : decode cJ3_checkIndex_8e157 15 = .ok (.athrow, 1) := by decide +kernel
theorem dJ3_checkIndex_8e157_16 : decode cJ3_checkIndex_8e157 16 = .ok (.iload_n 0, 1) := by decide +kernel
theorem dJ3_checkIndex_8e157_17 : decode cJ3_checkIndex_8e157 17 = .ok (.ireturn, 1) := by decide +kernel
end
section
theorem dX10_init_0 : decode cX10_init 0 = .ok (.aload_n 0, 1) := by decide +kernel
theorem dX10_init_1 : decode cX10_init 1 = .ok (.invokespecial 1, 3) := by decide +kernel
theorem dX10_init_4 : decode cX10_init 4 = .ok (.aload_n 0, 1) := by decide +kernel
theorem dX10_init_5 : decode cX10_init 5 = .ok (.new 7, 3) := by decide +kernel
theorem dX10_init_8 : decode cX10_init 8 = .ok (.dup, 1) := by decide +kernel
theorem dX10_init_9 : decode cX10_init 9 = .ok (.invokespecial 9, 3) := by decide +kernel
theorem dX10_init_12 : decode cX10_init 12 = .ok (.putfield 10, 3) := by decide +kernel
theorem dX10_init_15 : decode cX10_init 15 = .ok (.aload_n 0, 1) := by decide +kernel
theorem dX10_init_16 : decode cX10_init 16 = .ok (.new 7, 3) := by decide +kernel
theorem dX10_init_19 : decode cX10_init 19 = .ok (.dup, 1) := by decide +kernel
theorem dX10_init_20 : decode cX10_init 20 = .ok (.invokespecial 9, 3) := by decide +kernel
theorem dX10_init_23 : decode cX10_init 23 = .ok (.putfield 16, 3) := by decide +kernel
theorem dX10_init_26 : decode cX10_init 26 = .ok (.aload_n 0, 1) := by decide +kernel
theorem dX10_init_27 : decode cX10_init 27 = .ok (.new 7, 3) := by decide +kernel
theorem dX10_init_30 : decode cX10_init 30 = .ok (.dup, 1) := by decide +kernel
theorem dX10_init_31 : decode cX10_init 31 = .ok (.invokespecial 9, 3) := by decide +kernel
theorem dX10_init_34 : decode cX10_init 34 = .ok (.putfield 19, 3) := by decide +kernel
theorem dX10_init_37 : decode cX10_init 37 = .ok (.aload_n 0, 1) := by decide +kernel
theorem dX10_init_38 : decode cX10_init 38 = .ok (.new 22, 3) := by decide +kernel
theorem dX10_init_41 : decode cX10_init 41 = .ok (.dup, 1) := by decide +kernel
theorem dX10_init_42 : decode cX10_init 42 = .ok (.invokespecial 24, 3) := by decide +kernel
theorem dX10_init_45 : decode cX10_init 45 = .ok (.putfield 25, 3) := by decide +kernel
theorem dX10_init_48 : decode cX10_init 48 = .ok (.aload_n 0, 1) := by decide +kernel
theorem dX10_init_49 : decode cX10_init 49 = .ok (.new 29, 3) := by decide +kernel
theorem dX10_init_52 : decode cX10_init 52 = .ok (.dup, 1) := by decide +kernel
theorem dX10_init_53 : decode cX10_init 53 = .ok (.invokespecial 31, 3) := by decide +kernel
theorem dX10_init_56 : decode cX10_init 56 = .ok (.putfield 32, 3) := by decide +kernel
theorem dX10_init_59 : decode cX10_init 59 = .ok (.aload_n 0, 1) := by decide +kernel
theorem dX10_init_60 : decode cX10_init 60 = .ok (.new 36, 3) := by decide +kernel
theorem dX10_init_63 : decode cX10_init 63 = .ok (.dup, 1) := by decide +kernel
theorem dX10_init_64 : decode cX10_init 64 = .ok (.iconst 2, 1) := by decide +kernel
theorem dX10_init_65 : decode cX10_init 65 = .ok (.invokespecial 38, 3) := by decide +kernel
theorem dX10_init_68 : decode cX10_init 68 = .ok (.putfield 41, 3) := by decide +kernel
theorem dX10_init_71 : decode cX10_init 71 = .ok (.aload_n 0, 1) := by decide +kernel
theorem dX10_init_72 : decode cX10_init 72 = .ok (.new 36, 3) := by decide +kernel
theorem dX10_init_75 : decode cX10_init 75 = .ok (.dup, 1) := by decide +kernel
theorem dX10_init_76 : decode cX10_init 76 = .ok (.iconst 0, 1) := by decide +kernel
theorem dX10_init_77 : decode cX10_init 77 = .ok (.invokespecial 38, 3) := by decide +kernel
theorem dX10_init_80 : decode cX10_init 80 = .ok (.putfield 45, 3) := by decide +kernel
theorem dX10_init_83 : decode cX10_init 83 = .ok (.aload_n 0, 1) := by decide +kernel
theorem dX10_init_84 : decode cX10_init 84 = .ok (.new 48, 3) := by decide +kernel
theorem dX10_init_87 : decode cX10_init 87 = .ok (.dup, 1) := by decide +kernel
theorem dX10_init_88 : decode cX10_init 88 = .ok (.invokespecial 50, 3) := by decide +kernel
theorem dX10_init_91 : decode cX10_init 91 = .ok (.putfield 51, 3) := by decide +kernel
theorem dX10_init_94 : decode cX10_init 94 = .ok (.aload_n 0, 1) := by decide +kernel
theorem dX10_init_95 : decode cX10_init 95 = .ok (.iconst 0, 1) := by decide +kernel
theorem dX10_init_96 : decode cX10_init 96 = .ok (.putfield 55, 3) := by decide +kernel
theorem dX10_init_99 : decode cX10_init 99 = .ok (.aload_n 0, 1) := by decide +kernel
theorem dX10_init_100 : decode cX10_init 100 = .ok (.bipush 10, 2) := by decide +kernel
theorem dX10_init_102 : decode cX10_init 102 = .ok (.putfield 59, 3) := by decide +kernel
theorem dX10_init_105 : decode cX10_init 105 = .ok (.aload_n 0, 1) := by decide +kernel
theorem dX10_init_106 : decode cX10_init 106 = .ok (.lconst 0, 1) := by decide +kernel
theorem dX10_init_107 : decode cX10_init 107 = .ok (.putfield 62, 3) := by decide +kernel
theorem dX10_init_110 : decode cX10_init 110 = .ok (.return_, 1) := by decide +kernel
theorem dX10_garden_0 : decode cX10_garden 0 = .ok (.iload_n 1, 1) := by decide +kernel
theorem dX10_garden_1 : decode cX10_garden 1 = .ok (.iconst 1, 1) := by decide +kernel
theorem dX10_garden_2 : decode cX10_garden 2 = .ok (.sipush 5000, 3) := by decide +kernel
theorem dX10_garden_5 : decode cX10_garden 5 = .ok (.invokestatic 66, 3) := by decide +kernel
theorem dX10_garden_8 : decode cX10_garden 8 = .ok (.ifCond .ne 5, 3) := by decide +kernel
theorem dX10_garden_11 : decode cX10_garden 11 = .ok (.iconst (-1), 1) := by decide +kernel
theorem dX10_garden_12 : decode cX10_garden 12 = .ok (.ireturn, 1) := by decide +kernel
theorem dX10_garden_13 : decode cX10_garden 13 = .ok (.iload_n 2, 1) := by decide +kernel
theorem dX10_garden_14 : decode cX10_garden 14 = .ok (.iconst 0, 1) := by decide +kernel
theorem dX10_garden_15 : decode cX10_garden 15 = .ok (.bipush 40, 2) := by decide +kernel
theorem dX10_garden_17 : decode cX10_garden 17 = .ok (.invokestatic 66, 3) := by decide +kernel
theorem dX10_garden_20 : decode cX10_garden 20 = .ok (.ifCond .eq 13, 3) := by decide +kernel
theorem dX10_garden_23 : decode cX10_garden 23 = .ok (.iload_n 3, 1) := by decide +kernel
theorem dX10_garden_24 : decode cX10_garden 24 = .ok (.iload_n 2, 1) := by decide +kernel
theorem dX10_garden_25 : decode cX10_garden 25 = .ok (.bipush 40, 2) := by decide +kernel
theorem dX10_garden_27 : decode cX10_garden 27 = .ok (.invokestatic 66, 3) := by decide +kernel
theorem dX10_garden_30 : decode cX10_garden 30 = .ok (.ifCond .ne 5, 3) := by decide +kernel
theorem dX10_garden_33 : decode cX10_garden 33 = .ok (.iconst (-1), 1) := by decide +kernel
theorem dX10_garden_34 : decode cX10_garden 34 = .ok (.ireturn, 1) := by decide +kernel
theorem dX10_garden_35 : decode cX10_garden 35 = .ok (.aload_n 0, 1) := by decide +kernel
theorem dX10_garden_36 : decode cX10_garden 36 = .ok (.getfield 10, 3) := by decide +kernel
theorem dX10_garden_39 : decode cX10_garden 39 = .ok (.invokevirtual 70, 3) := by decide +kernel
theorem dX10_garden_42 : decode cX10_garden 42 = .ok (.bipush 6, 2) := by decide +kernel
theorem dX10_garden_44 : decode cX10_garden 44 = .ok (.if_icmp .lt 6, 3) := by decide +kernel
theorem dX10_garden_47 : decode cX10_garden 47 = .ok (.bipush (-3), 2) := by decide +kernel
theorem dX10_garden_49 : decode cX10_garden 49 = .ok (.ireturn, 1) := by decide +kernel
theorem dX10_garden_50 : decode cX10_garden 50 = .ok (.aload_n 0, 1) := by decide +kernel
theorem dX10_garden_51 : decode cX10_garden 51 = .ok (.getfield 10, 3) := by decide +kernel
theorem dX10_garden_54 : decode cX10_garden 54 = .ok (.new 74, 3) := by decide +kernel
theorem dX10_garden_57 : decode cX10_garden 57 = .ok (.dup, 1) := by decide +kernel
theorem dX10_garden_58 : decode cX10_garden 58 = .ok (.iload_n 1, 1) := by decide +kernel
theorem dX10_garden_59 : decode cX10_garden 59 = .ok (.iload_n 2, 1) := by decide +kernel
theorem dX10_garden_60 : decode cX10_garden 60 = .ok (.iload_n 3, 1) := by decide +kernel
theorem dX10_garden_61 : decode cX10_garden 61 = .ok (.invokespecial 76, 3) := by decide +kernel
theorem dX10_garden_64 : decode cX10_garden 64 = .ok (.invokevirtual 79, 3) := by decide +kernel
theorem dX10_garden_67 : decode cX10_garden 67 = .ok (.pop, 1) := by decide +kernel
theorem dX10_garden_68 : decode cX10_garden 68 = .ok (.aload_n 0, 1) := by decide +kernel
theorem dX10_garden_69 : decode cX10_garden 69 = .ok (.getfield 10, 3) := by decide +kernel
theorem dX10_garden_72 : decode cX10_garden 72 = .ok (.invokevirtual 70, 3) := by decide +kernel
theorem dX10_garden_75 : decode cX10_garden 75 = .ok (.iconst 1, 1) := by decide +kernel
theorem dX10_garden_76 : decode cX10_garden 76 = .ok (.isub, 1) := by decide +kernel
theorem dX10_garden_77 : decode cX10_garden 77 = .ok (.ireturn, 1) := by decide +kernel
theorem dX10_gang_0 : decode cX10_gang 0 = .ok (.iload_n 1, 1) := by decide +kernel
theorem dX10_gang_1 : decode cX10_gang 1 = .ok (.iconst 1, 1) := by decide +kernel
theorem dX10_gang_2 : decode cX10_gang 2 = .ok (.bipush 30, 2) := by decide +kernel
theorem dX10_gang_4 : decode cX10_gang 4 = .ok (.invokestatic 66, 3) := by decide +kernel
theorem dX10_gang_7 : decode cX10_gang 7 = .ok (.ifCond .ne 5, 3) := by decide +kernel
theorem dX10_gang_10 : decode cX10_gang 10 = .ok (.iconst (-1), 1) := by decide +kernel
theorem dX10_gang_11 : decode cX10_gang 11 = .ok (.ireturn, 1) := by decide +kernel
theorem dX10_gang_12 : decode cX10_gang 12 = .ok (.iload_n 2, 1) := by decide +kernel
theorem dX10_gang_13 : decode cX10_gang 13 = .ok (.bipush 80, 2) := by decide +kernel
theorem dX10_gang_15 : decode cX10_gang 15 = .ok (.bipush 120, 2) := by decide +kernel
theorem dX10_gang_17 : decode cX10_gang 17 = .ok (.invokestatic 66, 3) := by decide +kernel
theorem dX10_gang_20 : decode cX10_gang 20 = .ok (.ifCond .ne 5, 3) := by decide +kernel
theorem dX10_gang_23 : decode cX10_gang 23 = .ok (.iconst (-1), 1) := by decide +kernel
theorem dX10_gang_24 : decode cX10_gang 24 = .ok (.ireturn, 1) := by decide +kernel
theorem dX10_gang_25 : decode cX10_gang 25 = .ok (.aload_n 0, 1) := by decide +kernel
theorem dX10_gang_26 : decode cX10_gang 26 = .ok (.getfield 16, 3) := by decide +kernel
theorem dX10_gang_29 : decode cX10_gang 29 = .ok (.invokevirtual 70, 3) := by decide +kernel
theorem dX10_gang_32 : decode cX10_gang 32 = .ok (.bipush 6, 2) := by decide +kernel
theorem dX10_gang_34 : decode cX10_gang 34 = .ok (.if_icmp .lt 6, 3) := by decide +kernel
theorem dX10_gang_37 : decode cX10_gang 37 = .ok (.bipush (-3), 2) := by decide +kernel
theorem dX10_gang_39 : decode cX10_gang 39 = .ok (.ireturn, 1) := by decide +kernel
theorem dX10_gang_40 : decode cX10_gang 40 = .ok (.aload_n 0, 1) := by decide +kernel
theorem dX10_gang_41 : decode cX10_gang 41 = .ok (.getfield 16, 3) := by decide +kernel
theorem dX10_gang_44 : decode cX10_gang 44 = .ok (.new 83, 3) := by decide +kernel
theorem dX10_gang_47 : decode cX10_gang 47 = .ok (.dup, 1) := by decide +kernel
theorem dX10_gang_48 : decode cX10_gang 48 = .ok (.iload_n 1, 1) := by decide +kernel
theorem dX10_gang_49 : decode cX10_gang 49 = .ok (.iload_n 2, 1) := by decide +kernel
theorem dX10_gang_50 : decode cX10_gang 50 = .ok (.invokespecial 85, 3) := by decide +kernel
theorem dX10_gang_53 : decode cX10_gang 53 = .ok (.invokevirtual 79, 3) := by decide +kernel
theorem dX10_gang_56 : decode cX10_gang 56 = .ok (.pop, 1) := by decide +kernel
theorem dX10_gang_57 : decode cX10_gang 57 = .ok (.aload_n 0, 1) := by decide +kernel
theorem dX10_gang_58 : decode cX10_gang 58 = .ok (.getfield 16, 3) := by decide +kernel
theorem dX10_gang_61 : decode cX10_gang 61 = .ok (.invokevirtual 70, 3) := by decide +kernel
theorem dX10_gang_64 : decode cX10_gang 64 = .ok (.iconst 1, 1) := by decide +kernel
theorem dX10_gang_65 : decode cX10_gang 65 = .ok (.isub, 1) := by decide +kernel
theorem dX10_gang_66 : decode cX10_gang 66 = .ok (.ireturn, 1) := by decide +kernel
theorem dX10_sends_0 : decode cX10_sends 0 = .ok (.aload_n 0, 1) := by decide +kernel
theorem dX10_sends_1 : decode cX10_sends 1 = .ok (.iload_n 1, 1) := by decide +kernel
theorem dX10_sends_2 : decode cX10_sends 2 = .ok (.invokevirtual 88, 3) := by decide +kernel
theorem dX10_sends_5 : decode cX10_sends 5 = .ok (.astore_n 3, 1) := by decide +kernel
theorem dX10_sends_6 : decode cX10_sends 6 = .ok (.aload_n 3, 1) := by decide +kernel
theorem dX10_sends_7 : decode cX10_sends 7 = .ok (.ifnonnull 6, 3) := by decide +kernel
theorem dX10_sends_10 : decode cX10_sends 10 = .ok (.bipush (-2), 2) := by decide +kernel
theorem dX10_sends_12 : decode cX10_sends 12 = .ok (.ireturn, 1) := by decide +kernel
theorem dX10_sends_13 : decode cX10_sends 13 = .ok (.iload_n 2, 1) := by decide +kernel
theorem dX10_sends_14 : decode cX10_sends 14 = .ok (.bipush (-9), 2) := by decide +kernel
theorem dX10_sends_16 : decode cX10_sends 16 = .ok (.if_icmp .eq 14, 3) := by decide +kernel
theorem dX10_sends_19 : decode cX10_sends 19 = .ok (.aload_n 0, 1) := by decide +kernel
theorem dX10_sends_20 : decode cX10_sends 20 = .ok (.iload_n 2, 1) := by decide +kernel
theorem dX10_sends_21 : decode cX10_sends 21 = .ok (.invokevirtual 92, 3) := by decide +kernel
theorem dX10_sends_24 : decode cX10_sends 24 = .ok (.ifnonnull 6, 3) := by decide +kernel
theorem dX10_sends_27 : decode cX10_sends 27 = .ok (.bipush (-2), 2) := by decide +kernel
theorem dX10_sends_29 : decode cX10_sends 29 = .ok (.ireturn, 1) := by decide +kernel
theorem dX10_sends_30 : decode cX10_sends 30 = .ok (.aload_n 3, 1) := by decide +kernel
theorem dX10_sends_31 : decode cX10_sends 31 = .ok (.getfield 96, 3) := by decide +kernel
theorem dX10_sends_34 : decode cX10_sends 34 = .ok (.istore 4, 2) := by decide +kernel
theorem dX10_sends_36 : decode cX10_sends 36 = .ok (.aload_n 3, 1) := by decide +kernel
theorem dX10_sends_37 : decode cX10_sends 37 = .ok (.iload_n 2, 1) := by decide +kernel
theorem dX10_sends_38 : decode cX10_sends 38 = .ok (.putfield 96, 3) := by decide +kernel
theorem dX10_sends_41 : decode cX10_sends 41 = .ok (.iload 4, 2) := by decide +kernel
theorem dX10_sends_43 : decode cX10_sends 43 = .ok (.ireturn, 1) := by decide +kernel
theorem dX10_kiln_0 : decode cX10_kiln 0 = .ok (.iload_n 1, 1) := by decide +kernel
theorem dX10_kiln_1 : decode cX10_kiln 1 = .ok (.iconst 0, 1) := by decide +kernel
theorem dX10_kiln_2 : decode cX10_kiln 2 = .ok (.iconst 2, 1) := by decide +kernel
theorem dX10_kiln_3 : decode cX10_kiln 3 = .ok (.invokestatic 66, 3) := by decide +kernel
theorem dX10_kiln_6 : decode cX10_kiln 6 = .ok (.ifCond .eq 14, 3) := by decide +kernel
theorem dX10_kiln_9 : decode cX10_kiln 9 = .ok (.iload_n 2, 1) := by decide +kernel
theorem dX10_kiln_10 : decode cX10_kiln 10 = .ok (.iconst 1, 1) := by decide +kernel
theorem dX10_kiln_11 : decode cX10_kiln 11 = .ok (.sipush 200, 3) := by decide +kernel
theorem dX10_kiln_14 : decode cX10_kiln 14 = .ok (.invokestatic 66, 3) := by decide +kernel
theorem dX10_kiln_17 : decode cX10_kiln 17 = .ok (.ifCond .ne 5, 3) := by decide +kernel
theorem dX10_kiln_20 : decode cX10_kiln 20 = .ok (.iconst (-1), 1) := by decide +kernel
theorem dX10_kiln_21 : decode cX10_kiln 21 = .ok (.ireturn, 1) := by decide +kernel
theorem dX10_kiln_22 : decode cX10_kiln 22 = .ok (.aload_n 0, 1) := by decide +kernel
theorem dX10_kiln_23 : decode cX10_kiln 23 = .ok (.getfield 19, 3) := by decide +kernel
theorem dX10_kiln_26 : decode cX10_kiln 26 = .ok (.invokevirtual 70, 3) := by decide +kernel
theorem dX10_kiln_29 : decode cX10_kiln 29 = .ok (.iconst 4, 1) := by decide +kernel
theorem dX10_kiln_30 : decode cX10_kiln 30 = .ok (.if_icmp .lt 6, 3) := by decide +kernel
theorem dX10_kiln_33 : decode cX10_kiln 33 = .ok (.bipush (-3), 2) := by decide +kernel
theorem dX10_kiln_35 : decode cX10_kiln 35 = .ok (.ireturn, 1) := by decide +kernel
theorem dX10_kiln_36 : decode cX10_kiln 36 = .ok (.aload_n 0, 1) := by decide +kernel
theorem dX10_kiln_37 : decode cX10_kiln 37 = .ok (.getfield 19, 3) := by decide +kernel
theorem dX10_kiln_40 : decode cX10_kiln 40 = .ok (.new 99, 3) := by decide +kernel
theorem dX10_kiln_43 : decode cX10_kiln 43 = .ok (.dup, 1) := by decide +kernel
theorem dX10_kiln_44 : decode cX10_kiln 44 = .ok (.iload_n 1, 1) := by decide +kernel
theorem dX10_kiln_45 : decode cX10_kiln 45 = .ok (.invokestatic 101, 3) := by decide +kernel
theorem dX10_kiln_48 : decode cX10_kiln 48 = .ok (.iload_n 2, 1) := by decide +kernel
theorem dX10_kiln_49 : decode cX10_kiln 49 = .ok (.invokespecial 105, 3) := by decide +kernel
theorem dX10_kiln_52 : decode cX10_kiln 52 = .ok (.invokevirtual 79, 3) := by decide +kernel
theorem dX10_kiln_55 : decode cX10_kiln 55 = .ok (.pop, 1) := by decide +kernel
theorem dX10_kiln_56 : decode cX10_kiln 56 = .ok (.aload_n 0, 1) := by decide +kernel
theorem dX10_kiln_57 : decode cX10_kiln 57 = .ok (.getfield 19, 3) := by decide +kernel
theorem dX10_kiln_60 : decode cX10_kiln 60 = .ok (.invokevirtual 70, 3) := by decide +kernel
theorem dX10_kiln_63 : decode cX10_kiln 63 = .ok (.iconst 1, 1) := by decide +kernel
theorem dX10_kiln_64 : decode cX10_kiln 64 = .ok (.isub, 1) := by decide +kernel
theorem dX10_kiln_65 : decode cX10_kiln 65 = .ok (.ireturn, 1) := by decide +kernel
theorem dX10_read_0 : decode cX10_read 0 = .ok (.aload_n 0, 1) := by decide +kernel
theorem dX10_read_1 : decode cX10_read 1 = .ok (.iload_n 1, 1) := by decide +kernel
theorem dX10_read_2 : decode cX10_read 2 = .ok (.invokevirtual 108, 3) := by decide +kernel
theorem dX10_read_5 : decode cX10_read 5 = .ok (.astore_n 3, 1) := by decide +kernel
theorem dX10_read_6 : decode cX10_read 6 = .ok (.aload_n 3, 1) := by decide +kernel
theorem dX10_read_7 : decode cX10_read 7 = .ok (.ifnonnull 5, 3) := by decide +kernel
theorem dX10_read_10 : decode cX10_read 10 = .ok (.iconst (-1), 1) := by decide +kernel
theorem dX10_read_11 : decode cX10_read 11 = .ok (.ireturn, 1) := by decide +kernel
theorem dX10_read_12 : decode cX10_read 12 = .ok (.iload_n 2, 1) := by decide +kernel
theorem dX10_read_13 : decode cX10_read 13 = .ok (.bipush (-9), 2) := by decide +kernel
theorem dX10_read_15 : decode cX10_read 15 = .ok (.if_icmp .eq 15, 3) := by decide +kernel
theorem dX10_read_18 : decode cX10_read 18 = .ok (.iload_n 2, 1) := by decide +kernel
theorem dX10_read_19 : decode cX10_read 19 = .ok (.iconst 0, 1) := by decide +kernel
theorem dX10_read_20 : decode cX10_read 20 = .ok (.bipush 100, 2) := by decide +kernel
theorem dX10_read_22 : decode cX10_read 22 = .ok (.invokestatic 66, 3) := by decide +kernel
theorem dX10_read_25 : decode cX10_read 25 = .ok (.ifCond .ne 5, 3) := by decide +kernel
theorem dX10_read_28 : decode cX10_read 28 = .ok (.iconst (-1), 1) := by decide +kernel
theorem dX10_read_29 : decode cX10_read 29 = .ok (.ireturn, 1) := by decide +kernel
theorem dX10_read_30 : decode cX10_read 30 = .ok (.aload_n 3, 1) := by decide +kernel
theorem dX10_read_31 : decode cX10_read 31 = .ok (.getfield 112, 3) := by decide +kernel
theorem dX10_read_34 : decode cX10_read 34 = .ok (.istore 4, 2) := by decide +kernel
theorem dX10_read_36 : decode cX10_read 36 = .ok (.iload_n 2, 1) := by decide +kernel
theorem dX10_read_37 : decode cX10_read 37 = .ok (.bipush (-9), 2) := by decide +kernel
theorem dX10_read_39 : decode cX10_read 39 = .ok (.if_icmp .eq 8, 3) := by decide +kernel
theorem dX10_read_42 : decode cX10_read 42 = .ok (.aload_n 3, 1) := by decide +kernel
theorem dX10_read_43 : decode cX10_read 43 = .ok (.iload_n 2, 1) := by decide +kernel
theorem dX10_read_44 : decode cX10_read 44 = .ok (.putfield 112, 3) := by decide +kernel
theorem dX10_read_47 : decode cX10_read 47 = .ok (.iload 4, 2) := by decide +kernel
theorem dX10_read_49 : decode cX10_read 49 = .ok (.ireturn, 1) := by decide +kernel
theorem dX10_drying_0 : decode cX10_drying 0 = .ok (.aload_n 0, 1) := by decide +kernel
theorem dX10_drying_1 : decode cX10_drying 1 = .ok (.iload_n 1, 1) := by decide +kernel
theorem dX10_drying_2 : decode cX10_drying 2 = .ok (.invokevirtual 108, 3) := by decide +kernel
theorem dX10_drying_5 : decode cX10_drying 5 = .ok (.astore_n 3, 1) := by decide +kernel
theorem dX10_drying_6 : decode cX10_drying 6 = .ok (.aload_n 3, 1) := by decide +kernel
theorem dX10_drying_7 : decode cX10_drying 7 = .ok (.ifnull 13, 3) := by decide +kernel
theorem dX10_drying_10 : decode cX10_drying 10 = .ok (.iload_n 2, 1) := by decide +kernel
theorem dX10_drying_11 : decode cX10_drying 11 = .ok (.iconst 0, 1) := by decide +kernel
theorem dX10_drying_12 : decode cX10_drying 12 = .ok (.bipush 100, 2) := by decide +kernel
theorem dX10_drying_14 : decode cX10_drying 14 = .ok (.invokestatic 66, 3) := by decide +kernel
theorem dX10_drying_17 : decode cX10_drying 17 = .ok (.ifCond .ne 5, 3) := by decide +kernel
theorem dX10_drying_20 : decode cX10_drying 20 = .ok (.iconst (-1), 1) := by decide +kernel
theorem dX10_drying_21 : decode cX10_drying 21 = .ok (.ireturn, 1) := by decide +kernel
theorem dX10_drying_22 : decode cX10_drying 22 = .ok (.aload_n 0, 1) := by decide +kernel
theorem dX10_drying_23 : decode cX10_drying 23 = .ok (.dup, 1) := by decide +kernel
theorem dX10_drying_24 : decode cX10_drying 24 = .ok (.getfield 62, 3) := by decide +kernel
theorem dX10_drying_27 : decode cX10_drying 27 = .ok (.aload_n 3, 1) := by decide +kernel
theorem dX10_drying_28 : decode cX10_drying 28 = .ok (.getfield 115, 3) := by decide +kernel
theorem dX10_drying_31 : decode cX10_drying 31 = .ok (.invokevirtual 119, 3) := by decide +kernel
theorem dX10_drying_34 : decode cX10_drying 34 = .ok (.i2l, 1) := by decide +kernel
theorem dX10_drying_35 : decode cX10_drying 35 = .ok (.ladd, 1) := by decide +kernel
theorem dX10_drying_36 : decode cX10_drying 36 = .ok (.putfield 62, 3) := by decide +kernel
theorem dX10_drying_39 : decode cX10_drying 39 = .ok (.aload_n 3, 1) := by decide +kernel
theorem dX10_drying_40 : decode cX10_drying 40 = .ok (.getfield 115, 3) := by decide +kernel
theorem dX10_drying_43 : decode cX10_drying 43 = .ok (.iload_n 2, 1) := by decide +kernel
theorem dX10_drying_44 : decode cX10_drying 44 = .ok (.invokevirtual 124, 3) := by decide +kernel
theorem dX10_drying_47 : decode cX10_drying 47 = .ok (.ireturn, 1) := by decide +kernel
theorem dX10_waits_0 : decode cX10_waits 0 = .ok (.iload_n 1, 1) := by decide +kernel
theorem dX10_waits_1 : decode cX10_waits 1 = .ok (.iconst 1, 1) := by decide +kernel
theorem dX10_waits_2 : decode cX10_waits 2 = .ok (.bipush 24, 2) := by decide +kernel
theorem dX10_waits_4 : decode cX10_waits 4 = .ok (.invokestatic 66, 3) := by decide +kernel
theorem dX10_waits_7 : decode cX10_waits 7 = .ok (.ifCond .ne 5, 3) := by decide +kernel
theorem dX10_waits_10 : decode cX10_waits 10 = .ok (.iconst (-1), 1) := by decide +kernel
theorem dX10_waits_11 : decode cX10_waits 11 = .ok (.ireturn, 1) := by decide +kernel
theorem dX10_waits_12 : decode cX10_waits 12 = .ok (.aload_n 0, 1) := by decide +kernel
theorem dX10_waits_13 : decode cX10_waits 13 = .ok (.getfield 59, 3) := by decide +kernel
theorem dX10_waits_16 : decode cX10_waits 16 = .ok (.istore_n 2, 1) := by decide +kernel
theorem dX10_waits_17 : decode cX10_waits 17 = .ok (.aload_n 0, 1) := by decide +kernel
theorem dX10_waits_18 : decode cX10_waits 18 = .ok (.iload_n 1, 1) := by decide +kernel
theorem dX10_waits_19 : decode cX10_waits 19 = .ok (.putfield 59, 3) := by decide +kernel
theorem dX10_waits_22 : decode cX10_waits 22 = .ok (.iload_n 2, 1) := by decide +kernel
theorem dX10_waits_23 : decode cX10_waits 23 = .ok (.ireturn, 1) := by decide +kernel
theorem dX10_hours_0 : decode cX10_hours 0 = .ok (.iload_n 1, 1) := by decide +kernel
theorem dX10_hours_1 : decode cX10_hours 1 = .ok (.iconst 1, 1) := by decide +kernel
theorem dX10_hours_2 : decode cX10_hours 2 = .ok (.bipush 24, 2) := by decide +kernel
theorem dX10_hours_4 : decode cX10_hours 4 = .ok (.invokestatic 66, 3) := by decide +kernel
theorem dX10_hours_7 : decode cX10_hours 7 = .ok (.ifCond .ne 5, 3) := by decide +kernel
theorem dX10_hours_10 : decode cX10_hours 10 = .ok (.iconst (-1), 1) := by decide +kernel
theorem dX10_hours_11 : decode cX10_hours 11 = .ok (.ireturn, 1) := by decide +kernel
theorem dX10_hours_12 : decode cX10_hours 12 = .ok (.aload_n 0, 1) := by decide +kernel
theorem dX10_hours_13 : decode cX10_hours 13 = .ok (.getfield 55, 3) := by decide +kernel
theorem dX10_hours_16 : decode cX10_hours 16 = .ok (.iload_n 1, 1) := by decide +kernel
theorem dX10_hours_17 : decode cX10_hours 17 = .ok (.iadd, 1) := by decide +kernel
theorem dX10_hours_18 : decode cX10_hours 18 = .ok (.sipush 480, 3) := by decide +kernel
theorem dX10_hours_21 : decode cX10_hours 21 = .ok (.if_icmp .le 6, 3) := by decide +kernel
theorem dX10_hours_24 : decode cX10_hours 24 = .ok (.bipush (-2), 2) := by decide +kernel
theorem dX10_hours_26 : decode cX10_hours 26 = .ok (.ireturn, 1) := by decide +kernel
theorem dX10_hours_27 : decode cX10_hours 27 = .ok (.iconst 0, 1) := by decide +kernel
theorem dX10_hours_28 : decode cX10_hours 28 = .ok (.istore_n 2, 1) := by decide +kernel
theorem dX10_hours_29 : decode cX10_hours 29 = .ok (.iload_n 2, 1) := by decide +kernel
theorem dX10_hours_30 : decode cX10_hours 30 = .ok (.iload_n 1, 1) := by decide +kernel
theorem dX10_hours_31 : decode cX10_hours 31 = .ok (.if_icmp .ge 13, 3) := by decide +kernel
theorem dX10_hours_34 : decode cX10_hours 34 = .ok (.aload_n 0, 1) := by decide +kernel
theorem dX10_hours_35 : decode cX10_hours 35 = .ok (.invokevirtual 128, 3) := by decide +kernel
theorem dX10_hours_38 : decode cX10_hours 38 = .ok (.iinc 2 1, 3) := by decide +kernel
theorem dX10_hours_41 : decode cX10_hours 41 = .ok (.goto (-12), 3) := by decide +kernel
theorem dX10_hours_44 : decode cX10_hours 44 = .ok (.aload_n 0, 1) := by decide +kernel
theorem dX10_hours_45 : decode cX10_hours 45 = .ok (.getfield 55, 3) := by decide +kernel
theorem dX10_hours_48 : decode cX10_hours 48 = .ok (.ireturn, 1) := by decide +kernel
theorem dX10_about_0 : decode cX10_about 0 = .ok (.aload_n 0, 1) := by decide +kernel
theorem dX10_about_1 : decode cX10_about 1 = .ok (.iload_n 1, 1) := by decide +kernel
theorem dX10_about_2 : decode cX10_about 2 = .ok (.invokevirtual 92, 3) := by decide +kernel
theorem dX10_about_5 : decode cX10_about 5 = .ok (.astore_n 3, 1) := by decide +kernel
theorem dX10_about_6 : decode cX10_about 6 = .ok (.aload_n 3, 1) := by decide +kernel
theorem dX10_about_7 : decode cX10_about 7 = .ok (.ifnonnull 5, 3) := by decide +kernel
theorem dX10_about_10 : decode cX10_about 10 = .ok (.iconst (-1), 1) := by decide +kernel
theorem dX10_about_11 : decode cX10_about 11 = .ok (.ireturn, 1) := by decide +kernel
theorem dX10_about_12 : decode cX10_about 12 = .ok (.iload_n 2, 1) := by decide +kernel
theorem dX10_about_13 : decode cX10_about 13 = .ok (.tableswitch 74 0 5 #[39, 44, 49, 58, 64, 69], 39) := by decide +kernel
theorem dX10_about_52 : decode cX10_about 52 = .ok (.aload_n 3, 1) := by decide +kernel
theorem dX10_about_53 : decode cX10_about 53 = .ok (.getfield 131, 3) := by decide +kernel
theorem dX10_about_56 : decode cX10_about 56 = .ok (.ireturn, 1) := by decide +kernel
theorem dX10_about_57 : decode cX10_about 57 = .ok (.aload_n 3, 1) := by decide +kernel
theorem dX10_about_58 : decode cX10_about 58 = .ok (.getfield 134, 3) := by decide +kernel
theorem dX10_about_61 : decode cX10_about 61 = .ok (.ireturn, 1) := by decide +kernel
theorem dX10_about_62 : decode cX10_about 62 = .ok (.aload_n 0, 1) := by decide +kernel
theorem dX10_about_63 : decode cX10_about 63 = .ok (.getfield 25, 3) := by decide +kernel
theorem dX10_about_66 : decode cX10_about 66 = .ok (.iload_n 1, 1) := by decide +kernel
theorem dX10_about_67 : decode cX10_about 67 = .ok (.invokevirtual 137, 3) := by decide +kernel
theorem dX10_about_70 : decode cX10_about 70 = .ok (.ireturn, 1) := by decide +kernel
theorem dX10_about_71 : decode cX10_about 71 = .ok (.aload_n 0, 1) := by decide +kernel
theorem dX10_about_72 : decode cX10_about 72 = .ok (.iload_n 1, 1) := by decide +kernel
theorem dX10_about_73 : decode cX10_about 73 = .ok (.invokevirtual 140, 3) := by decide +kernel
theorem dX10_about_76 : decode cX10_about 76 = .ok (.ireturn, 1) := by decide +kernel
theorem dX10_about_77 : decode cX10_about 77 = .ok (.aload_n 3, 1) := by decide +kernel
theorem dX10_about_78 : decode cX10_about 78 = .ok (.getfield 143, 3) := by decide +kernel
theorem dX10_about_81 : decode cX10_about 81 = .ok (.ireturn, 1) := by decide +kernel
theorem dX10_about_82 : decode cX10_about 82 = .ok (.aload_n 3, 1) := by decide +kernel
theorem dX10_about_83 : decode cX10_about 83 = .ok (.getfield 146, 3) := by decide +kernel
theorem dX10_about_86 : decode cX10_about 86 = .ok (.ireturn, 1) := by decide +kernel
theorem dX10_about_87 : decode cX10_about 87 = .ok (.iconst (-1), 1) := by decide +kernel
theorem dX10_about_88 : decode cX10_about 88 = .ok (.ireturn, 1) := by decide +kernel
theorem dX10_tally_0 : decode cX10_tally 0 = .ok (.aload_n 0, 1) := by decide +kernel
theorem dX10_tally_1 : decode cX10_tally 1 = .ok (.iload_n 1, 1) := by decide +kernel
theorem dX10_tally_2 : decode cX10_tally 2 = .ok (.invokevirtual 88, 3) := by decide +kernel
theorem dX10_tally_5 : decode cX10_tally 5 = .ok (.astore_n 3, 1) := by decide +kernel
theorem dX10_tally_6 : decode cX10_tally 6 = .ok (.aload_n 3, 1) := by decide +kernel
theorem dX10_tally_7 : decode cX10_tally 7 = .ok (.ifnonnull 6, 3) := by decide +kernel
theorem dX10_tally_10 : decode cX10_tally 10 = .ok (.bipush (-2), 2) := by decide +kernel
theorem dX10_tally_12 : decode cX10_tally 12 = .ok (.ireturn, 1) := by decide +kernel
theorem dX10_tally_13 : decode cX10_tally 13 = .ok (.iload_n 2, 1) := by decide +kernel
theorem dX10_tally_14 : decode cX10_tally 14 = .ok (.tableswitch 50 0 3 #[30, 35, 40, 45], 30) := by decide +kernel
theorem dX10_tally_44 : decode cX10_tally 44 = .ok (.aload_n 3, 1) := by decide +kernel
theorem dX10_tally_45 : decode cX10_tally 45 = .ok (.getfield 149, 3) := by decide +kernel
theorem dX10_tally_48 : decode cX10_tally 48 = .ok (.ireturn, 1) := by decide +kernel
theorem dX10_tally_49 : decode cX10_tally 49 = .ok (.aload_n 3, 1) := by decide +kernel
theorem dX10_tally_50 : decode cX10_tally 50 = .ok (.getfield 150, 3) := by decide +kernel
theorem dX10_tally_53 : decode cX10_tally 53 = .ok (.ireturn, 1) := by decide +kernel
theorem dX10_tally_54 : decode cX10_tally 54 = .ok (.aload_n 3, 1) := by decide +kernel
theorem dX10_tally_55 : decode cX10_tally 55 = .ok (.getfield 153, 3) := by decide +kernel
theorem dX10_tally_58 : decode cX10_tally 58 = .ok (.ireturn, 1) := by decide +kernel
theorem dX10_tally_59 : decode cX10_tally 59 = .ok (.aload_n 3, 1) := by decide +kernel
theorem dX10_tally_60 : decode cX10_tally 60 = .ok (.getfield 96, 3) := by decide +kernel
theorem dX10_tally_63 : decode cX10_tally 63 = .ok (.ireturn, 1) := by decide +kernel
theorem dX10_tally_64 : decode cX10_tally 64 = .ok (.bipush (-2), 2) := by decide +kernel
theorem dX10_tally_66 : decode cX10_tally 66 = .ok (.ireturn, 1) := by decide +kernel
theorem dX10_in_0 : decode cX10_in 0 = .ok (.aload_n 0, 1) := by decide +kernel
theorem dX10_in_1 : decode cX10_in 1 = .ok (.iload_n 1, 1) := by decide +kernel
theorem dX10_in_2 : decode cX10_in 2 = .ok (.invokevirtual 108, 3) := by decide +kernel
theorem dX10_in_5 : decode cX10_in 5 = .ok (.astore_n 3, 1) := by decide +kernel
theorem dX10_in_6 : decode cX10_in 6 = .ok (.aload_n 3, 1) := by decide +kernel
theorem dX10_in_7 : decode cX10_in 7 = .ok (.ifnonnull 5, 3) := by decide +kernel
theorem dX10_in_10 : decode cX10_in 10 = .ok (.iconst (-1), 1) := by decide +kernel
theorem dX10_in_11 : decode cX10_in 11 = .ok (.ireturn, 1) := by decide +kernel
theorem dX10_in_12 : decode cX10_in 12 = .ok (.iload_n 2, 1) := by decide +kernel
theorem dX10_in_13 : decode cX10_in 13 = .ok (.tableswitch 51 0 3 #[31, 36, 41, 46], 31) := by decide +kernel
theorem dX10_in_44 : decode cX10_in 44 = .ok (.aload_n 3, 1) := by decide +kernel
theorem dX10_in_45 : decode cX10_in 45 = .ok (.getfield 156, 3) := by decide +kernel
theorem dX10_in_48 : decode cX10_in 48 = .ok (.ireturn, 1) := by decide +kernel
theorem dX10_in_49 : decode cX10_in 49 = .ok (.aload_n 3, 1) := by decide +kernel
theorem dX10_in_50 : decode cX10_in 50 = .ok (.getfield 159, 3) := by decide +kernel
theorem dX10_in_53 : decode cX10_in 53 = .ok (.ireturn, 1) := by decide +kernel
theorem dX10_in_54 : decode cX10_in 54 = .ok (.aload_n 3, 1) := by decide +kernel
theorem dX10_in_55 : decode cX10_in 55 = .ok (.getfield 112, 3) := by decide +kernel
theorem dX10_in_58 : decode cX10_in 58 = .ok (.ireturn, 1) := by decide +kernel
theorem dX10_in_59 : decode cX10_in 59 = .ok (.aload_n 3, 1) := by decide +kernel
theorem dX10_in_60 : decode cX10_in 60 = .ok (.invokevirtual 162, 3) := by decide +kernel
theorem dX10_in_63 : decode cX10_in 63 = .ok (.ireturn, 1) := by decide +kernel
theorem dX10_in_64 : decode cX10_in 64 = .ok (.iconst (-1), 1) := by decide +kernel
theorem dX10_in_65 : decode cX10_in 65 = .ok (.ireturn, 1) := by decide +kernel
theorem dX10_green_0 : decode cX10_green 0 = .ok (.iload_n 1, 1) := by decide +kernel
theorem dX10_green_1 : decode cX10_green 1 = .ok (.iconst 0, 1) := by decide +kernel
theorem dX10_green_2 : decode cX10_green 2 = .ok (.bipush 23, 2) := by decide +kernel
theorem dX10_green_4 : decode cX10_green 4 = .ok (.invokestatic 66, 3) := by decide +kernel
theorem dX10_green_7 : decode cX10_green 7 = .ok (.ifCond .ne 5, 3) := by decide +kernel
theorem dX10_green_10 : decode cX10_green 10 = .ok (.iconst (-1), 1) := by decide +kernel
theorem dX10_green_11 : decode cX10_green 11 = .ok (.ireturn, 1) := by decide +kernel
theorem dX10_green_12 : decode cX10_green 12 = .ok (.aload_n 0, 1) := by decide +kernel
theorem dX10_green_13 : decode cX10_green 13 = .ok (.getfield 25, 3) := by decide +kernel
theorem dX10_green_16 : decode cX10_green 16 = .ok (.aload_n 0, 1) := by decide +kernel
theorem dX10_green_17 : decode cX10_green 17 = .ok (.getfield 55, 3) := by decide +kernel
theorem dX10_green_20 : decode cX10_green 20 = .ok (.iconst 1, 1) := by decide +kernel
theorem dX10_green_21 : decode cX10_green 21 = .ok (.isub, 1) := by decide +kernel
theorem dX10_green_22 : decode cX10_green 22 = .ok (.iload_n 1, 1) := by decide +kernel
theorem dX10_green_23 : decode cX10_green 23 = .ok (.isub, 1) := by decide +kernel
theorem dX10_green_24 : decode cX10_green 24 = .ok (.invokevirtual 165, 3) := by decide +kernel
theorem dX10_green_27 : decode cX10_green 27 = .ok (.ireturn, 1) := by decide +kernel
theorem dX10_pocket_0 : decode cX10_pocket 0 = .ok (.iload_n 1, 1) := by decide +kernel
theorem dX10_pocket_1 : decode cX10_pocket 1 = .ok (.iconst 0, 1) := by decide +kernel
theorem dX10_pocket_2 : decode cX10_pocket 2 = .ok (.aload_n 0, 1) := by decide +kernel
theorem dX10_pocket_3 : decode cX10_pocket 3 = .ok (.getfield 32, 3) := by decide +kernel
theorem dX10_pocket_6 : decode cX10_pocket 6 = .ok (.invokevirtual 168, 3) := by decide +kernel
theorem dX10_pocket_9 : decode cX10_pocket 9 = .ok (.iconst 1, 1) := by decide +kernel
theorem dX10_pocket_10 : decode cX10_pocket 10 = .ok (.isub, 1) := by decide +kernel
theorem dX10_pocket_11 : decode cX10_pocket 11 = .ok (.invokestatic 66, 3) := by decide +kernel
theorem dX10_pocket_14 : decode cX10_pocket 14 = .ok (.ifCond .ne 5, 3) := by decide +kernel
theorem dX10_pocket_17 : decode cX10_pocket 17 = .ok (.iconst (-1), 1) := by decide +kernel
theorem dX10_pocket_18 : decode cX10_pocket 18 = .ok (.ireturn, 1) := by decide +kernel
theorem dX10_pocket_19 : decode cX10_pocket 19 = .ok (.iload_n 2, 1) := by decide +kernel
theorem dX10_pocket_20 : decode cX10_pocket 20 = .ok (.tableswitch 65 0 2 #[28, 38, 48], 28) := by decide +kernel
theorem dX10_pocket_48 : decode cX10_pocket 48 = .ok (.aload_n 0, 1) := by decide +kernel
theorem dX10_pocket_49 : decode cX10_pocket 49 = .ok (.getfield 32, 3) := by decide +kernel
theorem dX10_pocket_52 : decode cX10_pocket 52 = .ok (.getfield 171, 3) := by decide +kernel
theorem dX10_pocket_55 : decode cX10_pocket 55 = .ok (.iload_n 1, 1) := by decide +kernel
theorem dX10_pocket_56 : decode cX10_pocket 56 = .ok (.iaload, 1) := by decide +kernel
theorem dX10_pocket_57 : decode cX10_pocket 57 = .ok (.ireturn, 1) := by decide +kernel
theorem dX10_pocket_58 : decode cX10_pocket 58 = .ok (.aload_n 0, 1) := by decide +kernel
theorem dX10_pocket_59 : decode cX10_pocket 59 = .ok (.getfield 32, 3) := by decide +kernel
theorem dX10_pocket_62 : decode cX10_pocket 62 = .ok (.getfield 174, 3) := by decide +kernel
theorem dX10_pocket_65 : decode cX10_pocket 65 = .ok (.iload_n 1, 1) := by decide +kernel
theorem dX10_pocket_66 : decode cX10_pocket 66 = .ok (.iaload, 1) := by decide +kernel
theorem dX10_pocket_67 : decode cX10_pocket 67 = .ok (.ireturn, 1) := by decide +kernel
theorem dX10_pocket_68 : decode cX10_pocket 68 = .ok (.aload_n 0, 1) := by decide +kernel
theorem dX10_pocket_69 : decode cX10_pocket 69 = .ok (.getfield 45, 3) := by decide +kernel
theorem dX10_pocket_72 : decode cX10_pocket 72 = .ok (.aload_n 0, 1) := by decide +kernel
theorem dX10_pocket_73 : decode cX10_pocket 73 = .ok (.getfield 32, 3) := by decide +kernel
theorem dX10_pocket_76 : decode cX10_pocket 76 = .ok (.getfield 174, 3) := by decide +kernel
theorem dX10_pocket_79 : decode cX10_pocket 79 = .ok (.iload_n 1, 1) := by decide +kernel
theorem dX10_pocket_80 : decode cX10_pocket 80 = .ok (.iaload, 1) := by decide +kernel
theorem dX10_pocket_81 : decode cX10_pocket 81 = .ok (.invokevirtual 177, 3) := by decide +kernel
theorem dX10_pocket_84 : decode cX10_pocket 84 = .ok (.ireturn, 1) := by decide +kernel
theorem dX10_pocket_85 : decode cX10_pocket 85 = .ok (.iconst (-1), 1) := by decide +kernel
theorem dX10_pocket_86 : decode cX10_pocket 86 = .ok (.ireturn, 1) := by decide +kernel
theorem dX10_count_0 : decode cX10_count 0 = .ok (.iload_n 1, 1) := by decide +kernel
theorem dX10_count_1 : decode cX10_count 1 = .ok (.tableswitch 123 0 9 #[55, 60, 68, 76, 84, 92, 100, 105, 110, 118], 55) := by decide +kernel
theorem dX10_count_56 : decode cX10_count 56 = .ok (.aload_n 0, 1) := by decide +kernel
theorem dX10_count_57 : decode cX10_count 57 = .ok (.getfield 55, 3) := by decide +kernel
theorem dX10_count_60 : decode cX10_count 60 = .ok (.ireturn, 1) := by decide +kernel
theorem dX10_count_61 : decode cX10_count 61 = .ok (.aload_n 0, 1) := by decide +kernel
theorem dX10_count_62 : decode cX10_count 62 = .ok (.getfield 10, 3) := by decide +kernel
theorem dX10_count_65 : decode cX10_count 65 = .ok (.invokevirtual 70, 3) := by decide +kernel
theorem dX10_count_68 : decode cX10_count 68 = .ok (.ireturn, 1) := by decide +kernel
theorem dX10_count_69 : decode cX10_count 69 = .ok (.aload_n 0, 1) := by decide +kernel
theorem dX10_count_70 : decode cX10_count 70 = .ok (.getfield 16, 3) := by decide +kernel
theorem dX10_count_73 : decode cX10_count 73 = .ok (.invokevirtual 70, 3) := by decide +kernel
theorem dX10_count_76 : decode cX10_count 76 = .ok (.ireturn, 1) := by decide +kernel
theorem dX10_count_77 : decode cX10_count 77 = .ok (.aload_n 0, 1) := by decide +kernel
theorem dX10_count_78 : decode cX10_count 78 = .ok (.getfield 19, 3) := by decide +kernel
theorem dX10_count_81 : decode cX10_count 81 = .ok (.invokevirtual 70, 3) := by decide +kernel
theorem dX10_count_84 : decode cX10_count 84 = .ok (.ireturn, 1) := by decide +kernel
theorem dX10_count_85 : decode cX10_count 85 = .ok (.aload_n 0, 1) := by decide +kernel
theorem dX10_count_86 : decode cX10_count 86 = .ok (.getfield 32, 3) := by decide +kernel
theorem dX10_count_89 : decode cX10_count 89 = .ok (.getfield 180, 3) := by decide +kernel
theorem dX10_count_92 : decode cX10_count 92 = .ok (.ireturn, 1) := by decide +kernel
theorem dX10_count_93 : decode cX10_count 93 = .ok (.aload_n 0, 1) := by decide +kernel
theorem dX10_count_94 : decode cX10_count 94 = .ok (.getfield 32, 3) := by decide +kernel
theorem dX10_count_97 : decode cX10_count 97 = .ok (.getfield 183, 3) := by decide +kernel
theorem dX10_count_100 : decode cX10_count 100 = .ok (.ireturn, 1) := by decide +kernel
theorem dX10_count_101 : decode cX10_count 101 = .ok (.aload_n 0, 1) := by decide +kernel
theorem dX10_count_102 : decode cX10_count 102 = .ok (.invokevirtual 186, 3) := by decide +kernel
theorem dX10_count_105 : decode cX10_count 105 = .ok (.ireturn, 1) := by decide +kernel
theorem dX10_count_106 : decode cX10_count 106 = .ok (.aload_n 0, 1) := by decide +kernel
theorem dX10_count_107 : decode cX10_count 107 = .ok (.invokevirtual 189, 3) := by decide +kernel
theorem dX10_count_110 : decode cX10_count 110 = .ok (.ireturn, 1) := by decide +kernel
theorem dX10_count_111 : decode cX10_count 111 = .ok (.aload_n 0, 1) := by decide +kernel
theorem dX10_count_112 : decode cX10_count 112 = .ok (.getfield 25, 3) := by decide +kernel
theorem dX10_count_115 : decode cX10_count 115 = .ok (.getfield 192, 3) := by decide +kernel
theorem dX10_count_118 : decode cX10_count 118 = .ok (.ireturn, 1) := by decide +kernel
theorem dX10_count_119 : decode cX10_count 119 = .ok (.aload_n 0, 1) := by decide +kernel
theorem dX10_count_120 : decode cX10_count 120 = .ok (.invokevirtual 195, 3) := by decide +kernel
theorem dX10_count_123 : decode cX10_count 123 = .ok (.ireturn, 1) := by decide +kernel
theorem dX10_count_124 : decode cX10_count 124 = .ok (.iconst (-1), 1) := by decide +kernel
theorem dX10_count_125 : decode cX10_count 125 = .ok (.ireturn, 1) := by decide +kernel
theorem dX10_price_0 : decode cX10_price 0 = .ok (.iload_n 1, 1) := by decide +kernel
theorem dX10_price_1 : decode cX10_price 1 = .ok (.aload_n 0, 1) := by decide +kernel
theorem dX10_price_2 : decode cX10_price 2 = .ok (.getfield 55, 3) := by decide +kernel
theorem dX10_price_5 : decode cX10_price 5 = .ok (.sipush 480, 3) := by decide +kernel
theorem dX10_price_8 : decode cX10_price 8 = .ok (.invokestatic 66, 3) := by decide +kernel
theorem dX10_price_11 : decode cX10_price 11 = .ok (.ifCond .eq 13, 3) := by decide +kernel
theorem dX10_price_14 : decode cX10_price 14 = .ok (.iload_n 2, 1) := by decide +kernel
theorem dX10_price_15 : decode cX10_price 15 = .ok (.iconst 1, 1) := by decide +kernel
theorem dX10_price_16 : decode cX10_price 16 = .ok (.bipush 50, 2) := by decide +kernel
theorem dX10_price_18 : decode cX10_price 18 = .ok (.invokestatic 66, 3) := by decide +kernel
theorem dX10_price_21 : decode cX10_price 21 = .ok (.ifCond .ne 5, 3) := by decide +kernel
theorem dX10_price_24 : decode cX10_price 24 = .ok (.iconst (-1), 1) := by decide +kernel
theorem dX10_price_25 : decode cX10_price 25 = .ok (.ireturn, 1) := by decide +kernel
theorem dX10_price_26 : decode cX10_price 26 = .ok (.aload_n 0, 1) := by decide +kernel
theorem dX10_price_27 : decode cX10_price 27 = .ok (.getfield 41, 3) := by decide +kernel
theorem dX10_price_30 : decode cX10_price 30 = .ok (.iload_n 1, 1) := by decide +kernel
theorem dX10_price_31 : decode cX10_price 31 = .ok (.iload_n 2, 1) := by decide +kernel
theorem dX10_price_32 : decode cX10_price 32 = .ok (.invokevirtual 198, 3) := by decide +kernel
theorem dX10_price_35 : decode cX10_price 35 = .ok (.ifCond .eq 7, 3) := by decide +kernel
theorem dX10_price_38 : decode cX10_price 38 = .ok (.iconst 1, 1) := by decide +kernel
theorem dX10_price_39 : decode cX10_price 39 = .ok (.goto 5, 3) := by decide +kernel
theorem dX10_price_42 : decode cX10_price 42 = .ok (.bipush (-3), 2) := by decide +kernel
theorem dX10_price_44 : decode cX10_price 44 = .ok (.ireturn, 1) := by decide +kernel
theorem dX10_priced_0 : decode cX10_priced 0 = .ok (.iload_n 1, 1) := by decide +kernel
theorem dX10_priced_1 : decode cX10_priced 1 = .ok (.iconst 0, 1) := by decide +kernel
theorem dX10_priced_2 : decode cX10_priced 2 = .ok (.sipush 480, 3) := by decide +kernel
theorem dX10_priced_5 : decode cX10_priced 5 = .ok (.invokestatic 66, 3) := by decide +kernel
theorem dX10_priced_8 : decode cX10_priced 8 = .ok (.ifCond .ne 5, 3) := by decide +kernel
theorem dX10_priced_11 : decode cX10_priced 11 = .ok (.iconst (-1), 1) := by decide +kernel
theorem dX10_priced_12 : decode cX10_priced 12 = .ok (.ireturn, 1) := by decide +kernel
theorem dX10_priced_13 : decode cX10_priced 13 = .ok (.aload_n 0, 1) := by decide +kernel
theorem dX10_priced_14 : decode cX10_priced 14 = .ok (.getfield 41, 3) := by decide +kernel
theorem dX10_priced_17 : decode cX10_priced 17 = .ok (.iload_n 1, 1) := by decide +kernel
theorem dX10_priced_18 : decode cX10_priced 18 = .ok (.invokevirtual 177, 3) := by decide +kernel
theorem dX10_priced_21 : decode cX10_priced 21 = .ok (.ireturn, 1) := by decide +kernel
theorem dX10_act_0 : decode cX10_act 0 = .ok (.iload_n 1, 1) := by decide +kernel
theorem dX10_act_1 : decode cX10_act 1 = .ok (.iconst 0, 1) := by decide +kernel
theorem dX10_act_2 : decode cX10_act 2 = .ok (.bipush 40, 2) := by decide +kernel
theorem dX10_act_4 : decode cX10_act 4 = .ok (.invokestatic 66, 3) := by decide +kernel
theorem dX10_act_7 : decode cX10_act 7 = .ok (.ifCond .eq 13, 3) := by decide +kernel
theorem dX10_act_10 : decode cX10_act 10 = .ok (.iload_n 2, 1) := by decide +kernel
theorem dX10_act_11 : decode cX10_act 11 = .ok (.iconst 0, 1) := by decide +kernel
theorem dX10_act_12 : decode cX10_act 12 = .ok (.bipush 100, 2) := by decide +kernel
theorem dX10_act_14 : decode cX10_act 14 = .ok (.invokestatic 66, 3) := by decide +kernel
theorem dX10_act_17 : decode cX10_act 17 = .ok (.ifCond .ne 5, 3) := by decide +kernel
theorem dX10_act_20 : decode cX10_act 20 = .ok (.iconst (-1), 1) := by decide +kernel
theorem dX10_act_21 : decode cX10_act 21 = .ok (.ireturn, 1) := by decide +kernel
theorem dX10_act_22 : decode cX10_act 22 = .ok (.iload_n 1, 1) := by decide +kernel
theorem dX10_act_23 : decode cX10_act 23 = .ok (.bipush 12, 2) := by decide +kernel
theorem dX10_act_25 : decode cX10_act 25 = .ok (.imul, 1) := by decide +kernel
theorem dX10_act_26 : decode cX10_act 26 = .ok (.aload_n 0, 1) := by decide +kernel
theorem dX10_act_27 : decode cX10_act 27 = .ok (.getfield 55, 3) := by decide +kernel
theorem dX10_act_30 : decode cX10_act 30 = .ok (.if_icmp .gt 6, 3) := by decide +kernel
theorem dX10_act_33 : decode cX10_act 33 = .ok (.bipush (-2), 2) := by decide +kernel
theorem dX10_act_35 : decode cX10_act 35 = .ok (.ireturn, 1) := by decide +kernel
theorem dX10_act_36 : decode cX10_act 36 = .ok (.aload_n 0, 1) := by decide +kernel
theorem dX10_act_37 : decode cX10_act 37 = .ok (.getfield 45, 3) := by decide +kernel
theorem dX10_act_40 : decode cX10_act 40 = .ok (.iload_n 1, 1) := by decide +kernel
theorem dX10_act_41 : decode cX10_act 41 = .ok (.iload_n 2, 1) := by decide +kernel
theorem dX10_act_42 : decode cX10_act 42 = .ok (.invokevirtual 198, 3) := by decide +kernel
theorem dX10_act_45 : decode cX10_act 45 = .ok (.ifCond .eq 7, 3) := by decide +kernel
theorem dX10_act_48 : decode cX10_act 48 = .ok (.iconst 1, 1) := by decide +kernel
theorem dX10_act_49 : decode cX10_act 49 = .ok (.goto 5, 3) := by decide +kernel
theorem dX10_act_52 : decode cX10_act 52 = .ok (.bipush (-3), 2) := by decide +kernel
theorem dX10_act_54 : decode cX10_act 54 = .ok (.ireturn, 1) := by decide +kernel
theorem dX10_duty_0 : decode cX10_duty 0 = .ok (.iload_n 1, 1) := by decide +kernel
theorem dX10_duty_1 : decode cX10_duty 1 = .ok (.iconst 0, 1) := by decide +kernel
theorem dX10_duty_2 : decode cX10_duty 2 = .ok (.bipush 40, 2) := by decide +kernel
theorem dX10_duty_4 : decode cX10_duty 4 = .ok (.invokestatic 66, 3) := by decide +kernel
theorem dX10_duty_7 : decode cX10_duty 7 = .ok (.ifCond .ne 5, 3) := by decide +kernel
theorem dX10_duty_10 : decode cX10_duty 10 = .ok (.iconst (-1), 1) := by decide +kernel
theorem dX10_duty_11 : decode cX10_duty 11 = .ok (.ireturn, 1) := by decide +kernel
theorem dX10_duty_12 : decode cX10_duty 12 = .ok (.aload_n 0, 1) := by decide +kernel
theorem dX10_duty_13 : decode cX10_duty 13 = .ok (.getfield 45, 3) := by decide +kernel
theorem dX10_duty_16 : decode cX10_duty 16 = .ok (.iload_n 1, 1) := by decide +kernel
theorem dX10_duty_17 : decode cX10_duty 17 = .ok (.invokevirtual 177, 3) := by decide +kernel
theorem dX10_duty_20 : decode cX10_duty 20 = .ok (.ireturn, 1) := by decide +kernel
theorem dX10_bound_0 : decode cX10_bound 0 = .ok (.iconst 0, 1) := by decide +kernel
theorem dX10_bound_1 : decode cX10_bound 1 = .ok (.istore_n 1, 1) := by decide +kernel
theorem dX10_bound_2 : decode cX10_bound 2 = .ok (.iconst 0, 1) := by decide +kernel
theorem dX10_bound_3 : decode cX10_bound 3 = .ok (.istore_n 2, 1) := by decide +kernel
theorem dX10_bound_4 : decode cX10_bound 4 = .ok (.iload_n 2, 1) := by decide +kernel
theorem dX10_bound_5 : decode cX10_bound 5 = .ok (.aload_n 0, 1) := by decide +kernel
theorem dX10_bound_6 : decode cX10_bound 6 = .ok (.getfield 19, 3) := by decide +kernel
theorem dX10_bound_9 : decode cX10_bound 9 = .ok (.invokevirtual 70, 3) := by decide +kernel
theorem dX10_bound_12 : decode cX10_bound 12 = .ok (.if_icmp .ge 26, 3) := by decide +kernel
theorem dX10_bound_15 : decode cX10_bound 15 = .ok (.iload_n 1, 1) := by decide +kernel
theorem dX10_bound_16 : decode cX10_bound 16 = .ok (.aload_n 0, 1) := by decide +kernel
theorem dX10_bound_17 : decode cX10_bound 17 = .ok (.getfield 19, 3) := by decide +kernel
theorem dX10_bound_20 : decode cX10_bound 20 = .ok (.iload_n 2, 1) := by decide +kernel
theorem dX10_bound_21 : decode cX10_bound 21 = .ok (.invokevirtual 202, 3) := by decide +kernel
theorem dX10_bound_24 : decode cX10_bound 24 = .ok (.checkcast 99, 3) := by decide +kernel
theorem dX10_bound_27 : decode cX10_bound 27 = .ok (.invokevirtual 206, 3) := by decide +kernel
theorem dX10_bound_30 : decode cX10_bound 30 = .ok (.iadd, 1) := by decide +kernel
theorem dX10_bound_31 : decode cX10_bound 31 = .ok (.istore_n 1, 1) := by decide +kernel
theorem dX10_bound_32 : decode cX10_bound 32 = .ok (.iinc 2 1, 3) := by decide +kernel
theorem dX10_bound_35 : decode cX10_bound 35 = .ok (.goto (-31), 3) := by decide +kernel
theorem dX10_bound_38 : decode cX10_bound 38 = .ok (.iload_n 1, 1) := by decide +kernel
theorem dX10_bound_39 : decode cX10_bound 39 = .ok (.ireturn, 1) := by decide +kernel
theorem dX10_most_0 : decode cX10_most 0 = .ok (.iload_n 1, 1) := by decide +kernel
theorem dX10_most_1 : decode cX10_most 1 = .ok (.iconst 0, 1) := by decide +kernel
theorem dX10_most_2 : decode cX10_most 2 = .ok (.bipush 40, 2) := by decide +kernel
theorem dX10_most_4 : decode cX10_most 4 = .ok (.invokestatic 66, 3) := by decide +kernel
theorem dX10_most_7 : decode cX10_most 7 = .ok (.ifCond .eq 12, 3) := by decide +kernel
theorem dX10_most_10 : decode cX10_most 10 = .ok (.iload_n 2, 1) := by decide +kernel
theorem dX10_most_11 : decode cX10_most 11 = .ok (.iconst 0, 1) := by decide +kernel
theorem dX10_most_12 : decode cX10_most 12 = .ok (.iconst 1, 1) := by decide +kernel
theorem dX10_most_13 : decode cX10_most 13 = .ok (.invokestatic 66, 3) := by decide +kernel
theorem dX10_most_16 : decode cX10_most 16 = .ok (.ifCond .ne 5, 3) := by decide +kernel
theorem dX10_most_19 : decode cX10_most 19 = .ok (.iconst (-1), 1) := by decide +kernel
theorem dX10_most_20 : decode cX10_most 20 = .ok (.ireturn, 1) := by decide +kernel
theorem dX10_most_21 : decode cX10_most 21 = .ok (.aload_n 0, 1) := by decide +kernel
theorem dX10_most_22 : decode cX10_most 22 = .ok (.getfield 51, 3) := by decide +kernel
theorem dX10_most_25 : decode cX10_most 25 = .ok (.aload_n 0, 1) := by decide +kernel
theorem dX10_most_26 : decode cX10_most 26 = .ok (.getfield 16, 3) := by decide +kernel
theorem dX10_most_29 : decode cX10_most 29 = .ok (.invokevirtual 209, 3) := by decide +kernel
theorem dX10_most_32 : decode cX10_most 32 = .ok (.iconst 0, 1) := by decide +kernel
theorem dX10_most_33 : decode cX10_most 33 = .ok (.istore_n 3, 1) := by decide +kernel
theorem dX10_most_34 : decode cX10_most 34 = .ok (.iload_n 3, 1) := by decide +kernel
theorem dX10_most_35 : decode cX10_most 35 = .ok (.aload_n 0, 1) := by decide +kernel
theorem dX10_most_36 : decode cX10_most 36 = .ok (.getfield 10, 3) := by decide +kernel
theorem dX10_most_39 : decode cX10_most 39 = .ok (.invokevirtual 70, 3) := by decide +kernel
theorem dX10_most_42 : decode cX10_most 42 = .ok (.if_icmp .ge 44, 3) := by decide +kernel
theorem dX10_most_45 : decode cX10_most 45 = .ok (.aload_n 0, 1) := by decide +kernel
theorem dX10_most_46 : decode cX10_most 46 = .ok (.getfield 10, 3) := by decide +kernel
theorem dX10_most_49 : decode cX10_most 49 = .ok (.iload_n 3, 1) := by decide +kernel
theorem dX10_most_50 : decode cX10_most 50 = .ok (.invokevirtual 202, 3) := by decide +kernel
theorem dX10_most_53 : decode cX10_most 53 = .ok (.checkcast 74, 3) := by decide +kernel
theorem dX10_most_56 : decode cX10_most 56 = .ok (.astore 4, 2) := by decide +kernel
theorem dX10_most_58 : decode cX10_most 58 = .ok (.aload 4, 2) := by decide +kernel
theorem dX10_most_60 : decode cX10_most 60 = .ok (.iload_n 1, 1) := by decide +kernel
theorem dX10_most_61 : decode cX10_most 61 = .ok (.invokevirtual 213, 3) := by decide +kernel
theorem dX10_most_64 : decode cX10_most 64 = .ok (.ifCond .eq 16, 3) := by decide +kernel
theorem dX10_most_67 : decode cX10_most 67 = .ok (.aload_n 0, 1) := by decide +kernel
theorem dX10_most_68 : decode cX10_most 68 = .ok (.getfield 51, 3) := by decide +kernel
theorem dX10_most_71 : decode cX10_most 71 = .ok (.iload_n 3, 1) := by decide +kernel
theorem dX10_most_72 : decode cX10_most 72 = .ok (.aload 4, 2) := by decide +kernel
theorem dX10_most_74 : decode cX10_most 74 = .ok (.getfield 131, 3) := by decide +kernel
theorem dX10_most_77 : decode cX10_most 77 = .ok (.invokevirtual 217, 3) := by decide +kernel
theorem dX10_most_80 : decode cX10_most 80 = .ok (.iinc 3 1, 3) := by decide +kernel
theorem dX10_most_83 : decode cX10_most 83 = .ok (.goto (-49), 3) := by decide +kernel
theorem dX10_most_86 : decode cX10_most 86 = .ok (.iload_n 2, 1) := by decide +kernel
theorem dX10_most_87 : decode cX10_most 87 = .ok (.ifCond .ne 13, 3) := by decide +kernel
theorem dX10_most_90 : decode cX10_most 90 = .ok (.aload_n 0, 1) := by decide +kernel
theorem dX10_most_91 : decode cX10_most 91 = .ok (.getfield 51, 3) := by decide +kernel
theorem dX10_most_94 : decode cX10_most 94 = .ok (.invokevirtual 220, 3) := by decide +kernel
theorem dX10_most_97 : decode cX10_most 97 = .ok (.goto 10, 3) := by decide +kernel
theorem dX10_most_100 : decode cX10_most 100 = .ok (.aload_n 0, 1) := by decide +kernel
theorem dX10_most_101 : decode cX10_most 101 = .ok (.getfield 51, 3) := by decide +kernel
theorem dX10_most_104 : decode cX10_most 104 = .ok (.invokevirtual 222, 3) := by decide +kernel
theorem dX10_most_107 : decode cX10_most 107 = .ok (.ireturn, 1) := by decide +kernel
theorem dX10_trace_0 : decode cX10_trace 0 = .ok (.aload_n 0, 1) := by decide +kernel
theorem dX10_trace_1 : decode cX10_trace 1 = .ok (.getfield 62, 3) := by decide +kernel
theorem dX10_trace_4 : decode cX10_trace 4 = .ok (.lreturn, 1) := by decide +kernel
theorem dX10_passHour_0 : decode cX10_passHour 0 = .ok (.aload_n 0, 1) := by decide +kernel
theorem dX10_passHour_1 : decode cX10_passHour 1 = .ok (.invokevirtual 225, 3) := by decide +kernel
theorem dX10_passHour_4 : decode cX10_passHour 4 = .ok (.aload_n 0, 1) := by decide +kernel
theorem dX10_passHour_5 : decode cX10_passHour 5 = .ok (.invokevirtual 228, 3) := by decide +kernel
theorem dX10_passHour_8 : decode cX10_passHour 8 = .ok (.aload_n 0, 1) := by decide +kernel
theorem dX10_passHour_9 : decode cX10_passHour 9 = .ok (.invokevirtual 231, 3) := by decide +kernel
theorem dX10_passHour_12 : decode cX10_passHour 12 = .ok (.aload_n 0, 1) := by decide +kernel
theorem dX10_passHour_13 : decode cX10_passHour 13 = .ok (.invokevirtual 234, 3) := by decide +kernel
theorem dX10_passHour_16 : decode cX10_passHour 16 = .ok (.aload_n 0, 1) := by decide +kernel
theorem dX10_passHour_17 : decode cX10_passHour 17 = .ok (.dup, 1) := by decide +kernel
theorem dX10_passHour_18 : decode cX10_passHour 18 = .ok (.getfield 55, 3) := by decide +kernel
theorem dX10_passHour_21 : decode cX10_passHour 21 = .ok (.iconst 1, 1) := by decide +kernel
theorem dX10_passHour_22 : decode cX10_passHour 22 = .ok (.iadd, 1) := by decide +kernel
theorem dX10_passHour_23 : decode cX10_passHour 23 = .ok (.putfield 55, 3) := by decide +kernel
theorem dX10_passHour_26 : decode cX10_passHour 26 = .ok (.return_, 1) := by decide +kernel
theorem dX10_pickHour_0 : decode cX10_pickHour 0 = .ok (.aload_n 0, 1) := by decide +kernel
theorem dX10_pickHour_1 : decode cX10_pickHour 1 = .ok (.getfield 41, 3) := by decide +kernel
theorem dX10_pickHour_4 : decode cX10_pickHour 4 = .ok (.aload_n 0, 1) := by decide +kernel
theorem dX10_pickHour_5 : decode cX10_pickHour 5 = .ok (.getfield 55, 3) := by decide +kernel
theorem dX10_pickHour_8 : decode cX10_pickHour 8 = .ok (.invokevirtual 177, 3) := by decide +kernel
theorem dX10_pickHour_11 : decode cX10_pickHour 11 = .ok (.istore_n 1, 1) := by decide +kernel
theorem dX10_pickHour_12 : decode cX10_pickHour 12 = .ok (.iconst 0, 1) := by decide +kernel
theorem dX10_pickHour_13 : decode cX10_pickHour 13 = .ok (.istore_n 2, 1) := by decide +kernel
theorem dX10_pickHour_14 : decode cX10_pickHour 14 = .ok (.iload_n 2, 1) := by decide +kernel
theorem dX10_pickHour_15 : decode cX10_pickHour 15 = .ok (.aload_n 0, 1) := by decide +kernel
theorem dX10_pickHour_16 : decode cX10_pickHour 16 = .ok (.getfield 16, 3) := by decide +kernel
theorem dX10_pickHour_19 : decode cX10_pickHour 19 = .ok (.invokevirtual 70, 3) := by decide +kernel
theorem dX10_pickHour_22 : decode cX10_pickHour 22 = .ok (.if_icmp .ge 89, 3) := by decide +kernel
theorem dX10_pickHour_25 : decode cX10_pickHour 25 = .ok (.aload_n 0, 1) := by decide +kernel
theorem dX10_pickHour_26 : decode cX10_pickHour 26 = .ok (.getfield 16, 3) := by decide +kernel
theorem dX10_pickHour_29 : decode cX10_pickHour 29 = .ok (.iload_n 2, 1) := by decide +kernel
theorem dX10_pickHour_30 : decode cX10_pickHour 30 = .ok (.invokevirtual 202, 3) := by decide +kernel
theorem dX10_pickHour_33 : decode cX10_pickHour 33 = .ok (.checkcast 83, 3) := by decide +kernel
theorem dX10_pickHour_36 : decode cX10_pickHour 36 = .ok (.astore_n 3, 1) := by decide +kernel
theorem dX10_pickHour_37 : decode cX10_pickHour 37 = .ok (.aload_n 0, 1) := by decide +kernel
theorem dX10_pickHour_38 : decode cX10_pickHour 38 = .ok (.aload_n 3, 1) := by decide +kernel
theorem dX10_pickHour_39 : decode cX10_pickHour 39 = .ok (.getfield 96, 3) := by decide +kernel
theorem dX10_pickHour_42 : decode cX10_pickHour 42 = .ok (.invokevirtual 92, 3) := by decide +kernel
theorem dX10_pickHour_45 : decode cX10_pickHour 45 = .ok (.astore 4, 2) := by decide +kernel
theorem dX10_pickHour_47 : decode cX10_pickHour 47 = .ok (.aload 4, 2) := by decide +kernel
theorem dX10_pickHour_49 : decode cX10_pickHour 49 = .ok (.ifnull 56, 3) := by decide +kernel
theorem dX10_pickHour_52 : decode cX10_pickHour 52 = .ok (.aload 4, 2) := by decide +kernel
theorem dX10_pickHour_54 : decode cX10_pickHour 54 = .ok (.aload_n 0, 1) := by decide +kernel
theorem dX10_pickHour_55 : decode cX10_pickHour 55 = .ok (.getfield 55, 3) := by decide +kernel
theorem dX10_pickHour_58 : decode cX10_pickHour 58 = .ok (.bipush 12, 2) := by decide +kernel
theorem dX10_pickHour_60 : decode cX10_pickHour 60 = .ok (.idiv, 1) := by decide +kernel
theorem dX10_pickHour_61 : decode cX10_pickHour 61 = .ok (.invokevirtual 213, 3) := by decide +kernel
theorem dX10_pickHour_64 : decode cX10_pickHour 64 = .ok (.ifCond .ne 6, 3) := by decide +kernel
theorem dX10_pickHour_67 : decode cX10_pickHour 67 = .ok (.goto 38, 3) := by decide +kernel
theorem dX10_pickHour_70 : decode cX10_pickHour 70 = .ok (.aload 4, 2) := by decide +kernel
theorem dX10_pickHour_72 : decode cX10_pickHour 72 = .ok (.aload_n 3, 1) := by decide +kernel
theorem dX10_pickHour_73 : decode cX10_pickHour 73 = .ok (.getfield 237, 3) := by decide +kernel
theorem dX10_pickHour_76 : decode cX10_pickHour 76 = .ok (.invokevirtual 240, 3) := by decide +kernel
theorem dX10_pickHour_79 : decode cX10_pickHour 79 = .ok (.istore 5, 2) := by decide +kernel
theorem dX10_pickHour_81 : decode cX10_pickHour 81 = .ok (.aload_n 3, 1) := by decide +kernel
theorem dX10_pickHour_82 : decode cX10_pickHour 82 = .ok (.iload 5, 2) := by decide +kernel
theorem dX10_pickHour_84 : decode cX10_pickHour 84 = .ok (.iload_n 1, 1) := by decide +kernel
theorem dX10_pickHour_85 : decode cX10_pickHour 85 = .ok (.invokevirtual 243, 3) := by decide +kernel
theorem dX10_pickHour_88 : decode cX10_pickHour 88 = .ok (.aload_n 0, 1) := by decide +kernel
theorem dX10_pickHour_89 : decode cX10_pickHour 89 = .ok (.getfield 25, 3) := by decide +kernel
theorem dX10_pickHour_92 : decode cX10_pickHour 92 = .ok (.aload_n 0, 1) := by decide +kernel
theorem dX10_pickHour_93 : decode cX10_pickHour 93 = .ok (.getfield 55, 3) := by decide +kernel
theorem dX10_pickHour_96 : decode cX10_pickHour 96 = .ok (.aload_n 3, 1) := by decide +kernel
theorem dX10_pickHour_97 : decode cX10_pickHour 97 = .ok (.getfield 96, 3) := by decide +kernel
theorem dX10_pickHour_100 : decode cX10_pickHour 100 = .ok (.iload 5, 2) := by decide +kernel
theorem dX10_pickHour_102 : decode cX10_pickHour 102 = .ok (.invokevirtual 246, 3) := by decide +kernel
theorem dX10_pickHour_105 : decode cX10_pickHour 105 = .ok (.iinc 2 1, 3) := by decide +kernel
theorem dX10_pickHour_108 : decode cX10_pickHour 108 = .ok (.goto (-94), 3) := by decide +kernel
theorem dX10_pickHour_111 : decode cX10_pickHour 111 = .ok (.return_, 1) := by decide +kernel
theorem dX10_dryHour_0 : decode cX10_dryHour 0 = .ok (.iconst 0, 1) := by decide +kernel
theorem dX10_dryHour_1 : decode cX10_dryHour 1 = .ok (.istore_n 1, 1) := by decide +kernel
theorem dX10_dryHour_2 : decode cX10_dryHour 2 = .ok (.iload_n 1, 1) := by decide +kernel
theorem dX10_dryHour_3 : decode cX10_dryHour 3 = .ok (.aload_n 0, 1) := by decide +kernel
theorem dX10_dryHour_4 : decode cX10_dryHour 4 = .ok (.getfield 19, 3) := by decide +kernel
theorem dX10_dryHour_7 : decode cX10_dryHour 7 = .ok (.invokevirtual 70, 3) := by decide +kernel
theorem dX10_dryHour_10 : decode cX10_dryHour 10 = .ok (.if_icmp .ge 65, 3) := by decide +kernel
theorem dX10_dryHour_13 : decode cX10_dryHour 13 = .ok (.aload_n 0, 1) := by decide +kernel
theorem dX10_dryHour_14 : decode cX10_dryHour 14 = .ok (.getfield 19, 3) := by decide +kernel
theorem dX10_dryHour_17 : decode cX10_dryHour 17 = .ok (.iload_n 1, 1) := by decide +kernel
theorem dX10_dryHour_18 : decode cX10_dryHour 18 = .ok (.invokevirtual 202, 3) := by decide +kernel
theorem dX10_dryHour_21 : decode cX10_dryHour 21 = .ok (.checkcast 99, 3) := by decide +kernel
theorem dX10_dryHour_24 : decode cX10_dryHour 24 = .ok (.astore_n 2, 1) := by decide +kernel
theorem dX10_dryHour_25 : decode cX10_dryHour 25 = .ok (.aload_n 2, 1) := by decide +kernel
theorem dX10_dryHour_26 : decode cX10_dryHour 26 = .ok (.invokevirtual 249, 3) := by decide +kernel
theorem dX10_dryHour_29 : decode cX10_dryHour 29 = .ok (.ifCond .eq 6, 3) := by decide +kernel
theorem dX10_dryHour_32 : decode cX10_dryHour 32 = .ok (.goto 37, 3) := by decide +kernel
theorem dX10_dryHour_35 : decode cX10_dryHour 35 = .ok (.aload_n 2, 1) := by decide +kernel
theorem dX10_dryHour_36 : decode cX10_dryHour 36 = .ok (.dup, 1) := by decide +kernel
theorem dX10_dryHour_37 : decode cX10_dryHour 37 = .ok (.getfield 159, 3) := by decide +kernel
theorem dX10_dryHour_40 : decode cX10_dryHour 40 = .ok (.aload_n 2, 1) := by decide +kernel
theorem dX10_dryHour_41 : decode cX10_dryHour 41 = .ok (.getfield 115, 3) := by decide +kernel
theorem dX10_dryHour_44 : decode cX10_dryHour 44 = .ok (.aload_n 2, 1) := by decide +kernel
theorem dX10_dryHour_45 : decode cX10_dryHour 45 = .ok (.getfield 112, 3) := by decide +kernel
theorem dX10_dryHour_48 : decode cX10_dryHour 48 = .ok (.invokevirtual 124, 3) := by decide +kernel
theorem dX10_dryHour_51 : decode cX10_dryHour 51 = .ok (.iadd, 1) := by decide +kernel
theorem dX10_dryHour_52 : decode cX10_dryHour 52 = .ok (.putfield 159, 3) := by decide +kernel
theorem dX10_dryHour_55 : decode cX10_dryHour 55 = .ok (.aload_n 2, 1) := by decide +kernel
theorem dX10_dryHour_56 : decode cX10_dryHour 56 = .ok (.getfield 159, 3) := by decide +kernel
theorem dX10_dryHour_59 : decode cX10_dryHour 59 = .ok (.bipush 60, 2) := by decide +kernel
theorem dX10_dryHour_61 : decode cX10_dryHour 61 = .ok (.if_icmp .lt 8, 3) := by decide +kernel
theorem dX10_dryHour_64 : decode cX10_dryHour 64 = .ok (.aload_n 0, 1) := by decide +kernel
theorem dX10_dryHour_65 : decode cX10_dryHour 65 = .ok (.aload_n 2, 1) := by decide +kernel
theorem dX10_dryHour_66 : decode cX10_dryHour 66 = .ok (.invokevirtual 253, 3) := by decide +kernel
theorem dX10_dryHour_69 : decode cX10_dryHour 69 = .ok (.iinc 1 1, 3) := by decide +kernel
theorem dX10_dryHour_72 : decode cX10_dryHour 72 = .ok (.goto (-70), 3) := by decide +kernel
theorem dX10_dryHour_75 : decode cX10_dryHour 75 = .ok (.return_, 1) := by decide +kernel
theorem dX10_unload_0 : decode cX10_unload 0 = .ok (.iconst 0, 1) := by decide +kernel
theorem dX10_unload_1 : decode cX10_unload 1 = .ok (.istore_n 2, 1) := by decide +kernel
theorem dX10_unload_2 : decode cX10_unload 2 = .ok (.iload_n 2, 1) := by decide +kernel
theorem dX10_unload_3 : decode cX10_unload 3 = .ok (.aload_n 1, 1) := by decide +kernel
theorem dX10_unload_4 : decode cX10_unload 4 = .ok (.getfield 257, 3) := by decide +kernel
theorem dX10_unload_7 : decode cX10_unload 7 = .ok (.if_icmp .ge 65, 3) := by decide +kernel
theorem dX10_unload_10 : decode cX10_unload 10 = .ok (.aload_n 0, 1) := by decide +kernel
theorem dX10_unload_11 : decode cX10_unload 11 = .ok (.aload_n 1, 1) := by decide +kernel
theorem dX10_unload_12 : decode cX10_unload 12 = .ok (.getfield 260, 3) := by decide +kernel
theorem dX10_unload_15 : decode cX10_unload 15 = .ok (.iload_n 2, 1) := by decide +kernel
theorem dX10_unload_16 : decode cX10_unload 16 = .ok (.iaload, 1) := by decide +kernel
theorem dX10_unload_17 : decode cX10_unload 17 = .ok (.invokevirtual 92, 3) := by decide +kernel
theorem dX10_unload_20 : decode cX10_unload 20 = .ok (.astore_n 3, 1) := by decide +kernel
theorem dX10_unload_21 : decode cX10_unload 21 = .ok (.aload_n 3, 1) := by decide +kernel
theorem dX10_unload_22 : decode cX10_unload 22 = .ok (.ifnull 18, 3) := by decide +kernel
theorem dX10_unload_25 : decode cX10_unload 25 = .ok (.aload_n 3, 1) := by decide +kernel
theorem dX10_unload_26 : decode cX10_unload 26 = .ok (.dup, 1) := by decide +kernel
theorem dX10_unload_27 : decode cX10_unload 27 = .ok (.getfield 146, 3) := by decide +kernel
theorem dX10_unload_30 : decode cX10_unload 30 = .ok (.aload_n 1, 1) := by decide +kernel
theorem dX10_unload_31 : decode cX10_unload 31 = .ok (.getfield 263, 3) := by decide +kernel
theorem dX10_unload_34 : decode cX10_unload 34 = .ok (.iload_n 2, 1) := by decide +kernel
theorem dX10_unload_35 : decode cX10_unload 35 = .ok (.iaload, 1) := by decide +kernel
theorem dX10_unload_36 : decode cX10_unload 36 = .ok (.iadd, 1) := by decide +kernel
theorem dX10_unload_37 : decode cX10_unload 37 = .ok (.putfield 146, 3) := by decide +kernel
theorem dX10_unload_40 : decode cX10_unload 40 = .ok (.aload_n 0, 1) := by decide +kernel
theorem dX10_unload_41 : decode cX10_unload 41 = .ok (.getfield 32, 3) := by decide +kernel
theorem dX10_unload_44 : decode cX10_unload 44 = .ok (.aload_n 1, 1) := by decide +kernel
theorem dX10_unload_45 : decode cX10_unload 45 = .ok (.getfield 260, 3) := by decide +kernel
theorem dX10_unload_48 : decode cX10_unload 48 = .ok (.iload_n 2, 1) := by decide +kernel
theorem dX10_unload_49 : decode cX10_unload 49 = .ok (.iaload, 1) := by decide +kernel
theorem dX10_unload_50 : decode cX10_unload 50 = .ok (.aload_n 1, 1) := by decide +kernel
theorem dX10_unload_51 : decode cX10_unload 51 = .ok (.getfield 263, 3) := by decide +kernel
theorem dX10_unload_54 : decode cX10_unload 54 = .ok (.iload_n 2, 1) := by decide +kernel
theorem dX10_unload_55 : decode cX10_unload 55 = .ok (.iaload, 1) := by decide +kernel
theorem dX10_unload_56 : decode cX10_unload 56 = .ok (.aload_n 0, 1) := by decide +kernel
theorem dX10_unload_57 : decode cX10_unload 57 = .ok (.getfield 55, 3) := by decide +kernel
theorem dX10_unload_60 : decode cX10_unload 60 = .ok (.bipush 12, 2) := by decide +kernel
theorem dX10_unload_62 : decode cX10_unload 62 = .ok (.idiv, 1) := by decide +kernel
theorem dX10_unload_63 : decode cX10_unload 63 = .ok (.invokevirtual 266, 3) := by decide +kernel
theorem dX10_unload_66 : decode cX10_unload 66 = .ok (.iinc 2 1, 3) := by decide +kernel
theorem dX10_unload_69 : decode cX10_unload 69 = .ok (.goto (-67), 3) := by decide +kernel
theorem dX10_unload_72 : decode cX10_unload 72 = .ok (.aload_n 1, 1) := by decide +kernel
theorem dX10_unload_73 : decode cX10_unload 73 = .ok (.invokevirtual 267, 3) := by decide +kernel
theorem dX10_unload_76 : decode cX10_unload 76 = .ok (.return_, 1) := by decide +kernel
theorem dX10_loseHour_0 : decode cX10_loseHour 0 = .ok (.aload_n 0, 1) := by decide +kernel
theorem dX10_loseHour_1 : decode cX10_loseHour 1 = .ok (.getfield 59, 3) := by decide +kernel
theorem dX10_loseHour_4 : decode cX10_loseHour 4 = .ok (.istore_n 1, 1) := by decide +kernel
theorem dX10_loseHour_5 : decode cX10_loseHour 5 = .ok (.iload_n 1, 1) := by decide +kernel
theorem dX10_loseHour_6 : decode cX10_loseHour 6 = .ok (.bipush 25, 2) := by decide +kernel
theorem dX10_loseHour_8 : decode cX10_loseHour 8 = .ok (.if_icmp .ge 64, 3) := by decide +kernel
theorem dX10_loseHour_11 : decode cX10_loseHour 11 = .ok (.iconst 0, 1) := by decide +kernel
theorem dX10_loseHour_12 : decode cX10_loseHour 12 = .ok (.istore_n 2, 1) := by decide +kernel
theorem dX10_loseHour_13 : decode cX10_loseHour 13 = .ok (.iload_n 2, 1) := by decide +kernel
theorem dX10_loseHour_14 : decode cX10_loseHour 14 = .ok (.aload_n 0, 1) := by decide +kernel
theorem dX10_loseHour_15 : decode cX10_loseHour 15 = .ok (.getfield 10, 3) := by decide +kernel
theorem dX10_loseHour_18 : decode cX10_loseHour 18 = .ok (.invokevirtual 70, 3) := by decide +kernel
theorem dX10_loseHour_21 : decode cX10_loseHour 21 = .ok (.if_icmp .ge 45, 3) := by decide +kernel
theorem dX10_loseHour_24 : decode cX10_loseHour 24 = .ok (.aload_n 0, 1) := by decide +kernel
theorem dX10_loseHour_25 : decode cX10_loseHour 25 = .ok (.getfield 10, 3) := by decide +kernel
theorem dX10_loseHour_28 : decode cX10_loseHour 28 = .ok (.iload_n 2, 1) := by decide +kernel
theorem dX10_loseHour_29 : decode cX10_loseHour 29 = .ok (.invokevirtual 202, 3) := by decide +kernel
theorem dX10_loseHour_32 : decode cX10_loseHour 32 = .ok (.checkcast 74, 3) := by decide +kernel
theorem dX10_loseHour_35 : decode cX10_loseHour 35 = .ok (.dup, 1) := by decide +kernel
theorem dX10_loseHour_36 : decode cX10_loseHour 36 = .ok (.getfield 143, 3) := by decide +kernel
theorem dX10_loseHour_39 : decode cX10_loseHour 39 = .ok (.aload_n 0, 1) := by decide +kernel
theorem dX10_loseHour_40 : decode cX10_loseHour 40 = .ok (.getfield 25, 3) := by decide +kernel
theorem dX10_loseHour_43 : decode cX10_loseHour 43 = .ok (.aload_n 0, 1) := by decide +kernel
theorem dX10_loseHour_44 : decode cX10_loseHour 44 = .ok (.getfield 55, 3) := by decide +kernel
theorem dX10_loseHour_47 : decode cX10_loseHour 47 = .ok (.iload_n 1, 1) := by decide +kernel
theorem dX10_loseHour_48 : decode cX10_loseHour 48 = .ok (.isub, 1) := by decide +kernel
theorem dX10_loseHour_49 : decode cX10_loseHour 49 = .ok (.iload_n 2, 1) := by decide +kernel
theorem dX10_loseHour_50 : decode cX10_loseHour 50 = .ok (.sipush 5000, 3) := by decide +kernel
theorem dX10_loseHour_53 : decode cX10_loseHour 53 = .ok (.invokevirtual 270, 3) := by decide +kernel
theorem dX10_loseHour_56 : decode cX10_loseHour 56 = .ok (.iadd, 1) := by decide +kernel
theorem dX10_loseHour_57 : decode cX10_loseHour 57 = .ok (.putfield 143, 3) := by decide +kernel
theorem dX10_loseHour_60 : decode cX10_loseHour 60 = .ok (.iinc 2 1, 3) := by decide +kernel
theorem dX10_loseHour_63 : decode cX10_loseHour 63 = .ok (.goto (-50), 3) := by decide +kernel
theorem dX10_loseHour_66 : decode cX10_loseHour 66 = .ok (.iinc 1 1, 3) := by decide +kernel
theorem dX10_loseHour_69 : decode cX10_loseHour 69 = .ok (.goto (-64), 3) := by decide +kernel
theorem dX10_loseHour_72 : decode cX10_loseHour 72 = .ok (.return_, 1) := by decide +kernel
theorem dX10_fillHour_0 : decode cX10_fillHour 0 = .ok (.iconst 0, 1) := by decide +kernel
theorem dX10_fillHour_1 : decode cX10_fillHour 1 = .ok (.istore_n 1, 1) := by decide +kernel
theorem dX10_fillHour_2 : decode cX10_fillHour 2 = .ok (.iload_n 1, 1) := by decide +kernel
theorem dX10_fillHour_3 : decode cX10_fillHour 3 = .ok (.aload_n 0, 1) := by decide +kernel
theorem dX10_fillHour_4 : decode cX10_fillHour 4 = .ok (.getfield 19, 3) := by decide +kernel
theorem dX10_fillHour_7 : decode cX10_fillHour 7 = .ok (.invokevirtual 70, 3) := by decide +kernel
theorem dX10_fillHour_10 : decode cX10_fillHour 10 = .ok (.if_icmp .ge 33, 3) := by decide +kernel
theorem dX10_fillHour_13 : decode cX10_fillHour 13 = .ok (.aload_n 0, 1) := by decide +kernel
theorem dX10_fillHour_14 : decode cX10_fillHour 14 = .ok (.getfield 19, 3) := by decide +kernel
theorem dX10_fillHour_17 : decode cX10_fillHour 17 = .ok (.iload_n 1, 1) := by decide +kernel
theorem dX10_fillHour_18 : decode cX10_fillHour 18 = .ok (.invokevirtual 202, 3) := by decide +kernel
theorem dX10_fillHour_21 : decode cX10_fillHour 21 = .ok (.checkcast 99, 3) := by decide +kernel
theorem dX10_fillHour_24 : decode cX10_fillHour 24 = .ok (.astore_n 2, 1) := by decide +kernel
theorem dX10_fillHour_25 : decode cX10_fillHour 25 = .ok (.aload_n 2, 1) := by decide +kernel
theorem dX10_fillHour_26 : decode cX10_fillHour 26 = .ok (.invokevirtual 249, 3) := by decide +kernel
theorem dX10_fillHour_29 : decode cX10_fillHour 29 = .ok (.ifCond .eq 8, 3) := by decide +kernel
theorem dX10_fillHour_32 : decode cX10_fillHour 32 = .ok (.aload_n 0, 1) := by decide +kernel
theorem dX10_fillHour_33 : decode cX10_fillHour 33 = .ok (.aload_n 2, 1) := by decide +kernel
theorem dX10_fillHour_34 : decode cX10_fillHour 34 = .ok (.invokevirtual 274, 3) := by decide +kernel
theorem dX10_fillHour_37 : decode cX10_fillHour 37 = .ok (.iinc 1 1, 3) := by decide +kernel
theorem dX10_fillHour_40 : decode cX10_fillHour 40 = .ok (.goto (-38), 3) := by decide +kernel
theorem dX10_fillHour_43 : decode cX10_fillHour 43 = .ok (.return_, 1) := by decide +kernel
theorem dX10_fill_0 : decode cX10_fill 0 = .ok (.aload_n 0, 1) := by decide +kernel
theorem dX10_fill_1 : decode cX10_fill 1 = .ok (.getfield 59, 3) := by decide +kernel
theorem dX10_fill_4 : decode cX10_fill 4 = .ok (.iconst 1, 1) := by decide +kernel
theorem dX10_fill_5 : decode cX10_fill 5 = .ok (.isub, 1) := by decide +kernel
theorem dX10_fill_6 : decode cX10_fill 6 = .ok (.istore_n 2, 1) := by decide +kernel
theorem dX10_fill_7 : decode cX10_fill 7 = .ok (.iload_n 2, 1) := by decide +kernel
theorem dX10_fill_8 : decode cX10_fill 8 = .ok (.ifCond .lt 69, 3) := by decide +kernel
theorem dX10_fill_11 : decode cX10_fill 11 = .ok (.iconst 0, 1) := by decide +kernel
theorem dX10_fill_12 : decode cX10_fill 12 = .ok (.istore_n 3, 1) := by decide +kernel
theorem dX10_fill_13 : decode cX10_fill 13 = .ok (.iload_n 3, 1) := by decide +kernel
theorem dX10_fill_14 : decode cX10_fill 14 = .ok (.aload_n 0, 1) := by decide +kernel
theorem dX10_fill_15 : decode cX10_fill 15 = .ok (.getfield 10, 3) := by decide +kernel
theorem dX10_fill_18 : decode cX10_fill 18 = .ok (.invokevirtual 70, 3) := by decide +kernel
theorem dX10_fill_21 : decode cX10_fill 21 = .ok (.if_icmp .ge 50, 3) := by decide +kernel
theorem dX10_fill_24 : decode cX10_fill 24 = .ok (.aload_n 0, 1) := by decide +kernel
theorem dX10_fill_25 : decode cX10_fill 25 = .ok (.getfield 25, 3) := by decide +kernel
theorem dX10_fill_28 : decode cX10_fill 28 = .ok (.getfield 192, 3) := by decide +kernel
theorem dX10_fill_31 : decode cX10_fill 31 = .ok (.ifCond .eq 10, 3) := by decide +kernel
theorem dX10_fill_34 : decode cX10_fill 34 = .ok (.aload_n 1, 1) := by decide +kernel
theorem dX10_fill_35 : decode cX10_fill 35 = .ok (.invokevirtual 277, 3) := by decide +kernel
theorem dX10_fill_38 : decode cX10_fill 38 = .ok (.ifCond .ne 4, 3) := by decide +kernel
theorem dX10_fill_41 : decode cX10_fill 41 = .ok (.return_, 1) := by decide +kernel
theorem dX10_fill_42 : decode cX10_fill 42 = .ok (.aload_n 1, 1) := by decide +kernel
theorem dX10_fill_43 : decode cX10_fill 43 = .ok (.iload_n 3, 1) := by decide +kernel
theorem dX10_fill_44 : decode cX10_fill 44 = .ok (.aload_n 0, 1) := by decide +kernel
theorem dX10_fill_45 : decode cX10_fill 45 = .ok (.getfield 25, 3) := by decide +kernel
theorem dX10_fill_48 : decode cX10_fill 48 = .ok (.aload_n 0, 1) := by decide +kernel
theorem dX10_fill_49 : decode cX10_fill 49 = .ok (.getfield 55, 3) := by decide +kernel
theorem dX10_fill_52 : decode cX10_fill 52 = .ok (.iload_n 2, 1) := by decide +kernel
theorem dX10_fill_53 : decode cX10_fill 53 = .ok (.isub, 1) := by decide +kernel
theorem dX10_fill_54 : decode cX10_fill 54 = .ok (.iload_n 3, 1) := by decide +kernel
theorem dX10_fill_55 : decode cX10_fill 55 = .ok (.aload_n 1, 1) := by decide +kernel
theorem dX10_fill_56 : decode cX10_fill 56 = .ok (.invokevirtual 277, 3) := by decide +kernel
theorem dX10_fill_59 : decode cX10_fill 59 = .ok (.invokevirtual 270, 3) := by decide +kernel
theorem dX10_fill_62 : decode cX10_fill 62 = .ok (.invokevirtual 280, 3) := by decide +kernel
theorem dX10_fill_65 : decode cX10_fill 65 = .ok (.iinc 3 1, 3) := by decide +kernel
theorem dX10_fill_68 : decode cX10_fill 68 = .ok (.goto (-55), 3) := by decide +kernel
theorem dX10_fill_71 : decode cX10_fill 71 = .ok (.iinc 2 (-1), 3) := by decide +kernel
theorem dX10_fill_74 : decode cX10_fill 74 = .ok (.goto (-67), 3) := by decide +kernel
theorem dX10_fill_77 : decode cX10_fill 77 = .ok (.return_, 1) := by decide +kernel
theorem dX10_inKilnsOf_0 : decode cX10_inKilnsOf 0 = .ok (.iconst 0, 1) := by decide +kernel
theorem dX10_inKilnsOf_1 : decode cX10_inKilnsOf 1 = .ok (.istore_n 2, 1) := by decide +kernel
theorem dX10_inKilnsOf_2 : decode cX10_inKilnsOf 2 = .ok (.iconst 0, 1) := by decide +kernel
theorem dX10_inKilnsOf_3 : decode cX10_inKilnsOf 3 = .ok (.istore_n 3, 1) := by decide +kernel
theorem dX10_inKilnsOf_4 : decode cX10_inKilnsOf 4 = .ok (.iload_n 3, 1) := by decide +kernel
theorem dX10_inKilnsOf_5 : decode cX10_inKilnsOf 5 = .ok (.aload_n 0, 1) := by decide +kernel
theorem dX10_inKilnsOf_6 : decode cX10_inKilnsOf 6 = .ok (.getfield 19, 3) := by decide +kernel
theorem dX10_inKilnsOf_9 : decode cX10_inKilnsOf 9 = .ok (.invokevirtual 70, 3) := by decide +kernel
theorem dX10_inKilnsOf_12 : decode cX10_inKilnsOf 12 = .ok (.if_icmp .ge 27, 3) := by decide +kernel
theorem dX10_inKilnsOf_15 : decode cX10_inKilnsOf 15 = .ok (.iload_n 2, 1) := by decide +kernel
theorem dX10_inKilnsOf_16 : decode cX10_inKilnsOf 16 = .ok (.aload_n 0, 1) := by decide +kernel
theorem dX10_inKilnsOf_17 : decode cX10_inKilnsOf 17 = .ok (.getfield 19, 3) := by decide +kernel
theorem dX10_inKilnsOf_20 : decode cX10_inKilnsOf 20 = .ok (.iload_n 3, 1) := by decide +kernel
theorem dX10_inKilnsOf_21 : decode cX10_inKilnsOf 21 = .ok (.invokevirtual 202, 3) := by decide +kernel
theorem dX10_inKilnsOf_24 : decode cX10_inKilnsOf 24 = .ok (.checkcast 99, 3) := by decide +kernel
theorem dX10_inKilnsOf_27 : decode cX10_inKilnsOf 27 = .ok (.iload_n 1, 1) := by decide +kernel
theorem dX10_inKilnsOf_28 : decode cX10_inKilnsOf 28 = .ok (.invokevirtual 283, 3) := by decide +kernel
theorem dX10_inKilnsOf_31 : decode cX10_inKilnsOf 31 = .ok (.iadd, 1) := by decide +kernel
theorem dX10_inKilnsOf_32 : decode cX10_inKilnsOf 32 = .ok (.istore_n 2, 1) := by decide +kernel
theorem dX10_inKilnsOf_33 : decode cX10_inKilnsOf 33 = .ok (.iinc 3 1, 3) := by decide +kernel
theorem dX10_inKilnsOf_36 : decode cX10_inKilnsOf 36 = .ok (.goto (-32), 3) := by decide +kernel
theorem dX10_inKilnsOf_39 : decode cX10_inKilnsOf 39 = .ok (.iload_n 2, 1) := by decide +kernel
theorem dX10_inKilnsOf_40 : decode cX10_inKilnsOf 40 = .ok (.ireturn, 1) := by decide +kernel
theorem dX10_chargedInAll_0 : decode cX10_chargedInAll 0 = .ok (.iconst 0, 1) := by decide +kernel
theorem dX10_chargedInAll_1 : decode cX10_chargedInAll 1 = .ok (.istore_n 1, 1) := by decide +kernel
theorem dX10_chargedInAll_2 : decode cX10_chargedInAll 2 = .ok (.iconst 0, 1) := by decide +kernel
theorem dX10_chargedInAll_3 : decode cX10_chargedInAll 3 = .ok (.istore_n 2, 1) := by decide +kernel
theorem dX10_chargedInAll_4 : decode cX10_chargedInAll 4 = .ok (.iload_n 2, 1) := by decide +kernel
theorem dX10_chargedInAll_5 : decode cX10_chargedInAll 5 = .ok (.aload_n 0, 1) := by decide +kernel
theorem dX10_chargedInAll_6 : decode cX10_chargedInAll 6 = .ok (.getfield 32, 3) := by decide +kernel
theorem dX10_chargedInAll_9 : decode cX10_chargedInAll 9 = .ok (.invokevirtual 168, 3) := by decide +kernel
theorem dX10_chargedInAll_12 : decode cX10_chargedInAll 12 = .ok (.if_icmp .ge 28, 3) := by decide +kernel
theorem dX10_chargedInAll_15 : decode cX10_chargedInAll 15 = .ok (.iload_n 1, 1) := by decide +kernel
theorem dX10_chargedInAll_16 : decode cX10_chargedInAll 16 = .ok (.aload_n 0, 1) := by decide +kernel
theorem dX10_chargedInAll_17 : decode cX10_chargedInAll 17 = .ok (.getfield 45, 3) := by decide +kernel
theorem dX10_chargedInAll_20 : decode cX10_chargedInAll 20 = .ok (.aload_n 0, 1) := by decide +kernel
theorem dX10_chargedInAll_21 : decode cX10_chargedInAll 21 = .ok (.getfield 32, 3) := by decide +kernel
theorem dX10_chargedInAll_24 : decode cX10_chargedInAll 24 = .ok (.getfield 174, 3) := by decide +kernel
theorem dX10_chargedInAll_27 : decode cX10_chargedInAll 27 = .ok (.iload_n 2, 1) := by decide +kernel
theorem dX10_chargedInAll_28 : decode cX10_chargedInAll 28 = .ok (.iaload, 1) := by decide +kernel
theorem dX10_chargedInAll_29 : decode cX10_chargedInAll 29 = .ok (.invokevirtual 177, 3) := by decide +kernel
theorem dX10_chargedInAll_32 : decode cX10_chargedInAll 32 = .ok (.iadd, 1) := by decide +kernel
theorem dX10_chargedInAll_33 : decode cX10_chargedInAll 33 = .ok (.istore_n 1, 1) := by decide +kernel
theorem dX10_chargedInAll_34 : decode cX10_chargedInAll 34 = .ok (.iinc 2 1, 3) := by decide +kernel
theorem dX10_chargedInAll_37 : decode cX10_chargedInAll 37 = .ok (.goto (-33), 3) := by decide +kernel
theorem dX10_chargedInAll_40 : decode cX10_chargedInAll 40 = .ok (.iload_n 1, 1) := by decide +kernel
theorem dX10_chargedInAll_41 : decode cX10_chargedInAll 41 = .ok (.ireturn, 1) := by decide +kernel
theorem dX10_lostInAll_0 : decode cX10_lostInAll 0 = .ok (.iconst 0, 1) := by decide +kernel
theorem dX10_lostInAll_1 : decode cX10_lostInAll 1 = .ok (.istore_n 1, 1) := by decide +kernel
theorem dX10_lostInAll_2 : decode cX10_lostInAll 2 = .ok (.iconst 0, 1) := by decide +kernel
theorem dX10_lostInAll_3 : decode cX10_lostInAll 3 = .ok (.istore_n 2, 1) := by decide +kernel
theorem dX10_lostInAll_4 : decode cX10_lostInAll 4 = .ok (.iload_n 2, 1) := by decide +kernel
theorem dX10_lostInAll_5 : decode cX10_lostInAll 5 = .ok (.aload_n 0, 1) := by decide +kernel
theorem dX10_lostInAll_6 : decode cX10_lostInAll 6 = .ok (.getfield 10, 3) := by decide +kernel
theorem dX10_lostInAll_9 : decode cX10_lostInAll 9 = .ok (.invokevirtual 70, 3) := by decide +kernel
theorem dX10_lostInAll_12 : decode cX10_lostInAll 12 = .ok (.if_icmp .ge 26, 3) := by decide +kernel
theorem dX10_lostInAll_15 : decode cX10_lostInAll 15 = .ok (.iload_n 1, 1) := by decide +kernel
theorem dX10_lostInAll_16 : decode cX10_lostInAll 16 = .ok (.aload_n 0, 1) := by decide +kernel
theorem dX10_lostInAll_17 : decode cX10_lostInAll 17 = .ok (.getfield 10, 3) := by decide +kernel
theorem dX10_lostInAll_20 : decode cX10_lostInAll 20 = .ok (.iload_n 2, 1) := by decide +kernel
theorem dX10_lostInAll_21 : decode cX10_lostInAll 21 = .ok (.invokevirtual 202, 3) := by decide +kernel
theorem dX10_lostInAll_24 : decode cX10_lostInAll 24 = .ok (.checkcast 74, 3) := by decide +kernel
theorem dX10_lostInAll_27 : decode cX10_lostInAll 27 = .ok (.getfield 143, 3) := by decide +kernel
theorem dX10_lostInAll_30 : decode cX10_lostInAll 30 = .ok (.iadd, 1) := by decide +kernel
theorem dX10_lostInAll_31 : decode cX10_lostInAll 31 = .ok (.istore_n 1, 1) := by decide +kernel
theorem dX10_lostInAll_32 : decode cX10_lostInAll 32 = .ok (.iinc 2 1, 3) := by decide +kernel
theorem dX10_lostInAll_35 : decode cX10_lostInAll 35 = .ok (.goto (-31), 3) := by decide +kernel
theorem dX10_lostInAll_38 : decode cX10_lostInAll 38 = .ok (.iload_n 1, 1) := by decide +kernel
theorem dX10_lostInAll_39 : decode cX10_lostInAll 39 = .ok (.ireturn, 1) := by decide +kernel
theorem dX10_payInAll_0 : decode cX10_payInAll 0 = .ok (.iconst 0, 1) := by decide +kernel
theorem dX10_payInAll_1 : decode cX10_payInAll 1 = .ok (.istore_n 1, 1) := by decide +kernel
theorem dX10_payInAll_2 : decode cX10_payInAll 2 = .ok (.iconst 0, 1) := by decide +kernel
theorem dX10_payInAll_3 : decode cX10_payInAll 3 = .ok (.istore_n 2, 1) := by decide +kernel
theorem dX10_payInAll_4 : decode cX10_payInAll 4 = .ok (.iload_n 2, 1) := by decide +kernel
theorem dX10_payInAll_5 : decode cX10_payInAll 5 = .ok (.aload_n 0, 1) := by decide +kernel
theorem dX10_payInAll_6 : decode cX10_payInAll 6 = .ok (.getfield 16, 3) := by decide +kernel
theorem dX10_payInAll_9 : decode cX10_payInAll 9 = .ok (.invokevirtual 70, 3) := by decide +kernel
theorem dX10_payInAll_12 : decode cX10_payInAll 12 = .ok (.if_icmp .ge 26, 3) := by decide +kernel
theorem dX10_payInAll_15 : decode cX10_payInAll 15 = .ok (.iload_n 1, 1) := by decide +kernel
theorem dX10_payInAll_16 : decode cX10_payInAll 16 = .ok (.aload_n 0, 1) := by decide +kernel
theorem dX10_payInAll_17 : decode cX10_payInAll 17 = .ok (.getfield 16, 3) := by decide +kernel
theorem dX10_payInAll_20 : decode cX10_payInAll 20 = .ok (.iload_n 2, 1) := by decide +kernel
theorem dX10_payInAll_21 : decode cX10_payInAll 21 = .ok (.invokevirtual 202, 3) := by decide +kernel
theorem dX10_payInAll_24 : decode cX10_payInAll 24 = .ok (.checkcast 83, 3) := by decide +kernel
theorem dX10_payInAll_27 : decode cX10_payInAll 27 = .ok (.getfield 153, 3) := by decide +kernel
theorem dX10_payInAll_30 : decode cX10_payInAll 30 = .ok (.iadd, 1) := by decide +kernel
theorem dX10_payInAll_31 : decode cX10_payInAll 31 = .ok (.istore_n 1, 1) := by decide +kernel
theorem dX10_payInAll_32 : decode cX10_payInAll 32 = .ok (.iinc 2 1, 3) := by decide +kernel
theorem dX10_payInAll_35 : decode cX10_payInAll 35 = .ok (.goto (-31), 3) := by decide +kernel
theorem dX10_payInAll_38 : decode cX10_payInAll 38 = .ok (.iload_n 1, 1) := by decide +kernel
theorem dX10_payInAll_39 : decode cX10_payInAll 39 = .ok (.ireturn, 1) := by decide +kernel
theorem dX10_gardenOf_0 : decode cX10_gardenOf 0 = .ok (.iload_n 1, 1) := by decide +kernel
theorem dX10_gardenOf_1 : decode cX10_gardenOf 1 = .ok (.iconst 0, 1) := by decide +kernel
theorem dX10_gardenOf_2 : decode cX10_gardenOf 2 = .ok (.aload_n 0, 1) := by decide +kernel
theorem dX10_gardenOf_3 : decode cX10_gardenOf 3 = .ok (.getfield 10, 3) := by decide +kernel
theorem dX10_gardenOf_6 : decode cX10_gardenOf 6 = .ok (.invokevirtual 70, 3) := by decide +kernel
theorem dX10_gardenOf_9 : decode cX10_gardenOf 9 = .ok (.iconst 1, 1) := by decide +kernel
theorem dX10_gardenOf_10 : decode cX10_gardenOf 10 = .ok (.isub, 1) := by decide +kernel
theorem dX10_gardenOf_11 : decode cX10_gardenOf 11 = .ok (.invokestatic 66, 3) := by decide +kernel
theorem dX10_gardenOf_14 : decode cX10_gardenOf 14 = .ok (.ifCond .eq 17, 3) := by decide +kernel
theorem dX10_gardenOf_17 : decode cX10_gardenOf 17 = .ok (.aload_n 0, 1) := by decide +kernel
theorem dX10_gardenOf_18 : decode cX10_gardenOf 18 = .ok (.getfield 10, 3) := by decide +kernel
theorem dX10_gardenOf_21 : decode cX10_gardenOf 21 = .ok (.iload_n 1, 1) := by decide +kernel
theorem dX10_gardenOf_22 : decode cX10_gardenOf 22 = .ok (.invokevirtual 202, 3) := by decide +kernel
theorem dX10_gardenOf_25 : decode cX10_gardenOf 25 = .ok (.checkcast 74, 3) := by decide +kernel
theorem dX10_gardenOf_28 : decode cX10_gardenOf 28 = .ok (.goto 4, 3) := by decide +kernel
theorem dX10_gardenOf_31 : decode cX10_gardenOf 31 = .ok (.aconst_null, 1) := by decide +kernel
theorem dX10_gardenOf_32 : decode cX10_gardenOf 32 = .ok (.areturn, 1) := by decide +kernel
theorem dX10_gangOf_0 : decode cX10_gangOf 0 = .ok (.iload_n 1, 1) := by decide +kernel
theorem dX10_gangOf_1 : decode cX10_gangOf 1 = .ok (.iconst 0, 1) := by decide +kernel
theorem dX10_gangOf_2 : decode cX10_gangOf 2 = .ok (.aload_n 0, 1) := by decide +kernel
theorem dX10_gangOf_3 : decode cX10_gangOf 3 = .ok (.getfield 16, 3) := by decide +kernel
theorem dX10_gangOf_6 : decode cX10_gangOf 6 = .ok (.invokevirtual 70, 3) := by decide +kernel
theorem dX10_gangOf_9 : decode cX10_gangOf 9 = .ok (.iconst 1, 1) := by decide +kernel
theorem dX10_gangOf_10 : decode cX10_gangOf 10 = .ok (.isub, 1) := by decide +kernel
theorem dX10_gangOf_11 : decode cX10_gangOf 11 = .ok (.invokestatic 66, 3) := by decide +kernel
theorem dX10_gangOf_14 : decode cX10_gangOf 14 = .ok (.ifCond .eq 17, 3) := by decide +kernel
theorem dX10_gangOf_17 : decode cX10_gangOf 17 = .ok (.aload_n 0, 1) := by decide +kernel
theorem dX10_gangOf_18 : decode cX10_gangOf 18 = .ok (.getfield 16, 3) := by decide +kernel
theorem dX10_gangOf_21 : decode cX10_gangOf 21 = .ok (.iload_n 1, 1) := by decide +kernel
theorem dX10_gangOf_22 : decode cX10_gangOf 22 = .ok (.invokevirtual 202, 3) := by decide +kernel
theorem dX10_gangOf_25 : decode cX10_gangOf 25 = .ok (.checkcast 83, 3) := by decide +kernel
theorem dX10_gangOf_28 : decode cX10_gangOf 28 = .ok (.goto 4, 3) := by decide +kernel
theorem dX10_gangOf_31 : decode cX10_gangOf 31 = .ok (.aconst_null, 1) := by decide +kernel
theorem dX10_gangOf_32 : decode cX10_gangOf 32 = .ok (.areturn, 1) := by decide +kernel
theorem dX10_kilnOf_0 : decode cX10_kilnOf 0 = .ok (.iload_n 1, 1) := by decide +kernel
theorem dX10_kilnOf_1 : decode cX10_kilnOf 1 = .ok (.iconst 0, 1) := by decide +kernel
theorem dX10_kilnOf_2 : decode cX10_kilnOf 2 = .ok (.aload_n 0, 1) := by decide +kernel
theorem dX10_kilnOf_3 : decode cX10_kilnOf 3 = .ok (.getfield 19, 3) := by decide +kernel
theorem dX10_kilnOf_6 : decode cX10_kilnOf 6 = .ok (.invokevirtual 70, 3) := by decide +kernel
theorem dX10_kilnOf_9 : decode cX10_kilnOf 9 = .ok (.iconst 1, 1) := by decide +kernel
theorem dX10_kilnOf_10 : decode cX10_kilnOf 10 = .ok (.isub, 1) := by decide +kernel
theorem dX10_kilnOf_11 : decode cX10_kilnOf 11 = .ok (.invokestatic 66, 3) := by decide +kernel
theorem dX10_kilnOf_14 : decode cX10_kilnOf 14 = .ok (.ifCond .eq 17, 3) := by decide +kernel
theorem dX10_kilnOf_17 : decode cX10_kilnOf 17 = .ok (.aload_n 0, 1) := by decide +kernel
theorem dX10_kilnOf_18 : decode cX10_kilnOf 18 = .ok (.getfield 19, 3) := by decide +kernel
theorem dX10_kilnOf_21 : decode cX10_kilnOf 21 = .ok (.iload_n 1, 1) := by decide +kernel
theorem dX10_kilnOf_22 : decode cX10_kilnOf 22 = .ok (.invokevirtual 202, 3) := by decide +kernel
theorem dX10_kilnOf_25 : decode cX10_kilnOf 25 = .ok (.checkcast 99, 3) := by decide +kernel
theorem dX10_kilnOf_28 : decode cX10_kilnOf 28 = .ok (.goto 4, 3) := by decide +kernel
theorem dX10_kilnOf_31 : decode cX10_kilnOf 31 = .ok (.aconst_null, 1) := by decide +kernel
theorem dX10_kilnOf_32 : decode cX10_kilnOf 32 = .ok (.areturn, 1) := by decide +kernel
theorem dX10_kindOf_0 : decode cX10_kindOf 0 = .ok (.iload_n 0, 1) := by decide +kernel
theorem dX10_kindOf_1 : decode cX10_kindOf 1 = .ok (.lookupswitch 43 #[(1, 27), (2, 35)], 27) := by decide +kernel
theorem dX10_kindOf_28 : decode cX10_kindOf 28 = .ok (.new 284, 3) := by decide +kernel
theorem dX10_kindOf_31 : decode cX10_kindOf 31 = .ok (.dup, 1) := by decide +kernel
theorem dX10_kindOf_32 : decode cX10_kindOf 32 = .ok (.invokespecial 286, 3) := by decide +kernel
theorem dX10_kindOf_35 : decode cX10_kindOf 35 = .ok (.areturn, 1) := by decide +kernel
theorem dX10_kindOf_36 : decode cX10_kindOf 36 = .ok (.new 287, 3) := by decide +kernel
theorem dX10_kindOf_39 : decode cX10_kindOf 39 = .ok (.dup, 1) := by decide +kernel
theorem dX10_kindOf_40 : decode cX10_kindOf 40 = .ok (.invokespecial 289, 3) := by decide +kernel
theorem dX10_kindOf_43 : decode cX10_kindOf 43 = .ok (.areturn, 1) := by decide +kernel
theorem dX10_kindOf_44 : decode cX10_kindOf 44 = .ok (.new 120, 3) := by decide +kernel
theorem dX10_kindOf_47 : decode cX10_kindOf 47 = .ok (.dup, 1) := by decide +kernel
theorem dX10_kindOf_48 : decode cX10_kindOf 48 = .ok (.invokespecial 290, 3) := by decide +kernel
theorem dX10_kindOf_51 : decode cX10_kindOf 51 = .ok (.areturn, 1) := by decide +kernel
theorem dX10_within_0 : decode cX10_within 0 = .ok (.iload_n 0, 1) := by decide +kernel
theorem dX10_within_1 : decode cX10_within 1 = .ok (.iload_n 1, 1) := by decide +kernel
theorem dX10_within_2 : decode cX10_within 2 = .ok (.if_icmp .lt 12, 3) := by decide +kernel
theorem dX10_within_5 : decode cX10_within 5 = .ok (.iload_n 0, 1) := by decide +kernel
theorem dX10_within_6 : decode cX10_within 6 = .ok (.iload_n 2, 1) := by decide +kernel
theorem dX10_within_7 : decode cX10_within 7 = .ok (.if_icmp .gt 7, 3) := by decide +kernel
theorem dX10_within_10 : decode cX10_within 10 = .ok (.iconst 1, 1) := by decide +kernel
theorem dX10_within_11 : decode cX10_within 11 = .ok (.goto 4, 3) := by decide +kernel
theorem dX10_within_14 : decode cX10_within 14 = .ok (.iconst 0, 1) := by decide +kernel
theorem dX10_within_15 : decode cX10_within 15 = .ok (.ireturn, 1) := by decide +kernel
end
section
theorem dX11_init_0 : decode cX11_init 0 = .ok (.aload_n 0, 1) := by decide +kernel
theorem dX11_init_1 : decode cX11_init 1 = .ok (.invokespecial 1, 3) := by decide +kernel
theorem dX11_init_4 : decode cX11_init 4 = .ok (.aload_n 0, 1) := by decide +kernel
theorem dX11_init_5 : decode cX11_init 5 = .ok (.bipush 10, 2) := by decide +kernel
theorem dX11_init_7 : decode cX11_init 7 = .ok (.putfield 7, 3) := by decide +kernel
theorem dX11_init_10 : decode cX11_init 10 = .ok (.aload_n 0, 1) := by decide +kernel
theorem dX11_init_11 : decode cX11_init 11 = .ok (.bipush 6, 2) := by decide +kernel
theorem dX11_init_13 : decode cX11_init 13 = .ok (.newarray .int, 2) := by decide +kernel
theorem dX11_init_15 : decode cX11_init 15 = .ok (.putfield 13, 3) := by decide +kernel
theorem dX11_init_18 : decode cX11_init 18 = .ok (.aload_n 0, 1) := by decide +kernel
theorem dX11_init_19 : decode cX11_init 19 = .ok (.bipush 6, 2) := by decide +kernel
theorem dX11_init_21 : decode cX11_init 21 = .ok (.newarray .int, 2) := by decide +kernel
theorem dX11_init_23 : decode cX11_init 23 = .ok (.putfield 17, 3) := by decide +kernel
theorem dX11_init_26 : decode cX11_init 26 = .ok (.aload_n 0, 1) := by decide +kernel
theorem dX11_init_27 : decode cX11_init 27 = .ok (.bipush 6, 2) := by decide +kernel
theorem dX11_init_29 : decode cX11_init 29 = .ok (.newarray .int, 2) := by decide +kernel
theorem dX11_init_31 : decode cX11_init 31 = .ok (.putfield 20, 3) := by decide +kernel
theorem dX11_init_34 : decode cX11_init 34 = .ok (.aload_n 0, 1) := by decide +kernel
theorem dX11_init_35 : decode cX11_init 35 = .ok (.bipush 6, 2) := by decide +kernel
theorem dX11_init_37 : decode cX11_init 37 = .ok (.newarray .int, 2) := by decide +kernel
theorem dX11_init_39 : decode cX11_init 39 = .ok (.putfield 23, 3) := by decide +kernel
theorem dX11_init_42 : decode cX11_init 42 = .ok (.aload_n 0, 1) := by decide +kernel
theorem dX11_init_43 : decode cX11_init 43 = .ok (.bipush 6, 2) := by decide +kernel
theorem dX11_init_45 : decode cX11_init 45 = .ok (.newarray .int, 2) := by decide +kernel
theorem dX11_init_47 : decode cX11_init 47 = .ok (.putfield 26, 3) := by decide +kernel
theorem dX11_init_50 : decode cX11_init 50 = .ok (.aload_n 0, 1) := by decide +kernel
theorem dX11_init_51 : decode cX11_init 51 = .ok (.bipush 6, 2) := by decide +kernel
theorem dX11_init_53 : decode cX11_init 53 = .ok (.newarray .int, 2) := by decide +kernel
theorem dX11_init_55 : decode cX11_init 55 = .ok (.putfield 29, 3) := by decide +kernel
theorem dX11_init_58 : decode cX11_init 58 = .ok (.aload_n 0, 1) := by decide +kernel
theorem dX11_init_59 : decode cX11_init 59 = .ok (.bipush 6, 2) := by decide +kernel
theorem dX11_init_61 : decode cX11_init 61 = .ok (.newarray .int, 2) := by decide +kernel
theorem dX11_init_63 : decode cX11_init 63 = .ok (.putfield 32, 3) := by decide +kernel
theorem dX11_init_66 : decode cX11_init 66 = .ok (.aload_n 0, 1) := by decide +kernel
theorem dX11_init_67 : decode cX11_init 67 = .ok (.bipush 6, 2) := by decide +kernel
theorem dX11_init_69 : decode cX11_init 69 = .ok (.newarray .int, 2) := by decide +kernel
theorem dX11_init_71 : decode cX11_init 71 = .ok (.putfield 35, 3) := by decide +kernel
theorem dX11_init_74 : decode cX11_init 74 = .ok (.aload_n 0, 1) := by decide +kernel
theorem dX11_init_75 : decode cX11_init 75 = .ok (.bipush 6, 2) := by decide +kernel
theorem dX11_init_77 : decode cX11_init 77 = .ok (.newarray .int, 2) := by decide +kernel
theorem dX11_init_79 : decode cX11_init 79 = .ok (.dup, 1) := by decide +kernel
theorem dX11_init_80 : decode cX11_init 80 = .ok (.iconst 0, 1) := by decide +kernel
theorem dX11_init_81 : decode cX11_init 81 = .ok (.bipush (-9), 2) := by decide +kernel
theorem dX11_init_83 : decode cX11_init 83 = .ok (.iastore, 1) := by decide +kernel
theorem dX11_init_84 : decode cX11_init 84 = .ok (.dup, 1) := by decide +kernel
theorem dX11_init_85 : decode cX11_init 85 = .ok (.iconst 1, 1) := by decide +kernel
theorem dX11_init_86 : decode cX11_init 86 = .ok (.bipush (-9), 2) := by decide +kernel
theorem dX11_init_88 : decode cX11_init 88 = .ok (.iastore, 1) := by decide +kernel
theorem dX11_init_89 : decode cX11_init 89 = .ok (.dup, 1) := by decide +kernel
theorem dX11_init_90 : decode cX11_init 90 = .ok (.iconst 2, 1) := by decide +kernel
theorem dX11_init_91 : decode cX11_init 91 = .ok (.bipush (-9), 2) := by decide +kernel
theorem dX11_init_93 : decode cX11_init 93 = .ok (.iastore, 1) := by decide +kernel
theorem dX11_init_94 : decode cX11_init 94 = .ok (.dup, 1) := by decide +kernel
theorem dX11_init_95 : decode cX11_init 95 = .ok (.iconst 3, 1) := by decide +kernel
theorem dX11_init_96 : decode cX11_init 96 = .ok (.bipush (-9), 2) := by decide +kernel
theorem dX11_init_98 : decode cX11_init 98 = .ok (.iastore, 1) := by decide +kernel
theorem dX11_init_99 : decode cX11_init 99 = .ok (.dup, 1) := by decide +kernel
theorem dX11_init_100 : decode cX11_init 100 = .ok (.iconst 4, 1) := by decide +kernel
theorem dX11_init_101 : decode cX11_init 101 = .ok (.bipush (-9), 2) := by decide +kernel
theorem dX11_init_103 : decode cX11_init 103 = .ok (.iastore, 1) := by decide +kernel
theorem dX11_init_104 : decode cX11_init 104 = .ok (.dup, 1) := by decide +kernel
theorem dX11_init_105 : decode cX11_init 105 = .ok (.iconst 5, 1) := by decide +kernel
theorem dX11_init_106 : decode cX11_init 106 = .ok (.bipush (-9), 2) := by decide +kernel
theorem dX11_init_108 : decode cX11_init 108 = .ok (.iastore, 1) := by decide +kernel
theorem dX11_init_109 : decode cX11_init 109 = .ok (.putfield 38, 3) := by decide +kernel
theorem dX11_init_112 : decode cX11_init 112 = .ok (.aload_n 0, 1) := by decide +kernel
theorem dX11_init_113 : decode cX11_init 113 = .ok (.bipush 6, 2) := by decide +kernel
theorem dX11_init_115 : decode cX11_init 115 = .ok (.newarray .int, 2) := by decide +kernel
theorem dX11_init_117 : decode cX11_init 117 = .ok (.putfield 41, 3) := by decide +kernel
theorem dX11_init_120 : decode cX11_init 120 = .ok (.aload_n 0, 1) := by decide +kernel
theorem dX11_init_121 : decode cX11_init 121 = .ok (.bipush 6, 2) := by decide +kernel
theorem dX11_init_123 : decode cX11_init 123 = .ok (.newarray .int, 2) := by decide +kernel
theorem dX11_init_125 : decode cX11_init 125 = .ok (.putfield 44, 3) := by decide +kernel
theorem dX11_init_128 : decode cX11_init 128 = .ok (.aload_n 0, 1) := by decide +kernel
theorem dX11_init_129 : decode cX11_init 129 = .ok (.bipush 6, 2) := by decide +kernel
theorem dX11_init_131 : decode cX11_init 131 = .ok (.newarray .int, 2) := by decide +kernel
theorem dX11_init_133 : decode cX11_init 133 = .ok (.putfield 47, 3) := by decide +kernel
theorem dX11_init_136 : decode cX11_init 136 = .ok (.aload_n 0, 1) := by decide +kernel
theorem dX11_init_137 : decode cX11_init 137 = .ok (.sipush 2886, 3) := by decide +kernel
theorem dX11_init_140 : decode cX11_init 140 = .ok (.newarray .int, 2) := by decide +kernel
theorem dX11_init_142 : decode cX11_init 142 = .ok (.putfield 50, 3) := by decide +kernel
theorem dX11_init_145 : decode cX11_init 145 = .ok (.aload_n 0, 1) := by decide +kernel
theorem dX11_init_146 : decode cX11_init 146 = .ok (.iconst 4, 1) := by decide +kernel
theorem dX11_init_147 : decode cX11_init 147 = .ok (.newarray .int, 2) := by decide +kernel
theorem dX11_init_149 : decode cX11_init 149 = .ok (.putfield 53, 3) := by decide +kernel
theorem dX11_init_152 : decode cX11_init 152 = .ok (.aload_n 0, 1) := by decide +kernel
theorem dX11_init_153 : decode cX11_init 153 = .ok (.iconst 4, 1) := by decide +kernel
theorem dX11_init_154 : decode cX11_init 154 = .ok (.newarray .int, 2) := by decide +kernel
theorem dX11_init_156 : decode cX11_init 156 = .ok (.putfield 56, 3) := by decide +kernel
theorem dX11_init_159 : decode cX11_init 159 = .ok (.aload_n 0, 1) := by decide +kernel
theorem dX11_init_160 : decode cX11_init 160 = .ok (.iconst 4, 1) := by decide +kernel
theorem dX11_init_161 : decode cX11_init 161 = .ok (.newarray .int, 2) := by decide +kernel
theorem dX11_init_163 : decode cX11_init 163 = .ok (.putfield 59, 3) := by decide +kernel
theorem dX11_init_166 : decode cX11_init 166 = .ok (.aload_n 0, 1) := by decide +kernel
theorem dX11_init_167 : decode cX11_init 167 = .ok (.iconst 4, 1) := by decide +kernel
theorem dX11_init_168 : decode cX11_init 168 = .ok (.newarray .int, 2) := by decide +kernel
theorem dX11_init_170 : decode cX11_init 170 = .ok (.putfield 62, 3) := by decide +kernel
theorem dX11_init_173 : decode cX11_init 173 = .ok (.aload_n 0, 1) := by decide +kernel
theorem dX11_init_174 : decode cX11_init 174 = .ok (.iconst 4, 1) := by decide +kernel
theorem dX11_init_175 : decode cX11_init 175 = .ok (.newarray .int, 2) := by decide +kernel
theorem dX11_init_177 : decode cX11_init 177 = .ok (.putfield 65, 3) := by decide +kernel
theorem dX11_init_180 : decode cX11_init 180 = .ok (.aload_n 0, 1) := by decide +kernel
theorem dX11_init_181 : decode cX11_init 181 = .ok (.sipush 800, 3) := by decide +kernel
theorem dX11_init_184 : decode cX11_init 184 = .ok (.newarray .int, 2) := by decide +kernel
theorem dX11_init_186 : decode cX11_init 186 = .ok (.putfield 68, 3) := by decide +kernel
theorem dX11_init_189 : decode cX11_init 189 = .ok (.aload_n 0, 1) := by decide +kernel
theorem dX11_init_190 : decode cX11_init 190 = .ok (.bipush 100, 2) := by decide +kernel
theorem dX11_init_192 : decode cX11_init 192 = .ok (.newarray .int, 2) := by decide +kernel
theorem dX11_init_194 : decode cX11_init 194 = .ok (.putfield 71, 3) := by decide +kernel
theorem dX11_init_197 : decode cX11_init 197 = .ok (.aload_n 0, 1) := by decide +kernel
theorem dX11_init_198 : decode cX11_init 198 = .ok (.bipush 100, 2) := by decide +kernel
theorem dX11_init_200 : decode cX11_init 200 = .ok (.newarray .int, 2) := by decide +kernel
theorem dX11_init_202 : decode cX11_init 202 = .ok (.putfield 74, 3) := by decide +kernel
theorem dX11_init_205 : decode cX11_init 205 = .ok (.aload_n 0, 1) := by decide +kernel
theorem dX11_init_206 : decode cX11_init 206 = .ok (.bipush 20, 2) := by decide +kernel
theorem dX11_init_208 : decode cX11_init 208 = .ok (.newarray .int, 2) := by decide +kernel
theorem dX11_init_210 : decode cX11_init 210 = .ok (.putfield 77, 3) := by decide +kernel
theorem dX11_init_213 : decode cX11_init 213 = .ok (.aload_n 0, 1) := by decide +kernel
theorem dX11_init_214 : decode cX11_init 214 = .ok (.bipush 20, 2) := by decide +kernel
theorem dX11_init_216 : decode cX11_init 216 = .ok (.newarray .int, 2) := by decide +kernel
theorem dX11_init_218 : decode cX11_init 218 = .ok (.putfield 80, 3) := by decide +kernel
theorem dX11_init_221 : decode cX11_init 221 = .ok (.aload_n 0, 1) := by decide +kernel
theorem dX11_init_222 : decode cX11_init 222 = .ok (.bipush 20, 2) := by decide +kernel
theorem dX11_init_224 : decode cX11_init 224 = .ok (.newarray .int, 2) := by decide +kernel
theorem dX11_init_226 : decode cX11_init 226 = .ok (.putfield 83, 3) := by decide +kernel
theorem dX11_init_229 : decode cX11_init 229 = .ok (.aload_n 0, 1) := by decide +kernel
theorem dX11_init_230 : decode cX11_init 230 = .ok (.bipush 20, 2) := by decide +kernel
theorem dX11_init_232 : decode cX11_init 232 = .ok (.newarray .int, 2) := by decide +kernel
theorem dX11_init_234 : decode cX11_init 234 = .ok (.putfield 86, 3) := by decide +kernel
theorem dX11_init_237 : decode cX11_init 237 = .ok (.aload_n 0, 1) := by decide +kernel
theorem dX11_init_238 : decode cX11_init 238 = .ok (.bipush 7, 2) := by decide +kernel
theorem dX11_init_240 : decode cX11_init 240 = .ok (.newarray .int, 2) := by decide +kernel
theorem dX11_init_242 : decode cX11_init 242 = .ok (.putfield 89, 3) := by decide +kernel
theorem dX11_init_245 : decode cX11_init 245 = .ok (.aload_n 0, 1) := by decide +kernel
theorem dX11_init_246 : decode cX11_init 246 = .ok (.iconst 0, 1) := by decide +kernel
theorem dX11_init_247 : decode cX11_init 247 = .ok (.putfield 92, 3) := by decide +kernel
theorem dX11_init_250 : decode cX11_init 250 = .ok (.return_, 1) := by decide +kernel
theorem dX11_isIn_0 : decode cX11_isIn 0 = .ok (.iload_n 0, 1) := by decide +kernel
theorem dX11_isIn_1 : decode cX11_isIn 1 = .ok (.iload_n 1, 1) := by decide +kernel
theorem dX11_isIn_2 : decode cX11_isIn 2 = .ok (.if_icmp .lt 12, 3) := by decide +kernel
theorem dX11_isIn_5 : decode cX11_isIn 5 = .ok (.iload_n 0, 1) := by decide +kernel
theorem dX11_isIn_6 : decode cX11_isIn 6 = .ok (.iload_n 2, 1) := by decide +kernel
theorem dX11_isIn_7 : decode cX11_isIn 7 = .ok (.if_icmp .gt 7, 3) := by decide +kernel
theorem dX11_isIn_10 : decode cX11_isIn 10 = .ok (.iconst 1, 1) := by decide +kernel
theorem dX11_isIn_11 : decode cX11_isIn 11 = .ok (.goto 4, 3) := by decide +kernel
theorem dX11_isIn_14 : decode cX11_isIn 14 = .ok (.iconst 0, 1) := by decide +kernel
theorem dX11_isIn_15 : decode cX11_isIn 15 = .ok (.ireturn, 1) := by decide +kernel
theorem dX11_isGarden_0 : decode cX11_isGarden 0 = .ok (.iload_n 1, 1) := by decide +kernel
theorem dX11_isGarden_1 : decode cX11_isGarden 1 = .ok (.iconst 0, 1) := by decide +kernel
theorem dX11_isGarden_2 : decode cX11_isGarden 2 = .ok (.aload_n 0, 1) := by decide +kernel
theorem dX11_isGarden_3 : decode cX11_isGarden 3 = .ok (.getfield 95, 3) := by decide +kernel
theorem dX11_isGarden_6 : decode cX11_isGarden 6 = .ok (.iconst 1, 1) := by decide +kernel
theorem dX11_isGarden_7 : decode cX11_isGarden 7 = .ok (.isub, 1) := by decide +kernel
theorem dX11_isGarden_8 : decode cX11_isGarden 8 = .ok (.invokestatic 98, 3) := by decide +kernel
theorem dX11_isGarden_11 : decode cX11_isGarden 11 = .ok (.ireturn, 1) := by decide +kernel
theorem dX11_isGang_0 : decode cX11_isGang 0 = .ok (.iload_n 1, 1) := by decide +kernel
theorem dX11_isGang_1 : decode cX11_isGang 1 = .ok (.iconst 0, 1) := by decide +kernel
theorem dX11_isGang_2 : decode cX11_isGang 2 = .ok (.aload_n 0, 1) := by decide +kernel
theorem dX11_isGang_3 : decode cX11_isGang 3 = .ok (.getfield 102, 3) := by decide +kernel
theorem dX11_isGang_6 : decode cX11_isGang 6 = .ok (.iconst 1, 1) := by decide +kernel
theorem dX11_isGang_7 : decode cX11_isGang 7 = .ok (.isub, 1) := by decide +kernel
theorem dX11_isGang_8 : decode cX11_isGang 8 = .ok (.invokestatic 98, 3) := by decide +kernel
theorem dX11_isGang_11 : decode cX11_isGang 11 = .ok (.ireturn, 1) := by decide +kernel
theorem dX11_isKiln_0 : decode cX11_isKiln 0 = .ok (.iload_n 1, 1) := by decide +kernel
theorem dX11_isKiln_1 : decode cX11_isKiln 1 = .ok (.iconst 0, 1) := by decide +kernel
theorem dX11_isKiln_2 : decode cX11_isKiln 2 = .ok (.aload_n 0, 1) := by decide +kernel
theorem dX11_isKiln_3 : decode cX11_isKiln 3 = .ok (.getfield 105, 3) := by decide +kernel
theorem dX11_isKiln_6 : decode cX11_isKiln 6 = .ok (.iconst 1, 1) := by decide +kernel
theorem dX11_isKiln_7 : decode cX11_isKiln 7 = .ok (.isub, 1) := by decide +kernel
theorem dX11_isKiln_8 : decode cX11_isKiln 8 = .ok (.invokestatic 98, 3) := by decide +kernel
theorem dX11_isKiln_11 : decode cX11_isKiln 11 = .ok (.ireturn, 1) := by decide +kernel
theorem dX11_garden_0 : decode cX11_garden 0 = .ok (.iload_n 1, 1) := by decide +kernel
theorem dX11_garden_1 : decode cX11_garden 1 = .ok (.iconst 1, 1) := by decide +kernel
theorem dX11_garden_2 : decode cX11_garden 2 = .ok (.sipush 5000, 3) := by decide +kernel
theorem dX11_garden_5 : decode cX11_garden 5 = .ok (.invokestatic 98, 3) := by decide +kernel
theorem dX11_garden_8 : decode cX11_garden 8 = .ok (.ifCond .eq 23, 3) := by decide +kernel
theorem dX11_garden_11 : decode cX11_garden 11 = .ok (.iload_n 2, 1) := by decide +kernel
theorem dX11_garden_12 : decode cX11_garden 12 = .ok (.iconst 0, 1) := by decide +kernel
theorem dX11_garden_13 : decode cX11_garden 13 = .ok (.bipush 40, 2) := by decide +kernel
theorem dX11_garden_15 : decode cX11_garden 15 = .ok (.invokestatic 98, 3) := by decide +kernel
theorem dX11_garden_18 : decode cX11_garden 18 = .ok (.ifCond .eq 13, 3) := by decide +kernel
theorem dX11_garden_21 : decode cX11_garden 21 = .ok (.iload_n 3, 1) := by decide +kernel
theorem dX11_garden_22 : decode cX11_garden 22 = .ok (.iload_n 2, 1) := by decide +kernel
theorem dX11_garden_23 : decode cX11_garden 23 = .ok (.bipush 40, 2) := by decide +kernel
theorem dX11_garden_25 : decode cX11_garden 25 = .ok (.invokestatic 98, 3) := by decide +kernel
theorem dX11_garden_28 : decode cX11_garden 28 = .ok (.ifCond .ne 5, 3) := by decide +kernel
theorem dX11_garden_31 : decode cX11_garden 31 = .ok (.iconst (-1), 1) := by decide +kernel
theorem dX11_garden_32 : decode cX11_garden 32 = .ok (.ireturn, 1) := by decide +kernel
theorem dX11_garden_33 : decode cX11_garden 33 = .ok (.aload_n 0, 1) := by decide +kernel
theorem dX11_garden_34 : decode cX11_garden 34 = .ok (.getfield 95, 3) := by decide +kernel
theorem dX11_garden_37 : decode cX11_garden 37 = .ok (.bipush 6, 2) := by decide +kernel
theorem dX11_garden_39 : decode cX11_garden 39 = .ok (.if_icmp .ne 6, 3) := by decide +kernel
theorem dX11_garden_42 : decode cX11_garden 42 = .ok (.bipush (-3), 2) := by decide +kernel
theorem dX11_garden_44 : decode cX11_garden 44 = .ok (.ireturn, 1) := by decide +kernel
theorem dX11_garden_45 : decode cX11_garden 45 = .ok (.aload_n 0, 1) := by decide +kernel
theorem dX11_garden_46 : decode cX11_garden 46 = .ok (.getfield 13, 3) := by decide +kernel
theorem dX11_garden_49 : decode cX11_garden 49 = .ok (.aload_n 0, 1) := by decide +kernel
theorem dX11_garden_50 : decode cX11_garden 50 = .ok (.getfield 95, 3) := by decide +kernel
theorem dX11_garden_53 : decode cX11_garden 53 = .ok (.iload_n 1, 1) := by decide +kernel
theorem dX11_garden_54 : decode cX11_garden 54 = .ok (.iastore, 1) := by decide +kernel
theorem dX11_garden_55 : decode cX11_garden 55 = .ok (.aload_n 0, 1) := by decide +kernel
theorem dX11_garden_56 : decode cX11_garden 56 = .ok (.getfield 17, 3) := by decide +kernel
theorem dX11_garden_59 : decode cX11_garden 59 = .ok (.aload_n 0, 1) := by decide +kernel
theorem dX11_garden_60 : decode cX11_garden 60 = .ok (.getfield 95, 3) := by decide +kernel
theorem dX11_garden_63 : decode cX11_garden 63 = .ok (.iload_n 2, 1) := by decide +kernel
theorem dX11_garden_64 : decode cX11_garden 64 = .ok (.iastore, 1) := by decide +kernel
theorem dX11_garden_65 : decode cX11_garden 65 = .ok (.aload_n 0, 1) := by decide +kernel
theorem dX11_garden_66 : decode cX11_garden 66 = .ok (.getfield 20, 3) := by decide +kernel
theorem dX11_garden_69 : decode cX11_garden 69 = .ok (.aload_n 0, 1) := by decide +kernel
theorem dX11_garden_70 : decode cX11_garden 70 = .ok (.getfield 95, 3) := by decide +kernel
theorem dX11_garden_73 : decode cX11_garden 73 = .ok (.iload_n 3, 1) := by decide +kernel
theorem dX11_garden_74 : decode cX11_garden 74 = .ok (.iastore, 1) := by decide +kernel
theorem dX11_garden_75 : decode cX11_garden 75 = .ok (.aload_n 0, 1) := by decide +kernel
theorem dX11_garden_76 : decode cX11_garden 76 = .ok (.dup, 1) := by decide +kernel
theorem dX11_garden_77 : decode cX11_garden 77 = .ok (.getfield 95, 3) := by decide +kernel
theorem dX11_garden_80 : decode cX11_garden 80 = .ok (.iconst 1, 1) := by decide +kernel
theorem dX11_garden_81 : decode cX11_garden 81 = .ok (.iadd, 1) := by decide +kernel
theorem dX11_garden_82 : decode cX11_garden 82 = .ok (.putfield 95, 3) := by decide +kernel
theorem dX11_garden_85 : decode cX11_garden 85 = .ok (.aload_n 0, 1) := by decide +kernel
theorem dX11_garden_86 : decode cX11_garden 86 = .ok (.getfield 95, 3) := by decide +kernel
theorem dX11_garden_89 : decode cX11_garden 89 = .ok (.iconst 1, 1) := by decide +kernel
theorem dX11_garden_90 : decode cX11_garden 90 = .ok (.isub, 1) := by decide +kernel
theorem dX11_garden_91 : decode cX11_garden 91 = .ok (.ireturn, 1) := by decide +kernel
theorem dX11_gang_0 : decode cX11_gang 0 = .ok (.iload_n 1, 1) := by decide +kernel
theorem dX11_gang_1 : decode cX11_gang 1 = .ok (.iconst 1, 1) := by decide +kernel
theorem dX11_gang_2 : decode cX11_gang 2 = .ok (.bipush 30, 2) := by decide +kernel
theorem dX11_gang_4 : decode cX11_gang 4 = .ok (.invokestatic 98, 3) := by decide +kernel
theorem dX11_gang_7 : decode cX11_gang 7 = .ok (.ifCond .eq 14, 3) := by decide +kernel
theorem dX11_gang_10 : decode cX11_gang 10 = .ok (.iload_n 2, 1) := by decide +kernel
theorem dX11_gang_11 : decode cX11_gang 11 = .ok (.bipush 80, 2) := by decide +kernel
theorem dX11_gang_13 : decode cX11_gang 13 = .ok (.bipush 120, 2) := by decide +kernel
theorem dX11_gang_15 : decode cX11_gang 15 = .ok (.invokestatic 98, 3) := by decide +kernel
theorem dX11_gang_18 : decode cX11_gang 18 = .ok (.ifCond .ne 5, 3) := by decide +kernel
theorem dX11_gang_21 : decode cX11_gang 21 = .ok (.iconst (-1), 1) := by decide +kernel
theorem dX11_gang_22 : decode cX11_gang 22 = .ok (.ireturn, 1) := by decide +kernel
theorem dX11_gang_23 : decode cX11_gang 23 = .ok (.aload_n 0, 1) := by decide +kernel
theorem dX11_gang_24 : decode cX11_gang 24 = .ok (.getfield 102, 3) := by decide +kernel
theorem dX11_gang_27 : decode cX11_gang 27 = .ok (.bipush 6, 2) := by decide +kernel
theorem dX11_gang_29 : decode cX11_gang 29 = .ok (.if_icmp .ne 6, 3) := by decide +kernel
theorem dX11_gang_32 : decode cX11_gang 32 = .ok (.bipush (-3), 2) := by decide +kernel
theorem dX11_gang_34 : decode cX11_gang 34 = .ok (.ireturn, 1) := by decide +kernel
theorem dX11_gang_35 : decode cX11_gang 35 = .ok (.aload_n 0, 1) := by decide +kernel
theorem dX11_gang_36 : decode cX11_gang 36 = .ok (.getfield 32, 3) := by decide +kernel
theorem dX11_gang_39 : decode cX11_gang 39 = .ok (.aload_n 0, 1) := by decide +kernel
theorem dX11_gang_40 : decode cX11_gang 40 = .ok (.getfield 102, 3) := by decide +kernel
theorem dX11_gang_43 : decode cX11_gang 43 = .ok (.iload_n 1, 1) := by decide +kernel
theorem dX11_gang_44 : decode cX11_gang 44 = .ok (.iastore, 1) := by decide +kernel
theorem dX11_gang_45 : decode cX11_gang 45 = .ok (.aload_n 0, 1) := by decide +kernel
theorem dX11_gang_46 : decode cX11_gang 46 = .ok (.getfield 35, 3) := by decide +kernel
theorem dX11_gang_49 : decode cX11_gang 49 = .ok (.aload_n 0, 1) := by decide +kernel
theorem dX11_gang_50 : decode cX11_gang 50 = .ok (.getfield 102, 3) := by decide +kernel
theorem dX11_gang_53 : decode cX11_gang 53 = .ok (.iload_n 2, 1) := by decide +kernel
theorem dX11_gang_54 : decode cX11_gang 54 = .ok (.iastore, 1) := by decide +kernel
theorem dX11_gang_55 : decode cX11_gang 55 = .ok (.aload_n 0, 1) := by decide +kernel
theorem dX11_gang_56 : decode cX11_gang 56 = .ok (.dup, 1) := by decide +kernel
theorem dX11_gang_57 : decode cX11_gang 57 = .ok (.getfield 102, 3) := by decide +kernel
theorem dX11_gang_60 : decode cX11_gang 60 = .ok (.iconst 1, 1) := by decide +kernel
theorem dX11_gang_61 : decode cX11_gang 61 = .ok (.iadd, 1) := by decide +kernel
theorem dX11_gang_62 : decode cX11_gang 62 = .ok (.putfield 102, 3) := by decide +kernel
theorem dX11_gang_65 : decode cX11_gang 65 = .ok (.aload_n 0, 1) := by decide +kernel
theorem dX11_gang_66 : decode cX11_gang 66 = .ok (.getfield 102, 3) := by decide +kernel
theorem dX11_gang_69 : decode cX11_gang 69 = .ok (.iconst 1, 1) := by decide +kernel
theorem dX11_gang_70 : decode cX11_gang 70 = .ok (.isub, 1) := by decide +kernel
theorem dX11_gang_71 : decode cX11_gang 71 = .ok (.ireturn, 1) := by decide +kernel
theorem dX11_sends_0 : decode cX11_sends 0 = .ok (.aload_n 0, 1) := by decide +kernel
theorem dX11_sends_1 : decode cX11_sends 1 = .ok (.iload_n 1, 1) := by decide +kernel
theorem dX11_sends_2 : decode cX11_sends 2 = .ok (.invokevirtual 108, 3) := by decide +kernel
theorem dX11_sends_5 : decode cX11_sends 5 = .ok (.ifCond .eq 17, 3) := by decide +kernel
theorem dX11_sends_8 : decode cX11_sends 8 = .ok (.iload_n 2, 1) := by decide +kernel
theorem dX11_sends_9 : decode cX11_sends 9 = .ok (.bipush (-9), 2) := by decide +kernel
theorem dX11_sends_11 : decode cX11_sends 11 = .ok (.if_icmp .eq 14, 3) := by decide +kernel
theorem dX11_sends_14 : decode cX11_sends 14 = .ok (.aload_n 0, 1) := by decide +kernel
theorem dX11_sends_15 : decode cX11_sends 15 = .ok (.iload_n 2, 1) := by decide +kernel
theorem dX11_sends_16 : decode cX11_sends 16 = .ok (.invokevirtual 112, 3) := by decide +kernel
theorem dX11_sends_19 : decode cX11_sends 19 = .ok (.ifCond .ne 6, 3) := by decide +kernel
theorem dX11_sends_22 : decode cX11_sends 22 = .ok (.bipush (-2), 2) := by decide +kernel
theorem dX11_sends_24 : decode cX11_sends 24 = .ok (.ireturn, 1) := by decide +kernel
theorem dX11_sends_25 : decode cX11_sends 25 = .ok (.aload_n 0, 1) := by decide +kernel
theorem dX11_sends_26 : decode cX11_sends 26 = .ok (.getfield 38, 3) := by decide +kernel
theorem dX11_sends_29 : decode cX11_sends 29 = .ok (.iload_n 1, 1) := by decide +kernel
theorem dX11_sends_30 : decode cX11_sends 30 = .ok (.iaload, 1) := by decide +kernel
theorem dX11_sends_31 : decode cX11_sends 31 = .ok (.istore_n 3, 1) := by decide +kernel
theorem dX11_sends_32 : decode cX11_sends 32 = .ok (.aload_n 0, 1) := by decide +kernel
theorem dX11_sends_33 : decode cX11_sends 33 = .ok (.getfield 38, 3) := by decide +kernel
theorem dX11_sends_36 : decode cX11_sends 36 = .ok (.iload_n 1, 1) := by decide +kernel
theorem dX11_sends_37 : decode cX11_sends 37 = .ok (.iload_n 2, 1) := by decide +kernel
theorem dX11_sends_38 : decode cX11_sends 38 = .ok (.iastore, 1) := by decide +kernel
theorem dX11_sends_39 : decode cX11_sends 39 = .ok (.iload_n 3, 1) := by decide +kernel
theorem dX11_sends_40 : decode cX11_sends 40 = .ok (.ireturn, 1) := by decide +kernel
theorem dX11_kiln_0 : decode cX11_kiln 0 = .ok (.iload_n 1, 1) := by decide +kernel
theorem dX11_kiln_1 : decode cX11_kiln 1 = .ok (.iconst 0, 1) := by decide +kernel
theorem dX11_kiln_2 : decode cX11_kiln 2 = .ok (.iconst 2, 1) := by decide +kernel
theorem dX11_kiln_3 : decode cX11_kiln 3 = .ok (.invokestatic 98, 3) := by decide +kernel
theorem dX11_kiln_6 : decode cX11_kiln 6 = .ok (.ifCond .eq 14, 3) := by decide +kernel
theorem dX11_kiln_9 : decode cX11_kiln 9 = .ok (.iload_n 2, 1) := by decide +kernel
theorem dX11_kiln_10 : decode cX11_kiln 10 = .ok (.iconst 1, 1) := by decide +kernel
theorem dX11_kiln_11 : decode cX11_kiln 11 = .ok (.sipush 200, 3) := by decide +kernel
theorem dX11_kiln_14 : decode cX11_kiln 14 = .ok (.invokestatic 98, 3) := by decide +kernel
theorem dX11_kiln_17 : decode cX11_kiln 17 = .ok (.ifCond .ne 5, 3) := by decide +kernel
theorem dX11_kiln_20 : decode cX11_kiln 20 = .ok (.iconst (-1), 1) := by decide +kernel
theorem dX11_kiln_21 : decode cX11_kiln 21 = .ok (.ireturn, 1) := by decide +kernel
theorem dX11_kiln_22 : decode cX11_kiln 22 = .ok (.aload_n 0, 1) := by decide +kernel
theorem dX11_kiln_23 : decode cX11_kiln 23 = .ok (.getfield 105, 3) := by decide +kernel
theorem dX11_kiln_26 : decode cX11_kiln 26 = .ok (.iconst 4, 1) := by decide +kernel
theorem dX11_kiln_27 : decode cX11_kiln 27 = .ok (.if_icmp .ne 6, 3) := by decide +kernel
theorem dX11_kiln_30 : decode cX11_kiln 30 = .ok (.bipush (-3), 2) := by decide +kernel
theorem dX11_kiln_32 : decode cX11_kiln 32 = .ok (.ireturn, 1) := by decide +kernel
theorem dX11_kiln_33 : decode cX11_kiln 33 = .ok (.aload_n 0, 1) := by decide +kernel
theorem dX11_kiln_34 : decode cX11_kiln 34 = .ok (.getfield 53, 3) := by decide +kernel
theorem dX11_kiln_37 : decode cX11_kiln 37 = .ok (.aload_n 0, 1) := by decide +kernel
theorem dX11_kiln_38 : decode cX11_kiln 38 = .ok (.getfield 105, 3) := by decide +kernel
theorem dX11_kiln_41 : decode cX11_kiln 41 = .ok (.iload_n 1, 1) := by decide +kernel
theorem dX11_kiln_42 : decode cX11_kiln 42 = .ok (.iastore, 1) := by decide +kernel
theorem dX11_kiln_43 : decode cX11_kiln 43 = .ok (.aload_n 0, 1) := by decide +kernel
theorem dX11_kiln_44 : decode cX11_kiln 44 = .ok (.getfield 56, 3) := by decide +kernel
theorem dX11_kiln_47 : decode cX11_kiln 47 = .ok (.aload_n 0, 1) := by decide +kernel
theorem dX11_kiln_48 : decode cX11_kiln 48 = .ok (.getfield 105, 3) := by decide +kernel
theorem dX11_kiln_51 : decode cX11_kiln 51 = .ok (.iload_n 2, 1) := by decide +kernel
theorem dX11_kiln_52 : decode cX11_kiln 52 = .ok (.iastore, 1) := by decide +kernel
theorem dX11_kiln_53 : decode cX11_kiln 53 = .ok (.aload_n 0, 1) := by decide +kernel
theorem dX11_kiln_54 : decode cX11_kiln 54 = .ok (.getfield 59, 3) := by decide +kernel
theorem dX11_kiln_57 : decode cX11_kiln 57 = .ok (.aload_n 0, 1) := by decide +kernel
theorem dX11_kiln_58 : decode cX11_kiln 58 = .ok (.getfield 105, 3) := by decide +kernel
theorem dX11_kiln_61 : decode cX11_kiln 61 = .ok (.bipush 50, 2) := by decide +kernel
theorem dX11_kiln_63 : decode cX11_kiln 63 = .ok (.iastore, 1) := by decide +kernel
theorem dX11_kiln_64 : decode cX11_kiln 64 = .ok (.aload_n 0, 1) := by decide +kernel
theorem dX11_kiln_65 : decode cX11_kiln 65 = .ok (.dup, 1) := by decide +kernel
theorem dX11_kiln_66 : decode cX11_kiln 66 = .ok (.getfield 105, 3) := by decide +kernel
theorem dX11_kiln_69 : decode cX11_kiln 69 = .ok (.iconst 1, 1) := by decide +kernel
theorem dX11_kiln_70 : decode cX11_kiln 70 = .ok (.iadd, 1) := by decide +kernel
theorem dX11_kiln_71 : decode cX11_kiln 71 = .ok (.putfield 105, 3) := by decide +kernel
theorem dX11_kiln_74 : decode cX11_kiln 74 = .ok (.aload_n 0, 1) := by decide +kernel
theorem dX11_kiln_75 : decode cX11_kiln 75 = .ok (.getfield 105, 3) := by decide +kernel
theorem dX11_kiln_78 : decode cX11_kiln 78 = .ok (.iconst 1, 1) := by decide +kernel
theorem dX11_kiln_79 : decode cX11_kiln 79 = .ok (.isub, 1) := by decide +kernel
theorem dX11_kiln_80 : decode cX11_kiln 80 = .ok (.ireturn, 1) := by decide +kernel
theorem dX11_read_0 : decode cX11_read 0 = .ok (.aload_n 0, 1) := by decide +kernel
theorem dX11_read_1 : decode cX11_read 1 = .ok (.iload_n 1, 1) := by decide +kernel
theorem dX11_read_2 : decode cX11_read 2 = .ok (.invokevirtual 115, 3) := by decide +kernel
theorem dX11_read_5 : decode cX11_read 5 = .ok (.ifCond .eq 19, 3) := by decide +kernel
theorem dX11_read_8 : decode cX11_read 8 = .ok (.iload_n 2, 1) := by decide +kernel
theorem dX11_read_9 : decode cX11_read 9 = .ok (.bipush (-9), 2) := by decide +kernel
theorem dX11_read_11 : decode cX11_read 11 = .ok (.if_icmp .eq 15, 3) := by decide +kernel
theorem dX11_read_14 : decode cX11_read 14 = .ok (.iload_n 2, 1) := by decide +kernel
theorem dX11_read_15 : decode cX11_read 15 = .ok (.iconst 0, 1) := by decide +kernel
theorem dX11_read_16 : decode cX11_read 16 = .ok (.bipush 100, 2) := by decide +kernel
theorem dX11_read_18 : decode cX11_read 18 = .ok (.invokestatic 98, 3) := by decide +kernel
theorem dX11_read_21 : decode cX11_read 21 = .ok (.ifCond .ne 5, 3) := by decide +kernel
theorem dX11_read_24 : decode cX11_read 24 = .ok (.iconst (-1), 1) := by decide +kernel
theorem dX11_read_25 : decode cX11_read 25 = .ok (.ireturn, 1) := by decide +kernel
theorem dX11_read_26 : decode cX11_read 26 = .ok (.aload_n 0, 1) := by decide +kernel
theorem dX11_read_27 : decode cX11_read 27 = .ok (.getfield 59, 3) := by decide +kernel
theorem dX11_read_30 : decode cX11_read 30 = .ok (.iload_n 1, 1) := by decide +kernel
theorem dX11_read_31 : decode cX11_read 31 = .ok (.iaload, 1) := by decide +kernel
theorem dX11_read_32 : decode cX11_read 32 = .ok (.istore_n 3, 1) := by decide +kernel
theorem dX11_read_33 : decode cX11_read 33 = .ok (.aload_n 0, 1) := by decide +kernel
theorem dX11_read_34 : decode cX11_read 34 = .ok (.getfield 59, 3) := by decide +kernel
theorem dX11_read_37 : decode cX11_read 37 = .ok (.iload_n 1, 1) := by decide +kernel
theorem dX11_read_38 : decode cX11_read 38 = .ok (.iload_n 2, 1) := by decide +kernel
theorem dX11_read_39 : decode cX11_read 39 = .ok (.bipush (-9), 2) := by decide +kernel
theorem dX11_read_41 : decode cX11_read 41 = .ok (.if_icmp .ne 7, 3) := by decide +kernel
theorem dX11_read_44 : decode cX11_read 44 = .ok (.iload_n 3, 1) := by decide +kernel
theorem dX11_read_45 : decode cX11_read 45 = .ok (.goto 4, 3) := by decide +kernel
theorem dX11_read_48 : decode cX11_read 48 = .ok (.iload_n 2, 1) := by decide +kernel
theorem dX11_read_49 : decode cX11_read 49 = .ok (.iastore, 1) := by decide +kernel
theorem dX11_read_50 : decode cX11_read 50 = .ok (.iload_n 3, 1) := by decide +kernel
theorem dX11_read_51 : decode cX11_read 51 = .ok (.ireturn, 1) := by decide +kernel
theorem dX11_dryingBy_0 : decode cX11_dryingBy 0 = .ok (.iload_n 1, 1) := by decide +kernel
theorem dX11_dryingBy_1 : decode cX11_dryingBy 1 = .ok (.iconst 5, 1) := by decide +kernel
theorem dX11_dryingBy_2 : decode cX11_dryingBy 2 = .ok (.idiv, 1) := by decide +kernel
theorem dX11_dryingBy_3 : decode cX11_dryingBy 3 = .ok (.iload_n 0, 1) := by decide +kernel
theorem dX11_dryingBy_4 : decode cX11_dryingBy 4 = .ok (.ifCond .le 13, 3) := by decide +kernel
theorem dX11_dryingBy_7 : decode cX11_dryingBy 7 = .ok (.iload_n 1, 1) := by decide +kernel
theorem dX11_dryingBy_8 : decode cX11_dryingBy 8 = .ok (.bipush 40, 2) := by decide +kernel
theorem dX11_dryingBy_10 : decode cX11_dryingBy 10 = .ok (.if_icmp .lt 7, 3) := by decide +kernel
theorem dX11_dryingBy_13 : decode cX11_dryingBy 13 = .ok (.iconst 3, 1) := by decide +kernel
theorem dX11_dryingBy_14 : decode cX11_dryingBy 14 = .ok (.goto 4, 3) := by decide +kernel
theorem dX11_dryingBy_17 : decode cX11_dryingBy 17 = .ok (.iconst 0, 1) := by decide +kernel
theorem dX11_dryingBy_18 : decode cX11_dryingBy 18 = .ok (.iadd, 1) := by decide +kernel
theorem dX11_dryingBy_19 : decode cX11_dryingBy 19 = .ok (.istore_n 2, 1) := by decide +kernel
theorem dX11_dryingBy_20 : decode cX11_dryingBy 20 = .ok (.iload_n 0, 1) := by decide +kernel
theorem dX11_dryingBy_21 : decode cX11_dryingBy 21 = .ok (.iconst 2, 1) := by decide +kernel
theorem dX11_dryingBy_22 : decode cX11_dryingBy 22 = .ok (.if_icmp .ge 7, 3) := by decide +kernel
theorem dX11_dryingBy_25 : decode cX11_dryingBy 25 = .ok (.iload_n 2, 1) := by decide +kernel
theorem dX11_dryingBy_26 : decode cX11_dryingBy 26 = .ok (.goto 17, 3) := by decide +kernel
theorem dX11_dryingBy_29 : decode cX11_dryingBy 29 = .ok (.iload_n 2, 1) := by decide +kernel
theorem dX11_dryingBy_30 : decode cX11_dryingBy 30 = .ok (.bipush 20, 2) := by decide +kernel
theorem dX11_dryingBy_32 : decode cX11_dryingBy 32 = .ok (.if_icmp .le 8, 3) := by decide +kernel
theorem dX11_dryingBy_35 : decode cX11_dryingBy 35 = .ok (.bipush 40, 2) := by decide +kernel
theorem dX11_dryingBy_37 : decode cX11_dryingBy 37 = .ok (.goto 6, 3) := by decide +kernel
theorem dX11_dryingBy_40 : decode cX11_dryingBy 40 = .ok (.iconst 2, 1) := by decide +kernel
theorem dX11_dryingBy_41 : decode cX11_dryingBy 41 = .ok (.iload_n 2, 1) := by decide +kernel
theorem dX11_dryingBy_42 : decode cX11_dryingBy 42 = .ok (.imul, 1) := by decide +kernel
theorem dX11_dryingBy_43 : decode cX11_dryingBy 43 = .ok (.ireturn, 1) := by decide +kernel
theorem dX11_drying_0 : decode cX11_drying 0 = .ok (.aload_n 0, 1) := by decide +kernel
theorem dX11_drying_1 : decode cX11_drying 1 = .ok (.iload_n 1, 1) := by decide +kernel
theorem dX11_drying_2 : decode cX11_drying 2 = .ok (.invokevirtual 115, 3) := by decide +kernel
theorem dX11_drying_5 : decode cX11_drying 5 = .ok (.ifCond .eq 13, 3) := by decide +kernel
theorem dX11_drying_8 : decode cX11_drying 8 = .ok (.iload_n 2, 1) := by decide +kernel
theorem dX11_drying_9 : decode cX11_drying 9 = .ok (.iconst 0, 1) := by decide +kernel
theorem dX11_drying_10 : decode cX11_drying 10 = .ok (.bipush 100, 2) := by decide +kernel
theorem dX11_drying_12 : decode cX11_drying 12 = .ok (.invokestatic 98, 3) := by decide +kernel
theorem dX11_drying_15 : decode cX11_drying 15 = .ok (.ifCond .ne 5, 3) := by decide +kernel
theorem dX11_drying_18 : decode cX11_drying 18 = .ok (.iconst (-1), 1) := by decide +kernel
theorem dX11_drying_19 : decode cX11_drying 19 = .ok (.ireturn, 1) := by decide +kernel
theorem dX11_drying_20 : decode cX11_drying 20 = .ok (.aload_n 0, 1) := by decide +kernel
theorem dX11_drying_21 : decode cX11_drying 21 = .ok (.dup, 1) := by decide +kernel
theorem dX11_drying_22 : decode cX11_drying 22 = .ok (.getfield 118, 3) := by decide +kernel
theorem dX11_drying_25 : decode cX11_drying 25 = .ok (.aload_n 0, 1) := by decide +kernel
theorem dX11_drying_26 : decode cX11_drying 26 = .ok (.getfield 53, 3) := by decide +kernel
theorem dX11_drying_29 : decode cX11_drying 29 = .ok (.iload_n 1, 1) := by decide +kernel
theorem dX11_drying_30 : decode cX11_drying 30 = .ok (.iaload, 1) := by decide +kernel
theorem dX11_drying_31 : decode cX11_drying 31 = .ok (.ifCond .ne 7, 3) := by decide +kernel
theorem dX11_drying_34 : decode cX11_drying 34 = .ok (.lconst 1, 1) := by decide +kernel
theorem dX11_drying_35 : decode cX11_drying 35 = .ok (.goto 22, 3) := by decide +kernel
theorem dX11_drying_38 : decode cX11_drying 38 = .ok (.aload_n 0, 1) := by decide +kernel
theorem dX11_drying_39 : decode cX11_drying 39 = .ok (.getfield 53, 3) := by decide +kernel
theorem dX11_drying_42 : decode cX11_drying 42 = .ok (.iload_n 1, 1) := by decide +kernel
theorem dX11_drying_43 : decode cX11_drying 43 = .ok (.iaload, 1) := by decide +kernel
theorem dX11_drying_44 : decode cX11_drying 44 = .ok (.iconst 1, 1) := by decide +kernel
theorem dX11_drying_45 : decode cX11_drying 45 = .ok (.if_icmp .ne 9, 3) := by decide +kernel
theorem dX11_drying_48 : decode cX11_drying 48 = .ok (.ldc2_w 122, 3) := by decide +kernel
theorem dX11_drying_51 : decode cX11_drying 51 = .ok (.goto 6, 3) := by decide +kernel
theorem dX11_drying_54 : decode cX11_drying 54 = .ok (.ldc2_w 124, 3) := by decide +kernel
theorem dX11_drying_57 : decode cX11_drying 57 = .ok (.ladd, 1) := by decide +kernel
theorem dX11_drying_58 : decode cX11_drying 58 = .ok (.putfield 118, 3) := by decide +kernel
theorem dX11_drying_61 : decode cX11_drying 61 = .ok (.aload_n 0, 1) := by decide +kernel
theorem dX11_drying_62 : decode cX11_drying 62 = .ok (.getfield 53, 3) := by decide +kernel
theorem dX11_drying_65 : decode cX11_drying 65 = .ok (.iload_n 1, 1) := by decide +kernel
theorem dX11_drying_66 : decode cX11_drying 66 = .ok (.iaload, 1) := by decide +kernel
theorem dX11_drying_67 : decode cX11_drying 67 = .ok (.iload_n 2, 1) := by decide +kernel
theorem dX11_drying_68 : decode cX11_drying 68 = .ok (.invokestatic 126, 3) := by decide +kernel
theorem dX11_drying_71 : decode cX11_drying 71 = .ok (.ireturn, 1) := by decide +kernel
theorem dX11_waits_0 : decode cX11_waits 0 = .ok (.iload_n 1, 1) := by decide +kernel
theorem dX11_waits_1 : decode cX11_waits 1 = .ok (.iconst 1, 1) := by decide +kernel
theorem dX11_waits_2 : decode cX11_waits 2 = .ok (.bipush 24, 2) := by decide +kernel
theorem dX11_waits_4 : decode cX11_waits 4 = .ok (.invokestatic 98, 3) := by decide +kernel
theorem dX11_waits_7 : decode cX11_waits 7 = .ok (.ifCond .ne 5, 3) := by decide +kernel
theorem dX11_waits_10 : decode cX11_waits 10 = .ok (.iconst (-1), 1) := by decide +kernel
theorem dX11_waits_11 : decode cX11_waits 11 = .ok (.ireturn, 1) := by decide +kernel
theorem dX11_waits_12 : decode cX11_waits 12 = .ok (.aload_n 0, 1) := by decide +kernel
theorem dX11_waits_13 : decode cX11_waits 13 = .ok (.getfield 7, 3) := by decide +kernel
theorem dX11_waits_16 : decode cX11_waits 16 = .ok (.istore_n 2, 1) := by decide +kernel
theorem dX11_waits_17 : decode cX11_waits 17 = .ok (.aload_n 0, 1) := by decide +kernel
theorem dX11_waits_18 : decode cX11_waits 18 = .ok (.iload_n 1, 1) := by decide +kernel
theorem dX11_waits_19 : decode cX11_waits 19 = .ok (.putfield 7, 3) := by decide +kernel
theorem dX11_waits_22 : decode cX11_waits 22 = .ok (.iload_n 2, 1) := by decide +kernel
theorem dX11_waits_23 : decode cX11_waits 23 = .ok (.ireturn, 1) := by decide +kernel
theorem dX11_priceAt_0 : decode cX11_priceAt 0 = .ok (.iconst (-1), 1) := by decide +kernel
theorem dX11_priceAt_1 : decode cX11_priceAt 1 = .ok (.istore_n 2, 1) := by decide +kernel
theorem dX11_priceAt_2 : decode cX11_priceAt 2 = .ok (.iconst 0, 1) := by decide +kernel
theorem dX11_priceAt_3 : decode cX11_priceAt 3 = .ok (.istore_n 3, 1) := by decide +kernel
theorem dX11_priceAt_4 : decode cX11_priceAt 4 = .ok (.iload_n 3, 1) := by decide +kernel
theorem dX11_priceAt_5 : decode cX11_priceAt 5 = .ok (.aload_n 0, 1) := by decide +kernel
theorem dX11_priceAt_6 : decode cX11_priceAt 6 = .ok (.getfield 130, 3) := by decide +kernel
theorem dX11_priceAt_9 : decode cX11_priceAt 9 = .ok (.if_icmp .ge 44, 3) := by decide +kernel
theorem dX11_priceAt_12 : decode cX11_priceAt 12 = .ok (.aload_n 0, 1) := by decide +kernel
theorem dX11_priceAt_13 : decode cX11_priceAt 13 = .ok (.getfield 77, 3) := by decide +kernel
theorem dX11_priceAt_16 : decode cX11_priceAt 16 = .ok (.iload_n 3, 1) := by decide +kernel
theorem dX11_priceAt_17 : decode cX11_priceAt 17 = .ok (.iaload, 1) := by decide +kernel
theorem dX11_priceAt_18 : decode cX11_priceAt 18 = .ok (.iload_n 1, 1) := by decide +kernel
theorem dX11_priceAt_19 : decode cX11_priceAt 19 = .ok (.if_icmp .gt 26, 3) := by decide +kernel
theorem dX11_priceAt_22 : decode cX11_priceAt 22 = .ok (.iload_n 2, 1) := by decide +kernel
theorem dX11_priceAt_23 : decode cX11_priceAt 23 = .ok (.ifCond .lt 18, 3) := by decide +kernel
theorem dX11_priceAt_26 : decode cX11_priceAt 26 = .ok (.aload_n 0, 1) := by decide +kernel
theorem dX11_priceAt_27 : decode cX11_priceAt 27 = .ok (.getfield 77, 3) := by decide +kernel
theorem dX11_priceAt_30 : decode cX11_priceAt 30 = .ok (.iload_n 3, 1) := by decide +kernel
theorem dX11_priceAt_31 : decode cX11_priceAt 31 = .ok (.iaload, 1) := by decide +kernel
theorem dX11_priceAt_32 : decode cX11_priceAt 32 = .ok (.aload_n 0, 1) := by decide +kernel
theorem dX11_priceAt_33 : decode cX11_priceAt 33 = .ok (.getfield 77, 3) := by decide +kernel
theorem dX11_priceAt_36 : decode cX11_priceAt 36 = .ok (.iload_n 2, 1) := by decide +kernel
theorem dX11_priceAt_37 : decode cX11_priceAt 37 = .ok (.iaload, 1) := by decide +kernel
theorem dX11_priceAt_38 : decode cX11_priceAt 38 = .ok (.if_icmp .lt 7, 3) := by decide +kernel
theorem dX11_priceAt_41 : decode cX11_priceAt 41 = .ok (.iload_n 3, 1) := by decide +kernel
theorem dX11_priceAt_42 : decode cX11_priceAt 42 = .ok (.goto 4, 3) := by decide +kernel
theorem dX11_priceAt_45 : decode cX11_priceAt 45 = .ok (.iload_n 2, 1) := by decide +kernel
theorem dX11_priceAt_46 : decode cX11_priceAt 46 = .ok (.istore_n 2, 1) := by decide +kernel
theorem dX11_priceAt_47 : decode cX11_priceAt 47 = .ok (.iinc 3 1, 3) := by decide +kernel
theorem dX11_priceAt_50 : decode cX11_priceAt 50 = .ok (.goto (-46), 3) := by decide +kernel
theorem dX11_priceAt_53 : decode cX11_priceAt 53 = .ok (.iload_n 2, 1) := by decide +kernel
theorem dX11_priceAt_54 : decode cX11_priceAt 54 = .ok (.ifCond .ge 7, 3) := by decide +kernel
theorem dX11_priceAt_57 : decode cX11_priceAt 57 = .ok (.iconst 2, 1) := by decide +kernel
theorem dX11_priceAt_58 : decode cX11_priceAt 58 = .ok (.goto 9, 3) := by decide +kernel
theorem dX11_priceAt_61 : decode cX11_priceAt 61 = .ok (.aload_n 0, 1) := by decide +kernel
theorem dX11_priceAt_62 : decode cX11_priceAt 62 = .ok (.getfield 80, 3) := by decide +kernel
theorem dX11_priceAt_65 : decode cX11_priceAt 65 = .ok (.iload_n 2, 1) := by decide +kernel
theorem dX11_priceAt_66 : decode cX11_priceAt 66 = .ok (.iaload, 1) := by decide +kernel
theorem dX11_priceAt_67 : decode cX11_priceAt 67 = .ok (.ireturn, 1) := by decide +kernel
theorem dX11_dutyOn_0 : decode cX11_dutyOn 0 = .ok (.iconst (-1), 1) := by decide +kernel
theorem dX11_dutyOn_1 : decode cX11_dutyOn 1 = .ok (.istore_n 2, 1) := by decide +kernel
theorem dX11_dutyOn_2 : decode cX11_dutyOn 2 = .ok (.iconst 0, 1) := by decide +kernel
theorem dX11_dutyOn_3 : decode cX11_dutyOn 3 = .ok (.istore_n 3, 1) := by decide +kernel
theorem dX11_dutyOn_4 : decode cX11_dutyOn 4 = .ok (.iload_n 3, 1) := by decide +kernel
theorem dX11_dutyOn_5 : decode cX11_dutyOn 5 = .ok (.aload_n 0, 1) := by decide +kernel
theorem dX11_dutyOn_6 : decode cX11_dutyOn 6 = .ok (.getfield 133, 3) := by decide +kernel
theorem dX11_dutyOn_9 : decode cX11_dutyOn 9 = .ok (.if_icmp .ge 44, 3) := by decide +kernel
theorem dX11_dutyOn_12 : decode cX11_dutyOn 12 = .ok (.aload_n 0, 1) := by decide +kernel
theorem dX11_dutyOn_13 : decode cX11_dutyOn 13 = .ok (.getfield 83, 3) := by decide +kernel
theorem dX11_dutyOn_16 : decode cX11_dutyOn 16 = .ok (.iload_n 3, 1) := by decide +kernel
theorem dX11_dutyOn_17 : decode cX11_dutyOn 17 = .ok (.iaload, 1) := by decide +kernel
theorem dX11_dutyOn_18 : decode cX11_dutyOn 18 = .ok (.iload_n 1, 1) := by decide +kernel
theorem dX11_dutyOn_19 : decode cX11_dutyOn 19 = .ok (.if_icmp .gt 26, 3) := by decide +kernel
theorem dX11_dutyOn_22 : decode cX11_dutyOn 22 = .ok (.iload_n 2, 1) := by decide +kernel
theorem dX11_dutyOn_23 : decode cX11_dutyOn 23 = .ok (.ifCond .lt 18, 3) := by decide +kernel
theorem dX11_dutyOn_26 : decode cX11_dutyOn 26 = .ok (.aload_n 0, 1) := by decide +kernel
theorem dX11_dutyOn_27 : decode cX11_dutyOn 27 = .ok (.getfield 83, 3) := by decide +kernel
theorem dX11_dutyOn_30 : decode cX11_dutyOn 30 = .ok (.iload_n 3, 1) := by decide +kernel
theorem dX11_dutyOn_31 : decode cX11_dutyOn 31 = .ok (.iaload, 1) := by decide +kernel
theorem dX11_dutyOn_32 : decode cX11_dutyOn 32 = .ok (.aload_n 0, 1) := by decide +kernel
theorem dX11_dutyOn_33 : decode cX11_dutyOn 33 = .ok (.getfield 83, 3) := by decide +kernel
theorem dX11_dutyOn_36 : decode cX11_dutyOn 36 = .ok (.iload_n 2, 1) := by decide +kernel
theorem dX11_dutyOn_37 : decode cX11_dutyOn 37 = .ok (.iaload, 1) := by decide +kernel
theorem dX11_dutyOn_38 : decode cX11_dutyOn 38 = .ok (.if_icmp .lt 7, 3) := by decide +kernel
theorem dX11_dutyOn_41 : decode cX11_dutyOn 41 = .ok (.iload_n 3, 1) := by decide +kernel
theorem dX11_dutyOn_42 : decode cX11_dutyOn 42 = .ok (.goto 4, 3) := by decide +kernel
theorem dX11_dutyOn_45 : decode cX11_dutyOn 45 = .ok (.iload_n 2, 1) := by decide +kernel
theorem dX11_dutyOn_46 : decode cX11_dutyOn 46 = .ok (.istore_n 2, 1) := by decide +kernel
theorem dX11_dutyOn_47 : decode cX11_dutyOn 47 = .ok (.iinc 3 1, 3) := by decide +kernel
theorem dX11_dutyOn_50 : decode cX11_dutyOn 50 = .ok (.goto (-46), 3) := by decide +kernel
theorem dX11_dutyOn_53 : decode cX11_dutyOn 53 = .ok (.iload_n 2, 1) := by decide +kernel
theorem dX11_dutyOn_54 : decode cX11_dutyOn 54 = .ok (.ifCond .ge 7, 3) := by decide +kernel
theorem dX11_dutyOn_57 : decode cX11_dutyOn 57 = .ok (.iconst 0, 1) := by decide +kernel
theorem dX11_dutyOn_58 : decode cX11_dutyOn 58 = .ok (.goto 9, 3) := by decide +kernel
theorem dX11_dutyOn_61 : decode cX11_dutyOn 61 = .ok (.aload_n 0, 1) := by decide +kernel
theorem dX11_dutyOn_62 : decode cX11_dutyOn 62 = .ok (.getfield 86, 3) := by decide +kernel
theorem dX11_dutyOn_65 : decode cX11_dutyOn 65 = .ok (.iload_n 2, 1) := by decide +kernel
theorem dX11_dutyOn_66 : decode cX11_dutyOn 66 = .ok (.iaload, 1) := by decide +kernel
theorem dX11_dutyOn_67 : decode cX11_dutyOn 67 = .ok (.ireturn, 1) := by decide +kernel
theorem dX11_isRipe_0 : decode cX11_isRipe 0 = .ok (.iload_n 2, 1) := by decide +kernel
theorem dX11_isRipe_1 : decode cX11_isRipe 1 = .ok (.aload_n 0, 1) := by decide +kernel
theorem dX11_isRipe_2 : decode cX11_isRipe 2 = .ok (.getfield 17, 3) := by decide +kernel
theorem dX11_isRipe_5 : decode cX11_isRipe 5 = .ok (.iload_n 1, 1) := by decide +kernel
theorem dX11_isRipe_6 : decode cX11_isRipe 6 = .ok (.iaload, 1) := by decide +kernel
theorem dX11_isRipe_7 : decode cX11_isRipe 7 = .ok (.aload_n 0, 1) := by decide +kernel
theorem dX11_isRipe_8 : decode cX11_isRipe 8 = .ok (.getfield 20, 3) := by decide +kernel
theorem dX11_isRipe_11 : decode cX11_isRipe 11 = .ok (.iload_n 1, 1) := by decide +kernel
theorem dX11_isRipe_12 : decode cX11_isRipe 12 = .ok (.iaload, 1) := by decide +kernel
theorem dX11_isRipe_13 : decode cX11_isRipe 13 = .ok (.invokestatic 98, 3) := by decide +kernel
theorem dX11_isRipe_16 : decode cX11_isRipe 16 = .ok (.ireturn, 1) := by decide +kernel
theorem dX11_picks_0 : decode cX11_picks 0 = .ok (.aload_n 0, 1) := by decide +kernel
theorem dX11_picks_1 : decode cX11_picks 1 = .ok (.getfield 38, 3) := by decide +kernel
theorem dX11_picks_4 : decode cX11_picks 4 = .ok (.iload_n 1, 1) := by decide +kernel
theorem dX11_picks_5 : decode cX11_picks 5 = .ok (.iaload, 1) := by decide +kernel
theorem dX11_picks_6 : decode cX11_picks 6 = .ok (.istore_n 2, 1) := by decide +kernel
theorem dX11_picks_7 : decode cX11_picks 7 = .ok (.iload_n 2, 1) := by decide +kernel
theorem dX11_picks_8 : decode cX11_picks 8 = .ok (.bipush (-9), 2) := by decide +kernel
theorem dX11_picks_10 : decode cX11_picks 10 = .ok (.if_icmp .eq 18, 3) := by decide +kernel
theorem dX11_picks_13 : decode cX11_picks 13 = .ok (.aload_n 0, 1) := by decide +kernel
theorem dX11_picks_14 : decode cX11_picks 14 = .ok (.iload_n 2, 1) := by decide +kernel
theorem dX11_picks_15 : decode cX11_picks 15 = .ok (.aload_n 0, 1) := by decide +kernel
theorem dX11_picks_16 : decode cX11_picks 16 = .ok (.getfield 92, 3) := by decide +kernel
theorem dX11_picks_19 : decode cX11_picks 19 = .ok (.bipush 12, 2) := by decide +kernel
theorem dX11_picks_21 : decode cX11_picks 21 = .ok (.idiv, 1) := by decide +kernel
theorem dX11_picks_22 : decode cX11_picks 22 = .ok (.invokevirtual 136, 3) := by decide +kernel
theorem dX11_picks_25 : decode cX11_picks 25 = .ok (.ifCond .ne 4, 3) := by decide +kernel
theorem dX11_picks_28 : decode cX11_picks 28 = .ok (.return_, 1) := by decide +kernel
theorem dX11_picks_29 : decode cX11_picks 29 = .ok (.aload_n 0, 1) := by decide +kernel
theorem dX11_picks_30 : decode cX11_picks 30 = .ok (.getfield 32, 3) := by decide +kernel
theorem dX11_picks_33 : decode cX11_picks 33 = .ok (.iload_n 1, 1) := by decide +kernel
theorem dX11_picks_34 : decode cX11_picks 34 = .ok (.iaload, 1) := by decide +kernel
theorem dX11_picks_35 : decode cX11_picks 35 = .ok (.aload_n 0, 1) := by decide +kernel
theorem dX11_picks_36 : decode cX11_picks 36 = .ok (.getfield 13, 3) := by decide +kernel
theorem dX11_picks_39 : decode cX11_picks 39 = .ok (.iload_n 2, 1) := by decide +kernel
theorem dX11_picks_40 : decode cX11_picks 40 = .ok (.iaload, 1) := by decide +kernel
theorem dX11_picks_41 : decode cX11_picks 41 = .ok (.if_icmp .ge 12, 3) := by decide +kernel
theorem dX11_picks_44 : decode cX11_picks 44 = .ok (.aload_n 0, 1) := by decide +kernel
theorem dX11_picks_45 : decode cX11_picks 45 = .ok (.getfield 32, 3) := by decide +kernel
theorem dX11_picks_48 : decode cX11_picks 48 = .ok (.iload_n 1, 1) := by decide +kernel
theorem dX11_picks_49 : decode cX11_picks 49 = .ok (.iaload, 1) := by decide +kernel
theorem dX11_picks_50 : decode cX11_picks 50 = .ok (.goto 9, 3) := by decide +kernel
theorem dX11_picks_53 : decode cX11_picks 53 = .ok (.aload_n 0, 1) := by decide +kernel
theorem dX11_picks_54 : decode cX11_picks 54 = .ok (.getfield 13, 3) := by decide +kernel
theorem dX11_picks_57 : decode cX11_picks 57 = .ok (.iload_n 2, 1) := by decide +kernel
theorem dX11_picks_58 : decode cX11_picks 58 = .ok (.iaload, 1) := by decide +kernel
theorem dX11_picks_59 : decode cX11_picks 59 = .ok (.istore_n 3, 1) := by decide +kernel
theorem dX11_picks_60 : decode cX11_picks 60 = .ok (.aload_n 0, 1) := by decide +kernel
theorem dX11_picks_61 : decode cX11_picks 61 = .ok (.getfield 13, 3) := by decide +kernel
theorem dX11_picks_64 : decode cX11_picks 64 = .ok (.iload_n 2, 1) := by decide +kernel
theorem dX11_picks_65 : decode cX11_picks 65 = .ok (.dup2, 1) := by decide +kernel
theorem dX11_picks_66 : decode cX11_picks 66 = .ok (.iaload, 1) := by decide +kernel
theorem dX11_picks_67 : decode cX11_picks 67 = .ok (.iload_n 3, 1) := by decide +kernel
theorem dX11_picks_68 : decode cX11_picks 68 = .ok (.isub, 1) := by decide +kernel
theorem dX11_picks_69 : decode cX11_picks 69 = .ok (.iastore, 1) := by decide +kernel
theorem dX11_picks_70 : decode cX11_picks 70 = .ok (.aload_n 0, 1) := by decide +kernel
theorem dX11_picks_71 : decode cX11_picks 71 = .ok (.getfield 23, 3) := by decide +kernel
theorem dX11_picks_74 : decode cX11_picks 74 = .ok (.iload_n 2, 1) := by decide +kernel
theorem dX11_picks_75 : decode cX11_picks 75 = .ok (.dup2, 1) := by decide +kernel
theorem dX11_picks_76 : decode cX11_picks 76 = .ok (.iaload, 1) := by decide +kernel
theorem dX11_picks_77 : decode cX11_picks 77 = .ok (.iload_n 3, 1) := by decide +kernel
theorem dX11_picks_78 : decode cX11_picks 78 = .ok (.iadd, 1) := by decide +kernel
theorem dX11_picks_79 : decode cX11_picks 79 = .ok (.iastore, 1) := by decide +kernel
theorem dX11_picks_80 : decode cX11_picks 80 = .ok (.aload_n 0, 1) := by decide +kernel
theorem dX11_picks_81 : decode cX11_picks 81 = .ok (.getfield 50, 3) := by decide +kernel
theorem dX11_picks_84 : decode cX11_picks 84 = .ok (.bipush 6, 2) := by decide +kernel
theorem dX11_picks_86 : decode cX11_picks 86 = .ok (.aload_n 0, 1) := by decide +kernel
theorem dX11_picks_87 : decode cX11_picks 87 = .ok (.getfield 92, 3) := by decide +kernel
theorem dX11_picks_90 : decode cX11_picks 90 = .ok (.imul, 1) := by decide +kernel
theorem dX11_picks_91 : decode cX11_picks 91 = .ok (.iload_n 2, 1) := by decide +kernel
theorem dX11_picks_92 : decode cX11_picks 92 = .ok (.iadd, 1) := by decide +kernel
theorem dX11_picks_93 : decode cX11_picks 93 = .ok (.dup2, 1) := by decide +kernel
theorem dX11_picks_94 : decode cX11_picks 94 = .ok (.iaload, 1) := by decide +kernel
theorem dX11_picks_95 : decode cX11_picks 95 = .ok (.iload_n 3, 1) := by decide +kernel
theorem dX11_picks_96 : decode cX11_picks 96 = .ok (.iadd, 1) := by decide +kernel
theorem dX11_picks_97 : decode cX11_picks 97 = .ok (.iastore, 1) := by decide +kernel
theorem dX11_picks_98 : decode cX11_picks 98 = .ok (.iload_n 3, 1) := by decide +kernel
theorem dX11_picks_99 : decode cX11_picks 99 = .ok (.bipush 100, 2) := by decide +kernel
theorem dX11_picks_101 : decode cX11_picks 101 = .ok (.imul, 1) := by decide +kernel
theorem dX11_picks_102 : decode cX11_picks 102 = .ok (.aload_n 0, 1) := by decide +kernel
theorem dX11_picks_103 : decode cX11_picks 103 = .ok (.getfield 35, 3) := by decide +kernel
theorem dX11_picks_106 : decode cX11_picks 106 = .ok (.iload_n 1, 1) := by decide +kernel
theorem dX11_picks_107 : decode cX11_picks 107 = .ok (.iaload, 1) := by decide +kernel
theorem dX11_picks_108 : decode cX11_picks 108 = .ok (.idiv, 1) := by decide +kernel
theorem dX11_picks_109 : decode cX11_picks 109 = .ok (.istore 4, 2) := by decide +kernel
theorem dX11_picks_111 : decode cX11_picks 111 = .ok (.aload_n 0, 1) := by decide +kernel
theorem dX11_picks_112 : decode cX11_picks 112 = .ok (.getfield 41, 3) := by decide +kernel
theorem dX11_picks_115 : decode cX11_picks 115 = .ok (.iload_n 1, 1) := by decide +kernel
theorem dX11_picks_116 : decode cX11_picks 116 = .ok (.dup2, 1) := by decide +kernel
theorem dX11_picks_117 : decode cX11_picks 117 = .ok (.iaload, 1) := by decide +kernel
theorem dX11_picks_118 : decode cX11_picks 118 = .ok (.iload_n 3, 1) := by decide +kernel
theorem dX11_picks_119 : decode cX11_picks 119 = .ok (.iadd, 1) := by decide +kernel
theorem dX11_picks_120 : decode cX11_picks 120 = .ok (.iastore, 1) := by decide +kernel
theorem dX11_picks_121 : decode cX11_picks 121 = .ok (.aload_n 0, 1) := by decide +kernel
theorem dX11_picks_122 : decode cX11_picks 122 = .ok (.getfield 44, 3) := by decide +kernel
theorem dX11_picks_125 : decode cX11_picks 125 = .ok (.iload_n 1, 1) := by decide +kernel
theorem dX11_picks_126 : decode cX11_picks 126 = .ok (.dup2, 1) := by decide +kernel
theorem dX11_picks_127 : decode cX11_picks 127 = .ok (.iaload, 1) := by decide +kernel
theorem dX11_picks_128 : decode cX11_picks 128 = .ok (.iload 4, 2) := by decide +kernel
theorem dX11_picks_130 : decode cX11_picks 130 = .ok (.iadd, 1) := by decide +kernel
theorem dX11_picks_131 : decode cX11_picks 131 = .ok (.iastore, 1) := by decide +kernel
theorem dX11_picks_132 : decode cX11_picks 132 = .ok (.aload_n 0, 1) := by decide +kernel
theorem dX11_picks_133 : decode cX11_picks 133 = .ok (.getfield 47, 3) := by decide +kernel
theorem dX11_picks_136 : decode cX11_picks 136 = .ok (.iload_n 1, 1) := by decide +kernel
theorem dX11_picks_137 : decode cX11_picks 137 = .ok (.dup2, 1) := by decide +kernel
theorem dX11_picks_138 : decode cX11_picks 138 = .ok (.iaload, 1) := by decide +kernel
theorem dX11_picks_139 : decode cX11_picks 139 = .ok (.iload 4, 2) := by decide +kernel
theorem dX11_picks_141 : decode cX11_picks 141 = .ok (.aload_n 0, 1) := by decide +kernel
theorem dX11_picks_142 : decode cX11_picks 142 = .ok (.aload_n 0, 1) := by decide +kernel
theorem dX11_picks_143 : decode cX11_picks 143 = .ok (.getfield 92, 3) := by decide +kernel
theorem dX11_picks_146 : decode cX11_picks 146 = .ok (.invokevirtual 140, 3) := by decide +kernel
theorem dX11_picks_149 : decode cX11_picks 149 = .ok (.imul, 1) := by decide +kernel
theorem dX11_picks_150 : decode cX11_picks 150 = .ok (.iadd, 1) := by decide +kernel
theorem dX11_picks_151 : decode cX11_picks 151 = .ok (.iastore, 1) := by decide +kernel
theorem dX11_picks_152 : decode cX11_picks 152 = .ok (.return_, 1) := by decide +kernel
theorem dX11_presses_0 : decode cX11_presses 0 = .ok (.aload_n 0, 1) := by decide +kernel
theorem dX11_presses_1 : decode cX11_presses 1 = .ok (.getfield 29, 3) := by decide +kernel
theorem dX11_presses_4 : decode cX11_presses 4 = .ok (.iload_n 1, 1) := by decide +kernel
theorem dX11_presses_5 : decode cX11_presses 5 = .ok (.dup2, 1) := by decide +kernel
theorem dX11_presses_6 : decode cX11_presses 6 = .ok (.iaload, 1) := by decide +kernel
theorem dX11_presses_7 : decode cX11_presses 7 = .ok (.iconst 1, 1) := by decide +kernel
theorem dX11_presses_8 : decode cX11_presses 8 = .ok (.iadd, 1) := by decide +kernel
theorem dX11_presses_9 : decode cX11_presses 9 = .ok (.iastore, 1) := by decide +kernel
theorem dX11_presses_10 : decode cX11_presses 10 = .ok (.aload_n 0, 1) := by decide +kernel
theorem dX11_presses_11 : decode cX11_presses 11 = .ok (.dup, 1) := by decide +kernel
theorem dX11_presses_12 : decode cX11_presses 12 = .ok (.getfield 144, 3) := by decide +kernel
theorem dX11_presses_15 : decode cX11_presses 15 = .ok (.iconst 1, 1) := by decide +kernel
theorem dX11_presses_16 : decode cX11_presses 16 = .ok (.iadd, 1) := by decide +kernel
theorem dX11_presses_17 : decode cX11_presses 17 = .ok (.putfield 144, 3) := by decide +kernel
theorem dX11_presses_20 : decode cX11_presses 20 = .ok (.aload_n 0, 1) := by decide +kernel
theorem dX11_presses_21 : decode cX11_presses 21 = .ok (.dup, 1) := by decide +kernel
theorem dX11_presses_22 : decode cX11_presses 22 = .ok (.getfield 147, 3) := by decide +kernel
theorem dX11_presses_25 : decode cX11_presses 25 = .ok (.iconst 1, 1) := by decide +kernel
theorem dX11_presses_26 : decode cX11_presses 26 = .ok (.iload_n 1, 1) := by decide +kernel
theorem dX11_presses_27 : decode cX11_presses 27 = .ok (.ishl, 1) := by decide +kernel
theorem dX11_presses_28 : decode cX11_presses 28 = .ok (.ior, 1) := by decide +kernel
theorem dX11_presses_29 : decode cX11_presses 29 = .ok (.putfield 147, 3) := by decide +kernel
theorem dX11_presses_32 : decode cX11_presses 32 = .ok (.aload_n 0, 1) := by decide +kernel
theorem dX11_presses_33 : decode cX11_presses 33 = .ok (.getfield 144, 3) := by decide +kernel
theorem dX11_presses_36 : decode cX11_presses 36 = .ok (.bipush 20, 2) := by decide +kernel
theorem dX11_presses_38 : decode cX11_presses 38 = .ok (.if_icmp .ne 61, 3) := by decide +kernel
theorem dX11_presses_41 : decode cX11_presses 41 = .ok (.aload_n 0, 1) := by decide +kernel
theorem dX11_presses_42 : decode cX11_presses 42 = .ok (.getfield 150, 3) := by decide +kernel
theorem dX11_presses_45 : decode cX11_presses 45 = .ok (.bipush 100, 2) := by decide +kernel
theorem dX11_presses_47 : decode cX11_presses 47 = .ok (.if_icmp .ge 32, 3) := by decide +kernel
theorem dX11_presses_50 : decode cX11_presses 50 = .ok (.aload_n 0, 1) := by decide +kernel
theorem dX11_presses_51 : decode cX11_presses 51 = .ok (.getfield 71, 3) := by decide +kernel
theorem dX11_presses_54 : decode cX11_presses 54 = .ok (.aload_n 0, 1) := by decide +kernel
theorem dX11_presses_55 : decode cX11_presses 55 = .ok (.getfield 150, 3) := by decide +kernel
theorem dX11_presses_58 : decode cX11_presses 58 = .ok (.aload_n 0, 1) := by decide +kernel
theorem dX11_presses_59 : decode cX11_presses 59 = .ok (.getfield 147, 3) := by decide +kernel
theorem dX11_presses_62 : decode cX11_presses 62 = .ok (.iastore, 1) := by decide +kernel
theorem dX11_presses_63 : decode cX11_presses 63 = .ok (.aload_n 0, 1) := by decide +kernel
theorem dX11_presses_64 : decode cX11_presses 64 = .ok (.getfield 74, 3) := by decide +kernel
theorem dX11_presses_67 : decode cX11_presses 67 = .ok (.aload_n 0, 1) := by decide +kernel
theorem dX11_presses_68 : decode cX11_presses 68 = .ok (.getfield 150, 3) := by decide +kernel
theorem dX11_presses_71 : decode cX11_presses 71 = .ok (.aload_n 0, 1) := by decide +kernel
theorem dX11_presses_72 : decode cX11_presses 72 = .ok (.getfield 92, 3) := by decide +kernel
theorem dX11_presses_75 : decode cX11_presses 75 = .ok (.bipush 12, 2) := by decide +kernel
theorem dX11_presses_77 : decode cX11_presses 77 = .ok (.idiv, 1) := by decide +kernel
theorem dX11_presses_78 : decode cX11_presses 78 = .ok (.iastore, 1) := by decide +kernel
theorem dX11_presses_79 : decode cX11_presses 79 = .ok (.aload_n 0, 1) := by decide +kernel
theorem dX11_presses_80 : decode cX11_presses 80 = .ok (.dup, 1) := by decide +kernel
theorem dX11_presses_81 : decode cX11_presses 81 = .ok (.getfield 150, 3) := by decide +kernel
theorem dX11_presses_84 : decode cX11_presses 84 = .ok (.iconst 1, 1) := by decide +kernel
theorem dX11_presses_85 : decode cX11_presses 85 = .ok (.iadd, 1) := by decide +kernel
theorem dX11_presses_86 : decode cX11_presses 86 = .ok (.putfield 150, 3) := by decide +kernel
theorem dX11_presses_89 : decode cX11_presses 89 = .ok (.aload_n 0, 1) := by decide +kernel
theorem dX11_presses_90 : decode cX11_presses 90 = .ok (.iconst 0, 1) := by decide +kernel
theorem dX11_presses_91 : decode cX11_presses 91 = .ok (.putfield 144, 3) := by decide +kernel
theorem dX11_presses_94 : decode cX11_presses 94 = .ok (.aload_n 0, 1) := by decide +kernel
theorem dX11_presses_95 : decode cX11_presses 95 = .ok (.iconst 0, 1) := by decide +kernel
theorem dX11_presses_96 : decode cX11_presses 96 = .ok (.putfield 147, 3) := by decide +kernel
theorem dX11_presses_99 : decode cX11_presses 99 = .ok (.return_, 1) := by decide +kernel
theorem dX11_dries_0 : decode cX11_dries 0 = .ok (.aload_n 0, 1) := by decide +kernel
theorem dX11_dries_1 : decode cX11_dries 1 = .ok (.getfield 65, 3) := by decide +kernel
theorem dX11_dries_4 : decode cX11_dries 4 = .ok (.iload_n 1, 1) := by decide +kernel
theorem dX11_dries_5 : decode cX11_dries 5 = .ok (.iaload, 1) := by decide +kernel
theorem dX11_dries_6 : decode cX11_dries 6 = .ok (.ifCond .ne 4, 3) := by decide +kernel
theorem dX11_dries_9 : decode cX11_dries 9 = .ok (.return_, 1) := by decide +kernel
theorem dX11_dries_10 : decode cX11_dries 10 = .ok (.aload_n 0, 1) := by decide +kernel
theorem dX11_dries_11 : decode cX11_dries 11 = .ok (.getfield 62, 3) := by decide +kernel
theorem dX11_dries_14 : decode cX11_dries 14 = .ok (.iload_n 1, 1) := by decide +kernel
theorem dX11_dries_15 : decode cX11_dries 15 = .ok (.dup2, 1) := by decide +kernel
theorem dX11_dries_16 : decode cX11_dries 16 = .ok (.iaload, 1) := by decide +kernel
theorem dX11_dries_17 : decode cX11_dries 17 = .ok (.aload_n 0, 1) := by decide +kernel
theorem dX11_dries_18 : decode cX11_dries 18 = .ok (.getfield 53, 3) := by decide +kernel
theorem dX11_dries_21 : decode cX11_dries 21 = .ok (.iload_n 1, 1) := by decide +kernel
theorem dX11_dries_22 : decode cX11_dries 22 = .ok (.iaload, 1) := by decide +kernel
theorem dX11_dries_23 : decode cX11_dries 23 = .ok (.aload_n 0, 1) := by decide +kernel
theorem dX11_dries_24 : decode cX11_dries 24 = .ok (.getfield 59, 3) := by decide +kernel
theorem dX11_dries_27 : decode cX11_dries 27 = .ok (.iload_n 1, 1) := by decide +kernel
theorem dX11_dries_28 : decode cX11_dries 28 = .ok (.iaload, 1) := by decide +kernel
theorem dX11_dries_29 : decode cX11_dries 29 = .ok (.invokestatic 126, 3) := by decide +kernel
theorem dX11_dries_32 : decode cX11_dries 32 = .ok (.iadd, 1) := by decide +kernel
theorem dX11_dries_33 : decode cX11_dries 33 = .ok (.iastore, 1) := by decide +kernel
theorem dX11_dries_34 : decode cX11_dries 34 = .ok (.aload_n 0, 1) := by decide +kernel
theorem dX11_dries_35 : decode cX11_dries 35 = .ok (.getfield 62, 3) := by decide +kernel
theorem dX11_dries_38 : decode cX11_dries 38 = .ok (.iload_n 1, 1) := by decide +kernel
theorem dX11_dries_39 : decode cX11_dries 39 = .ok (.iaload, 1) := by decide +kernel
theorem dX11_dries_40 : decode cX11_dries 40 = .ok (.bipush 60, 2) := by decide +kernel
theorem dX11_dries_42 : decode cX11_dries 42 = .ok (.if_icmp .lt 51, 3) := by decide +kernel
theorem dX11_dries_45 : decode cX11_dries 45 = .ok (.iconst 0, 1) := by decide +kernel
theorem dX11_dries_46 : decode cX11_dries 46 = .ok (.istore_n 2, 1) := by decide +kernel
theorem dX11_dries_47 : decode cX11_dries 47 = .ok (.iload_n 2, 1) := by decide +kernel
theorem dX11_dries_48 : decode cX11_dries 48 = .ok (.aload_n 0, 1) := by decide +kernel
theorem dX11_dries_49 : decode cX11_dries 49 = .ok (.getfield 65, 3) := by decide +kernel
theorem dX11_dries_52 : decode cX11_dries 52 = .ok (.iload_n 1, 1) := by decide +kernel
theorem dX11_dries_53 : decode cX11_dries 53 = .ok (.iaload, 1) := by decide +kernel
theorem dX11_dries_54 : decode cX11_dries 54 = .ok (.if_icmp .ge 25, 3) := by decide +kernel
theorem dX11_dries_57 : decode cX11_dries 57 = .ok (.aload_n 0, 1) := by decide +kernel
theorem dX11_dries_58 : decode cX11_dries 58 = .ok (.aload_n 0, 1) := by decide +kernel
theorem dX11_dries_59 : decode cX11_dries 59 = .ok (.getfield 68, 3) := by decide +kernel
theorem dX11_dries_62 : decode cX11_dries 62 = .ok (.sipush 200, 3) := by decide +kernel
theorem dX11_dries_65 : decode cX11_dries 65 = .ok (.iload_n 1, 1) := by decide +kernel
theorem dX11_dries_66 : decode cX11_dries 66 = .ok (.imul, 1) := by decide +kernel
theorem dX11_dries_67 : decode cX11_dries 67 = .ok (.iload_n 2, 1) := by decide +kernel
theorem dX11_dries_68 : decode cX11_dries 68 = .ok (.iadd, 1) := by decide +kernel
theorem dX11_dries_69 : decode cX11_dries 69 = .ok (.iaload, 1) := by decide +kernel
theorem dX11_dries_70 : decode cX11_dries 70 = .ok (.invokevirtual 153, 3) := by decide +kernel
theorem dX11_dries_73 : decode cX11_dries 73 = .ok (.iinc 2 1, 3) := by decide +kernel
theorem dX11_dries_76 : decode cX11_dries 76 = .ok (.goto (-29), 3) := by decide +kernel
theorem dX11_dries_79 : decode cX11_dries 79 = .ok (.aload_n 0, 1) := by decide +kernel
theorem dX11_dries_80 : decode cX11_dries 80 = .ok (.getfield 65, 3) := by decide +kernel
theorem dX11_dries_83 : decode cX11_dries 83 = .ok (.iload_n 1, 1) := by decide +kernel
theorem dX11_dries_84 : decode cX11_dries 84 = .ok (.iconst 0, 1) := by decide +kernel
theorem dX11_dries_85 : decode cX11_dries 85 = .ok (.iastore, 1) := by decide +kernel
theorem dX11_dries_86 : decode cX11_dries 86 = .ok (.aload_n 0, 1) := by decide +kernel
theorem dX11_dries_87 : decode cX11_dries 87 = .ok (.getfield 62, 3) := by decide +kernel
theorem dX11_dries_90 : decode cX11_dries 90 = .ok (.iload_n 1, 1) := by decide +kernel
theorem dX11_dries_91 : decode cX11_dries 91 = .ok (.iconst 0, 1) := by decide +kernel
theorem dX11_dries_92 : decode cX11_dries 92 = .ok (.iastore, 1) := by decide +kernel
theorem dX11_dries_93 : decode cX11_dries 93 = .ok (.return_, 1) := by decide +kernel
theorem dX11_spoils_0 : decode cX11_spoils 0 = .ok (.iconst 0, 1) := by decide +kernel
theorem dX11_spoils_1 : decode cX11_spoils 1 = .ok (.istore_n 1, 1) := by decide +kernel
theorem dX11_spoils_2 : decode cX11_spoils 2 = .ok (.iload_n 1, 1) := by decide +kernel
theorem dX11_spoils_3 : decode cX11_spoils 3 = .ok (.aload_n 0, 1) := by decide +kernel
theorem dX11_spoils_4 : decode cX11_spoils 4 = .ok (.getfield 92, 3) := by decide +kernel
theorem dX11_spoils_7 : decode cX11_spoils 7 = .ok (.aload_n 0, 1) := by decide +kernel
theorem dX11_spoils_8 : decode cX11_spoils 8 = .ok (.getfield 7, 3) := by decide +kernel
theorem dX11_spoils_11 : decode cX11_spoils 11 = .ok (.isub, 1) := by decide +kernel
theorem dX11_spoils_12 : decode cX11_spoils 12 = .ok (.if_icmp .gt 57, 3) := by decide +kernel
theorem dX11_spoils_15 : decode cX11_spoils 15 = .ok (.iconst 0, 1) := by decide +kernel
theorem dX11_spoils_16 : decode cX11_spoils 16 = .ok (.istore_n 2, 1) := by decide +kernel
theorem dX11_spoils_17 : decode cX11_spoils 17 = .ok (.iload_n 2, 1) := by decide +kernel
theorem dX11_spoils_18 : decode cX11_spoils 18 = .ok (.aload_n 0, 1) := by decide +kernel
theorem dX11_spoils_19 : decode cX11_spoils 19 = .ok (.getfield 95, 3) := by decide +kernel
theorem dX11_spoils_22 : decode cX11_spoils 22 = .ok (.if_icmp .ge 41, 3) := by decide +kernel
theorem dX11_spoils_25 : decode cX11_spoils 25 = .ok (.aload_n 0, 1) := by decide +kernel
theorem dX11_spoils_26 : decode cX11_spoils 26 = .ok (.getfield 26, 3) := by decide +kernel
theorem dX11_spoils_29 : decode cX11_spoils 29 = .ok (.iload_n 2, 1) := by decide +kernel
theorem dX11_spoils_30 : decode cX11_spoils 30 = .ok (.dup2, 1) := by decide +kernel
theorem dX11_spoils_31 : decode cX11_spoils 31 = .ok (.iaload, 1) := by decide +kernel
theorem dX11_spoils_32 : decode cX11_spoils 32 = .ok (.aload_n 0, 1) := by decide +kernel
theorem dX11_spoils_33 : decode cX11_spoils 33 = .ok (.getfield 50, 3) := by decide +kernel
theorem dX11_spoils_36 : decode cX11_spoils 36 = .ok (.bipush 6, 2) := by decide +kernel
theorem dX11_spoils_38 : decode cX11_spoils 38 = .ok (.iload_n 1, 1) := by decide +kernel
theorem dX11_spoils_39 : decode cX11_spoils 39 = .ok (.imul, 1) := by decide +kernel
theorem dX11_spoils_40 : decode cX11_spoils 40 = .ok (.iload_n 2, 1) := by decide +kernel
theorem dX11_spoils_41 : decode cX11_spoils 41 = .ok (.iadd, 1) := by decide +kernel
theorem dX11_spoils_42 : decode cX11_spoils 42 = .ok (.iaload, 1) := by decide +kernel
theorem dX11_spoils_43 : decode cX11_spoils 43 = .ok (.iadd, 1) := by decide +kernel
theorem dX11_spoils_44 : decode cX11_spoils 44 = .ok (.iastore, 1) := by decide +kernel
theorem dX11_spoils_45 : decode cX11_spoils 45 = .ok (.aload_n 0, 1) := by decide +kernel
theorem dX11_spoils_46 : decode cX11_spoils 46 = .ok (.getfield 50, 3) := by decide +kernel
theorem dX11_spoils_49 : decode cX11_spoils 49 = .ok (.bipush 6, 2) := by decide +kernel
theorem dX11_spoils_51 : decode cX11_spoils 51 = .ok (.iload_n 1, 1) := by decide +kernel
theorem dX11_spoils_52 : decode cX11_spoils 52 = .ok (.imul, 1) := by decide +kernel
theorem dX11_spoils_53 : decode cX11_spoils 53 = .ok (.iload_n 2, 1) := by decide +kernel
theorem dX11_spoils_54 : decode cX11_spoils 54 = .ok (.iadd, 1) := by decide +kernel
theorem dX11_spoils_55 : decode cX11_spoils 55 = .ok (.iconst 0, 1) := by decide +kernel
theorem dX11_spoils_56 : decode cX11_spoils 56 = .ok (.iastore, 1) := by decide +kernel
end
section
theorem dX11_spoils_57 : decode cX11_spoils 57 = .ok (.iinc 2 1, 3) := by decide +kernel
theorem dX11_spoils_60 : decode cX11_spoils 60 = .ok (.goto (-43), 3) := by decide +kernel
theorem dX11_spoils_63 : decode cX11_spoils 63 = .ok (.iinc 1 1, 3) := by decide +kernel
theorem dX11_spoils_66 : decode cX11_spoils 66 = .ok (.goto (-64), 3) := by decide +kernel
theorem dX11_spoils_69 : decode cX11_spoils 69 = .ok (.return_, 1) := by decide +kernel
theorem dX11_takes_0 : decode cX11_takes 0 = .ok (.aload_n 0, 1) := by decide +kernel
theorem dX11_takes_1 : decode cX11_takes 1 = .ok (.getfield 65, 3) := by decide +kernel
theorem dX11_takes_4 : decode cX11_takes 4 = .ok (.iload_n 1, 1) := by decide +kernel
theorem dX11_takes_5 : decode cX11_takes 5 = .ok (.iaload, 1) := by decide +kernel
theorem dX11_takes_6 : decode cX11_takes 6 = .ok (.ifCond .le 4, 3) := by decide +kernel
theorem dX11_takes_9 : decode cX11_takes 9 = .ok (.return_, 1) := by decide +kernel
theorem dX11_takes_10 : decode cX11_takes 10 = .ok (.aload_n 0, 1) := by decide +kernel
theorem dX11_takes_11 : decode cX11_takes 11 = .ok (.getfield 62, 3) := by decide +kernel
theorem dX11_takes_14 : decode cX11_takes 14 = .ok (.iload_n 1, 1) := by decide +kernel
theorem dX11_takes_15 : decode cX11_takes 15 = .ok (.iconst 0, 1) := by decide +kernel
theorem dX11_takes_16 : decode cX11_takes 16 = .ok (.iastore, 1) := by decide +kernel
theorem dX11_takes_17 : decode cX11_takes 17 = .ok (.aload_n 0, 1) := by decide +kernel
theorem dX11_takes_18 : decode cX11_takes 18 = .ok (.getfield 92, 3) := by decide +kernel
theorem dX11_takes_21 : decode cX11_takes 21 = .ok (.bipush 24, 2) := by decide +kernel
theorem dX11_takes_23 : decode cX11_takes 23 = .ok (.if_icmp .le 13, 3) := by decide +kernel
theorem dX11_takes_26 : decode cX11_takes 26 = .ok (.aload_n 0, 1) := by decide +kernel
theorem dX11_takes_27 : decode cX11_takes 27 = .ok (.getfield 92, 3) := by decide +kernel
theorem dX11_takes_30 : decode cX11_takes 30 = .ok (.bipush 24, 2) := by decide +kernel
theorem dX11_takes_32 : decode cX11_takes 32 = .ok (.isub, 1) := by decide +kernel
theorem dX11_takes_33 : decode cX11_takes 33 = .ok (.goto 4, 3) := by decide +kernel
theorem dX11_takes_36 : decode cX11_takes 36 = .ok (.iconst 0, 1) := by decide +kernel
theorem dX11_takes_37 : decode cX11_takes 37 = .ok (.istore_n 2, 1) := by decide +kernel
theorem dX11_takes_38 : decode cX11_takes 38 = .ok (.bipush 6, 2) := by decide +kernel
theorem dX11_takes_40 : decode cX11_takes 40 = .ok (.iload_n 2, 1) := by decide +kernel
theorem dX11_takes_41 : decode cX11_takes 41 = .ok (.imul, 1) := by decide +kernel
theorem dX11_takes_42 : decode cX11_takes 42 = .ok (.istore_n 3, 1) := by decide +kernel
theorem dX11_takes_43 : decode cX11_takes 43 = .ok (.iload_n 3, 1) := by decide +kernel
theorem dX11_takes_44 : decode cX11_takes 44 = .ok (.bipush 6, 2) := by decide +kernel
theorem dX11_takes_46 : decode cX11_takes 46 = .ok (.aload_n 0, 1) := by decide +kernel
theorem dX11_takes_47 : decode cX11_takes 47 = .ok (.getfield 92, 3) := by decide +kernel
theorem dX11_takes_50 : decode cX11_takes 50 = .ok (.imul, 1) := by decide +kernel
theorem dX11_takes_51 : decode cX11_takes 51 = .ok (.bipush 6, 2) := by decide +kernel
theorem dX11_takes_53 : decode cX11_takes 53 = .ok (.iadd, 1) := by decide +kernel
theorem dX11_takes_54 : decode cX11_takes 54 = .ok (.if_icmp .ge 77, 3) := by decide +kernel
theorem dX11_takes_57 : decode cX11_takes 57 = .ok (.aload_n 0, 1) := by decide +kernel
theorem dX11_takes_58 : decode cX11_takes 58 = .ok (.getfield 50, 3) := by decide +kernel
theorem dX11_takes_61 : decode cX11_takes 61 = .ok (.iload_n 3, 1) := by decide +kernel
theorem dX11_takes_62 : decode cX11_takes 62 = .ok (.iaload, 1) := by decide +kernel
theorem dX11_takes_63 : decode cX11_takes 63 = .ok (.ifCond .le 62, 3) := by decide +kernel
theorem dX11_takes_66 : decode cX11_takes 66 = .ok (.aload_n 0, 1) := by decide +kernel
theorem dX11_takes_67 : decode cX11_takes 67 = .ok (.getfield 65, 3) := by decide +kernel
theorem dX11_takes_70 : decode cX11_takes 70 = .ok (.iload_n 1, 1) := by decide +kernel
theorem dX11_takes_71 : decode cX11_takes 71 = .ok (.iaload, 1) := by decide +kernel
theorem dX11_takes_72 : decode cX11_takes 72 = .ok (.aload_n 0, 1) := by decide +kernel
theorem dX11_takes_73 : decode cX11_takes 73 = .ok (.getfield 56, 3) := by decide +kernel
theorem dX11_takes_76 : decode cX11_takes 76 = .ok (.iload_n 1, 1) := by decide +kernel
theorem dX11_takes_77 : decode cX11_takes 77 = .ok (.iaload, 1) := by decide +kernel
theorem dX11_takes_78 : decode cX11_takes 78 = .ok (.if_icmp .ge 47, 3) := by decide +kernel
theorem dX11_takes_81 : decode cX11_takes 81 = .ok (.aload_n 0, 1) := by decide +kernel
theorem dX11_takes_82 : decode cX11_takes 82 = .ok (.getfield 50, 3) := by decide +kernel
theorem dX11_takes_85 : decode cX11_takes 85 = .ok (.iload_n 3, 1) := by decide +kernel
theorem dX11_takes_86 : decode cX11_takes 86 = .ok (.dup2, 1) := by decide +kernel
theorem dX11_takes_87 : decode cX11_takes 87 = .ok (.iaload, 1) := by decide +kernel
theorem dX11_takes_88 : decode cX11_takes 88 = .ok (.iconst 1, 1) := by decide +kernel
theorem dX11_takes_89 : decode cX11_takes 89 = .ok (.isub, 1) := by decide +kernel
theorem dX11_takes_90 : decode cX11_takes 90 = .ok (.iastore, 1) := by decide +kernel
theorem dX11_takes_91 : decode cX11_takes 91 = .ok (.aload_n 0, 1) := by decide +kernel
theorem dX11_takes_92 : decode cX11_takes 92 = .ok (.getfield 68, 3) := by decide +kernel
theorem dX11_takes_95 : decode cX11_takes 95 = .ok (.sipush 200, 3) := by decide +kernel
theorem dX11_takes_98 : decode cX11_takes 98 = .ok (.iload_n 1, 1) := by decide +kernel
theorem dX11_takes_99 : decode cX11_takes 99 = .ok (.imul, 1) := by decide +kernel
theorem dX11_takes_100 : decode cX11_takes 100 = .ok (.aload_n 0, 1) := by decide +kernel
theorem dX11_takes_101 : decode cX11_takes 101 = .ok (.getfield 65, 3) := by decide +kernel
theorem dX11_takes_104 : decode cX11_takes 104 = .ok (.iload_n 1, 1) := by decide +kernel
theorem dX11_takes_105 : decode cX11_takes 105 = .ok (.iaload, 1) := by decide +kernel
theorem dX11_takes_106 : decode cX11_takes 106 = .ok (.iadd, 1) := by decide +kernel
theorem dX11_takes_107 : decode cX11_takes 107 = .ok (.iload_n 3, 1) := by decide +kernel
theorem dX11_takes_108 : decode cX11_takes 108 = .ok (.bipush 6, 2) := by decide +kernel
theorem dX11_takes_110 : decode cX11_takes 110 = .ok (.irem, 1) := by decide +kernel
theorem dX11_takes_111 : decode cX11_takes 111 = .ok (.iastore, 1) := by decide +kernel
theorem dX11_takes_112 : decode cX11_takes 112 = .ok (.aload_n 0, 1) := by decide +kernel
theorem dX11_takes_113 : decode cX11_takes 113 = .ok (.getfield 65, 3) := by decide +kernel
theorem dX11_takes_116 : decode cX11_takes 116 = .ok (.iload_n 1, 1) := by decide +kernel
theorem dX11_takes_117 : decode cX11_takes 117 = .ok (.dup2, 1) := by decide +kernel
theorem dX11_takes_118 : decode cX11_takes 118 = .ok (.iaload, 1) := by decide +kernel
theorem dX11_takes_119 : decode cX11_takes 119 = .ok (.iconst 1, 1) := by decide +kernel
theorem dX11_takes_120 : decode cX11_takes 120 = .ok (.iadd, 1) := by decide +kernel
theorem dX11_takes_121 : decode cX11_takes 121 = .ok (.iastore, 1) := by decide +kernel
theorem dX11_takes_122 : decode cX11_takes 122 = .ok (.goto (-65), 3) := by decide +kernel
theorem dX11_takes_125 : decode cX11_takes 125 = .ok (.iinc 3 1, 3) := by decide +kernel
theorem dX11_takes_128 : decode cX11_takes 128 = .ok (.goto (-85), 3) := by decide +kernel
theorem dX11_takes_131 : decode cX11_takes 131 = .ok (.return_, 1) := by decide +kernel
theorem dX11_oneHour_0 : decode cX11_oneHour 0 = .ok (.iconst 0, 1) := by decide +kernel
theorem dX11_oneHour_1 : decode cX11_oneHour 1 = .ok (.istore_n 1, 1) := by decide +kernel
theorem dX11_oneHour_2 : decode cX11_oneHour 2 = .ok (.iload_n 1, 1) := by decide +kernel
theorem dX11_oneHour_3 : decode cX11_oneHour 3 = .ok (.aload_n 0, 1) := by decide +kernel
theorem dX11_oneHour_4 : decode cX11_oneHour 4 = .ok (.getfield 102, 3) := by decide +kernel
theorem dX11_oneHour_7 : decode cX11_oneHour 7 = .ok (.if_icmp .ge 14, 3) := by decide +kernel
theorem dX11_oneHour_10 : decode cX11_oneHour 10 = .ok (.aload_n 0, 1) := by decide +kernel
theorem dX11_oneHour_11 : decode cX11_oneHour 11 = .ok (.iload_n 1, 1) := by decide +kernel
theorem dX11_oneHour_12 : decode cX11_oneHour 12 = .ok (.invokevirtual 157, 3) := by decide +kernel
theorem dX11_oneHour_15 : decode cX11_oneHour 15 = .ok (.iinc 1 1, 3) := by decide +kernel
theorem dX11_oneHour_18 : decode cX11_oneHour 18 = .ok (.goto (-16), 3) := by decide +kernel
theorem dX11_oneHour_21 : decode cX11_oneHour 21 = .ok (.iconst 0, 1) := by decide +kernel
theorem dX11_oneHour_22 : decode cX11_oneHour 22 = .ok (.istore_n 1, 1) := by decide +kernel
theorem dX11_oneHour_23 : decode cX11_oneHour 23 = .ok (.iload_n 1, 1) := by decide +kernel
theorem dX11_oneHour_24 : decode cX11_oneHour 24 = .ok (.aload_n 0, 1) := by decide +kernel
theorem dX11_oneHour_25 : decode cX11_oneHour 25 = .ok (.getfield 105, 3) := by decide +kernel
theorem dX11_oneHour_28 : decode cX11_oneHour 28 = .ok (.if_icmp .ge 14, 3) := by decide +kernel
theorem dX11_oneHour_31 : decode cX11_oneHour 31 = .ok (.aload_n 0, 1) := by decide +kernel
theorem dX11_oneHour_32 : decode cX11_oneHour 32 = .ok (.iload_n 1, 1) := by decide +kernel
theorem dX11_oneHour_33 : decode cX11_oneHour 33 = .ok (.invokevirtual 160, 3) := by decide +kernel
theorem dX11_oneHour_36 : decode cX11_oneHour 36 = .ok (.iinc 1 1, 3) := by decide +kernel
theorem dX11_oneHour_39 : decode cX11_oneHour 39 = .ok (.goto (-16), 3) := by decide +kernel
theorem dX11_oneHour_42 : decode cX11_oneHour 42 = .ok (.aload_n 0, 1) := by decide +kernel
theorem dX11_oneHour_43 : decode cX11_oneHour 43 = .ok (.invokevirtual 163, 3) := by decide +kernel
theorem dX11_oneHour_46 : decode cX11_oneHour 46 = .ok (.iconst 0, 1) := by decide +kernel
theorem dX11_oneHour_47 : decode cX11_oneHour 47 = .ok (.istore_n 1, 1) := by decide +kernel
theorem dX11_oneHour_48 : decode cX11_oneHour 48 = .ok (.iload_n 1, 1) := by decide +kernel
theorem dX11_oneHour_49 : decode cX11_oneHour 49 = .ok (.aload_n 0, 1) := by decide +kernel
theorem dX11_oneHour_50 : decode cX11_oneHour 50 = .ok (.getfield 105, 3) := by decide +kernel
theorem dX11_oneHour_53 : decode cX11_oneHour 53 = .ok (.if_icmp .ge 14, 3) := by decide +kernel
theorem dX11_oneHour_56 : decode cX11_oneHour 56 = .ok (.aload_n 0, 1) := by decide +kernel
theorem dX11_oneHour_57 : decode cX11_oneHour 57 = .ok (.iload_n 1, 1) := by decide +kernel
theorem dX11_oneHour_58 : decode cX11_oneHour 58 = .ok (.invokevirtual 166, 3) := by decide +kernel
theorem dX11_oneHour_61 : decode cX11_oneHour 61 = .ok (.iinc 1 1, 3) := by decide +kernel
theorem dX11_oneHour_64 : decode cX11_oneHour 64 = .ok (.goto (-16), 3) := by decide +kernel
theorem dX11_oneHour_67 : decode cX11_oneHour 67 = .ok (.aload_n 0, 1) := by decide +kernel
theorem dX11_oneHour_68 : decode cX11_oneHour 68 = .ok (.dup, 1) := by decide +kernel
theorem dX11_oneHour_69 : decode cX11_oneHour 69 = .ok (.getfield 92, 3) := by decide +kernel
theorem dX11_oneHour_72 : decode cX11_oneHour 72 = .ok (.iconst 1, 1) := by decide +kernel
theorem dX11_oneHour_73 : decode cX11_oneHour 73 = .ok (.iadd, 1) := by decide +kernel
theorem dX11_oneHour_74 : decode cX11_oneHour 74 = .ok (.putfield 92, 3) := by decide +kernel
theorem dX11_oneHour_77 : decode cX11_oneHour 77 = .ok (.return_, 1) := by decide +kernel
theorem dX11_hours_0 : decode cX11_hours 0 = .ok (.iload_n 1, 1) := by decide +kernel
theorem dX11_hours_1 : decode cX11_hours 1 = .ok (.iconst 1, 1) := by decide +kernel
theorem dX11_hours_2 : decode cX11_hours 2 = .ok (.bipush 24, 2) := by decide +kernel
theorem dX11_hours_4 : decode cX11_hours 4 = .ok (.invokestatic 98, 3) := by decide +kernel
theorem dX11_hours_7 : decode cX11_hours 7 = .ok (.ifCond .ne 5, 3) := by decide +kernel
theorem dX11_hours_10 : decode cX11_hours 10 = .ok (.iconst (-1), 1) := by decide +kernel
theorem dX11_hours_11 : decode cX11_hours 11 = .ok (.ireturn, 1) := by decide +kernel
theorem dX11_hours_12 : decode cX11_hours 12 = .ok (.aload_n 0, 1) := by decide +kernel
theorem dX11_hours_13 : decode cX11_hours 13 = .ok (.getfield 92, 3) := by decide +kernel
theorem dX11_hours_16 : decode cX11_hours 16 = .ok (.iload_n 1, 1) := by decide +kernel
theorem dX11_hours_17 : decode cX11_hours 17 = .ok (.iadd, 1) := by decide +kernel
theorem dX11_hours_18 : decode cX11_hours 18 = .ok (.sipush 480, 3) := by decide +kernel
theorem dX11_hours_21 : decode cX11_hours 21 = .ok (.if_icmp .le 6, 3) := by decide +kernel
theorem dX11_hours_24 : decode cX11_hours 24 = .ok (.bipush (-2), 2) := by decide +kernel
theorem dX11_hours_26 : decode cX11_hours 26 = .ok (.ireturn, 1) := by decide +kernel
theorem dX11_hours_27 : decode cX11_hours 27 = .ok (.iconst 0, 1) := by decide +kernel
theorem dX11_hours_28 : decode cX11_hours 28 = .ok (.istore_n 2, 1) := by decide +kernel
theorem dX11_hours_29 : decode cX11_hours 29 = .ok (.iload_n 2, 1) := by decide +kernel
theorem dX11_hours_30 : decode cX11_hours 30 = .ok (.iload_n 1, 1) := by decide +kernel
theorem dX11_hours_31 : decode cX11_hours 31 = .ok (.if_icmp .ge 13, 3) := by decide +kernel
theorem dX11_hours_34 : decode cX11_hours 34 = .ok (.aload_n 0, 1) := by decide +kernel
theorem dX11_hours_35 : decode cX11_hours 35 = .ok (.invokevirtual 169, 3) := by decide +kernel
theorem dX11_hours_38 : decode cX11_hours 38 = .ok (.iinc 2 1, 3) := by decide +kernel
theorem dX11_hours_41 : decode cX11_hours 41 = .ok (.goto (-12), 3) := by decide +kernel
theorem dX11_hours_44 : decode cX11_hours 44 = .ok (.aload_n 0, 1) := by decide +kernel
theorem dX11_hours_45 : decode cX11_hours 45 = .ok (.getfield 92, 3) := by decide +kernel
theorem dX11_hours_48 : decode cX11_hours 48 = .ok (.ireturn, 1) := by decide +kernel
theorem dX11_greenOf_0 : decode cX11_greenOf 0 = .ok (.iconst 0, 1) := by decide +kernel
theorem dX11_greenOf_1 : decode cX11_greenOf 1 = .ok (.istore_n 2, 1) := by decide +kernel
theorem dX11_greenOf_2 : decode cX11_greenOf 2 = .ok (.iconst 0, 1) := by decide +kernel
theorem dX11_greenOf_3 : decode cX11_greenOf 3 = .ok (.istore_n 3, 1) := by decide +kernel
theorem dX11_greenOf_4 : decode cX11_greenOf 4 = .ok (.iload_n 3, 1) := by decide +kernel
theorem dX11_greenOf_5 : decode cX11_greenOf 5 = .ok (.aload_n 0, 1) := by decide +kernel
theorem dX11_greenOf_6 : decode cX11_greenOf 6 = .ok (.getfield 92, 3) := by decide +kernel
theorem dX11_greenOf_9 : decode cX11_greenOf 9 = .ok (.if_icmp .ge 23, 3) := by decide +kernel
theorem dX11_greenOf_12 : decode cX11_greenOf 12 = .ok (.iload_n 2, 1) := by decide +kernel
theorem dX11_greenOf_13 : decode cX11_greenOf 13 = .ok (.aload_n 0, 1) := by decide +kernel
theorem dX11_greenOf_14 : decode cX11_greenOf 14 = .ok (.getfield 50, 3) := by decide +kernel
theorem dX11_greenOf_17 : decode cX11_greenOf 17 = .ok (.bipush 6, 2) := by decide +kernel
theorem dX11_greenOf_19 : decode cX11_greenOf 19 = .ok (.iload_n 3, 1) := by decide +kernel
theorem dX11_greenOf_20 : decode cX11_greenOf 20 = .ok (.imul, 1) := by decide +kernel
theorem dX11_greenOf_21 : decode cX11_greenOf 21 = .ok (.iload_n 1, 1) := by decide +kernel
theorem dX11_greenOf_22 : decode cX11_greenOf 22 = .ok (.iadd, 1) := by decide +kernel
theorem dX11_greenOf_23 : decode cX11_greenOf 23 = .ok (.iaload, 1) := by decide +kernel
theorem dX11_greenOf_24 : decode cX11_greenOf 24 = .ok (.iadd, 1) := by decide +kernel
theorem dX11_greenOf_25 : decode cX11_greenOf 25 = .ok (.istore_n 2, 1) := by decide +kernel
theorem dX11_greenOf_26 : decode cX11_greenOf 26 = .ok (.iinc 3 1, 3) := by decide +kernel
theorem dX11_greenOf_29 : decode cX11_greenOf 29 = .ok (.goto (-25), 3) := by decide +kernel
theorem dX11_greenOf_32 : decode cX11_greenOf 32 = .ok (.iload_n 2, 1) := by decide +kernel
theorem dX11_greenOf_33 : decode cX11_greenOf 33 = .ok (.ireturn, 1) := by decide +kernel
theorem dX11_inKilns_0 : decode cX11_inKilns 0 = .ok (.iconst 0, 1) := by decide +kernel
theorem dX11_inKilns_1 : decode cX11_inKilns 1 = .ok (.istore_n 2, 1) := by decide +kernel
theorem dX11_inKilns_2 : decode cX11_inKilns 2 = .ok (.iconst 0, 1) := by decide +kernel
theorem dX11_inKilns_3 : decode cX11_inKilns 3 = .ok (.istore_n 3, 1) := by decide +kernel
theorem dX11_inKilns_4 : decode cX11_inKilns 4 = .ok (.iload_n 3, 1) := by decide +kernel
theorem dX11_inKilns_5 : decode cX11_inKilns 5 = .ok (.aload_n 0, 1) := by decide +kernel
theorem dX11_inKilns_6 : decode cX11_inKilns 6 = .ok (.getfield 105, 3) := by decide +kernel
theorem dX11_inKilns_9 : decode cX11_inKilns 9 = .ok (.if_icmp .ge 54, 3) := by decide +kernel
theorem dX11_inKilns_12 : decode cX11_inKilns 12 = .ok (.iconst 0, 1) := by decide +kernel
theorem dX11_inKilns_13 : decode cX11_inKilns 13 = .ok (.istore 4, 2) := by decide +kernel
theorem dX11_inKilns_15 : decode cX11_inKilns 15 = .ok (.iload 4, 2) := by decide +kernel
theorem dX11_inKilns_17 : decode cX11_inKilns 17 = .ok (.aload_n 0, 1) := by decide +kernel
theorem dX11_inKilns_18 : decode cX11_inKilns 18 = .ok (.getfield 65, 3) := by decide +kernel
theorem dX11_inKilns_21 : decode cX11_inKilns 21 = .ok (.iload_n 3, 1) := by decide +kernel
theorem dX11_inKilns_22 : decode cX11_inKilns 22 = .ok (.iaload, 1) := by decide +kernel
theorem dX11_inKilns_23 : decode cX11_inKilns 23 = .ok (.if_icmp .ge 34, 3) := by decide +kernel
theorem dX11_inKilns_26 : decode cX11_inKilns 26 = .ok (.iload_n 2, 1) := by decide +kernel
theorem dX11_inKilns_27 : decode cX11_inKilns 27 = .ok (.aload_n 0, 1) := by decide +kernel
theorem dX11_inKilns_28 : decode cX11_inKilns 28 = .ok (.getfield 68, 3) := by decide +kernel
theorem dX11_inKilns_31 : decode cX11_inKilns 31 = .ok (.sipush 200, 3) := by decide +kernel
theorem dX11_inKilns_34 : decode cX11_inKilns 34 = .ok (.iload_n 3, 1) := by decide +kernel
theorem dX11_inKilns_35 : decode cX11_inKilns 35 = .ok (.imul, 1) := by decide +kernel
theorem dX11_inKilns_36 : decode cX11_inKilns 36 = .ok (.iload 4, 2) := by decide +kernel
theorem dX11_inKilns_38 : decode cX11_inKilns 38 = .ok (.iadd, 1) := by decide +kernel
theorem dX11_inKilns_39 : decode cX11_inKilns 39 = .ok (.iaload, 1) := by decide +kernel
theorem dX11_inKilns_40 : decode cX11_inKilns 40 = .ok (.iload_n 1, 1) := by decide +kernel
theorem dX11_inKilns_41 : decode cX11_inKilns 41 = .ok (.if_icmp .ne 7, 3) := by decide +kernel
theorem dX11_inKilns_44 : decode cX11_inKilns 44 = .ok (.iconst 1, 1) := by decide +kernel
theorem dX11_inKilns_45 : decode cX11_inKilns 45 = .ok (.goto 4, 3) := by decide +kernel
theorem dX11_inKilns_48 : decode cX11_inKilns 48 = .ok (.iconst 0, 1) := by decide +kernel
theorem dX11_inKilns_49 : decode cX11_inKilns 49 = .ok (.iadd, 1) := by decide +kernel
theorem dX11_inKilns_50 : decode cX11_inKilns 50 = .ok (.istore_n 2, 1) := by decide +kernel
theorem dX11_inKilns_51 : decode cX11_inKilns 51 = .ok (.iinc 4 1, 3) := by decide +kernel
theorem dX11_inKilns_54 : decode cX11_inKilns 54 = .ok (.goto (-39), 3) := by decide +kernel
theorem dX11_inKilns_57 : decode cX11_inKilns 57 = .ok (.iinc 3 1, 3) := by decide +kernel
theorem dX11_inKilns_60 : decode cX11_inKilns 60 = .ok (.goto (-56), 3) := by decide +kernel
theorem dX11_inKilns_63 : decode cX11_inKilns 63 = .ok (.iload_n 2, 1) := by decide +kernel
theorem dX11_inKilns_64 : decode cX11_inKilns 64 = .ok (.ireturn, 1) := by decide +kernel
theorem dX11_about_0 : decode cX11_about 0 = .ok (.aload_n 0, 1) := by decide +kernel
theorem dX11_about_1 : decode cX11_about 1 = .ok (.iload_n 1, 1) := by decide +kernel
theorem dX11_about_2 : decode cX11_about 2 = .ok (.invokevirtual 112, 3) := by decide +kernel
theorem dX11_about_5 : decode cX11_about 5 = .ok (.ifCond .ne 5, 3) := by decide +kernel
theorem dX11_about_8 : decode cX11_about 8 = .ok (.iconst (-1), 1) := by decide +kernel
theorem dX11_about_9 : decode cX11_about 9 = .ok (.ireturn, 1) := by decide +kernel
theorem dX11_about_10 : decode cX11_about 10 = .ok (.iload_n 2, 1) := by decide +kernel
theorem dX11_about_11 : decode cX11_about 11 = .ok (.tableswitch 77 0 5 #[37, 44, 51, 57, 63, 70], 37) := by decide +kernel
theorem dX11_about_48 : decode cX11_about 48 = .ok (.aload_n 0, 1) := by decide +kernel
theorem dX11_about_49 : decode cX11_about 49 = .ok (.getfield 13, 3) := by decide +kernel
theorem dX11_about_52 : decode cX11_about 52 = .ok (.iload_n 1, 1) := by decide +kernel
theorem dX11_about_53 : decode cX11_about 53 = .ok (.iaload, 1) := by decide +kernel
theorem dX11_about_54 : decode cX11_about 54 = .ok (.ireturn, 1) := by decide +kernel
theorem dX11_about_55 : decode cX11_about 55 = .ok (.aload_n 0, 1) := by decide +kernel
theorem dX11_about_56 : decode cX11_about 56 = .ok (.getfield 23, 3) := by decide +kernel
theorem dX11_about_59 : decode cX11_about 59 = .ok (.iload_n 1, 1) := by decide +kernel
theorem dX11_about_60 : decode cX11_about 60 = .ok (.iaload, 1) := by decide +kernel
theorem dX11_about_61 : decode cX11_about 61 = .ok (.ireturn, 1) := by decide +kernel
theorem dX11_about_62 : decode cX11_about 62 = .ok (.aload_n 0, 1) := by decide +kernel
theorem dX11_about_63 : decode cX11_about 63 = .ok (.iload_n 1, 1) := by decide +kernel
theorem dX11_about_64 : decode cX11_about 64 = .ok (.invokevirtual 172, 3) := by decide +kernel
theorem dX11_about_67 : decode cX11_about 67 = .ok (.ireturn, 1) := by decide +kernel
theorem dX11_about_68 : decode cX11_about 68 = .ok (.aload_n 0, 1) := by decide +kernel
theorem dX11_about_69 : decode cX11_about 69 = .ok (.iload_n 1, 1) := by decide +kernel
theorem dX11_about_70 : decode cX11_about 70 = .ok (.invokevirtual 175, 3) := by decide +kernel
theorem dX11_about_73 : decode cX11_about 73 = .ok (.ireturn, 1) := by decide +kernel
theorem dX11_about_74 : decode cX11_about 74 = .ok (.aload_n 0, 1) := by decide +kernel
theorem dX11_about_75 : decode cX11_about 75 = .ok (.getfield 26, 3) := by decide +kernel
theorem dX11_about_78 : decode cX11_about 78 = .ok (.iload_n 1, 1) := by decide +kernel
theorem dX11_about_79 : decode cX11_about 79 = .ok (.iaload, 1) := by decide +kernel
theorem dX11_about_80 : decode cX11_about 80 = .ok (.ireturn, 1) := by decide +kernel
theorem dX11_about_81 : decode cX11_about 81 = .ok (.aload_n 0, 1) := by decide +kernel
theorem dX11_about_82 : decode cX11_about 82 = .ok (.getfield 29, 3) := by decide +kernel
theorem dX11_about_85 : decode cX11_about 85 = .ok (.iload_n 1, 1) := by decide +kernel
theorem dX11_about_86 : decode cX11_about 86 = .ok (.iaload, 1) := by decide +kernel
theorem dX11_about_87 : decode cX11_about 87 = .ok (.ireturn, 1) := by decide +kernel
theorem dX11_about_88 : decode cX11_about 88 = .ok (.iconst (-1), 1) := by decide +kernel
theorem dX11_about_89 : decode cX11_about 89 = .ok (.ireturn, 1) := by decide +kernel
theorem dX11_tally_0 : decode cX11_tally 0 = .ok (.aload_n 0, 1) := by decide +kernel
theorem dX11_tally_1 : decode cX11_tally 1 = .ok (.iload_n 1, 1) := by decide +kernel
theorem dX11_tally_2 : decode cX11_tally 2 = .ok (.invokevirtual 108, 3) := by decide +kernel
theorem dX11_tally_5 : decode cX11_tally 5 = .ok (.ifCond .ne 6, 3) := by decide +kernel
theorem dX11_tally_8 : decode cX11_tally 8 = .ok (.bipush (-2), 2) := by decide +kernel
theorem dX11_tally_10 : decode cX11_tally 10 = .ok (.ireturn, 1) := by decide +kernel
theorem dX11_tally_11 : decode cX11_tally 11 = .ok (.iload_n 2, 1) := by decide +kernel
theorem dX11_tally_12 : decode cX11_tally 12 = .ok (.tableswitch 60 0 3 #[32, 39, 46, 53], 32) := by decide +kernel
theorem dX11_tally_44 : decode cX11_tally 44 = .ok (.aload_n 0, 1) := by decide +kernel
theorem dX11_tally_45 : decode cX11_tally 45 = .ok (.getfield 41, 3) := by decide +kernel
theorem dX11_tally_48 : decode cX11_tally 48 = .ok (.iload_n 1, 1) := by decide +kernel
theorem dX11_tally_49 : decode cX11_tally 49 = .ok (.iaload, 1) := by decide +kernel
theorem dX11_tally_50 : decode cX11_tally 50 = .ok (.ireturn, 1) := by decide +kernel
theorem dX11_tally_51 : decode cX11_tally 51 = .ok (.aload_n 0, 1) := by decide +kernel
theorem dX11_tally_52 : decode cX11_tally 52 = .ok (.getfield 44, 3) := by decide +kernel
theorem dX11_tally_55 : decode cX11_tally 55 = .ok (.iload_n 1, 1) := by decide +kernel
theorem dX11_tally_56 : decode cX11_tally 56 = .ok (.iaload, 1) := by decide +kernel
theorem dX11_tally_57 : decode cX11_tally 57 = .ok (.ireturn, 1) := by decide +kernel
theorem dX11_tally_58 : decode cX11_tally 58 = .ok (.aload_n 0, 1) := by decide +kernel
theorem dX11_tally_59 : decode cX11_tally 59 = .ok (.getfield 47, 3) := by decide +kernel
theorem dX11_tally_62 : decode cX11_tally 62 = .ok (.iload_n 1, 1) := by decide +kernel
theorem dX11_tally_63 : decode cX11_tally 63 = .ok (.iaload, 1) := by decide +kernel
theorem dX11_tally_64 : decode cX11_tally 64 = .ok (.ireturn, 1) := by decide +kernel
theorem dX11_tally_65 : decode cX11_tally 65 = .ok (.aload_n 0, 1) := by decide +kernel
theorem dX11_tally_66 : decode cX11_tally 66 = .ok (.getfield 38, 3) := by decide +kernel
theorem dX11_tally_69 : decode cX11_tally 69 = .ok (.iload_n 1, 1) := by decide +kernel
theorem dX11_tally_70 : decode cX11_tally 70 = .ok (.iaload, 1) := by decide +kernel
theorem dX11_tally_71 : decode cX11_tally 71 = .ok (.ireturn, 1) := by decide +kernel
theorem dX11_tally_72 : decode cX11_tally 72 = .ok (.bipush (-2), 2) := by decide +kernel
theorem dX11_tally_74 : decode cX11_tally 74 = .ok (.ireturn, 1) := by decide +kernel
theorem dX11_in_0 : decode cX11_in 0 = .ok (.aload_n 0, 1) := by decide +kernel
theorem dX11_in_1 : decode cX11_in 1 = .ok (.iload_n 1, 1) := by decide +kernel
theorem dX11_in_2 : decode cX11_in 2 = .ok (.invokevirtual 115, 3) := by decide +kernel
theorem dX11_in_5 : decode cX11_in 5 = .ok (.ifCond .ne 5, 3) := by decide +kernel
theorem dX11_in_8 : decode cX11_in 8 = .ok (.iconst (-1), 1) := by decide +kernel
theorem dX11_in_9 : decode cX11_in 9 = .ok (.ireturn, 1) := by decide +kernel
theorem dX11_in_10 : decode cX11_in 10 = .ok (.iconst 0, 1) := by decide +kernel
theorem dX11_in_11 : decode cX11_in 11 = .ok (.istore_n 3, 1) := by decide +kernel
theorem dX11_in_12 : decode cX11_in 12 = .ok (.iload_n 2, 1) := by decide +kernel
theorem dX11_in_13 : decode cX11_in 13 = .ok (.tableswitch 92 0 3 #[31, 38, 45, 52], 31) := by decide +kernel
theorem dX11_in_44 : decode cX11_in 44 = .ok (.aload_n 0, 1) := by decide +kernel
theorem dX11_in_45 : decode cX11_in 45 = .ok (.getfield 65, 3) := by decide +kernel
theorem dX11_in_48 : decode cX11_in 48 = .ok (.iload_n 1, 1) := by decide +kernel
theorem dX11_in_49 : decode cX11_in 49 = .ok (.iaload, 1) := by decide +kernel
theorem dX11_in_50 : decode cX11_in 50 = .ok (.ireturn, 1) := by decide +kernel
theorem dX11_in_51 : decode cX11_in 51 = .ok (.aload_n 0, 1) := by decide +kernel
theorem dX11_in_52 : decode cX11_in 52 = .ok (.getfield 62, 3) := by decide +kernel
theorem dX11_in_55 : decode cX11_in 55 = .ok (.iload_n 1, 1) := by decide +kernel
theorem dX11_in_56 : decode cX11_in 56 = .ok (.iaload, 1) := by decide +kernel
theorem dX11_in_57 : decode cX11_in 57 = .ok (.ireturn, 1) := by decide +kernel
theorem dX11_in_58 : decode cX11_in 58 = .ok (.aload_n 0, 1) := by decide +kernel
theorem dX11_in_59 : decode cX11_in 59 = .ok (.getfield 59, 3) := by decide +kernel
theorem dX11_in_62 : decode cX11_in 62 = .ok (.iload_n 1, 1) := by decide +kernel
theorem dX11_in_63 : decode cX11_in 63 = .ok (.iaload, 1) := by decide +kernel
theorem dX11_in_64 : decode cX11_in 64 = .ok (.ireturn, 1) := by decide +kernel
theorem dX11_in_65 : decode cX11_in 65 = .ok (.iconst 0, 1) := by decide +kernel
theorem dX11_in_66 : decode cX11_in 66 = .ok (.istore 4, 2) := by decide +kernel
theorem dX11_in_68 : decode cX11_in 68 = .ok (.iload 4, 2) := by decide +kernel
theorem dX11_in_70 : decode cX11_in 70 = .ok (.aload_n 0, 1) := by decide +kernel
theorem dX11_in_71 : decode cX11_in 71 = .ok (.getfield 65, 3) := by decide +kernel
theorem dX11_in_74 : decode cX11_in 74 = .ok (.iload_n 1, 1) := by decide +kernel
theorem dX11_in_75 : decode cX11_in 75 = .ok (.iaload, 1) := by decide +kernel
theorem dX11_in_76 : decode cX11_in 76 = .ok (.if_icmp .ge 27, 3) := by decide +kernel
theorem dX11_in_79 : decode cX11_in 79 = .ok (.iload_n 3, 1) := by decide +kernel
theorem dX11_in_80 : decode cX11_in 80 = .ok (.iconst 1, 1) := by decide +kernel
theorem dX11_in_81 : decode cX11_in 81 = .ok (.aload_n 0, 1) := by decide +kernel
theorem dX11_in_82 : decode cX11_in 82 = .ok (.getfield 68, 3) := by decide +kernel
theorem dX11_in_85 : decode cX11_in 85 = .ok (.sipush 200, 3) := by decide +kernel
theorem dX11_in_88 : decode cX11_in 88 = .ok (.iload_n 1, 1) := by decide +kernel
theorem dX11_in_89 : decode cX11_in 89 = .ok (.imul, 1) := by decide +kernel
theorem dX11_in_90 : decode cX11_in 90 = .ok (.iload 4, 2) := by decide +kernel
theorem dX11_in_92 : decode cX11_in 92 = .ok (.iadd, 1) := by decide +kernel
theorem dX11_in_93 : decode cX11_in 93 = .ok (.iaload, 1) := by decide +kernel
theorem dX11_in_94 : decode cX11_in 94 = .ok (.ishl, 1) := by decide +kernel
theorem dX11_in_95 : decode cX11_in 95 = .ok (.ior, 1) := by decide +kernel
theorem dX11_in_96 : decode cX11_in 96 = .ok (.istore_n 3, 1) := by decide +kernel
theorem dX11_in_97 : decode cX11_in 97 = .ok (.iinc 4 1, 3) := by decide +kernel
theorem dX11_in_100 : decode cX11_in 100 = .ok (.goto (-32), 3) := by decide +kernel
theorem dX11_in_103 : decode cX11_in 103 = .ok (.iload_n 3, 1) := by decide +kernel
theorem dX11_in_104 : decode cX11_in 104 = .ok (.ireturn, 1) := by decide +kernel
theorem dX11_in_105 : decode cX11_in 105 = .ok (.iconst (-1), 1) := by decide +kernel
theorem dX11_in_106 : decode cX11_in 106 = .ok (.ireturn, 1) := by decide +kernel
theorem dX11_green_0 : decode cX11_green 0 = .ok (.iload_n 1, 1) := by decide +kernel
theorem dX11_green_1 : decode cX11_green 1 = .ok (.iconst 0, 1) := by decide +kernel
theorem dX11_green_2 : decode cX11_green 2 = .ok (.bipush 23, 2) := by decide +kernel
theorem dX11_green_4 : decode cX11_green 4 = .ok (.invokestatic 98, 3) := by decide +kernel
theorem dX11_green_7 : decode cX11_green 7 = .ok (.ifCond .ne 5, 3) := by decide +kernel
theorem dX11_green_10 : decode cX11_green 10 = .ok (.iconst (-1), 1) := by decide +kernel
theorem dX11_green_11 : decode cX11_green 11 = .ok (.ireturn, 1) := by decide +kernel
theorem dX11_green_12 : decode cX11_green 12 = .ok (.aload_n 0, 1) := by decide +kernel
theorem dX11_green_13 : decode cX11_green 13 = .ok (.getfield 92, 3) := by decide +kernel
theorem dX11_green_16 : decode cX11_green 16 = .ok (.iconst 1, 1) := by decide +kernel
theorem dX11_green_17 : decode cX11_green 17 = .ok (.isub, 1) := by decide +kernel
theorem dX11_green_18 : decode cX11_green 18 = .ok (.iload_n 1, 1) := by decide +kernel
theorem dX11_green_19 : decode cX11_green 19 = .ok (.isub, 1) := by decide +kernel
theorem dX11_green_20 : decode cX11_green 20 = .ok (.istore_n 2, 1) := by decide +kernel
theorem dX11_green_21 : decode cX11_green 21 = .ok (.iconst 0, 1) := by decide +kernel
theorem dX11_green_22 : decode cX11_green 22 = .ok (.istore_n 3, 1) := by decide +kernel
theorem dX11_green_23 : decode cX11_green 23 = .ok (.iconst 0, 1) := by decide +kernel
theorem dX11_green_24 : decode cX11_green 24 = .ok (.istore 4, 2) := by decide +kernel
theorem dX11_green_26 : decode cX11_green 26 = .ok (.iload 4, 2) := by decide +kernel
theorem dX11_green_28 : decode cX11_green 28 = .ok (.bipush 6, 2) := by decide +kernel
theorem dX11_green_30 : decode cX11_green 30 = .ok (.if_icmp .ge 28, 3) := by decide +kernel
theorem dX11_green_33 : decode cX11_green 33 = .ok (.iload_n 2, 1) := by decide +kernel
theorem dX11_green_34 : decode cX11_green 34 = .ok (.ifCond .lt 24, 3) := by decide +kernel
theorem dX11_green_37 : decode cX11_green 37 = .ok (.iload_n 3, 1) := by decide +kernel
theorem dX11_green_38 : decode cX11_green 38 = .ok (.aload_n 0, 1) := by decide +kernel
theorem dX11_green_39 : decode cX11_green 39 = .ok (.getfield 50, 3) := by decide +kernel
theorem dX11_green_42 : decode cX11_green 42 = .ok (.bipush 6, 2) := by decide +kernel
theorem dX11_green_44 : decode cX11_green 44 = .ok (.iload_n 2, 1) := by decide +kernel
theorem dX11_green_45 : decode cX11_green 45 = .ok (.imul, 1) := by decide +kernel
theorem dX11_green_46 : decode cX11_green 46 = .ok (.iload 4, 2) := by decide +kernel
theorem dX11_green_48 : decode cX11_green 48 = .ok (.iadd, 1) := by decide +kernel
theorem dX11_green_49 : decode cX11_green 49 = .ok (.iaload, 1) := by decide +kernel
theorem dX11_green_50 : decode cX11_green 50 = .ok (.iadd, 1) := by decide +kernel
theorem dX11_green_51 : decode cX11_green 51 = .ok (.istore_n 3, 1) := by decide +kernel
theorem dX11_green_52 : decode cX11_green 52 = .ok (.iinc 4 1, 3) := by decide +kernel
theorem dX11_green_55 : decode cX11_green 55 = .ok (.goto (-29), 3) := by decide +kernel
theorem dX11_green_58 : decode cX11_green 58 = .ok (.iload_n 3, 1) := by decide +kernel
theorem dX11_green_59 : decode cX11_green 59 = .ok (.ireturn, 1) := by decide +kernel
theorem dX11_ledPockets_0 : decode cX11_ledPockets 0 = .ok (.aload_n 0, 1) := by decide +kernel
theorem dX11_ledPockets_1 : decode cX11_ledPockets 1 = .ok (.getfield 150, 3) := by decide +kernel
theorem dX11_ledPockets_4 : decode cX11_ledPockets 4 = .ok (.bipush 100, 2) := by decide +kernel
theorem dX11_ledPockets_6 : decode cX11_ledPockets 6 = .ok (.if_icmp .ge 10, 3) := by decide +kernel
theorem dX11_ledPockets_9 : decode cX11_ledPockets 9 = .ok (.aload_n 0, 1) := by decide +kernel
theorem dX11_ledPockets_10 : decode cX11_ledPockets 10 = .ok (.getfield 150, 3) := by decide +kernel
theorem dX11_ledPockets_13 : decode cX11_ledPockets 13 = .ok (.goto 5, 3) := by decide +kernel
theorem dX11_ledPockets_16 : decode cX11_ledPockets 16 = .ok (.bipush 100, 2) := by decide +kernel
theorem dX11_ledPockets_18 : decode cX11_ledPockets 18 = .ok (.ireturn, 1) := by decide +kernel
theorem dX11_pocket_0 : decode cX11_pocket 0 = .ok (.iload_n 1, 1) := by decide +kernel
theorem dX11_pocket_1 : decode cX11_pocket 1 = .ok (.iconst 0, 1) := by decide +kernel
theorem dX11_pocket_2 : decode cX11_pocket 2 = .ok (.aload_n 0, 1) := by decide +kernel
theorem dX11_pocket_3 : decode cX11_pocket 3 = .ok (.invokevirtual 178, 3) := by decide +kernel
theorem dX11_pocket_6 : decode cX11_pocket 6 = .ok (.iconst 1, 1) := by decide +kernel
theorem dX11_pocket_7 : decode cX11_pocket 7 = .ok (.isub, 1) := by decide +kernel
theorem dX11_pocket_8 : decode cX11_pocket 8 = .ok (.invokestatic 98, 3) := by decide +kernel
theorem dX11_pocket_11 : decode cX11_pocket 11 = .ok (.ifCond .ne 5, 3) := by decide +kernel
theorem dX11_pocket_14 : decode cX11_pocket 14 = .ok (.iconst (-1), 1) := by decide +kernel
theorem dX11_pocket_15 : decode cX11_pocket 15 = .ok (.ireturn, 1) := by decide +kernel
theorem dX11_pocket_16 : decode cX11_pocket 16 = .ok (.iload_n 2, 1) := by decide +kernel
theorem dX11_pocket_17 : decode cX11_pocket 17 = .ok (.tableswitch 52 0 2 #[27, 34, 41], 27) := by decide +kernel
theorem dX11_pocket_44 : decode cX11_pocket 44 = .ok (.aload_n 0, 1) := by decide +kernel
theorem dX11_pocket_45 : decode cX11_pocket 45 = .ok (.getfield 71, 3) := by decide +kernel
theorem dX11_pocket_48 : decode cX11_pocket 48 = .ok (.iload_n 1, 1) := by decide +kernel
theorem dX11_pocket_49 : decode cX11_pocket 49 = .ok (.iaload, 1) := by decide +kernel
theorem dX11_pocket_50 : decode cX11_pocket 50 = .ok (.ireturn, 1) := by decide +kernel
theorem dX11_pocket_51 : decode cX11_pocket 51 = .ok (.aload_n 0, 1) := by decide +kernel
theorem dX11_pocket_52 : decode cX11_pocket 52 = .ok (.getfield 74, 3) := by decide +kernel
theorem dX11_pocket_55 : decode cX11_pocket 55 = .ok (.iload_n 1, 1) := by decide +kernel
theorem dX11_pocket_56 : decode cX11_pocket 56 = .ok (.iaload, 1) := by decide +kernel
theorem dX11_pocket_57 : decode cX11_pocket 57 = .ok (.ireturn, 1) := by decide +kernel
theorem dX11_pocket_58 : decode cX11_pocket 58 = .ok (.aload_n 0, 1) := by decide +kernel
theorem dX11_pocket_59 : decode cX11_pocket 59 = .ok (.aload_n 0, 1) := by decide +kernel
theorem dX11_pocket_60 : decode cX11_pocket 60 = .ok (.getfield 74, 3) := by decide +kernel
theorem dX11_pocket_63 : decode cX11_pocket 63 = .ok (.iload_n 1, 1) := by decide +kernel
theorem dX11_pocket_64 : decode cX11_pocket 64 = .ok (.iaload, 1) := by decide +kernel
theorem dX11_pocket_65 : decode cX11_pocket 65 = .ok (.invokevirtual 182, 3) := by decide +kernel
theorem dX11_pocket_68 : decode cX11_pocket 68 = .ok (.ireturn, 1) := by decide +kernel
theorem dX11_pocket_69 : decode cX11_pocket 69 = .ok (.iconst (-1), 1) := by decide +kernel
theorem dX11_pocket_70 : decode cX11_pocket 70 = .ok (.ireturn, 1) := by decide +kernel
theorem dX11_count_0 : decode cX11_count 0 = .ok (.iconst 0, 1) := by decide +kernel
theorem dX11_count_1 : decode cX11_count 1 = .ok (.istore_n 2, 1) := by decide +kernel
theorem dX11_count_2 : decode cX11_count 2 = .ok (.iload_n 1, 1) := by decide +kernel
theorem dX11_count_3 : decode cX11_count 3 = .ok (.tableswitch 194 0 9 #[53, 58, 63, 68, 73, 78, 83, 114, 141, 167], 53) := by decide +kernel
theorem dX11_count_56 : decode cX11_count 56 = .ok (.aload_n 0, 1) := by decide +kernel
theorem dX11_count_57 : decode cX11_count 57 = .ok (.getfield 92, 3) := by decide +kernel
theorem dX11_count_60 : decode cX11_count 60 = .ok (.ireturn, 1) := by decide +kernel
theorem dX11_count_61 : decode cX11_count 61 = .ok (.aload_n 0, 1) := by decide +kernel
theorem dX11_count_62 : decode cX11_count 62 = .ok (.getfield 95, 3) := by decide +kernel
theorem dX11_count_65 : decode cX11_count 65 = .ok (.ireturn, 1) := by decide +kernel
theorem dX11_count_66 : decode cX11_count 66 = .ok (.aload_n 0, 1) := by decide +kernel
theorem dX11_count_67 : decode cX11_count 67 = .ok (.getfield 102, 3) := by decide +kernel
theorem dX11_count_70 : decode cX11_count 70 = .ok (.ireturn, 1) := by decide +kernel
theorem dX11_count_71 : decode cX11_count 71 = .ok (.aload_n 0, 1) := by decide +kernel
theorem dX11_count_72 : decode cX11_count 72 = .ok (.getfield 105, 3) := by decide +kernel
theorem dX11_count_75 : decode cX11_count 75 = .ok (.ireturn, 1) := by decide +kernel
theorem dX11_count_76 : decode cX11_count 76 = .ok (.aload_n 0, 1) := by decide +kernel
theorem dX11_count_77 : decode cX11_count 77 = .ok (.getfield 150, 3) := by decide +kernel
theorem dX11_count_80 : decode cX11_count 80 = .ok (.ireturn, 1) := by decide +kernel
theorem dX11_count_81 : decode cX11_count 81 = .ok (.aload_n 0, 1) := by decide +kernel
theorem dX11_count_82 : decode cX11_count 82 = .ok (.getfield 144, 3) := by decide +kernel
theorem dX11_count_85 : decode cX11_count 85 = .ok (.ireturn, 1) := by decide +kernel
theorem dX11_count_86 : decode cX11_count 86 = .ok (.iconst 0, 1) := by decide +kernel
theorem dX11_count_87 : decode cX11_count 87 = .ok (.istore_n 3, 1) := by decide +kernel
theorem dX11_count_88 : decode cX11_count 88 = .ok (.iload_n 3, 1) := by decide +kernel
theorem dX11_count_89 : decode cX11_count 89 = .ok (.aload_n 0, 1) := by decide +kernel
theorem dX11_count_90 : decode cX11_count 90 = .ok (.invokevirtual 178, 3) := by decide +kernel
theorem dX11_count_93 : decode cX11_count 93 = .ok (.if_icmp .ge 22, 3) := by decide +kernel
theorem dX11_count_96 : decode cX11_count 96 = .ok (.iload_n 2, 1) := by decide +kernel
theorem dX11_count_97 : decode cX11_count 97 = .ok (.aload_n 0, 1) := by decide +kernel
theorem dX11_count_98 : decode cX11_count 98 = .ok (.aload_n 0, 1) := by decide +kernel
theorem dX11_count_99 : decode cX11_count 99 = .ok (.getfield 74, 3) := by decide +kernel
theorem dX11_count_102 : decode cX11_count 102 = .ok (.iload_n 3, 1) := by decide +kernel
theorem dX11_count_103 : decode cX11_count 103 = .ok (.iaload, 1) := by decide +kernel
theorem dX11_count_104 : decode cX11_count 104 = .ok (.invokevirtual 182, 3) := by decide +kernel
theorem dX11_count_107 : decode cX11_count 107 = .ok (.iadd, 1) := by decide +kernel
theorem dX11_count_108 : decode cX11_count 108 = .ok (.istore_n 2, 1) := by decide +kernel
theorem dX11_count_109 : decode cX11_count 109 = .ok (.iinc 3 1, 3) := by decide +kernel
theorem dX11_count_112 : decode cX11_count 112 = .ok (.goto (-24), 3) := by decide +kernel
theorem dX11_count_115 : decode cX11_count 115 = .ok (.iload_n 2, 1) := by decide +kernel
theorem dX11_count_116 : decode cX11_count 116 = .ok (.ireturn, 1) := by decide +kernel
theorem dX11_count_117 : decode cX11_count 117 = .ok (.iconst 0, 1) := by decide +kernel
theorem dX11_count_118 : decode cX11_count 118 = .ok (.istore_n 3, 1) := by decide +kernel
theorem dX11_count_119 : decode cX11_count 119 = .ok (.iload_n 3, 1) := by decide +kernel
theorem dX11_count_120 : decode cX11_count 120 = .ok (.aload_n 0, 1) := by decide +kernel
theorem dX11_count_121 : decode cX11_count 121 = .ok (.getfield 95, 3) := by decide +kernel
theorem dX11_count_124 : decode cX11_count 124 = .ok (.if_icmp .ge 18, 3) := by decide +kernel
theorem dX11_count_127 : decode cX11_count 127 = .ok (.iload_n 2, 1) := by decide +kernel
theorem dX11_count_128 : decode cX11_count 128 = .ok (.aload_n 0, 1) := by decide +kernel
theorem dX11_count_129 : decode cX11_count 129 = .ok (.getfield 26, 3) := by decide +kernel
theorem dX11_count_132 : decode cX11_count 132 = .ok (.iload_n 3, 1) := by decide +kernel
theorem dX11_count_133 : decode cX11_count 133 = .ok (.iaload, 1) := by decide +kernel
theorem dX11_count_134 : decode cX11_count 134 = .ok (.iadd, 1) := by decide +kernel
theorem dX11_count_135 : decode cX11_count 135 = .ok (.istore_n 2, 1) := by decide +kernel
theorem dX11_count_136 : decode cX11_count 136 = .ok (.iinc 3 1, 3) := by decide +kernel
theorem dX11_count_139 : decode cX11_count 139 = .ok (.goto (-20), 3) := by decide +kernel
theorem dX11_count_142 : decode cX11_count 142 = .ok (.iload_n 2, 1) := by decide +kernel
theorem dX11_count_143 : decode cX11_count 143 = .ok (.ireturn, 1) := by decide +kernel
theorem dX11_count_144 : decode cX11_count 144 = .ok (.iconst 0, 1) := by decide +kernel
theorem dX11_count_145 : decode cX11_count 145 = .ok (.istore_n 3, 1) := by decide +kernel
theorem dX11_count_146 : decode cX11_count 146 = .ok (.iload_n 3, 1) := by decide +kernel
theorem dX11_count_147 : decode cX11_count 147 = .ok (.aload_n 0, 1) := by decide +kernel
theorem dX11_count_148 : decode cX11_count 148 = .ok (.getfield 95, 3) := by decide +kernel
theorem dX11_count_151 : decode cX11_count 151 = .ok (.if_icmp .ge 17, 3) := by decide +kernel
theorem dX11_count_154 : decode cX11_count 154 = .ok (.iload_n 2, 1) := by decide +kernel
theorem dX11_count_155 : decode cX11_count 155 = .ok (.aload_n 0, 1) := by decide +kernel
theorem dX11_count_156 : decode cX11_count 156 = .ok (.iload_n 3, 1) := by decide +kernel
theorem dX11_count_157 : decode cX11_count 157 = .ok (.invokevirtual 172, 3) := by decide +kernel
theorem dX11_count_160 : decode cX11_count 160 = .ok (.iadd, 1) := by decide +kernel
theorem dX11_count_161 : decode cX11_count 161 = .ok (.istore_n 2, 1) := by decide +kernel
theorem dX11_count_162 : decode cX11_count 162 = .ok (.iinc 3 1, 3) := by decide +kernel
theorem dX11_count_165 : decode cX11_count 165 = .ok (.goto (-19), 3) := by decide +kernel
theorem dX11_count_168 : decode cX11_count 168 = .ok (.iload_n 2, 1) := by decide +kernel
theorem dX11_count_169 : decode cX11_count 169 = .ok (.ireturn, 1) := by decide +kernel
theorem dX11_count_170 : decode cX11_count 170 = .ok (.iconst 0, 1) := by decide +kernel
theorem dX11_count_171 : decode cX11_count 171 = .ok (.istore_n 3, 1) := by decide +kernel
theorem dX11_count_172 : decode cX11_count 172 = .ok (.iload_n 3, 1) := by decide +kernel
theorem dX11_count_173 : decode cX11_count 173 = .ok (.aload_n 0, 1) := by decide +kernel
theorem dX11_count_174 : decode cX11_count 174 = .ok (.getfield 102, 3) := by decide +kernel
theorem dX11_count_177 : decode cX11_count 177 = .ok (.if_icmp .ge 18, 3) := by decide +kernel
theorem dX11_count_180 : decode cX11_count 180 = .ok (.iload_n 2, 1) := by decide +kernel
theorem dX11_count_181 : decode cX11_count 181 = .ok (.aload_n 0, 1) := by decide +kernel
theorem dX11_count_182 : decode cX11_count 182 = .ok (.getfield 47, 3) := by decide +kernel
theorem dX11_count_185 : decode cX11_count 185 = .ok (.iload_n 3, 1) := by decide +kernel
theorem dX11_count_186 : decode cX11_count 186 = .ok (.iaload, 1) := by decide +kernel
theorem dX11_count_187 : decode cX11_count 187 = .ok (.iadd, 1) := by decide +kernel
theorem dX11_count_188 : decode cX11_count 188 = .ok (.istore_n 2, 1) := by decide +kernel
theorem dX11_count_189 : decode cX11_count 189 = .ok (.iinc 3 1, 3) := by decide +kernel
theorem dX11_count_192 : decode cX11_count 192 = .ok (.goto (-20), 3) := by decide +kernel
theorem dX11_count_195 : decode cX11_count 195 = .ok (.iload_n 2, 1) := by decide +kernel
theorem dX11_count_196 : decode cX11_count 196 = .ok (.ireturn, 1) := by decide +kernel
theorem dX11_count_197 : decode cX11_count 197 = .ok (.iconst (-1), 1) := by decide +kernel
theorem dX11_count_198 : decode cX11_count 198 = .ok (.ireturn, 1) := by decide +kernel
theorem dX11_price_0 : decode cX11_price 0 = .ok (.iload_n 1, 1) := by decide +kernel
theorem dX11_price_1 : decode cX11_price 1 = .ok (.aload_n 0, 1) := by decide +kernel
theorem dX11_price_2 : decode cX11_price 2 = .ok (.getfield 92, 3) := by decide +kernel
theorem dX11_price_5 : decode cX11_price 5 = .ok (.sipush 480, 3) := by decide +kernel
theorem dX11_price_8 : decode cX11_price 8 = .ok (.invokestatic 98, 3) := by decide +kernel
theorem dX11_price_11 : decode cX11_price 11 = .ok (.ifCond .eq 13, 3) := by decide +kernel
theorem dX11_price_14 : decode cX11_price 14 = .ok (.iload_n 2, 1) := by decide +kernel
theorem dX11_price_15 : decode cX11_price 15 = .ok (.iconst 1, 1) := by decide +kernel
theorem dX11_price_16 : decode cX11_price 16 = .ok (.bipush 50, 2) := by decide +kernel
theorem dX11_price_18 : decode cX11_price 18 = .ok (.invokestatic 98, 3) := by decide +kernel
theorem dX11_price_21 : decode cX11_price 21 = .ok (.ifCond .ne 5, 3) := by decide +kernel
theorem dX11_price_24 : decode cX11_price 24 = .ok (.iconst (-1), 1) := by decide +kernel
theorem dX11_price_25 : decode cX11_price 25 = .ok (.ireturn, 1) := by decide +kernel
theorem dX11_price_26 : decode cX11_price 26 = .ok (.aload_n 0, 1) := by decide +kernel
theorem dX11_price_27 : decode cX11_price 27 = .ok (.getfield 130, 3) := by decide +kernel
theorem dX11_price_30 : decode cX11_price 30 = .ok (.bipush 20, 2) := by decide +kernel
theorem dX11_price_32 : decode cX11_price 32 = .ok (.if_icmp .ne 6, 3) := by decide +kernel
theorem dX11_price_35 : decode cX11_price 35 = .ok (.bipush (-3), 2) := by decide +kernel
theorem dX11_price_37 : decode cX11_price 37 = .ok (.ireturn, 1) := by decide +kernel
theorem dX11_price_38 : decode cX11_price 38 = .ok (.aload_n 0, 1) := by decide +kernel
theorem dX11_price_39 : decode cX11_price 39 = .ok (.getfield 77, 3) := by decide +kernel
theorem dX11_price_42 : decode cX11_price 42 = .ok (.aload_n 0, 1) := by decide +kernel
theorem dX11_price_43 : decode cX11_price 43 = .ok (.getfield 130, 3) := by decide +kernel
theorem dX11_price_46 : decode cX11_price 46 = .ok (.iload_n 1, 1) := by decide +kernel
theorem dX11_price_47 : decode cX11_price 47 = .ok (.iastore, 1) := by decide +kernel
theorem dX11_price_48 : decode cX11_price 48 = .ok (.aload_n 0, 1) := by decide +kernel
theorem dX11_price_49 : decode cX11_price 49 = .ok (.getfield 80, 3) := by decide +kernel
theorem dX11_price_52 : decode cX11_price 52 = .ok (.aload_n 0, 1) := by decide +kernel
theorem dX11_price_53 : decode cX11_price 53 = .ok (.getfield 130, 3) := by decide +kernel
theorem dX11_price_56 : decode cX11_price 56 = .ok (.iload_n 2, 1) := by decide +kernel
theorem dX11_price_57 : decode cX11_price 57 = .ok (.iastore, 1) := by decide +kernel
theorem dX11_price_58 : decode cX11_price 58 = .ok (.aload_n 0, 1) := by decide +kernel
theorem dX11_price_59 : decode cX11_price 59 = .ok (.dup, 1) := by decide +kernel
theorem dX11_price_60 : decode cX11_price 60 = .ok (.getfield 130, 3) := by decide +kernel
theorem dX11_price_63 : decode cX11_price 63 = .ok (.iconst 1, 1) := by decide +kernel
theorem dX11_price_64 : decode cX11_price 64 = .ok (.iadd, 1) := by decide +kernel
theorem dX11_price_65 : decode cX11_price 65 = .ok (.putfield 130, 3) := by decide +kernel
theorem dX11_price_68 : decode cX11_price 68 = .ok (.iconst 1, 1) := by decide +kernel
theorem dX11_price_69 : decode cX11_price 69 = .ok (.ireturn, 1) := by decide +kernel
theorem dX11_priced_0 : decode cX11_priced 0 = .ok (.iload_n 1, 1) := by decide +kernel
theorem dX11_priced_1 : decode cX11_priced 1 = .ok (.iconst 0, 1) := by decide +kernel
theorem dX11_priced_2 : decode cX11_priced 2 = .ok (.sipush 480, 3) := by decide +kernel
theorem dX11_priced_5 : decode cX11_priced 5 = .ok (.invokestatic 98, 3) := by decide +kernel
theorem dX11_priced_8 : decode cX11_priced 8 = .ok (.ifCond .eq 11, 3) := by decide +kernel
theorem dX11_priced_11 : decode cX11_priced 11 = .ok (.aload_n 0, 1) := by decide +kernel
theorem dX11_priced_12 : decode cX11_priced 12 = .ok (.iload_n 1, 1) := by decide +kernel
theorem dX11_priced_13 : decode cX11_priced 13 = .ok (.invokevirtual 140, 3) := by decide +kernel
theorem dX11_priced_16 : decode cX11_priced 16 = .ok (.goto 4, 3) := by decide +kernel
theorem dX11_priced_19 : decode cX11_priced 19 = .ok (.iconst (-1), 1) := by decide +kernel
theorem dX11_priced_20 : decode cX11_priced 20 = .ok (.ireturn, 1) := by decide +kernel
theorem dX11_act_0 : decode cX11_act 0 = .ok (.iload_n 1, 1) := by decide +kernel
theorem dX11_act_1 : decode cX11_act 1 = .ok (.iconst 0, 1) := by decide +kernel
theorem dX11_act_2 : decode cX11_act 2 = .ok (.bipush 40, 2) := by decide +kernel
theorem dX11_act_4 : decode cX11_act 4 = .ok (.invokestatic 98, 3) := by decide +kernel
theorem dX11_act_7 : decode cX11_act 7 = .ok (.ifCond .eq 13, 3) := by decide +kernel
theorem dX11_act_10 : decode cX11_act 10 = .ok (.iload_n 2, 1) := by decide +kernel
theorem dX11_act_11 : decode cX11_act 11 = .ok (.iconst 0, 1) := by decide +kernel
theorem dX11_act_12 : decode cX11_act 12 = .ok (.bipush 100, 2) := by decide +kernel
theorem dX11_act_14 : decode cX11_act 14 = .ok (.invokestatic 98, 3) := by decide +kernel
theorem dX11_act_17 : decode cX11_act 17 = .ok (.ifCond .ne 5, 3) := by decide +kernel
theorem dX11_act_20 : decode cX11_act 20 = .ok (.iconst (-1), 1) := by decide +kernel
theorem dX11_act_21 : decode cX11_act 21 = .ok (.ireturn, 1) := by decide +kernel
theorem dX11_act_22 : decode cX11_act 22 = .ok (.bipush 12, 2) := by decide +kernel
theorem dX11_act_24 : decode cX11_act 24 = .ok (.iload_n 1, 1) := by decide +kernel
theorem dX11_act_25 : decode cX11_act 25 = .ok (.imul, 1) := by decide +kernel
theorem dX11_act_26 : decode cX11_act 26 = .ok (.aload_n 0, 1) := by decide +kernel
theorem dX11_act_27 : decode cX11_act 27 = .ok (.getfield 92, 3) := by decide +kernel
theorem dX11_act_30 : decode cX11_act 30 = .ok (.if_icmp .gt 6, 3) := by decide +kernel
theorem dX11_act_33 : decode cX11_act 33 = .ok (.bipush (-2), 2) := by decide +kernel
theorem dX11_act_35 : decode cX11_act 35 = .ok (.ireturn, 1) := by decide +kernel
theorem dX11_act_36 : decode cX11_act 36 = .ok (.aload_n 0, 1) := by decide +kernel
theorem dX11_act_37 : decode cX11_act 37 = .ok (.getfield 133, 3) := by decide +kernel
theorem dX11_act_40 : decode cX11_act 40 = .ok (.bipush 20, 2) := by decide +kernel
theorem dX11_act_42 : decode cX11_act 42 = .ok (.if_icmp .ne 6, 3) := by decide +kernel
theorem dX11_act_45 : decode cX11_act 45 = .ok (.bipush (-3), 2) := by decide +kernel
theorem dX11_act_47 : decode cX11_act 47 = .ok (.ireturn, 1) := by decide +kernel
theorem dX11_act_48 : decode cX11_act 48 = .ok (.aload_n 0, 1) := by decide +kernel
theorem dX11_act_49 : decode cX11_act 49 = .ok (.getfield 83, 3) := by decide +kernel
theorem dX11_act_52 : decode cX11_act 52 = .ok (.aload_n 0, 1) := by decide +kernel
theorem dX11_act_53 : decode cX11_act 53 = .ok (.getfield 133, 3) := by decide +kernel
theorem dX11_act_56 : decode cX11_act 56 = .ok (.iload_n 1, 1) := by decide +kernel
theorem dX11_act_57 : decode cX11_act 57 = .ok (.iastore, 1) := by decide +kernel
theorem dX11_act_58 : decode cX11_act 58 = .ok (.aload_n 0, 1) := by decide +kernel
theorem dX11_act_59 : decode cX11_act 59 = .ok (.getfield 86, 3) := by decide +kernel
theorem dX11_act_62 : decode cX11_act 62 = .ok (.aload_n 0, 1) := by decide +kernel
theorem dX11_act_63 : decode cX11_act 63 = .ok (.getfield 133, 3) := by decide +kernel
theorem dX11_act_66 : decode cX11_act 66 = .ok (.iload_n 2, 1) := by decide +kernel
theorem dX11_act_67 : decode cX11_act 67 = .ok (.iastore, 1) := by decide +kernel
theorem dX11_act_68 : decode cX11_act 68 = .ok (.aload_n 0, 1) := by decide +kernel
theorem dX11_act_69 : decode cX11_act 69 = .ok (.dup, 1) := by decide +kernel
theorem dX11_act_70 : decode cX11_act 70 = .ok (.getfield 133, 3) := by decide +kernel
theorem dX11_act_73 : decode cX11_act 73 = .ok (.iconst 1, 1) := by decide +kernel
theorem dX11_act_74 : decode cX11_act 74 = .ok (.iadd, 1) := by decide +kernel
theorem dX11_act_75 : decode cX11_act 75 = .ok (.putfield 133, 3) := by decide +kernel
theorem dX11_act_78 : decode cX11_act 78 = .ok (.iconst 1, 1) := by decide +kernel
theorem dX11_act_79 : decode cX11_act 79 = .ok (.ireturn, 1) := by decide +kernel
theorem dX11_duty_0 : decode cX11_duty 0 = .ok (.iload_n 1, 1) := by decide +kernel
theorem dX11_duty_1 : decode cX11_duty 1 = .ok (.iconst 0, 1) := by decide +kernel
theorem dX11_duty_2 : decode cX11_duty 2 = .ok (.bipush 40, 2) := by decide +kernel
theorem dX11_duty_4 : decode cX11_duty 4 = .ok (.invokestatic 98, 3) := by decide +kernel
theorem dX11_duty_7 : decode cX11_duty 7 = .ok (.ifCond .eq 11, 3) := by decide +kernel
theorem dX11_duty_10 : decode cX11_duty 10 = .ok (.aload_n 0, 1) := by decide +kernel
theorem dX11_duty_11 : decode cX11_duty 11 = .ok (.iload_n 1, 1) := by decide +kernel
theorem dX11_duty_12 : decode cX11_duty 12 = .ok (.invokevirtual 182, 3) := by decide +kernel
theorem dX11_duty_15 : decode cX11_duty 15 = .ok (.goto 4, 3) := by decide +kernel
theorem dX11_duty_18 : decode cX11_duty 18 = .ok (.iconst (-1), 1) := by decide +kernel
theorem dX11_duty_19 : decode cX11_duty 19 = .ok (.ireturn, 1) := by decide +kernel
theorem dX11_bound_0 : decode cX11_bound 0 = .ok (.iconst 0, 1) := by decide +kernel
theorem dX11_bound_1 : decode cX11_bound 1 = .ok (.istore_n 1, 1) := by decide +kernel
theorem dX11_bound_2 : decode cX11_bound 2 = .ok (.iconst 0, 1) := by decide +kernel
theorem dX11_bound_3 : decode cX11_bound 3 = .ok (.istore_n 2, 1) := by decide +kernel
theorem dX11_bound_4 : decode cX11_bound 4 = .ok (.iload_n 2, 1) := by decide +kernel
theorem dX11_bound_5 : decode cX11_bound 5 = .ok (.aload_n 0, 1) := by decide +kernel
theorem dX11_bound_6 : decode cX11_bound 6 = .ok (.getfield 105, 3) := by decide +kernel
theorem dX11_bound_9 : decode cX11_bound 9 = .ok (.if_icmp .ge 49, 3) := by decide +kernel
theorem dX11_bound_12 : decode cX11_bound 12 = .ok (.aload_n 0, 1) := by decide +kernel
theorem dX11_bound_13 : decode cX11_bound 13 = .ok (.getfield 53, 3) := by decide +kernel
theorem dX11_bound_16 : decode cX11_bound 16 = .ok (.iload_n 2, 1) := by decide +kernel
theorem dX11_bound_17 : decode cX11_bound 17 = .ok (.iaload, 1) := by decide +kernel
theorem dX11_bound_18 : decode cX11_bound 18 = .ok (.aload_n 0, 1) := by decide +kernel
theorem dX11_bound_19 : decode cX11_bound 19 = .ok (.getfield 59, 3) := by decide +kernel
theorem dX11_bound_22 : decode cX11_bound 22 = .ok (.iload_n 2, 1) := by decide +kernel
theorem dX11_bound_23 : decode cX11_bound 23 = .ok (.iaload, 1) := by decide +kernel
theorem dX11_bound_24 : decode cX11_bound 24 = .ok (.invokestatic 126, 3) := by decide +kernel
theorem dX11_bound_27 : decode cX11_bound 27 = .ok (.istore_n 3, 1) := by decide +kernel
theorem dX11_bound_28 : decode cX11_bound 28 = .ok (.iload_n 1, 1) := by decide +kernel
theorem dX11_bound_29 : decode cX11_bound 29 = .ok (.iload_n 3, 1) := by decide +kernel
theorem dX11_bound_30 : decode cX11_bound 30 = .ok (.ifCond .ne 7, 3) := by decide +kernel
theorem dX11_bound_33 : decode cX11_bound 33 = .ok (.iconst 0, 1) := by decide +kernel
theorem dX11_bound_34 : decode cX11_bound 34 = .ok (.goto 16, 3) := by decide +kernel
theorem dX11_bound_37 : decode cX11_bound 37 = .ok (.aload_n 0, 1) := by decide +kernel
theorem dX11_bound_38 : decode cX11_bound 38 = .ok (.getfield 56, 3) := by decide +kernel
theorem dX11_bound_41 : decode cX11_bound 41 = .ok (.iload_n 2, 1) := by decide +kernel
theorem dX11_bound_42 : decode cX11_bound 42 = .ok (.iaload, 1) := by decide +kernel
theorem dX11_bound_43 : decode cX11_bound 43 = .ok (.bipush 59, 2) := by decide +kernel
theorem dX11_bound_45 : decode cX11_bound 45 = .ok (.iload_n 3, 1) := by decide +kernel
theorem dX11_bound_46 : decode cX11_bound 46 = .ok (.iadd, 1) := by decide +kernel
theorem dX11_bound_47 : decode cX11_bound 47 = .ok (.iload_n 3, 1) := by decide +kernel
theorem dX11_bound_48 : decode cX11_bound 48 = .ok (.idiv, 1) := by decide +kernel
theorem dX11_bound_49 : decode cX11_bound 49 = .ok (.idiv, 1) := by decide +kernel
theorem dX11_bound_50 : decode cX11_bound 50 = .ok (.iadd, 1) := by decide +kernel
theorem dX11_bound_51 : decode cX11_bound 51 = .ok (.istore_n 1, 1) := by decide +kernel
theorem dX11_bound_52 : decode cX11_bound 52 = .ok (.iinc 2 1, 3) := by decide +kernel
theorem dX11_bound_55 : decode cX11_bound 55 = .ok (.goto (-51), 3) := by decide +kernel
theorem dX11_bound_58 : decode cX11_bound 58 = .ok (.iload_n 1, 1) := by decide +kernel
theorem dX11_bound_59 : decode cX11_bound 59 = .ok (.ireturn, 1) := by decide +kernel
theorem dX11_picksBy_0 : decode cX11_picksBy 0 = .ok (.iconst 0, 1) := by decide +kernel
theorem dX11_picksBy_1 : decode cX11_picksBy 1 = .ok (.istore_n 3, 1) := by decide +kernel
theorem dX11_picksBy_2 : decode cX11_picksBy 2 = .ok (.iload_n 3, 1) := by decide +kernel
theorem dX11_picksBy_3 : decode cX11_picksBy 3 = .ok (.bipush 7, 2) := by decide +kernel
theorem dX11_picksBy_5 : decode cX11_picksBy 5 = .ok (.if_icmp .ge 16, 3) := by decide +kernel
theorem dX11_picksBy_8 : decode cX11_picksBy 8 = .ok (.aload_n 0, 1) := by decide +kernel
theorem dX11_picksBy_9 : decode cX11_picksBy 9 = .ok (.getfield 89, 3) := by decide +kernel
theorem dX11_picksBy_12 : decode cX11_picksBy 12 = .ok (.iload_n 3, 1) := by decide +kernel
theorem dX11_picksBy_13 : decode cX11_picksBy 13 = .ok (.iconst 0, 1) := by decide +kernel
theorem dX11_picksBy_14 : decode cX11_picksBy 14 = .ok (.iastore, 1) := by decide +kernel
theorem dX11_picksBy_15 : decode cX11_picksBy 15 = .ok (.iinc 3 1, 3) := by decide +kernel
theorem dX11_picksBy_18 : decode cX11_picksBy 18 = .ok (.goto (-16), 3) := by decide +kernel
theorem dX11_picksBy_21 : decode cX11_picksBy 21 = .ok (.iload_n 1, 1) := by decide +kernel
theorem dX11_picksBy_22 : decode cX11_picksBy 22 = .ok (.istore_n 3, 1) := by decide +kernel
theorem dX11_picksBy_23 : decode cX11_picksBy 23 = .ok (.iconst 0, 1) := by decide +kernel
theorem dX11_picksBy_24 : decode cX11_picksBy 24 = .ok (.istore 4, 2) := by decide +kernel
theorem dX11_picksBy_26 : decode cX11_picksBy 26 = .ok (.iload 4, 2) := by decide +kernel
theorem dX11_picksBy_28 : decode cX11_picksBy 28 = .ok (.aload_n 0, 1) := by decide +kernel
theorem dX11_picksBy_29 : decode cX11_picksBy 29 = .ok (.getfield 102, 3) := by decide +kernel
theorem dX11_picksBy_32 : decode cX11_picksBy 32 = .ok (.if_icmp .ge 46, 3) := by decide +kernel
theorem dX11_picksBy_35 : decode cX11_picksBy 35 = .ok (.iload_n 3, 1) := by decide +kernel
theorem dX11_picksBy_36 : decode cX11_picksBy 36 = .ok (.bipush 7, 2) := by decide +kernel
theorem dX11_picksBy_38 : decode cX11_picksBy 38 = .ok (.irem, 1) := by decide +kernel
theorem dX11_picksBy_39 : decode cX11_picksBy 39 = .ok (.aload_n 0, 1) := by decide +kernel
theorem dX11_picksBy_40 : decode cX11_picksBy 40 = .ok (.getfield 95, 3) := by decide +kernel
theorem dX11_picksBy_43 : decode cX11_picksBy 43 = .ok (.if_icmp .le 5, 3) := by decide +kernel
theorem dX11_picksBy_46 : decode cX11_picksBy 46 = .ok (.iconst (-1), 1) := by decide +kernel
theorem dX11_picksBy_47 : decode cX11_picksBy 47 = .ok (.ireturn, 1) := by decide +kernel
theorem dX11_picksBy_48 : decode cX11_picksBy 48 = .ok (.aload_n 0, 1) := by decide +kernel
theorem dX11_picksBy_49 : decode cX11_picksBy 49 = .ok (.getfield 89, 3) := by decide +kernel
theorem dX11_picksBy_52 : decode cX11_picksBy 52 = .ok (.iload_n 3, 1) := by decide +kernel
theorem dX11_picksBy_53 : decode cX11_picksBy 53 = .ok (.bipush 7, 2) := by decide +kernel
theorem dX11_picksBy_55 : decode cX11_picksBy 55 = .ok (.irem, 1) := by decide +kernel
theorem dX11_picksBy_56 : decode cX11_picksBy 56 = .ok (.dup2, 1) := by decide +kernel
theorem dX11_picksBy_57 : decode cX11_picksBy 57 = .ok (.iaload, 1) := by decide +kernel
theorem dX11_picksBy_58 : decode cX11_picksBy 58 = .ok (.aload_n 0, 1) := by decide +kernel
theorem dX11_picksBy_59 : decode cX11_picksBy 59 = .ok (.getfield 32, 3) := by decide +kernel
theorem dX11_picksBy_62 : decode cX11_picksBy 62 = .ok (.iload 4, 2) := by decide +kernel
theorem dX11_picksBy_64 : decode cX11_picksBy 64 = .ok (.iaload, 1) := by decide +kernel
theorem dX11_picksBy_65 : decode cX11_picksBy 65 = .ok (.iadd, 1) := by decide +kernel
theorem dX11_picksBy_66 : decode cX11_picksBy 66 = .ok (.iastore, 1) := by decide +kernel
theorem dX11_picksBy_67 : decode cX11_picksBy 67 = .ok (.iload_n 3, 1) := by decide +kernel
theorem dX11_picksBy_68 : decode cX11_picksBy 68 = .ok (.bipush 7, 2) := by decide +kernel
theorem dX11_picksBy_70 : decode cX11_picksBy 70 = .ok (.idiv, 1) := by decide +kernel
theorem dX11_picksBy_71 : decode cX11_picksBy 71 = .ok (.istore_n 3, 1) := by decide +kernel
theorem dX11_picksBy_72 : decode cX11_picksBy 72 = .ok (.iinc 4 1, 3) := by decide +kernel
theorem dX11_picksBy_75 : decode cX11_picksBy 75 = .ok (.goto (-49), 3) := by decide +kernel
theorem dX11_picksBy_78 : decode cX11_picksBy 78 = .ok (.iconst 0, 1) := by decide +kernel
theorem dX11_picksBy_79 : decode cX11_picksBy 79 = .ok (.istore 4, 2) := by decide +kernel
theorem dX11_picksBy_81 : decode cX11_picksBy 81 = .ok (.iconst 0, 1) := by decide +kernel
theorem dX11_picksBy_82 : decode cX11_picksBy 82 = .ok (.istore 5, 2) := by decide +kernel
theorem dX11_picksBy_84 : decode cX11_picksBy 84 = .ok (.iload 5, 2) := by decide +kernel
theorem dX11_picksBy_86 : decode cX11_picksBy 86 = .ok (.aload_n 0, 1) := by decide +kernel
theorem dX11_picksBy_87 : decode cX11_picksBy 87 = .ok (.getfield 95, 3) := by decide +kernel
theorem dX11_picksBy_90 : decode cX11_picksBy 90 = .ok (.if_icmp .ge 66, 3) := by decide +kernel
theorem dX11_picksBy_93 : decode cX11_picksBy 93 = .ok (.bipush 12, 2) := by decide +kernel
theorem dX11_picksBy_95 : decode cX11_picksBy 95 = .ok (.aload_n 0, 1) := by decide +kernel
theorem dX11_picksBy_96 : decode cX11_picksBy 96 = .ok (.getfield 89, 3) := by decide +kernel
theorem dX11_picksBy_99 : decode cX11_picksBy 99 = .ok (.iload 5, 2) := by decide +kernel
theorem dX11_picksBy_101 : decode cX11_picksBy 101 = .ok (.iconst 1, 1) := by decide +kernel
theorem dX11_picksBy_102 : decode cX11_picksBy 102 = .ok (.iadd, 1) := by decide +kernel
theorem dX11_picksBy_103 : decode cX11_picksBy 103 = .ok (.iaload, 1) := by decide +kernel
theorem dX11_picksBy_104 : decode cX11_picksBy 104 = .ok (.imul, 1) := by decide +kernel
theorem dX11_picksBy_105 : decode cX11_picksBy 105 = .ok (.istore 6, 2) := by decide +kernel
theorem dX11_picksBy_107 : decode cX11_picksBy 107 = .ok (.iload 4, 2) := by decide +kernel
theorem dX11_picksBy_109 : decode cX11_picksBy 109 = .ok (.aload_n 0, 1) := by decide +kernel
theorem dX11_picksBy_110 : decode cX11_picksBy 110 = .ok (.iload 5, 2) := by decide +kernel
theorem dX11_picksBy_112 : decode cX11_picksBy 112 = .ok (.iload_n 2, 1) := by decide +kernel
theorem dX11_picksBy_113 : decode cX11_picksBy 113 = .ok (.invokevirtual 136, 3) := by decide +kernel
theorem dX11_picksBy_116 : decode cX11_picksBy 116 = .ok (.ifCond .ne 7, 3) := by decide +kernel
theorem dX11_picksBy_119 : decode cX11_picksBy 119 = .ok (.iconst 0, 1) := by decide +kernel
theorem dX11_picksBy_120 : decode cX11_picksBy 120 = .ok (.goto 27, 3) := by decide +kernel
theorem dX11_picksBy_123 : decode cX11_picksBy 123 = .ok (.iload 6, 2) := by decide +kernel
theorem dX11_picksBy_125 : decode cX11_picksBy 125 = .ok (.aload_n 0, 1) := by decide +kernel
theorem dX11_picksBy_126 : decode cX11_picksBy 126 = .ok (.getfield 13, 3) := by decide +kernel
theorem dX11_picksBy_129 : decode cX11_picksBy 129 = .ok (.iload 5, 2) := by decide +kernel
theorem dX11_picksBy_131 : decode cX11_picksBy 131 = .ok (.iaload, 1) := by decide +kernel
theorem dX11_picksBy_132 : decode cX11_picksBy 132 = .ok (.if_icmp .ge 8, 3) := by decide +kernel
theorem dX11_picksBy_135 : decode cX11_picksBy 135 = .ok (.iload 6, 2) := by decide +kernel
theorem dX11_picksBy_137 : decode cX11_picksBy 137 = .ok (.goto 10, 3) := by decide +kernel
theorem dX11_picksBy_140 : decode cX11_picksBy 140 = .ok (.aload_n 0, 1) := by decide +kernel
theorem dX11_picksBy_141 : decode cX11_picksBy 141 = .ok (.getfield 13, 3) := by decide +kernel
theorem dX11_picksBy_144 : decode cX11_picksBy 144 = .ok (.iload 5, 2) := by decide +kernel
theorem dX11_picksBy_146 : decode cX11_picksBy 146 = .ok (.iaload, 1) := by decide +kernel
theorem dX11_picksBy_147 : decode cX11_picksBy 147 = .ok (.iadd, 1) := by decide +kernel
theorem dX11_picksBy_148 : decode cX11_picksBy 148 = .ok (.istore 4, 2) := by decide +kernel
theorem dX11_picksBy_150 : decode cX11_picksBy 150 = .ok (.iinc 5 1, 3) := by decide +kernel
theorem dX11_picksBy_153 : decode cX11_picksBy 153 = .ok (.goto (-69), 3) := by decide +kernel
theorem dX11_picksBy_156 : decode cX11_picksBy 156 = .ok (.iload 4, 2) := by decide +kernel
theorem dX11_picksBy_158 : decode cX11_picksBy 158 = .ok (.ireturn, 1) := by decide +kernel
theorem dX11_most_0 : decode cX11_most 0 = .ok (.iload_n 1, 1) := by decide +kernel
theorem dX11_most_1 : decode cX11_most 1 = .ok (.iconst 0, 1) := by decide +kernel
theorem dX11_most_2 : decode cX11_most 2 = .ok (.bipush 40, 2) := by decide +kernel
theorem dX11_most_4 : decode cX11_most 4 = .ok (.invokestatic 98, 3) := by decide +kernel
theorem dX11_most_7 : decode cX11_most 7 = .ok (.ifCond .eq 12, 3) := by decide +kernel
theorem dX11_most_10 : decode cX11_most 10 = .ok (.iload_n 2, 1) := by decide +kernel
theorem dX11_most_11 : decode cX11_most 11 = .ok (.iconst 0, 1) := by decide +kernel
theorem dX11_most_12 : decode cX11_most 12 = .ok (.iconst 1, 1) := by decide +kernel
theorem dX11_most_13 : decode cX11_most 13 = .ok (.invokestatic 98, 3) := by decide +kernel
theorem dX11_most_16 : decode cX11_most 16 = .ok (.ifCond .ne 5, 3) := by decide +kernel
theorem dX11_most_19 : decode cX11_most 19 = .ok (.iconst (-1), 1) := by decide +kernel
theorem dX11_most_20 : decode cX11_most 20 = .ok (.ireturn, 1) := by decide +kernel
theorem dX11_most_21 : decode cX11_most 21 = .ok (.iconst 1, 1) := by decide +kernel
theorem dX11_most_22 : decode cX11_most 22 = .ok (.istore_n 3, 1) := by decide +kernel
theorem dX11_most_23 : decode cX11_most 23 = .ok (.iconst 0, 1) := by decide +kernel
theorem dX11_most_24 : decode cX11_most 24 = .ok (.istore 4, 2) := by decide +kernel
theorem dX11_most_26 : decode cX11_most 26 = .ok (.iload 4, 2) := by decide +kernel
theorem dX11_most_28 : decode cX11_most 28 = .ok (.aload_n 0, 1) := by decide +kernel
theorem dX11_most_29 : decode cX11_most 29 = .ok (.getfield 102, 3) := by decide +kernel
theorem dX11_most_32 : decode cX11_most 32 = .ok (.if_icmp .ge 14, 3) := by decide +kernel
theorem dX11_most_35 : decode cX11_most 35 = .ok (.iload_n 3, 1) := by decide +kernel
theorem dX11_most_36 : decode cX11_most 36 = .ok (.bipush 7, 2) := by decide +kernel
theorem dX11_most_38 : decode cX11_most 38 = .ok (.imul, 1) := by decide +kernel
theorem dX11_most_39 : decode cX11_most 39 = .ok (.istore_n 3, 1) := by decide +kernel
theorem dX11_most_40 : decode cX11_most 40 = .ok (.iinc 4 1, 3) := by decide +kernel
theorem dX11_most_43 : decode cX11_most 43 = .ok (.goto (-17), 3) := by decide +kernel
theorem dX11_most_46 : decode cX11_most 46 = .ok (.iconst 0, 1) := by decide +kernel
theorem dX11_most_47 : decode cX11_most 47 = .ok (.istore 4, 2) := by decide +kernel
theorem dX11_most_49 : decode cX11_most 49 = .ok (.iconst 0, 1) := by decide +kernel
theorem dX11_most_50 : decode cX11_most 50 = .ok (.istore 5, 2) := by decide +kernel
theorem dX11_most_52 : decode cX11_most 52 = .ok (.iconst 1, 1) := by decide +kernel
theorem dX11_most_53 : decode cX11_most 53 = .ok (.istore 6, 2) := by decide +kernel
theorem dX11_most_55 : decode cX11_most 55 = .ok (.iload 6, 2) := by decide +kernel
theorem dX11_most_57 : decode cX11_most 57 = .ok (.iload_n 3, 1) := by decide +kernel
theorem dX11_most_58 : decode cX11_most 58 = .ok (.if_icmp .ge 50, 3) := by decide +kernel
theorem dX11_most_61 : decode cX11_most 61 = .ok (.aload_n 0, 1) := by decide +kernel
theorem dX11_most_62 : decode cX11_most 62 = .ok (.iload 6, 2) := by decide +kernel
theorem dX11_most_64 : decode cX11_most 64 = .ok (.iload_n 1, 1) := by decide +kernel
theorem dX11_most_65 : decode cX11_most 65 = .ok (.invokevirtual 185, 3) := by decide +kernel
theorem dX11_most_68 : decode cX11_most 68 = .ok (.istore 7, 2) := by decide +kernel
theorem dX11_most_70 : decode cX11_most 70 = .ok (.iload 7, 2) := by decide +kernel
theorem dX11_most_72 : decode cX11_most 72 = .ok (.iload 5, 2) := by decide +kernel
theorem dX11_most_74 : decode cX11_most 74 = .ok (.if_icmp .le 8, 3) := by decide +kernel
theorem dX11_most_77 : decode cX11_most 77 = .ok (.iload 6, 2) := by decide +kernel
theorem dX11_most_79 : decode cX11_most 79 = .ok (.goto 5, 3) := by decide +kernel
theorem dX11_most_82 : decode cX11_most 82 = .ok (.iload 4, 2) := by decide +kernel
theorem dX11_most_84 : decode cX11_most 84 = .ok (.istore 4, 2) := by decide +kernel
theorem dX11_most_86 : decode cX11_most 86 = .ok (.iload 7, 2) := by decide +kernel
theorem dX11_most_88 : decode cX11_most 88 = .ok (.iload 5, 2) := by decide +kernel
theorem dX11_most_90 : decode cX11_most 90 = .ok (.if_icmp .le 8, 3) := by decide +kernel
theorem dX11_most_93 : decode cX11_most 93 = .ok (.iload 7, 2) := by decide +kernel
theorem dX11_most_95 : decode cX11_most 95 = .ok (.goto 5, 3) := by decide +kernel
theorem dX11_most_98 : decode cX11_most 98 = .ok (.iload 5, 2) := by decide +kernel
theorem dX11_most_100 : decode cX11_most 100 = .ok (.istore 5, 2) := by decide +kernel
theorem dX11_most_102 : decode cX11_most 102 = .ok (.iinc 6 1, 3) := by decide +kernel
theorem dX11_most_105 : decode cX11_most 105 = .ok (.goto (-50), 3) := by decide +kernel
theorem dX11_most_108 : decode cX11_most 108 = .ok (.iload_n 2, 1) := by decide +kernel
theorem dX11_most_109 : decode cX11_most 109 = .ok (.ifCond .ne 8, 3) := by decide +kernel
theorem dX11_most_112 : decode cX11_most 112 = .ok (.iload 5, 2) := by decide +kernel
theorem dX11_most_114 : decode cX11_most 114 = .ok (.goto 5, 3) := by decide +kernel
theorem dX11_most_117 : decode cX11_most 117 = .ok (.iload 4, 2) := by decide +kernel
theorem dX11_most_119 : decode cX11_most 119 = .ok (.ireturn, 1) := by decide +kernel
theorem dX11_trace_0 : decode cX11_trace 0 = .ok (.aload_n 0, 1) := by decide +kernel
theorem dX11_trace_1 : decode cX11_trace 1 = .ok (.getfield 118, 3) := by decide +kernel
theorem dX11_trace_4 : decode cX11_trace 4 = .ok (.lreturn, 1) := by decide +kernel
end
section
theorem dL_law_0 : decode cL_law 0 = .ok (.new 7, 3) := by decide +kernel
theorem dL_law_3 : decode cL_law 3 = .ok (.dup, 1) := by decide +kernel
theorem dL_law_4 : decode cL_law 4 = .ok (.invokespecial 9, 3) := by decide +kernel
theorem dL_law_7 : decode cL_law 7 = .ok (.astore_n 1, 1) := by decide +kernel
theorem dL_law_8 : decode cL_law 8 = .ok (.new 10, 3) := by decide +kernel
theorem dL_law_11 : decode cL_law 11 = .ok (.dup, 1) := by decide +kernel
theorem dL_law_12 : decode cL_law 12 = .ok (.invokespecial 12, 3) := by decide +kernel
theorem dL_law_15 : decode cL_law 15 = .ok (.astore_n 2, 1) := by decide +kernel
theorem dL_law_16 : decode cL_law 16 = .ok (.iconst 0, 1) := by decide +kernel
theorem dL_law_17 : decode cL_law 17 = .ok (.istore_n 3, 1) := by decide +kernel
theorem dL_law_18 : decode cL_law 18 = .ok (.iload_n 3, 1) := by decide +kernel
theorem dL_law_19 : decode cL_law 19 = .ok (.aload_n 0, 1) := by decide +kernel
theorem dL_law_20 : decode cL_law 20 = .ok (.arraylength, 1) := by decide +kernel
theorem dL_law_21 : decode cL_law 21 = .ok (.iconst 4, 1) := by decide +kernel
theorem dL_law_22 : decode cL_law 22 = .ok (.isub, 1) := by decide +kernel
theorem dL_law_23 : decode cL_law 23 = .ok (.if_icmp .gt 719, 3) := by decide +kernel
theorem dL_law_26 : decode cL_law 26 = .ok (.aload_n 0, 1) := by decide +kernel
theorem dL_law_27 : decode cL_law 27 = .ok (.iload_n 3, 1) := by decide +kernel
theorem dL_law_28 : decode cL_law 28 = .ok (.iaload, 1) := by decide +kernel
theorem dL_law_29 : decode cL_law 29 = .ok (.bipush 31, 2) := by decide +kernel
theorem dL_law_31 : decode cL_law 31 = .ok (.iand, 1) := by decide +kernel
theorem dL_law_32 : decode cL_law 32 = .ok (.tableswitch 704 0 20 #[100, 143, 176, 209, 242, 275, 308, 331, 354, 387, 420, 453, 476, 509, 532, 565, 588, 621, 644, 657, 690], 100) := by decide +kernel
theorem dL_law_132 : decode cL_law 132 = .ok (.aload_n 1, 1) := by decide +kernel
theorem dL_law_133 : decode cL_law 133 = .ok (.aload_n 0, 1) := by decide +kernel
theorem dL_law_134 : decode cL_law 134 = .ok (.iload_n 3, 1) := by decide +kernel
theorem dL_law_135 : decode cL_law 135 = .ok (.iconst 1, 1) := by decide +kernel
theorem dL_law_136 : decode cL_law 136 = .ok (.iadd, 1) := by decide +kernel
theorem dL_law_137 : decode cL_law 137 = .ok (.iaload, 1) := by decide +kernel
theorem dL_law_138 : decode cL_law 138 = .ok (.aload_n 0, 1) := by decide +kernel
theorem dL_law_139 : decode cL_law 139 = .ok (.iload_n 3, 1) := by decide +kernel
theorem dL_law_140 : decode cL_law 140 = .ok (.iconst 2, 1) := by decide +kernel
theorem dL_law_141 : decode cL_law 141 = .ok (.iadd, 1) := by decide +kernel
theorem dL_law_142 : decode cL_law 142 = .ok (.iaload, 1) := by decide +kernel
theorem dL_law_143 : decode cL_law 143 = .ok (.aload_n 0, 1) := by decide +kernel
theorem dL_law_144 : decode cL_law 144 = .ok (.iload_n 3, 1) := by decide +kernel
theorem dL_law_145 : decode cL_law 145 = .ok (.iconst 3, 1) := by decide +kernel
theorem dL_law_146 : decode cL_law 146 = .ok (.iadd, 1) := by decide +kernel
theorem dL_law_147 : decode cL_law 147 = .ok (.iaload, 1) := by decide +kernel
theorem dL_law_148 : decode cL_law 148 = .ok (.invokevirtual 13, 3) := by decide +kernel
theorem dL_law_151 : decode cL_law 151 = .ok (.aload_n 2, 1) := by decide +kernel
theorem dL_law_152 : decode cL_law 152 = .ok (.aload_n 0, 1) := by decide +kernel
theorem dL_law_153 : decode cL_law 153 = .ok (.iload_n 3, 1) := by decide +kernel
theorem dL_law_154 : decode cL_law 154 = .ok (.iconst 1, 1) := by decide +kernel
theorem dL_law_155 : decode cL_law 155 = .ok (.iadd, 1) := by decide +kernel
theorem dL_law_156 : decode cL_law 156 = .ok (.iaload, 1) := by decide +kernel
theorem dL_law_157 : decode cL_law 157 = .ok (.aload_n 0, 1) := by decide +kernel
theorem dL_law_158 : decode cL_law 158 = .ok (.iload_n 3, 1) := by decide +kernel
theorem dL_law_159 : decode cL_law 159 = .ok (.iconst 2, 1) := by decide +kernel
theorem dL_law_160 : decode cL_law 160 = .ok (.iadd, 1) := by decide +kernel
theorem dL_law_161 : decode cL_law 161 = .ok (.iaload, 1) := by decide +kernel
theorem dL_law_162 : decode cL_law 162 = .ok (.aload_n 0, 1) := by decide +kernel
theorem dL_law_163 : decode cL_law 163 = .ok (.iload_n 3, 1) := by decide +kernel
theorem dL_law_164 : decode cL_law 164 = .ok (.iconst 3, 1) := by decide +kernel
theorem dL_law_165 : decode cL_law 165 = .ok (.iadd, 1) := by decide +kernel
theorem dL_law_166 : decode cL_law 166 = .ok (.iaload, 1) := by decide +kernel
theorem dL_law_167 : decode cL_law 167 = .ok (.invokevirtual 17, 3) := by decide +kernel
theorem dL_law_170 : decode cL_law 170 = .ok (.if_icmp .eq 566, 3) := by decide +kernel
theorem dL_law_173 : decode cL_law 173 = .ok (.iconst 0, 1) := by decide +kernel
theorem dL_law_174 : decode cL_law 174 = .ok (.ireturn, 1) := by decide +kernel
theorem dL_law_175 : decode cL_law 175 = .ok (.aload_n 1, 1) := by decide +kernel
theorem dL_law_176 : decode cL_law 176 = .ok (.aload_n 0, 1) := by decide +kernel
theorem dL_law_177 : decode cL_law 177 = .ok (.iload_n 3, 1) := by decide +kernel
theorem dL_law_178 : decode cL_law 178 = .ok (.iconst 1, 1) := by decide +kernel
theorem dL_law_179 : decode cL_law 179 = .ok (.iadd, 1) := by decide +kernel
theorem dL_law_180 : decode cL_law 180 = .ok (.iaload, 1) := by decide +kernel
theorem dL_law_181 : decode cL_law 181 = .ok (.aload_n 0, 1) := by decide +kernel
theorem dL_law_182 : decode cL_law 182 = .ok (.iload_n 3, 1) := by decide +kernel
theorem dL_law_183 : decode cL_law 183 = .ok (.iconst 2, 1) := by decide +kernel
theorem dL_law_184 : decode cL_law 184 = .ok (.iadd, 1) := by decide +kernel
theorem dL_law_185 : decode cL_law 185 = .ok (.iaload, 1) := by decide +kernel
theorem dL_law_186 : decode cL_law 186 = .ok (.invokevirtual 18, 3) := by decide +kernel
theorem dL_law_189 : decode cL_law 189 = .ok (.aload_n 2, 1) := by decide +kernel
theorem dL_law_190 : decode cL_law 190 = .ok (.aload_n 0, 1) := by decide +kernel
theorem dL_law_191 : decode cL_law 191 = .ok (.iload_n 3, 1) := by decide +kernel
theorem dL_law_192 : decode cL_law 192 = .ok (.iconst 1, 1) := by decide +kernel
theorem dL_law_193 : decode cL_law 193 = .ok (.iadd, 1) := by decide +kernel
theorem dL_law_194 : decode cL_law 194 = .ok (.iaload, 1) := by decide +kernel
theorem dL_law_195 : decode cL_law 195 = .ok (.aload_n 0, 1) := by decide +kernel
theorem dL_law_196 : decode cL_law 196 = .ok (.iload_n 3, 1) := by decide +kernel
theorem dL_law_197 : decode cL_law 197 = .ok (.iconst 2, 1) := by decide +kernel
theorem dL_law_198 : decode cL_law 198 = .ok (.iadd, 1) := by decide +kernel
theorem dL_law_199 : decode cL_law 199 = .ok (.iaload, 1) := by decide +kernel
theorem dL_law_200 : decode cL_law 200 = .ok (.invokevirtual 22, 3) := by decide +kernel
theorem dL_law_203 : decode cL_law 203 = .ok (.if_icmp .eq 533, 3) := by decide +kernel
theorem dL_law_206 : decode cL_law 206 = .ok (.iconst 0, 1) := by decide +kernel
theorem dL_law_207 : decode cL_law 207 = .ok (.ireturn, 1) := by decide +kernel
theorem dL_law_208 : decode cL_law 208 = .ok (.aload_n 1, 1) := by decide +kernel
theorem dL_law_209 : decode cL_law 209 = .ok (.aload_n 0, 1) := by decide +kernel
theorem dL_law_210 : decode cL_law 210 = .ok (.iload_n 3, 1) := by decide +kernel
theorem dL_law_211 : decode cL_law 211 = .ok (.iconst 1, 1) := by decide +kernel
theorem dL_law_212 : decode cL_law 212 = .ok (.iadd, 1) := by decide +kernel
theorem dL_law_213 : decode cL_law 213 = .ok (.iaload, 1) := by decide +kernel
theorem dL_law_214 : decode cL_law 214 = .ok (.aload_n 0, 1) := by decide +kernel
theorem dL_law_215 : decode cL_law 215 = .ok (.iload_n 3, 1) := by decide +kernel
theorem dL_law_216 : decode cL_law 216 = .ok (.iconst 2, 1) := by decide +kernel
theorem dL_law_217 : decode cL_law 217 = .ok (.iadd, 1) := by decide +kernel
theorem dL_law_218 : decode cL_law 218 = .ok (.iaload, 1) := by decide +kernel
theorem dL_law_219 : decode cL_law 219 = .ok (.invokevirtual 23, 3) := by decide +kernel
theorem dL_law_222 : decode cL_law 222 = .ok (.aload_n 2, 1) := by decide +kernel
theorem dL_law_223 : decode cL_law 223 = .ok (.aload_n 0, 1) := by decide +kernel
theorem dL_law_224 : decode cL_law 224 = .ok (.iload_n 3, 1) := by decide +kernel
theorem dL_law_225 : decode cL_law 225 = .ok (.iconst 1, 1) := by decide +kernel
theorem dL_law_226 : decode cL_law 226 = .ok (.iadd, 1) := by decide +kernel
theorem dL_law_227 : decode cL_law 227 = .ok (.iaload, 1) := by decide +kernel
theorem dL_law_228 : decode cL_law 228 = .ok (.aload_n 0, 1) := by decide +kernel
theorem dL_law_229 : decode cL_law 229 = .ok (.iload_n 3, 1) := by decide +kernel
theorem dL_law_230 : decode cL_law 230 = .ok (.iconst 2, 1) := by decide +kernel
theorem dL_law_231 : decode cL_law 231 = .ok (.iadd, 1) := by decide +kernel
theorem dL_law_232 : decode cL_law 232 = .ok (.iaload, 1) := by decide +kernel
theorem dL_law_233 : decode cL_law 233 = .ok (.invokevirtual 26, 3) := by decide +kernel
theorem dL_law_236 : decode cL_law 236 = .ok (.if_icmp .eq 500, 3) := by decide +kernel
theorem dL_law_239 : decode cL_law 239 = .ok (.iconst 0, 1) := by decide +kernel
theorem dL_law_240 : decode cL_law 240 = .ok (.ireturn, 1) := by decide +kernel
theorem dL_law_241 : decode cL_law 241 = .ok (.aload_n 1, 1) := by decide +kernel
theorem dL_law_242 : decode cL_law 242 = .ok (.aload_n 0, 1) := by decide +kernel
theorem dL_law_243 : decode cL_law 243 = .ok (.iload_n 3, 1) := by decide +kernel
theorem dL_law_244 : decode cL_law 244 = .ok (.iconst 1, 1) := by decide +kernel
theorem dL_law_245 : decode cL_law 245 = .ok (.iadd, 1) := by decide +kernel
theorem dL_law_246 : decode cL_law 246 = .ok (.iaload, 1) := by decide +kernel
theorem dL_law_247 : decode cL_law 247 = .ok (.aload_n 0, 1) := by decide +kernel
theorem dL_law_248 : decode cL_law 248 = .ok (.iload_n 3, 1) := by decide +kernel
theorem dL_law_249 : decode cL_law 249 = .ok (.iconst 2, 1) := by decide +kernel
theorem dL_law_250 : decode cL_law 250 = .ok (.iadd, 1) := by decide +kernel
theorem dL_law_251 : decode cL_law 251 = .ok (.iaload, 1) := by decide +kernel
theorem dL_law_252 : decode cL_law 252 = .ok (.invokevirtual 27, 3) := by decide +kernel
theorem dL_law_255 : decode cL_law 255 = .ok (.aload_n 2, 1) := by decide +kernel
theorem dL_law_256 : decode cL_law 256 = .ok (.aload_n 0, 1) := by decide +kernel
theorem dL_law_257 : decode cL_law 257 = .ok (.iload_n 3, 1) := by decide +kernel
theorem dL_law_258 : decode cL_law 258 = .ok (.iconst 1, 1) := by decide +kernel
theorem dL_law_259 : decode cL_law 259 = .ok (.iadd, 1) := by decide +kernel
theorem dL_law_260 : decode cL_law 260 = .ok (.iaload, 1) := by decide +kernel
theorem dL_law_261 : decode cL_law 261 = .ok (.aload_n 0, 1) := by decide +kernel
theorem dL_law_262 : decode cL_law 262 = .ok (.iload_n 3, 1) := by decide +kernel
theorem dL_law_263 : decode cL_law 263 = .ok (.iconst 2, 1) := by decide +kernel
theorem dL_law_264 : decode cL_law 264 = .ok (.iadd, 1) := by decide +kernel
theorem dL_law_265 : decode cL_law 265 = .ok (.iaload, 1) := by decide +kernel
theorem dL_law_266 : decode cL_law 266 = .ok (.invokevirtual 30, 3) := by decide +kernel
theorem dL_law_269 : decode cL_law 269 = .ok (.if_icmp .eq 467, 3) := by decide +kernel
theorem dL_law_272 : decode cL_law 272 = .ok (.iconst 0, 1) := by decide +kernel
theorem dL_law_273 : decode cL_law 273 = .ok (.ireturn, 1) := by decide +kernel
theorem dL_law_274 : decode cL_law 274 = .ok (.aload_n 1, 1) := by decide +kernel
theorem dL_law_275 : decode cL_law 275 = .ok (.aload_n 0, 1) := by decide +kernel
theorem dL_law_276 : decode cL_law 276 = .ok (.iload_n 3, 1) := by decide +kernel
theorem dL_law_277 : decode cL_law 277 = .ok (.iconst 1, 1) := by decide +kernel
theorem dL_law_278 : decode cL_law 278 = .ok (.iadd, 1) := by decide +kernel
theorem dL_law_279 : decode cL_law 279 = .ok (.iaload, 1) := by decide +kernel
theorem dL_law_280 : decode cL_law 280 = .ok (.aload_n 0, 1) := by decide +kernel
theorem dL_law_281 : decode cL_law 281 = .ok (.iload_n 3, 1) := by decide +kernel
theorem dL_law_282 : decode cL_law 282 = .ok (.iconst 2, 1) := by decide +kernel
theorem dL_law_283 : decode cL_law 283 = .ok (.iadd, 1) := by decide +kernel
theorem dL_law_284 : decode cL_law 284 = .ok (.iaload, 1) := by decide +kernel
theorem dL_law_285 : decode cL_law 285 = .ok (.invokevirtual 31, 3) := by decide +kernel
theorem dL_law_288 : decode cL_law 288 = .ok (.aload_n 2, 1) := by decide +kernel
theorem dL_law_289 : decode cL_law 289 = .ok (.aload_n 0, 1) := by decide +kernel
theorem dL_law_290 : decode cL_law 290 = .ok (.iload_n 3, 1) := by decide +kernel
theorem dL_law_291 : decode cL_law 291 = .ok (.iconst 1, 1) := by decide +kernel
theorem dL_law_292 : decode cL_law 292 = .ok (.iadd, 1) := by decide +kernel
theorem dL_law_293 : decode cL_law 293 = .ok (.iaload, 1) := by decide +kernel
theorem dL_law_294 : decode cL_law 294 = .ok (.aload_n 0, 1) := by decide +kernel
theorem dL_law_295 : decode cL_law 295 = .ok (.iload_n 3, 1) := by decide +kernel
theorem dL_law_296 : decode cL_law 296 = .ok (.iconst 2, 1) := by decide +kernel
theorem dL_law_297 : decode cL_law 297 = .ok (.iadd, 1) := by decide +kernel
theorem dL_law_298 : decode cL_law 298 = .ok (.iaload, 1) := by decide +kernel
theorem dL_law_299 : decode cL_law 299 = .ok (.invokevirtual 34, 3) := by decide +kernel
theorem dL_law_302 : decode cL_law 302 = .ok (.if_icmp .eq 434, 3) := by decide +kernel
theorem dL_law_305 : decode cL_law 305 = .ok (.iconst 0, 1) := by decide +kernel
theorem dL_law_306 : decode cL_law 306 = .ok (.ireturn, 1) := by decide +kernel
theorem dL_law_307 : decode cL_law 307 = .ok (.aload_n 1, 1) := by decide +kernel
theorem dL_law_308 : decode cL_law 308 = .ok (.aload_n 0, 1) := by decide +kernel
theorem dL_law_309 : decode cL_law 309 = .ok (.iload_n 3, 1) := by decide +kernel
theorem dL_law_310 : decode cL_law 310 = .ok (.iconst 1, 1) := by decide +kernel
theorem dL_law_311 : decode cL_law 311 = .ok (.iadd, 1) := by decide +kernel
theorem dL_law_312 : decode cL_law 312 = .ok (.iaload, 1) := by decide +kernel
theorem dL_law_313 : decode cL_law 313 = .ok (.aload_n 0, 1) := by decide +kernel
theorem dL_law_314 : decode cL_law 314 = .ok (.iload_n 3, 1) := by decide +kernel
theorem dL_law_315 : decode cL_law 315 = .ok (.iconst 2, 1) := by decide +kernel
theorem dL_law_316 : decode cL_law 316 = .ok (.iadd, 1) := by decide +kernel
theorem dL_law_317 : decode cL_law 317 = .ok (.iaload, 1) := by decide +kernel
theorem dL_law_318 : decode cL_law 318 = .ok (.invokevirtual 35, 3) := by decide +kernel
theorem dL_law_321 : decode cL_law 321 = .ok (.aload_n 2, 1) := by decide +kernel
theorem dL_law_322 : decode cL_law 322 = .ok (.aload_n 0, 1) := by decide +kernel
theorem dL_law_323 : decode cL_law 323 = .ok (.iload_n 3, 1) := by decide +kernel
theorem dL_law_324 : decode cL_law 324 = .ok (.iconst 1, 1) := by decide +kernel
theorem dL_law_325 : decode cL_law 325 = .ok (.iadd, 1) := by decide +kernel
theorem dL_law_326 : decode cL_law 326 = .ok (.iaload, 1) := by decide +kernel
theorem dL_law_327 : decode cL_law 327 = .ok (.aload_n 0, 1) := by decide +kernel
theorem dL_law_328 : decode cL_law 328 = .ok (.iload_n 3, 1) := by decide +kernel
theorem dL_law_329 : decode cL_law 329 = .ok (.iconst 2, 1) := by decide +kernel
theorem dL_law_330 : decode cL_law 330 = .ok (.iadd, 1) := by decide +kernel
theorem dL_law_331 : decode cL_law 331 = .ok (.iaload, 1) := by decide +kernel
theorem dL_law_332 : decode cL_law 332 = .ok (.invokevirtual 38, 3) := by decide +kernel
theorem dL_law_335 : decode cL_law 335 = .ok (.if_icmp .eq 401, 3) := by decide +kernel
theorem dL_law_338 : decode cL_law 338 = .ok (.iconst 0, 1) := by decide +kernel
theorem dL_law_339 : decode cL_law 339 = .ok (.ireturn, 1) := by decide +kernel
theorem dL_law_340 : decode cL_law 340 = .ok (.aload_n 1, 1) := by decide +kernel
theorem dL_law_341 : decode cL_law 341 = .ok (.aload_n 0, 1) := by decide +kernel
theorem dL_law_342 : decode cL_law 342 = .ok (.iload_n 3, 1) := by decide +kernel
theorem dL_law_343 : decode cL_law 343 = .ok (.iconst 1, 1) := by decide +kernel
theorem dL_law_344 : decode cL_law 344 = .ok (.iadd, 1) := by decide +kernel
theorem dL_law_345 : decode cL_law 345 = .ok (.iaload, 1) := by decide +kernel
theorem dL_law_346 : decode cL_law 346 = .ok (.invokevirtual 39, 3) := by decide +kernel
theorem dL_law_349 : decode cL_law 349 = .ok (.aload_n 2, 1) := by decide +kernel
theorem dL_law_350 : decode cL_law 350 = .ok (.aload_n 0, 1) := by decide +kernel
theorem dL_law_351 : decode cL_law 351 = .ok (.iload_n 3, 1) := by decide +kernel
theorem dL_law_352 : decode cL_law 352 = .ok (.iconst 1, 1) := by decide +kernel
theorem dL_law_353 : decode cL_law 353 = .ok (.iadd, 1) := by decide +kernel
theorem dL_law_354 : decode cL_law 354 = .ok (.iaload, 1) := by decide +kernel
theorem dL_law_355 : decode cL_law 355 = .ok (.invokevirtual 43, 3) := by decide +kernel
theorem dL_law_358 : decode cL_law 358 = .ok (.if_icmp .eq 378, 3) := by decide +kernel
theorem dL_law_361 : decode cL_law 361 = .ok (.iconst 0, 1) := by decide +kernel
theorem dL_law_362 : decode cL_law 362 = .ok (.ireturn, 1) := by decide +kernel
theorem dL_law_363 : decode cL_law 363 = .ok (.aload_n 1, 1) := by decide +kernel
theorem dL_law_364 : decode cL_law 364 = .ok (.aload_n 0, 1) := by decide +kernel
theorem dL_law_365 : decode cL_law 365 = .ok (.iload_n 3, 1) := by decide +kernel
theorem dL_law_366 : decode cL_law 366 = .ok (.iconst 1, 1) := by decide +kernel
theorem dL_law_367 : decode cL_law 367 = .ok (.iadd, 1) := by decide +kernel
theorem dL_law_368 : decode cL_law 368 = .ok (.iaload, 1) := by decide +kernel
theorem dL_law_369 : decode cL_law 369 = .ok (.invokevirtual 44, 3) := by decide +kernel
theorem dL_law_372 : decode cL_law 372 = .ok (.aload_n 2, 1) := by decide +kernel
theorem dL_law_373 : decode cL_law 373 = .ok (.aload_n 0, 1) := by decide +kernel
theorem dL_law_374 : decode cL_law 374 = .ok (.iload_n 3, 1) := by decide +kernel
theorem dL_law_375 : decode cL_law 375 = .ok (.iconst 1, 1) := by decide +kernel
theorem dL_law_376 : decode cL_law 376 = .ok (.iadd, 1) := by decide +kernel
theorem dL_law_377 : decode cL_law 377 = .ok (.iaload, 1) := by decide +kernel
theorem dL_law_378 : decode cL_law 378 = .ok (.invokevirtual 47, 3) := by decide +kernel
theorem dL_law_381 : decode cL_law 381 = .ok (.if_icmp .eq 355, 3) := by decide +kernel
theorem dL_law_384 : decode cL_law 384 = .ok (.iconst 0, 1) := by decide +kernel
theorem dL_law_385 : decode cL_law 385 = .ok (.ireturn, 1) := by decide +kernel
theorem dL_law_386 : decode cL_law 386 = .ok (.aload_n 1, 1) := by decide +kernel
theorem dL_law_387 : decode cL_law 387 = .ok (.aload_n 0, 1) := by decide +kernel
theorem dL_law_388 : decode cL_law 388 = .ok (.iload_n 3, 1) := by decide +kernel
theorem dL_law_389 : decode cL_law 389 = .ok (.iconst 1, 1) := by decide +kernel
theorem dL_law_390 : decode cL_law 390 = .ok (.iadd, 1) := by decide +kernel
theorem dL_law_391 : decode cL_law 391 = .ok (.iaload, 1) := by decide +kernel
theorem dL_law_392 : decode cL_law 392 = .ok (.aload_n 0, 1) := by decide +kernel
theorem dL_law_393 : decode cL_law 393 = .ok (.iload_n 3, 1) := by decide +kernel
theorem dL_law_394 : decode cL_law 394 = .ok (.iconst 2, 1) := by decide +kernel
theorem dL_law_395 : decode cL_law 395 = .ok (.iadd, 1) := by decide +kernel
theorem dL_law_396 : decode cL_law 396 = .ok (.iaload, 1) := by decide +kernel
theorem dL_law_397 : decode cL_law 397 = .ok (.invokevirtual 48, 3) := by decide +kernel
theorem dL_law_400 : decode cL_law 400 = .ok (.aload_n 2, 1) := by decide +kernel
theorem dL_law_401 : decode cL_law 401 = .ok (.aload_n 0, 1) := by decide +kernel
theorem dL_law_402 : decode cL_law 402 = .ok (.iload_n 3, 1) := by decide +kernel
theorem dL_law_403 : decode cL_law 403 = .ok (.iconst 1, 1) := by decide +kernel
theorem dL_law_404 : decode cL_law 404 = .ok (.iadd, 1) := by decide +kernel
theorem dL_law_405 : decode cL_law 405 = .ok (.iaload, 1) := by decide +kernel
theorem dL_law_406 : decode cL_law 406 = .ok (.aload_n 0, 1) := by decide +kernel
theorem dL_law_407 : decode cL_law 407 = .ok (.iload_n 3, 1) := by decide +kernel
theorem dL_law_408 : decode cL_law 408 = .ok (.iconst 2, 1) := by decide +kernel
theorem dL_law_409 : decode cL_law 409 = .ok (.iadd, 1) := by decide +kernel
theorem dL_law_410 : decode cL_law 410 = .ok (.iaload, 1) := by decide +kernel
theorem dL_law_411 : decode cL_law 411 = .ok (.invokevirtual 51, 3) := by decide +kernel
theorem dL_law_414 : decode cL_law 414 = .ok (.if_icmp .eq 322, 3) := by decide +kernel
theorem dL_law_417 : decode cL_law 417 = .ok (.iconst 0, 1) := by decide +kernel
theorem dL_law_418 : decode cL_law 418 = .ok (.ireturn, 1) := by decide +kernel
theorem dL_law_419 : decode cL_law 419 = .ok (.aload_n 1, 1) := by decide +kernel
theorem dL_law_420 : decode cL_law 420 = .ok (.aload_n 0, 1) := by decide +kernel
theorem dL_law_421 : decode cL_law 421 = .ok (.iload_n 3, 1) := by decide +kernel
theorem dL_law_422 : decode cL_law 422 = .ok (.iconst 1, 1) := by decide +kernel
theorem dL_law_423 : decode cL_law 423 = .ok (.iadd, 1) := by decide +kernel
theorem dL_law_424 : decode cL_law 424 = .ok (.iaload, 1) := by decide +kernel
theorem dL_law_425 : decode cL_law 425 = .ok (.aload_n 0, 1) := by decide +kernel
theorem dL_law_426 : decode cL_law 426 = .ok (.iload_n 3, 1) := by decide +kernel
theorem dL_law_427 : decode cL_law 427 = .ok (.iconst 2, 1) := by decide +kernel
theorem dL_law_428 : decode cL_law 428 = .ok (.iadd, 1) := by decide +kernel
theorem dL_law_429 : decode cL_law 429 = .ok (.iaload, 1) := by decide +kernel
theorem dL_law_430 : decode cL_law 430 = .ok (.invokevirtual 52, 3) := by decide +kernel
theorem dL_law_433 : decode cL_law 433 = .ok (.aload_n 2, 1) := by decide +kernel
theorem dL_law_434 : decode cL_law 434 = .ok (.aload_n 0, 1) := by decide +kernel
theorem dL_law_435 : decode cL_law 435 = .ok (.iload_n 3, 1) := by decide +kernel
theorem dL_law_436 : decode cL_law 436 = .ok (.iconst 1, 1) := by decide +kernel
theorem dL_law_437 : decode cL_law 437 = .ok (.iadd, 1) := by decide +kernel
theorem dL_law_438 : decode cL_law 438 = .ok (.iaload, 1) := by decide +kernel
theorem dL_law_439 : decode cL_law 439 = .ok (.aload_n 0, 1) := by decide +kernel
theorem dL_law_440 : decode cL_law 440 = .ok (.iload_n 3, 1) := by decide +kernel
theorem dL_law_441 : decode cL_law 441 = .ok (.iconst 2, 1) := by decide +kernel
theorem dL_law_442 : decode cL_law 442 = .ok (.iadd, 1) := by decide +kernel
theorem dL_law_443 : decode cL_law 443 = .ok (.iaload, 1) := by decide +kernel
theorem dL_law_444 : decode cL_law 444 = .ok (.invokevirtual 55, 3) := by decide +kernel
theorem dL_law_447 : decode cL_law 447 = .ok (.if_icmp .eq 289, 3) := by decide +kernel
theorem dL_law_450 : decode cL_law 450 = .ok (.iconst 0, 1) := by decide +kernel
theorem dL_law_451 : decode cL_law 451 = .ok (.ireturn, 1) := by decide +kernel
theorem dL_law_452 : decode cL_law 452 = .ok (.aload_n 1, 1) := by decide +kernel
theorem dL_law_453 : decode cL_law 453 = .ok (.aload_n 0, 1) := by decide +kernel
theorem dL_law_454 : decode cL_law 454 = .ok (.iload_n 3, 1) := by decide +kernel
theorem dL_law_455 : decode cL_law 455 = .ok (.iconst 1, 1) := by decide +kernel
theorem dL_law_456 : decode cL_law 456 = .ok (.iadd, 1) := by decide +kernel
theorem dL_law_457 : decode cL_law 457 = .ok (.iaload, 1) := by decide +kernel
theorem dL_law_458 : decode cL_law 458 = .ok (.aload_n 0, 1) := by decide +kernel
theorem dL_law_459 : decode cL_law 459 = .ok (.iload_n 3, 1) := by decide +kernel
theorem dL_law_460 : decode cL_law 460 = .ok (.iconst 2, 1) := by decide +kernel
theorem dL_law_461 : decode cL_law 461 = .ok (.iadd, 1) := by decide +kernel
theorem dL_law_462 : decode cL_law 462 = .ok (.iaload, 1) := by decide +kernel
theorem dL_law_463 : decode cL_law 463 = .ok (.invokevirtual 56, 3) := by decide +kernel
theorem dL_law_466 : decode cL_law 466 = .ok (.aload_n 2, 1) := by decide +kernel
theorem dL_law_467 : decode cL_law 467 = .ok (.aload_n 0, 1) := by decide +kernel
theorem dL_law_468 : decode cL_law 468 = .ok (.iload_n 3, 1) := by decide +kernel
theorem dL_law_469 : decode cL_law 469 = .ok (.iconst 1, 1) := by decide +kernel
theorem dL_law_470 : decode cL_law 470 = .ok (.iadd, 1) := by decide +kernel
theorem dL_law_471 : decode cL_law 471 = .ok (.iaload, 1) := by decide +kernel
theorem dL_law_472 : decode cL_law 472 = .ok (.aload_n 0, 1) := by decide +kernel
theorem dL_law_473 : decode cL_law 473 = .ok (.iload_n 3, 1) := by decide +kernel
theorem dL_law_474 : decode cL_law 474 = .ok (.iconst 2, 1) := by decide +kernel
theorem dL_law_475 : decode cL_law 475 = .ok (.iadd, 1) := by decide +kernel
theorem dL_law_476 : decode cL_law 476 = .ok (.iaload, 1) := by decide +kernel
theorem dL_law_477 : decode cL_law 477 = .ok (.invokevirtual 59, 3) := by decide +kernel
theorem dL_law_480 : decode cL_law 480 = .ok (.if_icmp .eq 256, 3) := by decide +kernel
theorem dL_law_483 : decode cL_law 483 = .ok (.iconst 0, 1) := by decide +kernel
theorem dL_law_484 : decode cL_law 484 = .ok (.ireturn, 1) := by decide +kernel
theorem dL_law_485 : decode cL_law 485 = .ok (.aload_n 1, 1) := by decide +kernel
theorem dL_law_486 : decode cL_law 486 = .ok (.aload_n 0, 1) := by decide +kernel
theorem dL_law_487 : decode cL_law 487 = .ok (.iload_n 3, 1) := by decide +kernel
theorem dL_law_488 : decode cL_law 488 = .ok (.iconst 1, 1) := by decide +kernel
theorem dL_law_489 : decode cL_law 489 = .ok (.iadd, 1) := by decide +kernel
theorem dL_law_490 : decode cL_law 490 = .ok (.iaload, 1) := by decide +kernel
theorem dL_law_491 : decode cL_law 491 = .ok (.invokevirtual 60, 3) := by decide +kernel
theorem dL_law_494 : decode cL_law 494 = .ok (.aload_n 2, 1) := by decide +kernel
theorem dL_law_495 : decode cL_law 495 = .ok (.aload_n 0, 1) := by decide +kernel
theorem dL_law_496 : decode cL_law 496 = .ok (.iload_n 3, 1) := by decide +kernel
theorem dL_law_497 : decode cL_law 497 = .ok (.iconst 1, 1) := by decide +kernel
theorem dL_law_498 : decode cL_law 498 = .ok (.iadd, 1) := by decide +kernel
theorem dL_law_499 : decode cL_law 499 = .ok (.iaload, 1) := by decide +kernel
theorem dL_law_500 : decode cL_law 500 = .ok (.invokevirtual 63, 3) := by decide +kernel
theorem dL_law_503 : decode cL_law 503 = .ok (.if_icmp .eq 233, 3) := by decide +kernel
theorem dL_law_506 : decode cL_law 506 = .ok (.iconst 0, 1) := by decide +kernel
theorem dL_law_507 : decode cL_law 507 = .ok (.ireturn, 1) := by decide +kernel
theorem dL_law_508 : decode cL_law 508 = .ok (.aload_n 1, 1) := by decide +kernel
theorem dL_law_509 : decode cL_law 509 = .ok (.aload_n 0, 1) := by decide +kernel
theorem dL_law_510 : decode cL_law 510 = .ok (.iload_n 3, 1) := by decide +kernel
theorem dL_law_511 : decode cL_law 511 = .ok (.iconst 1, 1) := by decide +kernel
theorem dL_law_512 : decode cL_law 512 = .ok (.iadd, 1) := by decide +kernel
theorem dL_law_513 : decode cL_law 513 = .ok (.iaload, 1) := by decide +kernel
theorem dL_law_514 : decode cL_law 514 = .ok (.aload_n 0, 1) := by decide +kernel
theorem dL_law_515 : decode cL_law 515 = .ok (.iload_n 3, 1) := by decide +kernel
theorem dL_law_516 : decode cL_law 516 = .ok (.iconst 2, 1) := by decide +kernel
theorem dL_law_517 : decode cL_law 517 = .ok (.iadd, 1) := by decide +kernel
theorem dL_law_518 : decode cL_law 518 = .ok (.iaload, 1) := by decide +kernel
theorem dL_law_519 : decode cL_law 519 = .ok (.invokevirtual 64, 3) := by decide +kernel
theorem dL_law_522 : decode cL_law 522 = .ok (.aload_n 2, 1) := by decide +kernel
theorem dL_law_523 : decode cL_law 523 = .ok (.aload_n 0, 1) := by decide +kernel
theorem dL_law_524 : decode cL_law 524 = .ok (.iload_n 3, 1) := by decide +kernel
theorem dL_law_525 : decode cL_law 525 = .ok (.iconst 1, 1) := by decide +kernel
theorem dL_law_526 : decode cL_law 526 = .ok (.iadd, 1) := by decide +kernel
theorem dL_law_527 : decode cL_law 527 = .ok (.iaload, 1) := by decide +kernel
theorem dL_law_528 : decode cL_law 528 = .ok (.aload_n 0, 1) := by decide +kernel
theorem dL_law_529 : decode cL_law 529 = .ok (.iload_n 3, 1) := by decide +kernel
theorem dL_law_530 : decode cL_law 530 = .ok (.iconst 2, 1) := by decide +kernel
theorem dL_law_531 : decode cL_law 531 = .ok (.iadd, 1) := by decide +kernel
theorem dL_law_532 : decode cL_law 532 = .ok (.iaload, 1) := by decide +kernel
theorem dL_law_533 : decode cL_law 533 = .ok (.invokevirtual 67, 3) := by decide +kernel
theorem dL_law_536 : decode cL_law 536 = .ok (.if_icmp .eq 200, 3) := by decide +kernel
theorem dL_law_539 : decode cL_law 539 = .ok (.iconst 0, 1) := by decide +kernel
theorem dL_law_540 : decode cL_law 540 = .ok (.ireturn, 1) := by decide +kernel
theorem dL_law_541 : decode cL_law 541 = .ok (.aload_n 1, 1) := by decide +kernel
theorem dL_law_542 : decode cL_law 542 = .ok (.aload_n 0, 1) := by decide +kernel
theorem dL_law_543 : decode cL_law 543 = .ok (.iload_n 3, 1) := by decide +kernel
theorem dL_law_544 : decode cL_law 544 = .ok (.iconst 1, 1) := by decide +kernel
theorem dL_law_545 : decode cL_law 545 = .ok (.iadd, 1) := by decide +kernel
theorem dL_law_546 : decode cL_law 546 = .ok (.iaload, 1) := by decide +kernel
theorem dL_law_547 : decode cL_law 547 = .ok (.invokevirtual 68, 3) := by decide +kernel
theorem dL_law_550 : decode cL_law 550 = .ok (.aload_n 2, 1) := by decide +kernel
theorem dL_law_551 : decode cL_law 551 = .ok (.aload_n 0, 1) := by decide +kernel
theorem dL_law_552 : decode cL_law 552 = .ok (.iload_n 3, 1) := by decide +kernel
theorem dL_law_553 : decode cL_law 553 = .ok (.iconst 1, 1) := by decide +kernel
theorem dL_law_554 : decode cL_law 554 = .ok (.iadd, 1) := by decide +kernel
theorem dL_law_555 : decode cL_law 555 = .ok (.iaload, 1) := by decide +kernel
theorem dL_law_556 : decode cL_law 556 = .ok (.invokevirtual 71, 3) := by decide +kernel
theorem dL_law_559 : decode cL_law 559 = .ok (.if_icmp .eq 177, 3) := by decide +kernel
theorem dL_law_562 : decode cL_law 562 = .ok (.iconst 0, 1) := by decide +kernel
theorem dL_law_563 : decode cL_law 563 = .ok (.ireturn, 1) := by decide +kernel
theorem dL_law_564 : decode cL_law 564 = .ok (.aload_n 1, 1) := by decide +kernel
theorem dL_law_565 : decode cL_law 565 = .ok (.aload_n 0, 1) := by decide +kernel
theorem dL_law_566 : decode cL_law 566 = .ok (.iload_n 3, 1) := by decide +kernel
theorem dL_law_567 : decode cL_law 567 = .ok (.iconst 1, 1) := by decide +kernel
theorem dL_law_568 : decode cL_law 568 = .ok (.iadd, 1) := by decide +kernel
theorem dL_law_569 : decode cL_law 569 = .ok (.iaload, 1) := by decide +kernel
theorem dL_law_570 : decode cL_law 570 = .ok (.aload_n 0, 1) := by decide +kernel
theorem dL_law_571 : decode cL_law 571 = .ok (.iload_n 3, 1) := by decide +kernel
theorem dL_law_572 : decode cL_law 572 = .ok (.iconst 2, 1) := by decide +kernel
theorem dL_law_573 : decode cL_law 573 = .ok (.iadd, 1) := by decide +kernel
theorem dL_law_574 : decode cL_law 574 = .ok (.iaload, 1) := by decide +kernel
theorem dL_law_575 : decode cL_law 575 = .ok (.invokevirtual 72, 3) := by decide +kernel
theorem dL_law_578 : decode cL_law 578 = .ok (.aload_n 2, 1) := by decide +kernel
theorem dL_law_579 : decode cL_law 579 = .ok (.aload_n 0, 1) := by decide +kernel
theorem dL_law_580 : decode cL_law 580 = .ok (.iload_n 3, 1) := by decide +kernel
theorem dL_law_581 : decode cL_law 581 = .ok (.iconst 1, 1) := by decide +kernel
theorem dL_law_582 : decode cL_law 582 = .ok (.iadd, 1) := by decide +kernel
theorem dL_law_583 : decode cL_law 583 = .ok (.iaload, 1) := by decide +kernel
theorem dL_law_584 : decode cL_law 584 = .ok (.aload_n 0, 1) := by decide +kernel
theorem dL_law_585 : decode cL_law 585 = .ok (.iload_n 3, 1) := by decide +kernel
theorem dL_law_586 : decode cL_law 586 = .ok (.iconst 2, 1) := by decide +kernel
theorem dL_law_587 : decode cL_law 587 = .ok (.iadd, 1) := by decide +kernel
theorem dL_law_588 : decode cL_law 588 = .ok (.iaload, 1) := by decide +kernel
theorem dL_law_589 : decode cL_law 589 = .ok (.invokevirtual 75, 3) := by decide +kernel
theorem dL_law_592 : decode cL_law 592 = .ok (.if_icmp .eq 144, 3) := by decide +kernel
theorem dL_law_595 : decode cL_law 595 = .ok (.iconst 0, 1) := by decide +kernel
theorem dL_law_596 : decode cL_law 596 = .ok (.ireturn, 1) := by decide +kernel
theorem dL_law_597 : decode cL_law 597 = .ok (.aload_n 1, 1) := by decide +kernel
theorem dL_law_598 : decode cL_law 598 = .ok (.aload_n 0, 1) := by decide +kernel
theorem dL_law_599 : decode cL_law 599 = .ok (.iload_n 3, 1) := by decide +kernel
theorem dL_law_600 : decode cL_law 600 = .ok (.iconst 1, 1) := by decide +kernel
theorem dL_law_601 : decode cL_law 601 = .ok (.iadd, 1) := by decide +kernel
theorem dL_law_602 : decode cL_law 602 = .ok (.iaload, 1) := by decide +kernel
theorem dL_law_603 : decode cL_law 603 = .ok (.invokevirtual 76, 3) := by decide +kernel
theorem dL_law_606 : decode cL_law 606 = .ok (.aload_n 2, 1) := by decide +kernel
theorem dL_law_607 : decode cL_law 607 = .ok (.aload_n 0, 1) := by decide +kernel
theorem dL_law_608 : decode cL_law 608 = .ok (.iload_n 3, 1) := by decide +kernel
theorem dL_law_609 : decode cL_law 609 = .ok (.iconst 1, 1) := by decide +kernel
theorem dL_law_610 : decode cL_law 610 = .ok (.iadd, 1) := by decide +kernel
theorem dL_law_611 : decode cL_law 611 = .ok (.iaload, 1) := by decide +kernel
theorem dL_law_612 : decode cL_law 612 = .ok (.invokevirtual 79, 3) := by decide +kernel
theorem dL_law_615 : decode cL_law 615 = .ok (.if_icmp .eq 121, 3) := by decide +kernel
theorem dL_law_618 : decode cL_law 618 = .ok (.iconst 0, 1) := by decide +kernel
theorem dL_law_619 : decode cL_law 619 = .ok (.ireturn, 1) := by decide +kernel
theorem dL_law_620 : decode cL_law 620 = .ok (.aload_n 1, 1) := by decide +kernel
theorem dL_law_621 : decode cL_law 621 = .ok (.aload_n 0, 1) := by decide +kernel
theorem dL_law_622 : decode cL_law 622 = .ok (.iload_n 3, 1) := by decide +kernel
theorem dL_law_623 : decode cL_law 623 = .ok (.iconst 1, 1) := by decide +kernel
theorem dL_law_624 : decode cL_law 624 = .ok (.iadd, 1) := by decide +kernel
theorem dL_law_625 : decode cL_law 625 = .ok (.iaload, 1) := by decide +kernel
theorem dL_law_626 : decode cL_law 626 = .ok (.aload_n 0, 1) := by decide +kernel
theorem dL_law_627 : decode cL_law 627 = .ok (.iload_n 3, 1) := by decide +kernel
theorem dL_law_628 : decode cL_law 628 = .ok (.iconst 2, 1) := by decide +kernel
theorem dL_law_629 : decode cL_law 629 = .ok (.iadd, 1) := by decide +kernel
theorem dL_law_630 : decode cL_law 630 = .ok (.iaload, 1) := by decide +kernel
theorem dL_law_631 : decode cL_law 631 = .ok (.invokevirtual 80, 3) := by decide +kernel
theorem dL_law_634 : decode cL_law 634 = .ok (.aload_n 2, 1) := by decide +kernel
theorem dL_law_635 : decode cL_law 635 = .ok (.aload_n 0, 1) := by decide +kernel
theorem dL_law_636 : decode cL_law 636 = .ok (.iload_n 3, 1) := by decide +kernel
theorem dL_law_637 : decode cL_law 637 = .ok (.iconst 1, 1) := by decide +kernel
theorem dL_law_638 : decode cL_law 638 = .ok (.iadd, 1) := by decide +kernel
theorem dL_law_639 : decode cL_law 639 = .ok (.iaload, 1) := by decide +kernel
theorem dL_law_640 : decode cL_law 640 = .ok (.aload_n 0, 1) := by decide +kernel
theorem dL_law_641 : decode cL_law 641 = .ok (.iload_n 3, 1) := by decide +kernel
theorem dL_law_642 : decode cL_law 642 = .ok (.iconst 2, 1) := by decide +kernel
theorem dL_law_643 : decode cL_law 643 = .ok (.iadd, 1) := by decide +kernel
theorem dL_law_644 : decode cL_law 644 = .ok (.iaload, 1) := by decide +kernel
theorem dL_law_645 : decode cL_law 645 = .ok (.invokevirtual 83, 3) := by decide +kernel
theorem dL_law_648 : decode cL_law 648 = .ok (.if_icmp .eq 88, 3) := by decide +kernel
theorem dL_law_651 : decode cL_law 651 = .ok (.iconst 0, 1) := by decide +kernel
theorem dL_law_652 : decode cL_law 652 = .ok (.ireturn, 1) := by decide +kernel
theorem dL_law_653 : decode cL_law 653 = .ok (.aload_n 1, 1) := by decide +kernel
theorem dL_law_654 : decode cL_law 654 = .ok (.aload_n 0, 1) := by decide +kernel
theorem dL_law_655 : decode cL_law 655 = .ok (.iload_n 3, 1) := by decide +kernel
theorem dL_law_656 : decode cL_law 656 = .ok (.iconst 1, 1) := by decide +kernel
theorem dL_law_657 : decode cL_law 657 = .ok (.iadd, 1) := by decide +kernel
theorem dL_law_658 : decode cL_law 658 = .ok (.iaload, 1) := by decide +kernel
theorem dL_law_659 : decode cL_law 659 = .ok (.invokevirtual 84, 3) := by decide +kernel
theorem dL_law_662 : decode cL_law 662 = .ok (.aload_n 2, 1) := by decide +kernel
theorem dL_law_663 : decode cL_law 663 = .ok (.aload_n 0, 1) := by decide +kernel
theorem dL_law_664 : decode cL_law 664 = .ok (.iload_n 3, 1) := by decide +kernel
theorem dL_law_665 : decode cL_law 665 = .ok (.iconst 1, 1) := by decide +kernel
theorem dL_law_666 : decode cL_law 666 = .ok (.iadd, 1) := by decide +kernel
theorem dL_law_667 : decode cL_law 667 = .ok (.iaload, 1) := by decide +kernel
theorem dL_law_668 : decode cL_law 668 = .ok (.invokevirtual 87, 3) := by decide +kernel
theorem dL_law_671 : decode cL_law 671 = .ok (.if_icmp .eq 65, 3) := by decide +kernel
theorem dL_law_674 : decode cL_law 674 = .ok (.iconst 0, 1) := by decide +kernel
theorem dL_law_675 : decode cL_law 675 = .ok (.ireturn, 1) := by decide +kernel
theorem dL_law_676 : decode cL_law 676 = .ok (.aload_n 1, 1) := by decide +kernel
theorem dL_law_677 : decode cL_law 677 = .ok (.invokevirtual 88, 3) := by decide +kernel
theorem dL_law_680 : decode cL_law 680 = .ok (.aload_n 2, 1) := by decide +kernel
theorem dL_law_681 : decode cL_law 681 = .ok (.invokevirtual 92, 3) := by decide +kernel
theorem dL_law_684 : decode cL_law 684 = .ok (.if_icmp .eq 52, 3) := by decide +kernel
theorem dL_law_687 : decode cL_law 687 = .ok (.iconst 0, 1) := by decide +kernel
theorem dL_law_688 : decode cL_law 688 = .ok (.ireturn, 1) := by decide +kernel
theorem dL_law_689 : decode cL_law 689 = .ok (.aload_n 1, 1) := by decide +kernel
theorem dL_law_690 : decode cL_law 690 = .ok (.aload_n 0, 1) := by decide +kernel
theorem dL_law_691 : decode cL_law 691 = .ok (.iload_n 3, 1) := by decide +kernel
theorem dL_law_692 : decode cL_law 692 = .ok (.iconst 1, 1) := by decide +kernel
theorem dL_law_693 : decode cL_law 693 = .ok (.iadd, 1) := by decide +kernel
theorem dL_law_694 : decode cL_law 694 = .ok (.iaload, 1) := by decide +kernel
theorem dL_law_695 : decode cL_law 695 = .ok (.aload_n 0, 1) := by decide +kernel
theorem dL_law_696 : decode cL_law 696 = .ok (.iload_n 3, 1) := by decide +kernel
theorem dL_law_697 : decode cL_law 697 = .ok (.iconst 2, 1) := by decide +kernel
theorem dL_law_698 : decode cL_law 698 = .ok (.iadd, 1) := by decide +kernel
theorem dL_law_699 : decode cL_law 699 = .ok (.iaload, 1) := by decide +kernel
theorem dL_law_700 : decode cL_law 700 = .ok (.invokevirtual 93, 3) := by decide +kernel
theorem dL_law_703 : decode cL_law 703 = .ok (.aload_n 2, 1) := by decide +kernel
theorem dL_law_704 : decode cL_law 704 = .ok (.aload_n 0, 1) := by decide +kernel
theorem dL_law_705 : decode cL_law 705 = .ok (.iload_n 3, 1) := by decide +kernel
theorem dL_law_706 : decode cL_law 706 = .ok (.iconst 1, 1) := by decide +kernel
theorem dL_law_707 : decode cL_law 707 = .ok (.iadd, 1) := by decide +kernel
theorem dL_law_708 : decode cL_law 708 = .ok (.iaload, 1) := by decide +kernel
theorem dL_law_709 : decode cL_law 709 = .ok (.aload_n 0, 1) := by decide +kernel
theorem dL_law_710 : decode cL_law 710 = .ok (.iload_n 3, 1) := by decide +kernel
theorem dL_law_711 : decode cL_law 711 = .ok (.iconst 2, 1) := by decide +kernel
theorem dL_law_712 : decode cL_law 712 = .ok (.iadd, 1) := by decide +kernel
theorem dL_law_713 : decode cL_law 713 = .ok (.iaload, 1) := by decide +kernel
theorem dL_law_714 : decode cL_law 714 = .ok (.invokevirtual 96, 3) := by decide +kernel
theorem dL_law_717 : decode cL_law 717 = .ok (.if_icmp .eq 19, 3) := by decide +kernel
theorem dL_law_720 : decode cL_law 720 = .ok (.iconst 0, 1) := by decide +kernel
theorem dL_law_721 : decode cL_law 721 = .ok (.ireturn, 1) := by decide +kernel
theorem dL_law_722 : decode cL_law 722 = .ok (.aload_n 1, 1) := by decide +kernel
theorem dL_law_723 : decode cL_law 723 = .ok (.invokevirtual 97, 3) := by decide +kernel
theorem dL_law_726 : decode cL_law 726 = .ok (.aload_n 2, 1) := by decide +kernel
theorem dL_law_727 : decode cL_law 727 = .ok (.invokevirtual 101, 3) := by decide +kernel
theorem dL_law_730 : decode cL_law 730 = .ok (.lcmp, 1) := by decide +kernel
theorem dL_law_731 : decode cL_law 731 = .ok (.ifCond .eq 5, 3) := by decide +kernel
theorem dL_law_734 : decode cL_law 734 = .ok (.iconst 0, 1) := by decide +kernel
theorem dL_law_735 : decode cL_law 735 = .ok (.ireturn, 1) := by decide +kernel
theorem dL_law_736 : decode cL_law 736 = .ok (.iinc 3 4, 3) := by decide +kernel
theorem dL_law_739 : decode cL_law 739 = .ok (.goto (-721), 3) := by decide +kernel
theorem dL_law_742 : decode cL_law 742 = .ok (.iconst 1, 1) := by decide +kernel
theorem dL_law_743 : decode cL_law 743 = .ok (.ireturn, 1) := by decide +kernel
end
section
/-- the words that stay true whatever is resolved -/
def lw_tg : List Cond := lw_tbl.filter goodWord
set_option maxRecDepth 20000 in
theorem tw_0 : Cond.selects RJx4a65c yJx4a65c_add_72be8 yJx4a65c_add_72be8 ∈ lw_tg := List.mem_filter.mpr ⟨List.mem_append_left _ (List.mem_of_getElem? (i := 0) rfl), rfl⟩
set_option maxRecDepth 20000 in
theorem tw_1 : Cond.selects RJx4a65c yJx4a65c_grow_d5877 yJx4a65c_grow_d5877 ∈ lw_tg := List.mem_filter.mpr ⟨List.mem_append_left _ (List.mem_of_getElem? (i := 1) rfl), rfl⟩
set_option maxRecDepth 20000 in
theorem tw_2 : Cond.selects RJx4a65c yJx4a65c_grow_92f84 yJx4a65c_grow_92f84 ∈ lw_tg := List.mem_filter.mpr ⟨List.mem_append_left _ (List.mem_of_getElem? (i := 2) rfl), rfl⟩
set_option maxRecDepth 20000 in
theorem tw_3 : Cond.selects RX10 yX10_gangOf yX10_gangOf ∈ lw_tg := List.mem_filter.mpr ⟨List.mem_append_left _ (List.mem_of_getElem? (i := 3) rfl), rfl⟩
set_option maxRecDepth 20000 in
theorem tw_4 : Cond.selects RX10 yX10_gardenOf yX10_gardenOf ∈ lw_tg := List.mem_filter.mpr ⟨List.mem_append_left _ (List.mem_of_getElem? (i := 4) rfl), rfl⟩
set_option maxRecDepth 20000 in
theorem tw_5 : Cond.selects RX10 yX10_kilnOf yX10_kilnOf ∈ lw_tg := List.mem_filter.mpr ⟨List.mem_append_left _ (List.mem_of_getElem? (i := 5) rfl), rfl⟩
set_option maxRecDepth 20000 in
theorem tw_6 : Cond.selects RX10 yX10_passHour yX10_passHour ∈ lw_tg := List.mem_filter.mpr ⟨List.mem_append_left _ (List.mem_of_getElem? (i := 6) rfl), rfl⟩
set_option maxRecDepth 20000 in
theorem tw_7 : Cond.selects RX10 yX10_pickHour yX10_pickHour ∈ lw_tg := List.mem_filter.mpr ⟨List.mem_append_left _ (List.mem_of_getElem? (i := 7) rfl), rfl⟩
set_option maxRecDepth 20000 in
theorem tw_8 : Cond.selects RX10 yX10_dryHour yX10_dryHour ∈ lw_tg := List.mem_filter.mpr ⟨List.mem_append_left _ (List.mem_of_getElem? (i := 8) rfl), rfl⟩
set_option maxRecDepth 20000 in
theorem tw_9 : Cond.selects RX10 yX10_unload yX10_unload ∈ lw_tg := List.mem_filter.mpr ⟨List.mem_append_left _ (List.mem_of_getElem? (i := 9) rfl), rfl⟩
set_option maxRecDepth 20000 in
theorem tw_10 : Cond.selects RX10 yX10_loseHour yX10_loseHour ∈ lw_tg := List.mem_filter.mpr ⟨List.mem_append_left _ (List.mem_of_getElem? (i := 10) rfl), rfl⟩
set_option maxRecDepth 20000 in
theorem tw_11 : Cond.selects RX10 yX10_fillHour yX10_fillHour ∈ lw_tg := List.mem_filter.mpr ⟨List.mem_append_left _ (List.mem_of_getElem? (i := 11) rfl), rfl⟩
set_option maxRecDepth 20000 in
theorem tw_12 : Cond.selects RX10 yX10_fill yX10_fill ∈ lw_tg := List.mem_filter.mpr ⟨List.mem_append_left _ (List.mem_of_getElem? (i := 12) rfl), rfl⟩
set_option maxRecDepth 20000 in
theorem tw_13 : Cond.selects RX10 yX10_inKilnsOf yX10_inKilnsOf ∈ lw_tg := List.mem_filter.mpr ⟨List.mem_append_left _ (List.mem_of_getElem? (i := 13) rfl), rfl⟩
set_option maxRecDepth 20000 in
theorem tw_14 : Cond.selects RX10 yX10_chargedInAll yX10_chargedInAll ∈ lw_tg := List.mem_filter.mpr ⟨List.mem_append_left _ (List.mem_of_getElem? (i := 14) rfl), rfl⟩
set_option maxRecDepth 20000 in
theorem tw_15 : Cond.selects RX10 yX10_lostInAll yX10_lostInAll ∈ lw_tg := List.mem_filter.mpr ⟨List.mem_append_left _ (List.mem_of_getElem? (i := 15) rfl), rfl⟩
set_option maxRecDepth 20000 in
theorem tw_16 : Cond.selects RX10 yX10_payInAll yX10_payInAll ∈ lw_tg := List.mem_filter.mpr ⟨List.mem_append_left _ (List.mem_of_getElem? (i := 16) rfl), rfl⟩
set_option maxRecDepth 20000 in
theorem tw_17 : Cond.selects RX11 yX11_isGang yX11_isGang ∈ lw_tg := List.mem_filter.mpr ⟨List.mem_append_left _ (List.mem_of_getElem? (i := 17) rfl), rfl⟩
set_option maxRecDepth 20000 in
theorem tw_18 : Cond.selects RX11 yX11_isGarden yX11_isGarden ∈ lw_tg := List.mem_filter.mpr ⟨List.mem_append_left _ (List.mem_of_getElem? (i := 18) rfl), rfl⟩
set_option maxRecDepth 20000 in
theorem tw_19 : Cond.selects RX11 yX11_isKiln yX11_isKiln ∈ lw_tg := List.mem_filter.mpr ⟨List.mem_append_left _ (List.mem_of_getElem? (i := 19) rfl), rfl⟩
set_option maxRecDepth 20000 in
theorem tw_20 : Cond.selects RX11 yX11_oneHour yX11_oneHour ∈ lw_tg := List.mem_filter.mpr ⟨List.mem_append_left _ (List.mem_of_getElem? (i := 20) rfl), rfl⟩
set_option maxRecDepth 20000 in
theorem tw_21 : Cond.selects RX11 yX11_picks yX11_picks ∈ lw_tg := List.mem_filter.mpr ⟨List.mem_append_left _ (List.mem_of_getElem? (i := 21) rfl), rfl⟩
set_option maxRecDepth 20000 in
theorem tw_22 : Cond.selects RX11 yX11_isRipe yX11_isRipe ∈ lw_tg := List.mem_filter.mpr ⟨List.mem_append_left _ (List.mem_of_getElem? (i := 22) rfl), rfl⟩
set_option maxRecDepth 20000 in
theorem tw_23 : Cond.selects RX11 yX11_priceAt yX11_priceAt ∈ lw_tg := List.mem_filter.mpr ⟨List.mem_append_left _ (List.mem_of_getElem? (i := 23) rfl), rfl⟩
set_option maxRecDepth 20000 in
theorem tw_24 : Cond.selects RX11 yX11_dries yX11_dries ∈ lw_tg := List.mem_filter.mpr ⟨List.mem_append_left _ (List.mem_of_getElem? (i := 24) rfl), rfl⟩
set_option maxRecDepth 20000 in
theorem tw_25 : Cond.selects RX11 yX11_presses yX11_presses ∈ lw_tg := List.mem_filter.mpr ⟨List.mem_append_left _ (List.mem_of_getElem? (i := 25) rfl), rfl⟩
set_option maxRecDepth 20000 in
theorem tw_26 : Cond.selects RX11 yX11_spoils yX11_spoils ∈ lw_tg := List.mem_filter.mpr ⟨List.mem_append_left _ (List.mem_of_getElem? (i := 26) rfl), rfl⟩
set_option maxRecDepth 20000 in
theorem tw_27 : Cond.selects RX11 yX11_takes yX11_takes ∈ lw_tg := List.mem_filter.mpr ⟨List.mem_append_left _ (List.mem_of_getElem? (i := 27) rfl), rfl⟩
set_option maxRecDepth 20000 in
theorem tw_28 : Cond.selects RX11 yX11_greenOf yX11_greenOf ∈ lw_tg := List.mem_filter.mpr ⟨List.mem_append_left _ (List.mem_of_getElem? (i := 28) rfl), rfl⟩
set_option maxRecDepth 20000 in
theorem tw_29 : Cond.selects RX11 yX11_inKilns yX11_inKilns ∈ lw_tg := List.mem_filter.mpr ⟨List.mem_append_left _ (List.mem_of_getElem? (i := 29) rfl), rfl⟩
set_option maxRecDepth 20000 in
theorem tw_30 : Cond.selects RX11 yX11_ledPockets yX11_ledPockets ∈ lw_tg := List.mem_filter.mpr ⟨List.mem_append_left _ (List.mem_of_getElem? (i := 30) rfl), rfl⟩
set_option maxRecDepth 20000 in
theorem tw_31 : Cond.selects RX11 yX11_dutyOn yX11_dutyOn ∈ lw_tg := List.mem_filter.mpr ⟨List.mem_append_left _ (List.mem_of_getElem? (i := 31) rfl), rfl⟩
set_option maxRecDepth 20000 in
theorem tw_32 : Cond.selects RX11 yX11_picksBy yX11_picksBy ∈ lw_tg := List.mem_filter.mpr ⟨List.mem_append_left _ (List.mem_of_getElem? (i := 32) rfl), rfl⟩
set_option maxRecDepth 20000 in
theorem tw_33 : Cond.initialized RL ∈ lw_tg := List.mem_filter.mpr ⟨List.mem_append_right _ (List.mem_of_getElem? (i := 0) rfl), rfl⟩
set_option maxRecDepth 20000 in
theorem tw_34 : Cond.initialized RX10 ∈ lw_tg := List.mem_filter.mpr ⟨List.mem_append_right _ (List.mem_of_getElem? (i := 1) rfl), rfl⟩
set_option maxRecDepth 20000 in
theorem tw_35 : Cond.initialized RJxa1e45 ∈ lw_tg := List.mem_filter.mpr ⟨List.mem_append_right _ (List.mem_of_getElem? (i := 2) rfl), rfl⟩
set_option maxRecDepth 20000 in
theorem tw_36 : Cond.initialized RJxc12de ∈ lw_tg := List.mem_filter.mpr ⟨List.mem_append_right _ (List.mem_of_getElem? (i := 3) rfl), rfl⟩
set_option maxRecDepth 20000 in
theorem tw_37 : Cond.initialized RJx4a65c ∈ lw_tg := List.mem_filter.mpr ⟨List.mem_append_right _ (List.mem_of_getElem? (i := 4) rfl), rfl⟩
set_option maxRecDepth 20000 in
theorem tw_38 : Cond.initialized RX5 ∈ lw_tg := List.mem_filter.mpr ⟨List.mem_append_right _ (List.mem_of_getElem? (i := 5) rfl), rfl⟩
set_option maxRecDepth 20000 in
theorem tw_39 : Cond.initialized RX9 ∈ lw_tg := List.mem_filter.mpr ⟨List.mem_append_right _ (List.mem_of_getElem? (i := 6) rfl), rfl⟩
set_option maxRecDepth 20000 in
theorem tw_40 : Cond.initialized RX7 ∈ lw_tg := List.mem_filter.mpr ⟨List.mem_append_right _ (List.mem_of_getElem? (i := 7) rfl), rfl⟩
set_option maxRecDepth 20000 in
theorem tw_41 : Cond.initialized RX0 ∈ lw_tg := List.mem_filter.mpr ⟨List.mem_append_right _ (List.mem_of_getElem? (i := 8) rfl), rfl⟩
set_option maxRecDepth 20000 in
theorem tw_42 : Cond.initialized RX11 ∈ lw_tg := List.mem_filter.mpr ⟨List.mem_append_right _ (List.mem_of_getElem? (i := 9) rfl), rfl⟩
set_option maxRecDepth 20000 in
theorem tw_43 : Cond.initialized RX4 ∈ lw_tg := List.mem_filter.mpr ⟨List.mem_append_right _ (List.mem_of_getElem? (i := 10) rfl), rfl⟩
set_option maxRecDepth 20000 in
theorem tw_44 : Cond.initialized RJ8 ∈ lw_tg := List.mem_filter.mpr ⟨List.mem_append_right _ (List.mem_of_getElem? (i := 11) rfl), rfl⟩
set_option maxRecDepth 20000 in
theorem tw_45 : Cond.initialized RJ9 ∈ lw_tg := List.mem_filter.mpr ⟨List.mem_append_right _ (List.mem_of_getElem? (i := 12) rfl), rfl⟩
set_option maxRecDepth 20000 in
theorem tw_46 : Cond.initialized RJ7 ∈ lw_tg := List.mem_filter.mpr ⟨List.mem_append_right _ (List.mem_of_getElem? (i := 13) rfl), rfl⟩
set_option maxRecDepth 20000 in
theorem tw_47 : Cond.initialized RJ10 ∈ lw_tg := List.mem_filter.mpr ⟨List.mem_append_right _ (List.mem_of_getElem? (i := 14) rfl), rfl⟩
set_option maxRecDepth 20000 in
theorem tw_48 : Cond.initialized RX3 ∈ lw_tg := List.mem_filter.mpr ⟨List.mem_append_right _ (List.mem_of_getElem? (i := 15) rfl), rfl⟩
set_option maxRecDepth 20000 in
theorem tw_49 : Cond.initialized RJ15 ∈ lw_tg := List.mem_filter.mpr ⟨List.mem_append_right _ (List.mem_of_getElem? (i := 16) rfl), rfl⟩
set_option maxRecDepth 20000 in
theorem tw_50 : Cond.initialized RJ3 ∈ lw_tg := List.mem_filter.mpr ⟨List.mem_append_right _ (List.mem_of_getElem? (i := 17) rfl), rfl⟩
set_option maxRecDepth 20000 in
theorem tw_51 : Cond.initialized RX6 ∈ lw_tg := List.mem_filter.mpr ⟨List.mem_append_right _ (List.mem_of_getElem? (i := 18) rfl), rfl⟩
set_option maxRecDepth 20000 in
theorem tw_52 : Cond.initialized RX8 ∈ lw_tg := List.mem_filter.mpr ⟨List.mem_append_right _ (List.mem_of_getElem? (i := 19) rfl), rfl⟩
set_option maxRecDepth 20000 in
theorem tw_53 : Cond.initialized RX2 ∈ lw_tg := List.mem_filter.mpr ⟨List.mem_append_right _ (List.mem_of_getElem? (i := 20) rfl), rfl⟩
set_option maxRecDepth 20000 in
theorem tw_54 : Cond.initialized RX1 ∈ lw_tg := List.mem_filter.mpr ⟨List.mem_append_right _ (List.mem_of_getElem? (i := 21) rfl), rfl⟩
set_option maxRecDepth 20000 in
theorem tw_55 : Cond.classLink RL 7 RX10 ∈ lw_tg := List.mem_filter.mpr ⟨List.mem_append_right _ (List.mem_of_getElem? (i := 22) rfl), rfl⟩
set_option maxRecDepth 20000 in
theorem tw_56 : Cond.instantiable RX10 11 ∈ lw_tg := List.mem_filter.mpr ⟨List.mem_append_right _ (List.mem_of_getElem? (i := 23) rfl), rfl⟩
set_option maxRecDepth 20000 in
theorem tw_57 : Cond.methodLink RL 9 yX10_init ∈ lw_tg := List.mem_filter.mpr ⟨List.mem_append_right _ (List.mem_of_getElem? (i := 24) rfl), rfl⟩
set_option maxRecDepth 20000 in
theorem tw_58 : Cond.instanceMethod yX10_init ∈ lw_tg := List.mem_filter.mpr ⟨List.mem_append_right _ (List.mem_of_getElem? (i := 25) rfl), rfl⟩
set_option maxRecDepth 20000 in
theorem tw_59 : Cond.code yX10_init cX10_init 1 none ∈ lw_tg := List.mem_filter.mpr ⟨List.mem_append_right _ (List.mem_of_getElem? (i := 26) rfl), rfl⟩
set_option maxRecDepth 20000 in
theorem tw_60 : Cond.methodLink RX10 1 objectInit ∈ lw_tg := List.mem_filter.mpr ⟨List.mem_append_right _ (List.mem_of_getElem? (i := 27) rfl), rfl⟩
set_option maxRecDepth 20000 in
theorem tw_61 : Cond.instanceMethod objectInit ∈ lw_tg := List.mem_filter.mpr ⟨List.mem_append_right _ (List.mem_of_getElem? (i := 28) rfl), rfl⟩
set_option maxRecDepth 20000 in
theorem tw_62 : Cond.code objectInit ⟨#[0xb1]⟩ 1 none ∈ lw_tg := List.mem_filter.mpr ⟨List.mem_append_right _ (List.mem_of_getElem? (i := 29) rfl), rfl⟩
set_option maxRecDepth 20000 in
theorem tw_63 : Cond.classLink RX10 7 RJx4a65c ∈ lw_tg := List.mem_filter.mpr ⟨List.mem_append_right _ (List.mem_of_getElem? (i := 30) rfl), rfl⟩
set_option maxRecDepth 20000 in
theorem tw_64 : Cond.instantiable RJx4a65c 3 ∈ lw_tg := List.mem_filter.mpr ⟨List.mem_append_right _ (List.mem_of_getElem? (i := 31) rfl), rfl⟩
set_option maxRecDepth 20000 in
theorem tw_65 : Cond.methodLink RX10 9 yJx4a65c_init_da8c8 ∈ lw_tg := List.mem_filter.mpr ⟨List.mem_append_right _ (List.mem_of_getElem? (i := 32) rfl), rfl⟩
set_option maxRecDepth 20000 in
theorem tw_66 : Cond.instanceMethod yJx4a65c_init_da8c8 ∈ lw_tg := List.mem_filter.mpr ⟨List.mem_append_right _ (List.mem_of_getElem? (i := 33) rfl), rfl⟩
set_option maxRecDepth 20000 in
theorem tw_67 : Cond.code yJx4a65c_init_da8c8 cJx4a65c_init_da8c8 1 none ∈ lw_tg := List.mem_filter.mpr ⟨List.mem_append_right _ (List.mem_of_getElem? (i := 34) rfl), rfl⟩
set_option maxRecDepth 20000 in
theorem tw_68 : Cond.methodLink RJx4a65c 1 yJxc12de_init_da8c8 ∈ lw_tg := List.mem_filter.mpr ⟨List.mem_append_right _ (List.mem_of_getElem? (i := 35) rfl), rfl⟩
set_option maxRecDepth 20000 in
theorem tw_69 : Cond.instanceMethod yJxc12de_init_da8c8 ∈ lw_tg := List.mem_filter.mpr ⟨List.mem_append_right _ (List.mem_of_getElem? (i := 36) rfl), rfl⟩
set_option maxRecDepth 20000 in
theorem tw_70 : Cond.code yJxc12de_init_da8c8 cJxc12de_init_da8c8 1 none ∈ lw_tg := List.mem_filter.mpr ⟨List.mem_append_right _ (List.mem_of_getElem? (i := 37) rfl), rfl⟩
set_option maxRecDepth 20000 in
theorem tw_71 : Cond.methodLink RJxc12de 1 yJxa1e45_init_da8c8 ∈ lw_tg := List.mem_filter.mpr ⟨List.mem_append_right _ (List.mem_of_getElem? (i := 38) rfl), rfl⟩
set_option maxRecDepth 20000 in
theorem tw_72 : Cond.instanceMethod yJxa1e45_init_da8c8 ∈ lw_tg := List.mem_filter.mpr ⟨List.mem_append_right _ (List.mem_of_getElem? (i := 39) rfl), rfl⟩
set_option maxRecDepth 20000 in
theorem tw_73 : Cond.code yJxa1e45_init_da8c8 cJxa1e45_init_da8c8 1 none ∈ lw_tg := List.mem_filter.mpr ⟨List.mem_append_right _ (List.mem_of_getElem? (i := 40) rfl), rfl⟩
set_option maxRecDepth 20000 in
theorem tw_74 : Cond.methodLink RJxa1e45 1 objectInit ∈ lw_tg := List.mem_filter.mpr ⟨List.mem_append_right _ (List.mem_of_getElem? (i := 41) rfl), rfl⟩
set_option maxRecDepth 20000 in
theorem tw_75 : Cond.fieldLink RJx4a65c 39 "java/util/ArrayList" "DEFAULTCAPACITY_EMPTY_ELEMENTDATA" "[Ljava/lang/Object;" ∈ lw_tg := List.mem_filter.mpr ⟨List.mem_append_right _ (List.mem_of_getElem? (i := 42) rfl), rfl⟩
set_option maxRecDepth 20000 in
theorem tw_76 : Cond.laysStatic "java/util/ArrayList" "DEFAULTCAPACITY_EMPTY_ELEMENTDATA" "[Ljava/lang/Object;" ∈ lw_tbl := List.mem_append_right _ (List.mem_of_getElem? (i := 43) rfl)
set_option maxRecDepth 20000 in
theorem tw_77 : Cond.fieldLink RJx4a65c 9 "java/util/ArrayList" "elementData" "[Ljava/lang/Object;" ∈ lw_tg := List.mem_filter.mpr ⟨List.mem_append_right _ (List.mem_of_getElem? (i := 44) rfl), rfl⟩
set_option maxRecDepth 20000 in
theorem tw_78 : Cond.fieldLink RJx4a65c 48 "java/util/ArrayList" "size" "I" ∈ lw_tg := List.mem_filter.mpr ⟨List.mem_append_right _ (List.mem_of_getElem? (i := 45) rfl), rfl⟩
set_option maxRecDepth 20000 in
theorem tw_79 : Cond.fieldLink RJxc12de 7 "java/util/AbstractList" "modCount" "I" ∈ lw_tg := List.mem_filter.mpr ⟨List.mem_append_right _ (List.mem_of_getElem? (i := 46) rfl), rfl⟩
set_option maxRecDepth 20000 in
theorem tw_80 : Cond.fieldLink RJx4a65c 63 "java/util/ArrayList" "modCount" "I" ∈ lw_tg := List.mem_filter.mpr ⟨List.mem_append_right _ (List.mem_of_getElem? (i := 47) rfl), rfl⟩
set_option maxRecDepth 20000 in
theorem tw_81 : Cond.sameField "java/util/ArrayList" "java/util/AbstractList" "modCount" "I" ∈ lw_tg := List.mem_filter.mpr ⟨List.mem_append_right _ (List.mem_of_getElem? (i := 48) rfl), rfl⟩
set_option maxRecDepth 20000 in
theorem tw_82 : Cond.lays RJx4a65c "java/util/ArrayList" "elementData" "[Ljava/lang/Object;" ∈ lw_tg := List.mem_filter.mpr ⟨List.mem_append_right _ (List.mem_of_getElem? (i := 49) rfl), rfl⟩
set_option maxRecDepth 20000 in
theorem tw_84 : Cond.lays RJx4a65c "java/util/ArrayList" "size" "I" ∈ lw_tg := List.mem_filter.mpr ⟨List.mem_append_right _ (List.mem_of_getElem? (i := 51) rfl), rfl⟩
set_option maxRecDepth 20000 in
theorem tw_86 : Cond.lays RJx4a65c "java/util/AbstractList" "modCount" "I" ∈ lw_tg := List.mem_filter.mpr ⟨List.mem_append_right _ (List.mem_of_getElem? (i := 53) rfl), rfl⟩
set_option maxRecDepth 20000 in
theorem tw_88 : Cond.superclass "java/util/ArrayList" "java/util/AbstractList" ∈ lw_tg := List.mem_filter.mpr ⟨List.mem_append_right _ (List.mem_of_getElem? (i := 55) rfl), rfl⟩
set_option maxRecDepth 20000 in
theorem tw_89 : Cond.classLink RX10 22 RX5 ∈ lw_tg := List.mem_filter.mpr ⟨List.mem_append_right _ (List.mem_of_getElem? (i := 56) rfl), rfl⟩
set_option maxRecDepth 20000 in
theorem tw_90 : Cond.instantiable RX5 2 ∈ lw_tg := List.mem_filter.mpr ⟨List.mem_append_right _ (List.mem_of_getElem? (i := 57) rfl), rfl⟩
set_option maxRecDepth 20000 in
theorem tw_91 : Cond.methodLink RX10 24 yX5_init ∈ lw_tg := List.mem_filter.mpr ⟨List.mem_append_right _ (List.mem_of_getElem? (i := 58) rfl), rfl⟩
set_option maxRecDepth 20000 in
theorem tw_92 : Cond.instanceMethod yX5_init ∈ lw_tg := List.mem_filter.mpr ⟨List.mem_append_right _ (List.mem_of_getElem? (i := 59) rfl), rfl⟩
set_option maxRecDepth 20000 in
theorem tw_93 : Cond.code yX5_init cX5_init 1 none ∈ lw_tg := List.mem_filter.mpr ⟨List.mem_append_right _ (List.mem_of_getElem? (i := 60) rfl), rfl⟩
set_option maxRecDepth 20000 in
theorem tw_94 : Cond.methodLink RX5 3 objectInit ∈ lw_tg := List.mem_filter.mpr ⟨List.mem_append_right _ (List.mem_of_getElem? (i := 61) rfl), rfl⟩
set_option maxRecDepth 20000 in
theorem tw_95 : Cond.fieldLink RX5 11 "HopYard$GreenHops" "bushels" "[I" ∈ lw_tg := List.mem_filter.mpr ⟨List.mem_append_right _ (List.mem_of_getElem? (i := 62) rfl), rfl⟩
set_option maxRecDepth 20000 in
theorem tw_96 : Cond.fieldLink RX5 28 "HopYard$GreenHops" "inAll" "I" ∈ lw_tg := List.mem_filter.mpr ⟨List.mem_append_right _ (List.mem_of_getElem? (i := 63) rfl), rfl⟩
set_option maxRecDepth 20000 in
theorem tw_97 : Cond.fieldLink RX10 192 "HopYard$GreenHops" "inAll" "I" ∈ lw_tg := List.mem_filter.mpr ⟨List.mem_append_right _ (List.mem_of_getElem? (i := 64) rfl), rfl⟩
set_option maxRecDepth 20000 in
theorem tw_98 : Cond.laysFinal RX5 "HopYard$GreenHops" "bushels" "[I" ∈ lw_tg := List.mem_filter.mpr ⟨List.mem_append_right _ (List.mem_of_getElem? (i := 65) rfl), rfl⟩
set_option maxRecDepth 20000 in
theorem tw_100 : Cond.lays RX5 "HopYard$GreenHops" "inAll" "I" ∈ lw_tg := List.mem_filter.mpr ⟨List.mem_append_right _ (List.mem_of_getElem? (i := 67) rfl), rfl⟩
set_option maxRecDepth 20000 in
theorem tw_102 : Cond.superclass "HopYard$GreenHops" "java/lang/Object" ∈ lw_tg := List.mem_filter.mpr ⟨List.mem_append_right _ (List.mem_of_getElem? (i := 69) rfl), rfl⟩
set_option maxRecDepth 20000 in
theorem tw_103 : Cond.arrayClass FieldType.int ∈ lw_tg := List.mem_filter.mpr ⟨List.mem_append_right _ (List.mem_of_getElem? (i := 70) rfl), rfl⟩
set_option maxRecDepth 20000 in
theorem tw_104 : Cond.classLink RX10 29 RX9 ∈ lw_tg := List.mem_filter.mpr ⟨List.mem_append_right _ (List.mem_of_getElem? (i := 71) rfl), rfl⟩
set_option maxRecDepth 20000 in
theorem tw_105 : Cond.instantiable RX9 5 ∈ lw_tg := List.mem_filter.mpr ⟨List.mem_append_right _ (List.mem_of_getElem? (i := 72) rfl), rfl⟩
set_option maxRecDepth 20000 in
theorem tw_106 : Cond.methodLink RX10 31 yX9_init ∈ lw_tg := List.mem_filter.mpr ⟨List.mem_append_right _ (List.mem_of_getElem? (i := 73) rfl), rfl⟩
set_option maxRecDepth 20000 in
theorem tw_107 : Cond.instanceMethod yX9_init ∈ lw_tg := List.mem_filter.mpr ⟨List.mem_append_right _ (List.mem_of_getElem? (i := 74) rfl), rfl⟩
set_option maxRecDepth 20000 in
theorem tw_108 : Cond.code yX9_init cX9_init 1 none ∈ lw_tg := List.mem_filter.mpr ⟨List.mem_append_right _ (List.mem_of_getElem? (i := 75) rfl), rfl⟩
set_option maxRecDepth 20000 in
theorem tw_109 : Cond.methodLink RX9 3 objectInit ∈ lw_tg := List.mem_filter.mpr ⟨List.mem_append_right _ (List.mem_of_getElem? (i := 76) rfl), rfl⟩
set_option maxRecDepth 20000 in
theorem tw_110 : Cond.fieldLink RX9 9 "HopYard$Press" "gardens" "[I" ∈ lw_tg := List.mem_filter.mpr ⟨List.mem_append_right _ (List.mem_of_getElem? (i := 77) rfl), rfl⟩
set_option maxRecDepth 20000 in
theorem tw_111 : Cond.fieldLink RX10 171 "HopYard$Press" "gardens" "[I" ∈ lw_tg := List.mem_filter.mpr ⟨List.mem_append_right _ (List.mem_of_getElem? (i := 78) rfl), rfl⟩
set_option maxRecDepth 20000 in
theorem tw_112 : Cond.fieldLink RX9 15 "HopYard$Press" "days" "[I" ∈ lw_tg := List.mem_filter.mpr ⟨List.mem_append_right _ (List.mem_of_getElem? (i := 79) rfl), rfl⟩
set_option maxRecDepth 20000 in
theorem tw_113 : Cond.fieldLink RX10 174 "HopYard$Press" "days" "[I" ∈ lw_tg := List.mem_filter.mpr ⟨List.mem_append_right _ (List.mem_of_getElem? (i := 80) rfl), rfl⟩
set_option maxRecDepth 20000 in
theorem tw_114 : Cond.fieldLink RX9 18 "HopYard$Press" "pressed" "I" ∈ lw_tg := List.mem_filter.mpr ⟨List.mem_append_right _ (List.mem_of_getElem? (i := 81) rfl), rfl⟩
set_option maxRecDepth 20000 in
theorem tw_115 : Cond.fieldLink RX10 180 "HopYard$Press" "pressed" "I" ∈ lw_tg := List.mem_filter.mpr ⟨List.mem_append_right _ (List.mem_of_getElem? (i := 82) rfl), rfl⟩
set_option maxRecDepth 20000 in
theorem tw_116 : Cond.fieldLink RX9 31 "HopYard$Press" "loose" "I" ∈ lw_tg := List.mem_filter.mpr ⟨List.mem_append_right _ (List.mem_of_getElem? (i := 83) rfl), rfl⟩
set_option maxRecDepth 20000 in
theorem tw_117 : Cond.fieldLink RX10 183 "HopYard$Press" "loose" "I" ∈ lw_tg := List.mem_filter.mpr ⟨List.mem_append_right _ (List.mem_of_getElem? (i := 84) rfl), rfl⟩
set_option maxRecDepth 20000 in
theorem tw_118 : Cond.fieldLink RX9 28 "HopYard$Press" "looseGardens" "I" ∈ lw_tg := List.mem_filter.mpr ⟨List.mem_append_right _ (List.mem_of_getElem? (i := 85) rfl), rfl⟩
set_option maxRecDepth 20000 in
theorem tw_119 : Cond.laysFinal RX9 "HopYard$Press" "gardens" "[I" ∈ lw_tg := List.mem_filter.mpr ⟨List.mem_append_right _ (List.mem_of_getElem? (i := 86) rfl), rfl⟩
set_option maxRecDepth 20000 in
theorem tw_121 : Cond.laysFinal RX9 "HopYard$Press" "days" "[I" ∈ lw_tg := List.mem_filter.mpr ⟨List.mem_append_right _ (List.mem_of_getElem? (i := 88) rfl), rfl⟩
set_option maxRecDepth 20000 in
theorem tw_123 : Cond.lays RX9 "HopYard$Press" "pressed" "I" ∈ lw_tg := List.mem_filter.mpr ⟨List.mem_append_right _ (List.mem_of_getElem? (i := 90) rfl), rfl⟩
set_option maxRecDepth 20000 in
theorem tw_125 : Cond.lays RX9 "HopYard$Press" "loose" "I" ∈ lw_tg := List.mem_filter.mpr ⟨List.mem_append_right _ (List.mem_of_getElem? (i := 92) rfl), rfl⟩
set_option maxRecDepth 20000 in
theorem tw_127 : Cond.lays RX9 "HopYard$Press" "looseGardens" "I" ∈ lw_tg := List.mem_filter.mpr ⟨List.mem_append_right _ (List.mem_of_getElem? (i := 94) rfl), rfl⟩
set_option maxRecDepth 20000 in
theorem tw_129 : Cond.superclass "HopYard$Press" "java/lang/Object" ∈ lw_tg := List.mem_filter.mpr ⟨List.mem_append_right _ (List.mem_of_getElem? (i := 96) rfl), rfl⟩
set_option maxRecDepth 20000 in
theorem tw_130 : Cond.classLink RX10 36 RX7 ∈ lw_tg := List.mem_filter.mpr ⟨List.mem_append_right _ (List.mem_of_getElem? (i := 97) rfl), rfl⟩
set_option maxRecDepth 20000 in
theorem tw_131 : Cond.instantiable RX7 4 ∈ lw_tg := List.mem_filter.mpr ⟨List.mem_append_right _ (List.mem_of_getElem? (i := 98) rfl), rfl⟩
set_option maxRecDepth 20000 in
theorem tw_132 : Cond.methodLink RX10 38 yX7_init ∈ lw_tg := List.mem_filter.mpr ⟨List.mem_append_right _ (List.mem_of_getElem? (i := 99) rfl), rfl⟩
set_option maxRecDepth 20000 in
theorem tw_133 : Cond.instanceMethod yX7_init ∈ lw_tg := List.mem_filter.mpr ⟨List.mem_append_right _ (List.mem_of_getElem? (i := 100) rfl), rfl⟩
set_option maxRecDepth 20000 in
theorem tw_134 : Cond.code yX7_init cX7_init 2 none ∈ lw_tg := List.mem_filter.mpr ⟨List.mem_append_right _ (List.mem_of_getElem? (i := 101) rfl), rfl⟩
set_option maxRecDepth 20000 in
theorem tw_135 : Cond.methodLink RX7 3 objectInit ∈ lw_tg := List.mem_filter.mpr ⟨List.mem_append_right _ (List.mem_of_getElem? (i := 102) rfl), rfl⟩
set_option maxRecDepth 20000 in
theorem tw_136 : Cond.fieldLink RX7 15 "HopYard$Notices" "from" "[I" ∈ lw_tg := List.mem_filter.mpr ⟨List.mem_append_right _ (List.mem_of_getElem? (i := 103) rfl), rfl⟩
set_option maxRecDepth 20000 in
theorem tw_137 : Cond.fieldLink RX7 19 "HopYard$Notices" "number" "[I" ∈ lw_tg := List.mem_filter.mpr ⟨List.mem_append_right _ (List.mem_of_getElem? (i := 104) rfl), rfl⟩
set_option maxRecDepth 20000 in
theorem tw_138 : Cond.fieldLink RX7 9 "HopYard$Notices" "first" "I" ∈ lw_tg := List.mem_filter.mpr ⟨List.mem_append_right _ (List.mem_of_getElem? (i := 105) rfl), rfl⟩
set_option maxRecDepth 20000 in
theorem tw_139 : Cond.fieldLink RX7 22 "HopYard$Notices" "count" "I" ∈ lw_tg := List.mem_filter.mpr ⟨List.mem_append_right _ (List.mem_of_getElem? (i := 106) rfl), rfl⟩
set_option maxRecDepth 20000 in
theorem tw_140 : Cond.laysFinal RX7 "HopYard$Notices" "from" "[I" ∈ lw_tg := List.mem_filter.mpr ⟨List.mem_append_right _ (List.mem_of_getElem? (i := 107) rfl), rfl⟩
set_option maxRecDepth 20000 in
theorem tw_142 : Cond.laysFinal RX7 "HopYard$Notices" "number" "[I" ∈ lw_tg := List.mem_filter.mpr ⟨List.mem_append_right _ (List.mem_of_getElem? (i := 109) rfl), rfl⟩
set_option maxRecDepth 20000 in
theorem tw_144 : Cond.laysFinal RX7 "HopYard$Notices" "first" "I" ∈ lw_tg := List.mem_filter.mpr ⟨List.mem_append_right _ (List.mem_of_getElem? (i := 111) rfl), rfl⟩
set_option maxRecDepth 20000 in
theorem tw_146 : Cond.lays RX7 "HopYard$Notices" "count" "I" ∈ lw_tg := List.mem_filter.mpr ⟨List.mem_append_right _ (List.mem_of_getElem? (i := 113) rfl), rfl⟩
set_option maxRecDepth 20000 in
theorem tw_148 : Cond.superclass "HopYard$Notices" "java/lang/Object" ∈ lw_tg := List.mem_filter.mpr ⟨List.mem_append_right _ (List.mem_of_getElem? (i := 115) rfl), rfl⟩
set_option maxRecDepth 20000 in
theorem tw_149 : Cond.classLink RX10 48 RX0 ∈ lw_tg := List.mem_filter.mpr ⟨List.mem_append_right _ (List.mem_of_getElem? (i := 116) rfl), rfl⟩
set_option maxRecDepth 20000 in
theorem tw_150 : Cond.instantiable RX0 4 ∈ lw_tg := List.mem_filter.mpr ⟨List.mem_append_right _ (List.mem_of_getElem? (i := 117) rfl), rfl⟩
set_option maxRecDepth 20000 in
theorem tw_151 : Cond.methodLink RX10 50 yX0_init ∈ lw_tg := List.mem_filter.mpr ⟨List.mem_append_right _ (List.mem_of_getElem? (i := 118) rfl), rfl⟩
set_option maxRecDepth 20000 in
theorem tw_152 : Cond.instanceMethod yX0_init ∈ lw_tg := List.mem_filter.mpr ⟨List.mem_append_right _ (List.mem_of_getElem? (i := 119) rfl), rfl⟩
set_option maxRecDepth 20000 in
theorem tw_153 : Cond.code yX0_init cX0_init 1 none ∈ lw_tg := List.mem_filter.mpr ⟨List.mem_append_right _ (List.mem_of_getElem? (i := 120) rfl), rfl⟩
set_option maxRecDepth 20000 in
theorem tw_154 : Cond.methodLink RX0 3 objectInit ∈ lw_tg := List.mem_filter.mpr ⟨List.mem_append_right _ (List.mem_of_getElem? (i := 121) rfl), rfl⟩
set_option maxRecDepth 20000 in
theorem tw_155 : Cond.fieldLink RX0 11 "HopYard$Allotment" "rates" "[I" ∈ lw_tg := List.mem_filter.mpr ⟨List.mem_append_right _ (List.mem_of_getElem? (i := 122) rfl), rfl⟩
set_option maxRecDepth 20000 in
theorem tw_156 : Cond.fieldLink RX0 15 "HopYard$Allotment" "places" "[I" ∈ lw_tg := List.mem_filter.mpr ⟨List.mem_append_right _ (List.mem_of_getElem? (i := 123) rfl), rfl⟩
set_option maxRecDepth 20000 in
theorem tw_157 : Cond.fieldLink RX0 18 "HopYard$Allotment" "worth" "[I" ∈ lw_tg := List.mem_filter.mpr ⟨List.mem_append_right _ (List.mem_of_getElem? (i := 124) rfl), rfl⟩
set_option maxRecDepth 20000 in
theorem tw_158 : Cond.fieldLink RX0 21 "HopYard$Allotment" "sets" "I" ∈ lw_tg := List.mem_filter.mpr ⟨List.mem_append_right _ (List.mem_of_getElem? (i := 125) rfl), rfl⟩
set_option maxRecDepth 20000 in
theorem tw_159 : Cond.laysFinal RX0 "HopYard$Allotment" "rates" "[I" ∈ lw_tg := List.mem_filter.mpr ⟨List.mem_append_right _ (List.mem_of_getElem? (i := 126) rfl), rfl⟩
set_option maxRecDepth 20000 in
theorem tw_161 : Cond.laysFinal RX0 "HopYard$Allotment" "places" "[I" ∈ lw_tg := List.mem_filter.mpr ⟨List.mem_append_right _ (List.mem_of_getElem? (i := 128) rfl), rfl⟩
set_option maxRecDepth 20000 in
theorem tw_163 : Cond.laysFinal RX0 "HopYard$Allotment" "worth" "[I" ∈ lw_tg := List.mem_filter.mpr ⟨List.mem_append_right _ (List.mem_of_getElem? (i := 130) rfl), rfl⟩
set_option maxRecDepth 20000 in
theorem tw_165 : Cond.lays RX0 "HopYard$Allotment" "sets" "I" ∈ lw_tg := List.mem_filter.mpr ⟨List.mem_append_right _ (List.mem_of_getElem? (i := 132) rfl), rfl⟩
set_option maxRecDepth 20000 in
theorem tw_167 : Cond.superclass "HopYard$Allotment" "java/lang/Object" ∈ lw_tg := List.mem_filter.mpr ⟨List.mem_append_right _ (List.mem_of_getElem? (i := 134) rfl), rfl⟩
set_option maxRecDepth 20000 in
theorem tw_168 : Cond.fieldLink RX10 10 "HopYard" "gardens" "Ljava/util/ArrayList;" ∈ lw_tg := List.mem_filter.mpr ⟨List.mem_append_right _ (List.mem_of_getElem? (i := 135) rfl), rfl⟩
set_option maxRecDepth 20000 in
theorem tw_169 : Cond.fieldLink RX10 16 "HopYard" "gangs" "Ljava/util/ArrayList;" ∈ lw_tg := List.mem_filter.mpr ⟨List.mem_append_right _ (List.mem_of_getElem? (i := 136) rfl), rfl⟩
set_option maxRecDepth 20000 in
theorem tw_170 : Cond.fieldLink RX10 19 "HopYard" "kilns" "Ljava/util/ArrayList;" ∈ lw_tg := List.mem_filter.mpr ⟨List.mem_append_right _ (List.mem_of_getElem? (i := 137) rfl), rfl⟩
set_option maxRecDepth 20000 in
theorem tw_171 : Cond.fieldLink RX10 25 "HopYard" "greenHops" "LHopYard$GreenHops;" ∈ lw_tg := List.mem_filter.mpr ⟨List.mem_append_right _ (List.mem_of_getElem? (i := 138) rfl), rfl⟩
set_option maxRecDepth 20000 in
theorem tw_172 : Cond.fieldLink RX10 32 "HopYard" "press" "LHopYard$Press;" ∈ lw_tg := List.mem_filter.mpr ⟨List.mem_append_right _ (List.mem_of_getElem? (i := 139) rfl), rfl⟩
set_option maxRecDepth 20000 in
theorem tw_173 : Cond.fieldLink RX10 41 "HopYard" "prices" "LHopYard$Notices;" ∈ lw_tg := List.mem_filter.mpr ⟨List.mem_append_right _ (List.mem_of_getElem? (i := 140) rfl), rfl⟩
set_option maxRecDepth 20000 in
theorem tw_174 : Cond.fieldLink RX10 45 "HopYard" "duties" "LHopYard$Notices;" ∈ lw_tg := List.mem_filter.mpr ⟨List.mem_append_right _ (List.mem_of_getElem? (i := 141) rfl), rfl⟩
set_option maxRecDepth 20000 in
theorem tw_175 : Cond.fieldLink RX10 51 "HopYard" "allotment" "LHopYard$Allotment;" ∈ lw_tg := List.mem_filter.mpr ⟨List.mem_append_right _ (List.mem_of_getElem? (i := 142) rfl), rfl⟩
set_option maxRecDepth 20000 in
theorem tw_176 : Cond.fieldLink RX10 55 "HopYard" "now" "I" ∈ lw_tg := List.mem_filter.mpr ⟨List.mem_append_right _ (List.mem_of_getElem? (i := 143) rfl), rfl⟩
set_option maxRecDepth 20000 in
theorem tw_177 : Cond.fieldLink RX10 59 "HopYard" "wait" "I" ∈ lw_tg := List.mem_filter.mpr ⟨List.mem_append_right _ (List.mem_of_getElem? (i := 144) rfl), rfl⟩
set_option maxRecDepth 20000 in
theorem tw_178 : Cond.fieldLink RX10 62 "HopYard" "traced" "J" ∈ lw_tg := List.mem_filter.mpr ⟨List.mem_append_right _ (List.mem_of_getElem? (i := 145) rfl), rfl⟩
set_option maxRecDepth 20000 in
theorem tw_179 : Cond.laysFinal RX10 "HopYard" "gardens" "Ljava/util/ArrayList;" ∈ lw_tg := List.mem_filter.mpr ⟨List.mem_append_right _ (List.mem_of_getElem? (i := 146) rfl), rfl⟩
set_option maxRecDepth 20000 in
theorem tw_181 : Cond.laysFinal RX10 "HopYard" "gangs" "Ljava/util/ArrayList;" ∈ lw_tg := List.mem_filter.mpr ⟨List.mem_append_right _ (List.mem_of_getElem? (i := 148) rfl), rfl⟩
set_option maxRecDepth 20000 in
theorem tw_183 : Cond.laysFinal RX10 "HopYard" "kilns" "Ljava/util/ArrayList;" ∈ lw_tg := List.mem_filter.mpr ⟨List.mem_append_right _ (List.mem_of_getElem? (i := 150) rfl), rfl⟩
set_option maxRecDepth 20000 in
theorem tw_185 : Cond.laysFinal RX10 "HopYard" "greenHops" "LHopYard$GreenHops;" ∈ lw_tg := List.mem_filter.mpr ⟨List.mem_append_right _ (List.mem_of_getElem? (i := 152) rfl), rfl⟩
set_option maxRecDepth 20000 in
theorem tw_187 : Cond.laysFinal RX10 "HopYard" "press" "LHopYard$Press;" ∈ lw_tg := List.mem_filter.mpr ⟨List.mem_append_right _ (List.mem_of_getElem? (i := 154) rfl), rfl⟩
set_option maxRecDepth 20000 in
theorem tw_189 : Cond.laysFinal RX10 "HopYard" "prices" "LHopYard$Notices;" ∈ lw_tg := List.mem_filter.mpr ⟨List.mem_append_right _ (List.mem_of_getElem? (i := 156) rfl), rfl⟩
set_option maxRecDepth 20000 in
theorem tw_191 : Cond.laysFinal RX10 "HopYard" "duties" "LHopYard$Notices;" ∈ lw_tg := List.mem_filter.mpr ⟨List.mem_append_right _ (List.mem_of_getElem? (i := 158) rfl), rfl⟩
set_option maxRecDepth 20000 in
theorem tw_193 : Cond.laysFinal RX10 "HopYard" "allotment" "LHopYard$Allotment;" ∈ lw_tg := List.mem_filter.mpr ⟨List.mem_append_right _ (List.mem_of_getElem? (i := 160) rfl), rfl⟩
set_option maxRecDepth 20000 in
theorem tw_195 : Cond.lays RX10 "HopYard" "now" "I" ∈ lw_tg := List.mem_filter.mpr ⟨List.mem_append_right _ (List.mem_of_getElem? (i := 162) rfl), rfl⟩
set_option maxRecDepth 20000 in
theorem tw_197 : Cond.lays RX10 "HopYard" "wait" "I" ∈ lw_tg := List.mem_filter.mpr ⟨List.mem_append_right _ (List.mem_of_getElem? (i := 164) rfl), rfl⟩
set_option maxRecDepth 20000 in
theorem tw_199 : Cond.lays RX10 "HopYard" "traced" "J" ∈ lw_tg := List.mem_filter.mpr ⟨List.mem_append_right _ (List.mem_of_getElem? (i := 166) rfl), rfl⟩
set_option maxRecDepth 20000 in
theorem tw_201 : Cond.superclass "HopYard" "java/lang/Object" ∈ lw_tg := List.mem_filter.mpr ⟨List.mem_append_right _ (List.mem_of_getElem? (i := 168) rfl), rfl⟩
set_option maxRecDepth 20000 in
theorem tw_202 : Cond.methodLink RL 13 yX10_garden ∈ lw_tg := List.mem_filter.mpr ⟨List.mem_append_right _ (List.mem_of_getElem? (i := 169) rfl), rfl⟩
set_option maxRecDepth 20000 in
theorem tw_203 : Cond.instanceMethod yX10_garden ∈ lw_tg := List.mem_filter.mpr ⟨List.mem_append_right _ (List.mem_of_getElem? (i := 170) rfl), rfl⟩
set_option maxRecDepth 20000 in
theorem tw_204 : Cond.selects RX10 yX10_garden yX10_garden ∈ lw_tg := List.mem_filter.mpr ⟨List.mem_append_right _ (List.mem_of_getElem? (i := 171) rfl), rfl⟩
set_option maxRecDepth 20000 in
theorem tw_205 : Cond.code yX10_garden cX10_garden 4 (some FieldType.int) ∈ lw_tg := List.mem_filter.mpr ⟨List.mem_append_right _ (List.mem_of_getElem? (i := 172) rfl), rfl⟩
set_option maxRecDepth 20000 in
theorem tw_206 : Cond.methodLink RX10 66 yX10_within ∈ lw_tg := List.mem_filter.mpr ⟨List.mem_append_right _ (List.mem_of_getElem? (i := 173) rfl), rfl⟩
set_option maxRecDepth 20000 in
theorem tw_207 : Cond.static yX10_within ∈ lw_tg := List.mem_filter.mpr ⟨List.mem_append_right _ (List.mem_of_getElem? (i := 174) rfl), rfl⟩
set_option maxRecDepth 20000 in
theorem tw_208 : Cond.code yX10_within cX10_within 3 (some FieldType.boolean) ∈ lw_tg := List.mem_filter.mpr ⟨List.mem_append_right _ (List.mem_of_getElem? (i := 175) rfl), rfl⟩
set_option maxRecDepth 20000 in
theorem tw_209 : Cond.methodLink RX10 70 yJx4a65c_size_8abf5 ∈ lw_tg := List.mem_filter.mpr ⟨List.mem_append_right _ (List.mem_of_getElem? (i := 176) rfl), rfl⟩
set_option maxRecDepth 20000 in
theorem tw_210 : Cond.instanceMethod yJx4a65c_size_8abf5 ∈ lw_tg := List.mem_filter.mpr ⟨List.mem_append_right _ (List.mem_of_getElem? (i := 177) rfl), rfl⟩
set_option maxRecDepth 20000 in
theorem tw_211 : Cond.selects RJx4a65c yJx4a65c_size_8abf5 yJx4a65c_size_8abf5 ∈ lw_tg := List.mem_filter.mpr ⟨List.mem_append_right _ (List.mem_of_getElem? (i := 178) rfl), rfl⟩
set_option maxRecDepth 20000 in
theorem tw_212 : Cond.code yJx4a65c_size_8abf5 cJx4a65c_size_8abf5 1 (some FieldType.int) ∈ lw_tg := List.mem_filter.mpr ⟨List.mem_append_right _ (List.mem_of_getElem? (i := 179) rfl), rfl⟩
set_option maxRecDepth 20000 in
theorem tw_213 : Cond.classLink RX10 74 RX4 ∈ lw_tg := List.mem_filter.mpr ⟨List.mem_append_right _ (List.mem_of_getElem? (i := 180) rfl), rfl⟩
set_option maxRecDepth 20000 in
theorem tw_214 : Cond.instantiable RX4 6 ∈ lw_tg := List.mem_filter.mpr ⟨List.mem_append_right _ (List.mem_of_getElem? (i := 181) rfl), rfl⟩
set_option maxRecDepth 20000 in
theorem tw_215 : Cond.methodLink RX10 76 yX4_init ∈ lw_tg := List.mem_filter.mpr ⟨List.mem_append_right _ (List.mem_of_getElem? (i := 182) rfl), rfl⟩
set_option maxRecDepth 20000 in
theorem tw_216 : Cond.instanceMethod yX4_init ∈ lw_tg := List.mem_filter.mpr ⟨List.mem_append_right _ (List.mem_of_getElem? (i := 183) rfl), rfl⟩
set_option maxRecDepth 20000 in
theorem tw_217 : Cond.code yX4_init cX4_init 4 none ∈ lw_tg := List.mem_filter.mpr ⟨List.mem_append_right _ (List.mem_of_getElem? (i := 184) rfl), rfl⟩
set_option maxRecDepth 20000 in
theorem tw_218 : Cond.methodLink RX4 1 objectInit ∈ lw_tg := List.mem_filter.mpr ⟨List.mem_append_right _ (List.mem_of_getElem? (i := 185) rfl), rfl⟩
set_option maxRecDepth 20000 in
theorem tw_219 : Cond.fieldLink RX4 7 "HopYard$Garden" "from" "I" ∈ lw_tg := List.mem_filter.mpr ⟨List.mem_append_right _ (List.mem_of_getElem? (i := 186) rfl), rfl⟩
set_option maxRecDepth 20000 in
theorem tw_220 : Cond.fieldLink RX4 13 "HopYard$Garden" "to" "I" ∈ lw_tg := List.mem_filter.mpr ⟨List.mem_append_right _ (List.mem_of_getElem? (i := 187) rfl), rfl⟩
set_option maxRecDepth 20000 in
theorem tw_221 : Cond.fieldLink RX4 16 "HopYard$Garden" "left" "I" ∈ lw_tg := List.mem_filter.mpr ⟨List.mem_append_right _ (List.mem_of_getElem? (i := 188) rfl), rfl⟩
set_option maxRecDepth 20000 in
theorem tw_222 : Cond.fieldLink RX10 131 "HopYard$Garden" "left" "I" ∈ lw_tg := List.mem_filter.mpr ⟨List.mem_append_right _ (List.mem_of_getElem? (i := 189) rfl), rfl⟩
set_option maxRecDepth 20000 in
theorem tw_223 : Cond.fieldLink RX4 31 "HopYard$Garden" "picked" "I" ∈ lw_tg := List.mem_filter.mpr ⟨List.mem_append_right _ (List.mem_of_getElem? (i := 190) rfl), rfl⟩
set_option maxRecDepth 20000 in
theorem tw_224 : Cond.fieldLink RX10 134 "HopYard$Garden" "picked" "I" ∈ lw_tg := List.mem_filter.mpr ⟨List.mem_append_right _ (List.mem_of_getElem? (i := 191) rfl), rfl⟩
set_option maxRecDepth 20000 in
theorem tw_225 : Cond.fieldLink RX10 143 "HopYard$Garden" "lost" "I" ∈ lw_tg := List.mem_filter.mpr ⟨List.mem_append_right _ (List.mem_of_getElem? (i := 192) rfl), rfl⟩
set_option maxRecDepth 20000 in
theorem tw_226 : Cond.fieldLink RX10 146 "HopYard$Garden" "dried" "I" ∈ lw_tg := List.mem_filter.mpr ⟨List.mem_append_right _ (List.mem_of_getElem? (i := 193) rfl), rfl⟩
set_option maxRecDepth 20000 in
theorem tw_227 : Cond.laysFinal RX4 "HopYard$Garden" "from" "I" ∈ lw_tg := List.mem_filter.mpr ⟨List.mem_append_right _ (List.mem_of_getElem? (i := 194) rfl), rfl⟩
set_option maxRecDepth 20000 in
theorem tw_229 : Cond.laysFinal RX4 "HopYard$Garden" "to" "I" ∈ lw_tg := List.mem_filter.mpr ⟨List.mem_append_right _ (List.mem_of_getElem? (i := 196) rfl), rfl⟩
set_option maxRecDepth 20000 in
theorem tw_231 : Cond.lays RX4 "HopYard$Garden" "left" "I" ∈ lw_tg := List.mem_filter.mpr ⟨List.mem_append_right _ (List.mem_of_getElem? (i := 198) rfl), rfl⟩
set_option maxRecDepth 20000 in
theorem tw_233 : Cond.lays RX4 "HopYard$Garden" "picked" "I" ∈ lw_tg := List.mem_filter.mpr ⟨List.mem_append_right _ (List.mem_of_getElem? (i := 200) rfl), rfl⟩
set_option maxRecDepth 20000 in
theorem tw_235 : Cond.lays RX4 "HopYard$Garden" "lost" "I" ∈ lw_tg := List.mem_filter.mpr ⟨List.mem_append_right _ (List.mem_of_getElem? (i := 202) rfl), rfl⟩
set_option maxRecDepth 20000 in
theorem tw_237 : Cond.lays RX4 "HopYard$Garden" "dried" "I" ∈ lw_tg := List.mem_filter.mpr ⟨List.mem_append_right _ (List.mem_of_getElem? (i := 204) rfl), rfl⟩
set_option maxRecDepth 20000 in
theorem tw_239 : Cond.superclass "HopYard$Garden" "java/lang/Object" ∈ lw_tg := List.mem_filter.mpr ⟨List.mem_append_right _ (List.mem_of_getElem? (i := 206) rfl), rfl⟩
set_option maxRecDepth 20000 in
theorem tw_240 : Cond.methodLink RX10 79 yJx4a65c_add_9ea2d ∈ lw_tg := List.mem_filter.mpr ⟨List.mem_append_right _ (List.mem_of_getElem? (i := 207) rfl), rfl⟩
set_option maxRecDepth 20000 in
theorem tw_241 : Cond.instanceMethod yJx4a65c_add_9ea2d ∈ lw_tg := List.mem_filter.mpr ⟨List.mem_append_right _ (List.mem_of_getElem? (i := 208) rfl), rfl⟩
set_option maxRecDepth 20000 in
theorem tw_242 : Cond.selects RJx4a65c yJx4a65c_add_9ea2d yJx4a65c_add_9ea2d ∈ lw_tg := List.mem_filter.mpr ⟨List.mem_append_right _ (List.mem_of_getElem? (i := 209) rfl), rfl⟩
set_option maxRecDepth 20000 in
theorem tw_243 : Cond.code yJx4a65c_add_9ea2d cJx4a65c_add_9ea2d 2 (some FieldType.boolean) ∈ lw_tg := List.mem_filter.mpr ⟨List.mem_append_right _ (List.mem_of_getElem? (i := 210) rfl), rfl⟩
set_option maxRecDepth 20000 in
theorem tw_244 : Cond.methodLink RJx4a65c 131 yJx4a65c_add_72be8 ∈ lw_tg := List.mem_filter.mpr ⟨List.mem_append_right _ (List.mem_of_getElem? (i := 211) rfl), rfl⟩
set_option maxRecDepth 20000 in
theorem tw_245 : Cond.privateMethod yJx4a65c_add_72be8 ∈ lw_tbl := List.mem_append_right _ (List.mem_of_getElem? (i := 212) rfl)
set_option maxRecDepth 20000 in
theorem tw_246 : Cond.instanceMethod yJx4a65c_add_72be8 ∈ lw_tg := List.mem_filter.mpr ⟨List.mem_append_right _ (List.mem_of_getElem? (i := 213) rfl), rfl⟩
set_option maxRecDepth 20000 in
theorem tw_247 : Cond.code yJx4a65c_add_72be8 cJx4a65c_add_72be8 4 none ∈ lw_tg := List.mem_filter.mpr ⟨List.mem_append_right _ (List.mem_of_getElem? (i := 214) rfl), rfl⟩
set_option maxRecDepth 20000 in
theorem tw_248 : Cond.methodLink RJx4a65c 129 yJx4a65c_grow_d5877 ∈ lw_tg := List.mem_filter.mpr ⟨List.mem_append_right _ (List.mem_of_getElem? (i := 215) rfl), rfl⟩
set_option maxRecDepth 20000 in
theorem tw_249 : Cond.privateMethod yJx4a65c_grow_d5877 ∈ lw_tbl := List.mem_append_right _ (List.mem_of_getElem? (i := 216) rfl)
set_option maxRecDepth 20000 in
theorem tw_250 : Cond.instanceMethod yJx4a65c_grow_d5877 ∈ lw_tg := List.mem_filter.mpr ⟨List.mem_append_right _ (List.mem_of_getElem? (i := 217) rfl), rfl⟩
set_option maxRecDepth 20000 in
theorem tw_251 : Cond.code yJx4a65c_grow_d5877 cJx4a65c_grow_d5877 1 (some (FieldType.array (FieldType.object "java/lang/Object"))) ∈ lw_tg := List.mem_filter.mpr ⟨List.mem_append_right _ (List.mem_of_getElem? (i := 218) rfl), rfl⟩
set_option maxRecDepth 20000 in
theorem tw_252 : Cond.methodLink RJx4a65c 69 yJx4a65c_grow_92f84 ∈ lw_tg := List.mem_filter.mpr ⟨List.mem_append_right _ (List.mem_of_getElem? (i := 219) rfl), rfl⟩
set_option maxRecDepth 20000 in
theorem tw_253 : Cond.privateMethod yJx4a65c_grow_92f84 ∈ lw_tbl := List.mem_append_right _ (List.mem_of_getElem? (i := 220) rfl)
set_option maxRecDepth 20000 in
theorem tw_254 : Cond.instanceMethod yJx4a65c_grow_92f84 ∈ lw_tg := List.mem_filter.mpr ⟨List.mem_append_right _ (List.mem_of_getElem? (i := 221) rfl), rfl⟩
set_option maxRecDepth 20000 in
theorem tw_255 : Cond.code yJx4a65c_grow_92f84 cJx4a65c_grow_92f84 4 (some (FieldType.array (FieldType.object "java/lang/Object"))) ∈ lw_tg := List.mem_filter.mpr ⟨List.mem_append_right _ (List.mem_of_getElem? (i := 222) rfl), rfl⟩
set_option maxRecDepth 20000 in
theorem tw_256 : Cond.methodLink RJx4a65c 73 yJ8_newLength_cabcc ∈ lw_tg := List.mem_filter.mpr ⟨List.mem_append_right _ (List.mem_of_getElem? (i := 223) rfl), rfl⟩
set_option maxRecDepth 20000 in
theorem tw_257 : Cond.static yJ8_newLength_cabcc ∈ lw_tg := List.mem_filter.mpr ⟨List.mem_append_right _ (List.mem_of_getElem? (i := 224) rfl), rfl⟩
set_option maxRecDepth 20000 in
theorem tw_258 : Cond.code yJ8_newLength_cabcc cJ8_newLength_cabcc 4 (some FieldType.int) ∈ lw_tg := List.mem_filter.mpr ⟨List.mem_append_right _ (List.mem_of_getElem? (i := 225) rfl), rfl⟩
set_option maxRecDepth 20000 in
theorem tw_259 : Cond.methodLink RJ8 194 yJ9_max_7cf53 ∈ lw_tg := List.mem_filter.mpr ⟨List.mem_append_right _ (List.mem_of_getElem? (i := 226) rfl), rfl⟩
set_option maxRecDepth 20000 in
theorem tw_260 : Cond.static yJ9_max_7cf53 ∈ lw_tg := List.mem_filter.mpr ⟨List.mem_append_right _ (List.mem_of_getElem? (i := 227) rfl), rfl⟩
set_option maxRecDepth 20000 in
theorem tw_261 : Cond.code yJ9_max_7cf53 cJ9_max_7cf53 2 (some FieldType.int) ∈ lw_tg := List.mem_filter.mpr ⟨List.mem_append_right _ (List.mem_of_getElem? (i := 228) rfl), rfl⟩
set_option maxRecDepth 20000 in
theorem tw_262 : Cond.constant "jdk/internal/util/ArraysSupport" 200 (2147483639 : Int32) ∈ lw_tg := List.mem_filter.mpr ⟨List.mem_append_right _ (List.mem_of_getElem? (i := 229) rfl), rfl⟩
set_option maxRecDepth 20000 in
theorem tw_263 : Cond.methodLink RJ8 201 yJ8_hugeLength_7cf53 ∈ lw_tg := List.mem_filter.mpr ⟨List.mem_append_right _ (List.mem_of_getElem? (i := 230) rfl), rfl⟩
set_option maxRecDepth 20000 in
theorem tw_264 : Cond.static yJ8_hugeLength_7cf53 ∈ lw_tg := List.mem_filter.mpr ⟨List.mem_append_right _ (List.mem_of_getElem? (i := 231) rfl), rfl⟩
set_option maxRecDepth 20000 in
theorem tw_265 : Cond.code yJ8_hugeLength_7cf53 cJ8_hugeLength_7cf53 3 (some FieldType.int) ∈ lw_tg := List.mem_filter.mpr ⟨List.mem_append_right _ (List.mem_of_getElem? (i := 232) rfl), rfl⟩
set_option maxRecDepth 20000 in
theorem tw_266 : Cond.methodLink RJx4a65c 66 yJ7_copyOf_1904c ∈ lw_tg := List.mem_filter.mpr ⟨List.mem_append_right _ (List.mem_of_getElem? (i := 233) rfl), rfl⟩
set_option maxRecDepth 20000 in
theorem tw_267 : Cond.static yJ7_copyOf_1904c ∈ lw_tg := List.mem_filter.mpr ⟨List.mem_append_right _ (List.mem_of_getElem? (i := 234) rfl), rfl⟩
set_option maxRecDepth 20000 in
theorem tw_268 : Cond.code yJ7_copyOf_1904c cJ7_copyOf_1904c 2 (some (FieldType.array (FieldType.object "java/lang/Object"))) ∈ lw_tg := List.mem_filter.mpr ⟨List.mem_append_right _ (List.mem_of_getElem? (i := 235) rfl), rfl⟩
set_option maxRecDepth 20000 in
theorem tw_269 : Cond.methodLink RJ7 86 ⟨"java/lang/Object", "getClass", "()Ljava/lang/Class;"⟩ ∈ lw_tg := List.mem_filter.mpr ⟨List.mem_append_right _ (List.mem_of_getElem? (i := 236) rfl), rfl⟩
set_option maxRecDepth 20000 in
theorem tw_270 : Cond.instanceMethod ⟨"java/lang/Object", "getClass", "()Ljava/lang/Class;"⟩ ∈ lw_tg := List.mem_filter.mpr ⟨List.mem_append_right _ (List.mem_of_getElem? (i := 237) rfl), rfl⟩
set_option maxRecDepth 20000 in
theorem tw_271 : Cond.sameMethod "java/lang/Object" "java/lang/Object" "getClass" "()Ljava/lang/Class;" ∈ lw_tg := List.mem_filter.mpr ⟨List.mem_append_right _ (List.mem_of_getElem? (i := 238) rfl), rfl⟩
set_option maxRecDepth 20000 in
theorem tw_272 : Cond.selects RX10 ⟨"java/lang/Object", "getClass", "()Ljava/lang/Class;"⟩ ⟨"java/lang/Object", "getClass", "()Ljava/lang/Class;"⟩ ∈ lw_tg := List.mem_filter.mpr ⟨List.mem_append_right _ (List.mem_of_getElem? (i := 239) rfl), rfl⟩
set_option maxRecDepth 20000 in
theorem tw_273 : Cond.selects RX0 ⟨"java/lang/Object", "getClass", "()Ljava/lang/Class;"⟩ ⟨"java/lang/Object", "getClass", "()Ljava/lang/Class;"⟩ ∈ lw_tg := List.mem_filter.mpr ⟨List.mem_append_right _ (List.mem_of_getElem? (i := 240) rfl), rfl⟩
set_option maxRecDepth 20000 in
theorem tw_274 : Cond.selects RX1 ⟨"java/lang/Object", "getClass", "()Ljava/lang/Class;"⟩ ⟨"java/lang/Object", "getClass", "()Ljava/lang/Class;"⟩ ∈ lw_tg := List.mem_filter.mpr ⟨List.mem_append_right _ (List.mem_of_getElem? (i := 241) rfl), rfl⟩
set_option maxRecDepth 20000 in
theorem tw_275 : Cond.selects RX2 ⟨"java/lang/Object", "getClass", "()Ljava/lang/Class;"⟩ ⟨"java/lang/Object", "getClass", "()Ljava/lang/Class;"⟩ ∈ lw_tg := List.mem_filter.mpr ⟨List.mem_append_right _ (List.mem_of_getElem? (i := 242) rfl), rfl⟩
set_option maxRecDepth 20000 in
theorem tw_276 : Cond.selects RX3 ⟨"java/lang/Object", "getClass", "()Ljava/lang/Class;"⟩ ⟨"java/lang/Object", "getClass", "()Ljava/lang/Class;"⟩ ∈ lw_tg := List.mem_filter.mpr ⟨List.mem_append_right _ (List.mem_of_getElem? (i := 243) rfl), rfl⟩
set_option maxRecDepth 20000 in
theorem tw_277 : Cond.selects RX4 ⟨"java/lang/Object", "getClass", "()Ljava/lang/Class;"⟩ ⟨"java/lang/Object", "getClass", "()Ljava/lang/Class;"⟩ ∈ lw_tg := List.mem_filter.mpr ⟨List.mem_append_right _ (List.mem_of_getElem? (i := 244) rfl), rfl⟩
set_option maxRecDepth 20000 in
theorem tw_278 : Cond.selects RX5 ⟨"java/lang/Object", "getClass", "()Ljava/lang/Class;"⟩ ⟨"java/lang/Object", "getClass", "()Ljava/lang/Class;"⟩ ∈ lw_tg := List.mem_filter.mpr ⟨List.mem_append_right _ (List.mem_of_getElem? (i := 245) rfl), rfl⟩
set_option maxRecDepth 20000 in
theorem tw_279 : Cond.selects RX6 ⟨"java/lang/Object", "getClass", "()Ljava/lang/Class;"⟩ ⟨"java/lang/Object", "getClass", "()Ljava/lang/Class;"⟩ ∈ lw_tg := List.mem_filter.mpr ⟨List.mem_append_right _ (List.mem_of_getElem? (i := 246) rfl), rfl⟩
set_option maxRecDepth 20000 in
theorem tw_280 : Cond.selects RX7 ⟨"java/lang/Object", "getClass", "()Ljava/lang/Class;"⟩ ⟨"java/lang/Object", "getClass", "()Ljava/lang/Class;"⟩ ∈ lw_tg := List.mem_filter.mpr ⟨List.mem_append_right _ (List.mem_of_getElem? (i := 247) rfl), rfl⟩
set_option maxRecDepth 20000 in
theorem tw_281 : Cond.selects RX8 ⟨"java/lang/Object", "getClass", "()Ljava/lang/Class;"⟩ ⟨"java/lang/Object", "getClass", "()Ljava/lang/Class;"⟩ ∈ lw_tg := List.mem_filter.mpr ⟨List.mem_append_right _ (List.mem_of_getElem? (i := 248) rfl), rfl⟩
set_option maxRecDepth 20000 in
theorem tw_282 : Cond.selects RX9 ⟨"java/lang/Object", "getClass", "()Ljava/lang/Class;"⟩ ⟨"java/lang/Object", "getClass", "()Ljava/lang/Class;"⟩ ∈ lw_tg := List.mem_filter.mpr ⟨List.mem_append_right _ (List.mem_of_getElem? (i := 249) rfl), rfl⟩
set_option maxRecDepth 20000 in
theorem tw_283 : Cond.selects RX11 ⟨"java/lang/Object", "getClass", "()Ljava/lang/Class;"⟩ ⟨"java/lang/Object", "getClass", "()Ljava/lang/Class;"⟩ ∈ lw_tg := List.mem_filter.mpr ⟨List.mem_append_right _ (List.mem_of_getElem? (i := 250) rfl), rfl⟩
set_option maxRecDepth 20000 in
theorem tw_284 : Cond.selects RJx4a65c ⟨"java/lang/Object", "getClass", "()Ljava/lang/Class;"⟩ ⟨"java/lang/Object", "getClass", "()Ljava/lang/Class;"⟩ ∈ lw_tg := List.mem_filter.mpr ⟨List.mem_append_right _ (List.mem_of_getElem? (i := 251) rfl), rfl⟩
set_option maxRecDepth 20000 in
theorem tw_285 : Cond.native ⟨"java/lang/Object", "getClass", "()Ljava/lang/Class;"⟩ ∈ lw_tg := List.mem_filter.mpr ⟨List.mem_append_right _ (List.mem_of_getElem? (i := 252) rfl), rfl⟩
set_option maxRecDepth 20000 in
theorem tw_286 : Cond.methodLink RJ7 300 yJ7_copyOf_6403c ∈ lw_tg := List.mem_filter.mpr ⟨List.mem_append_right _ (List.mem_of_getElem? (i := 253) rfl), rfl⟩
set_option maxRecDepth 20000 in
theorem tw_287 : Cond.static yJ7_copyOf_6403c ∈ lw_tg := List.mem_filter.mpr ⟨List.mem_append_right _ (List.mem_of_getElem? (i := 254) rfl), rfl⟩
set_option maxRecDepth 20000 in
theorem tw_288 : Cond.code yJ7_copyOf_6403c cJ7_copyOf_6403c 4 (some (FieldType.array (FieldType.object "java/lang/Object"))) ∈ lw_tg := List.mem_filter.mpr ⟨List.mem_append_right _ (List.mem_of_getElem? (i := 255) rfl), rfl⟩
set_option maxRecDepth 20000 in
theorem tw_289 : Cond.classLink RJ7 110 "[Ljava/lang/Object;" ∈ lw_tg := List.mem_filter.mpr ⟨List.mem_append_right _ (List.mem_of_getElem? (i := 256) rfl), rfl⟩
set_option maxRecDepth 20000 in
theorem tw_290 : Cond.arrayOver (FieldType.object "java/lang/Object") ∈ lw_tbl := List.mem_append_right _ (List.mem_of_getElem? (i := 257) rfl)
set_option maxRecDepth 20000 in
theorem tw_291 : Cond.classLink RJ7 2 "java/lang/Object" ∈ lw_tg := List.mem_filter.mpr ⟨List.mem_append_right _ (List.mem_of_getElem? (i := 258) rfl), rfl⟩
set_option maxRecDepth 20000 in
theorem tw_292 : Cond.methodLink RJ7 304 yJ9_min_7cf53 ∈ lw_tg := List.mem_filter.mpr ⟨List.mem_append_right _ (List.mem_of_getElem? (i := 259) rfl), rfl⟩
set_option maxRecDepth 20000 in
theorem tw_293 : Cond.static yJ9_min_7cf53 ∈ lw_tg := List.mem_filter.mpr ⟨List.mem_append_right _ (List.mem_of_getElem? (i := 260) rfl), rfl⟩
set_option maxRecDepth 20000 in
theorem tw_294 : Cond.code yJ9_min_7cf53 cJ9_min_7cf53 2 (some FieldType.int) ∈ lw_tg := List.mem_filter.mpr ⟨List.mem_append_right _ (List.mem_of_getElem? (i := 261) rfl), rfl⟩
set_option maxRecDepth 20000 in
theorem tw_295 : Cond.methodLink RJ7 150 ⟨"java/lang/System", "arraycopy", "(Ljava/lang/Object;ILjava/lang/Object;II)V"⟩ ∈ lw_tg := List.mem_filter.mpr ⟨List.mem_append_right _ (List.mem_of_getElem? (i := 262) rfl), rfl⟩
set_option maxRecDepth 20000 in
theorem tw_296 : Cond.static ⟨"java/lang/System", "arraycopy", "(Ljava/lang/Object;ILjava/lang/Object;II)V"⟩ ∈ lw_tg := List.mem_filter.mpr ⟨List.mem_append_right _ (List.mem_of_getElem? (i := 263) rfl), rfl⟩
set_option maxRecDepth 20000 in
theorem tw_297 : Cond.native ⟨"java/lang/System", "arraycopy", "(Ljava/lang/Object;ILjava/lang/Object;II)V"⟩ ∈ lw_tg := List.mem_filter.mpr ⟨List.mem_append_right _ (List.mem_of_getElem? (i := 264) rfl), rfl⟩
set_option maxRecDepth 20000 in
theorem tw_298 : Cond.methodLink RJx4a65c 79 yJ9_max_7cf53 ∈ lw_tg := List.mem_filter.mpr ⟨List.mem_append_right _ (List.mem_of_getElem? (i := 265) rfl), rfl⟩
set_option maxRecDepth 20000 in
theorem tw_299 : Cond.classLink RJx4a65c 7 "java/lang/Object" ∈ lw_tg := List.mem_filter.mpr ⟨List.mem_append_right _ (List.mem_of_getElem? (i := 266) rfl), rfl⟩
set_option maxRecDepth 20000 in
theorem tw_300 : Cond.methodLink RL 18 yX10_gang ∈ lw_tg := List.mem_filter.mpr ⟨List.mem_append_right _ (List.mem_of_getElem? (i := 267) rfl), rfl⟩
set_option maxRecDepth 20000 in
theorem tw_301 : Cond.instanceMethod yX10_gang ∈ lw_tg := List.mem_filter.mpr ⟨List.mem_append_right _ (List.mem_of_getElem? (i := 268) rfl), rfl⟩
set_option maxRecDepth 20000 in
theorem tw_302 : Cond.selects RX10 yX10_gang yX10_gang ∈ lw_tg := List.mem_filter.mpr ⟨List.mem_append_right _ (List.mem_of_getElem? (i := 269) rfl), rfl⟩
set_option maxRecDepth 20000 in
theorem tw_303 : Cond.code yX10_gang cX10_gang 3 (some FieldType.int) ∈ lw_tg := List.mem_filter.mpr ⟨List.mem_append_right _ (List.mem_of_getElem? (i := 270) rfl), rfl⟩
set_option maxRecDepth 20000 in
theorem tw_304 : Cond.classLink RX10 83 RX3 ∈ lw_tg := List.mem_filter.mpr ⟨List.mem_append_right _ (List.mem_of_getElem? (i := 271) rfl), rfl⟩
set_option maxRecDepth 20000 in
theorem tw_305 : Cond.instantiable RX3 6 ∈ lw_tg := List.mem_filter.mpr ⟨List.mem_append_right _ (List.mem_of_getElem? (i := 272) rfl), rfl⟩
set_option maxRecDepth 20000 in
theorem tw_306 : Cond.methodLink RX10 85 yX3_init ∈ lw_tg := List.mem_filter.mpr ⟨List.mem_append_right _ (List.mem_of_getElem? (i := 273) rfl), rfl⟩
set_option maxRecDepth 20000 in
theorem tw_307 : Cond.instanceMethod yX3_init ∈ lw_tg := List.mem_filter.mpr ⟨List.mem_append_right _ (List.mem_of_getElem? (i := 274) rfl), rfl⟩
set_option maxRecDepth 20000 in
theorem tw_308 : Cond.code yX3_init cX3_init 3 none ∈ lw_tg := List.mem_filter.mpr ⟨List.mem_append_right _ (List.mem_of_getElem? (i := 275) rfl), rfl⟩
set_option maxRecDepth 20000 in
theorem tw_309 : Cond.methodLink RX3 3 objectInit ∈ lw_tg := List.mem_filter.mpr ⟨List.mem_append_right _ (List.mem_of_getElem? (i := 276) rfl), rfl⟩
set_option maxRecDepth 20000 in
theorem tw_310 : Cond.fieldLink RX3 9 "HopYard$Gang" "rate" "I" ∈ lw_tg := List.mem_filter.mpr ⟨List.mem_append_right _ (List.mem_of_getElem? (i := 277) rfl), rfl⟩
set_option maxRecDepth 20000 in
theorem tw_311 : Cond.fieldLink RX0 37 "HopYard$Gang" "rate" "I" ∈ lw_tg := List.mem_filter.mpr ⟨List.mem_append_right _ (List.mem_of_getElem? (i := 278) rfl), rfl⟩
set_option maxRecDepth 20000 in
theorem tw_312 : Cond.fieldLink RX10 237 "HopYard$Gang" "rate" "I" ∈ lw_tg := List.mem_filter.mpr ⟨List.mem_append_right _ (List.mem_of_getElem? (i := 279) rfl), rfl⟩
set_option maxRecDepth 20000 in
theorem tw_313 : Cond.fieldLink RX3 15 "HopYard$Gang" "measure" "I" ∈ lw_tg := List.mem_filter.mpr ⟨List.mem_append_right _ (List.mem_of_getElem? (i := 280) rfl), rfl⟩
set_option maxRecDepth 20000 in
theorem tw_314 : Cond.fieldLink RX3 18 "HopYard$Gang" "at" "I" ∈ lw_tg := List.mem_filter.mpr ⟨List.mem_append_right _ (List.mem_of_getElem? (i := 281) rfl), rfl⟩
set_option maxRecDepth 20000 in
theorem tw_315 : Cond.fieldLink RX10 96 "HopYard$Gang" "at" "I" ∈ lw_tg := List.mem_filter.mpr ⟨List.mem_append_right _ (List.mem_of_getElem? (i := 282) rfl), rfl⟩
set_option maxRecDepth 20000 in
theorem tw_316 : Cond.fieldLink RX3 21 "HopYard$Gang" "picked" "I" ∈ lw_tg := List.mem_filter.mpr ⟨List.mem_append_right _ (List.mem_of_getElem? (i := 283) rfl), rfl⟩
set_option maxRecDepth 20000 in
theorem tw_317 : Cond.fieldLink RX10 149 "HopYard$Gang" "picked" "I" ∈ lw_tg := List.mem_filter.mpr ⟨List.mem_append_right _ (List.mem_of_getElem? (i := 284) rfl), rfl⟩
set_option maxRecDepth 20000 in
theorem tw_318 : Cond.fieldLink RX3 24 "HopYard$Gang" "told" "I" ∈ lw_tg := List.mem_filter.mpr ⟨List.mem_append_right _ (List.mem_of_getElem? (i := 285) rfl), rfl⟩
set_option maxRecDepth 20000 in
theorem tw_319 : Cond.fieldLink RX10 150 "HopYard$Gang" "told" "I" ∈ lw_tg := List.mem_filter.mpr ⟨List.mem_append_right _ (List.mem_of_getElem? (i := 286) rfl), rfl⟩
set_option maxRecDepth 20000 in
theorem tw_320 : Cond.fieldLink RX3 27 "HopYard$Gang" "pay" "I" ∈ lw_tg := List.mem_filter.mpr ⟨List.mem_append_right _ (List.mem_of_getElem? (i := 287) rfl), rfl⟩
set_option maxRecDepth 20000 in
theorem tw_321 : Cond.fieldLink RX10 153 "HopYard$Gang" "pay" "I" ∈ lw_tg := List.mem_filter.mpr ⟨List.mem_append_right _ (List.mem_of_getElem? (i := 288) rfl), rfl⟩
set_option maxRecDepth 20000 in
theorem tw_322 : Cond.laysFinal RX3 "HopYard$Gang" "rate" "I" ∈ lw_tg := List.mem_filter.mpr ⟨List.mem_append_right _ (List.mem_of_getElem? (i := 289) rfl), rfl⟩
set_option maxRecDepth 20000 in
theorem tw_324 : Cond.laysFinal RX3 "HopYard$Gang" "measure" "I" ∈ lw_tg := List.mem_filter.mpr ⟨List.mem_append_right _ (List.mem_of_getElem? (i := 291) rfl), rfl⟩
set_option maxRecDepth 20000 in
theorem tw_326 : Cond.lays RX3 "HopYard$Gang" "at" "I" ∈ lw_tg := List.mem_filter.mpr ⟨List.mem_append_right _ (List.mem_of_getElem? (i := 293) rfl), rfl⟩
set_option maxRecDepth 20000 in
theorem tw_328 : Cond.lays RX3 "HopYard$Gang" "picked" "I" ∈ lw_tg := List.mem_filter.mpr ⟨List.mem_append_right _ (List.mem_of_getElem? (i := 295) rfl), rfl⟩
set_option maxRecDepth 20000 in
theorem tw_330 : Cond.lays RX3 "HopYard$Gang" "told" "I" ∈ lw_tg := List.mem_filter.mpr ⟨List.mem_append_right _ (List.mem_of_getElem? (i := 297) rfl), rfl⟩
set_option maxRecDepth 20000 in
theorem tw_332 : Cond.lays RX3 "HopYard$Gang" "pay" "I" ∈ lw_tg := List.mem_filter.mpr ⟨List.mem_append_right _ (List.mem_of_getElem? (i := 299) rfl), rfl⟩
set_option maxRecDepth 20000 in
theorem tw_334 : Cond.superclass "HopYard$Gang" "java/lang/Object" ∈ lw_tg := List.mem_filter.mpr ⟨List.mem_append_right _ (List.mem_of_getElem? (i := 301) rfl), rfl⟩
set_option maxRecDepth 20000 in
theorem tw_335 : Cond.methodLink RL 23 yX10_sends ∈ lw_tg := List.mem_filter.mpr ⟨List.mem_append_right _ (List.mem_of_getElem? (i := 302) rfl), rfl⟩
set_option maxRecDepth 20000 in
theorem tw_336 : Cond.instanceMethod yX10_sends ∈ lw_tg := List.mem_filter.mpr ⟨List.mem_append_right _ (List.mem_of_getElem? (i := 303) rfl), rfl⟩
set_option maxRecDepth 20000 in
theorem tw_337 : Cond.selects RX10 yX10_sends yX10_sends ∈ lw_tg := List.mem_filter.mpr ⟨List.mem_append_right _ (List.mem_of_getElem? (i := 304) rfl), rfl⟩
set_option maxRecDepth 20000 in
theorem tw_338 : Cond.code yX10_sends cX10_sends 5 (some FieldType.int) ∈ lw_tg := List.mem_filter.mpr ⟨List.mem_append_right _ (List.mem_of_getElem? (i := 305) rfl), rfl⟩
set_option maxRecDepth 20000 in
theorem tw_339 : Cond.methodLink RX10 88 yX10_gangOf ∈ lw_tg := List.mem_filter.mpr ⟨List.mem_append_right _ (List.mem_of_getElem? (i := 306) rfl), rfl⟩
set_option maxRecDepth 20000 in
theorem tw_340 : Cond.privateMethod yX10_gangOf ∈ lw_tbl := List.mem_append_right _ (List.mem_of_getElem? (i := 307) rfl)
set_option maxRecDepth 20000 in
theorem tw_341 : Cond.instanceMethod yX10_gangOf ∈ lw_tg := List.mem_filter.mpr ⟨List.mem_append_right _ (List.mem_of_getElem? (i := 308) rfl), rfl⟩
set_option maxRecDepth 20000 in
theorem tw_342 : Cond.code yX10_gangOf cX10_gangOf 2 (some (FieldType.object "HopYard$Gang")) ∈ lw_tg := List.mem_filter.mpr ⟨List.mem_append_right _ (List.mem_of_getElem? (i := 309) rfl), rfl⟩
set_option maxRecDepth 20000 in
theorem tw_343 : Cond.methodLink RX10 202 yJx4a65c_get_915e3 ∈ lw_tg := List.mem_filter.mpr ⟨List.mem_append_right _ (List.mem_of_getElem? (i := 310) rfl), rfl⟩
set_option maxRecDepth 20000 in
theorem tw_344 : Cond.instanceMethod yJx4a65c_get_915e3 ∈ lw_tg := List.mem_filter.mpr ⟨List.mem_append_right _ (List.mem_of_getElem? (i := 311) rfl), rfl⟩
set_option maxRecDepth 20000 in
theorem tw_345 : Cond.selects RJx4a65c yJx4a65c_get_915e3 yJx4a65c_get_915e3 ∈ lw_tg := List.mem_filter.mpr ⟨List.mem_append_right _ (List.mem_of_getElem? (i := 312) rfl), rfl⟩
set_option maxRecDepth 20000 in
theorem tw_346 : Cond.code yJx4a65c_get_915e3 cJx4a65c_get_915e3 2 (some (FieldType.object "java/lang/Object")) ∈ lw_tg := List.mem_filter.mpr ⟨List.mem_append_right _ (List.mem_of_getElem? (i := 313) rfl), rfl⟩
set_option maxRecDepth 20000 in
theorem tw_347 : Cond.methodLink RJx4a65c 118 yJ15_checkIndex_7cf53 ∈ lw_tg := List.mem_filter.mpr ⟨List.mem_append_right _ (List.mem_of_getElem? (i := 314) rfl), rfl⟩
set_option maxRecDepth 20000 in
theorem tw_348 : Cond.static yJ15_checkIndex_7cf53 ∈ lw_tg := List.mem_filter.mpr ⟨List.mem_append_right _ (List.mem_of_getElem? (i := 315) rfl), rfl⟩
set_option maxRecDepth 20000 in
theorem tw_349 : Cond.code yJ15_checkIndex_7cf53 cJ15_checkIndex_7cf53 2 (some FieldType.int) ∈ lw_tg := List.mem_filter.mpr ⟨List.mem_append_right _ (List.mem_of_getElem? (i := 316) rfl), rfl⟩
set_option maxRecDepth 20000 in
theorem tw_350 : Cond.methodLink RJ15 105 yJ3_checkIndex_8e157 ∈ lw_tg := List.mem_filter.mpr ⟨List.mem_append_right _ (List.mem_of_getElem? (i := 317) rfl), rfl⟩
set_option maxRecDepth 20000 in
theorem tw_351 : Cond.static yJ3_checkIndex_8e157 ∈ lw_tg := List.mem_filter.mpr ⟨List.mem_append_right _ (List.mem_of_getElem? (i := 318) rfl), rfl⟩
set_option maxRecDepth 20000 in
theorem tw_352 : Cond.code yJ3_checkIndex_8e157 cJ3_checkIndex_8e157 3 (some FieldType.int) ∈ lw_tg := List.mem_filter.mpr ⟨List.mem_append_right _ (List.mem_of_getElem? (i := 319) rfl), rfl⟩
set_option maxRecDepth 20000 in
theorem tw_353 : Cond.methodLink RJx4a65c 123 yJx4a65c_elementData_915e3 ∈ lw_tg := List.mem_filter.mpr ⟨List.mem_append_right _ (List.mem_of_getElem? (i := 320) rfl), rfl⟩
set_option maxRecDepth 20000 in
theorem tw_354 : Cond.instanceMethod yJx4a65c_elementData_915e3 ∈ lw_tg := List.mem_filter.mpr ⟨List.mem_append_right _ (List.mem_of_getElem? (i := 321) rfl), rfl⟩
set_option maxRecDepth 20000 in
theorem tw_355 : Cond.selects RJx4a65c yJx4a65c_elementData_915e3 yJx4a65c_elementData_915e3 ∈ lw_tg := List.mem_filter.mpr ⟨List.mem_append_right _ (List.mem_of_getElem? (i := 322) rfl), rfl⟩
set_option maxRecDepth 20000 in
theorem tw_356 : Cond.code yJx4a65c_elementData_915e3 cJx4a65c_elementData_915e3 2 (some (FieldType.object "java/lang/Object")) ∈ lw_tg := List.mem_filter.mpr ⟨List.mem_append_right _ (List.mem_of_getElem? (i := 323) rfl), rfl⟩
set_option maxRecDepth 20000 in
theorem tw_357 : Cond.methodLink RX10 92 yX10_gardenOf ∈ lw_tg := List.mem_filter.mpr ⟨List.mem_append_right _ (List.mem_of_getElem? (i := 324) rfl), rfl⟩
set_option maxRecDepth 20000 in
theorem tw_358 : Cond.privateMethod yX10_gardenOf ∈ lw_tbl := List.mem_append_right _ (List.mem_of_getElem? (i := 325) rfl)
set_option maxRecDepth 20000 in
theorem tw_359 : Cond.instanceMethod yX10_gardenOf ∈ lw_tg := List.mem_filter.mpr ⟨List.mem_append_right _ (List.mem_of_getElem? (i := 326) rfl), rfl⟩
set_option maxRecDepth 20000 in
theorem tw_360 : Cond.code yX10_gardenOf cX10_gardenOf 2 (some (FieldType.object "HopYard$Garden")) ∈ lw_tg := List.mem_filter.mpr ⟨List.mem_append_right _ (List.mem_of_getElem? (i := 327) rfl), rfl⟩
set_option maxRecDepth 20000 in
theorem tw_361 : Cond.methodLink RL 27 yX10_kiln ∈ lw_tg := List.mem_filter.mpr ⟨List.mem_append_right _ (List.mem_of_getElem? (i := 328) rfl), rfl⟩
set_option maxRecDepth 20000 in
theorem tw_362 : Cond.instanceMethod yX10_kiln ∈ lw_tg := List.mem_filter.mpr ⟨List.mem_append_right _ (List.mem_of_getElem? (i := 329) rfl), rfl⟩
set_option maxRecDepth 20000 in
theorem tw_363 : Cond.selects RX10 yX10_kiln yX10_kiln ∈ lw_tg := List.mem_filter.mpr ⟨List.mem_append_right _ (List.mem_of_getElem? (i := 330) rfl), rfl⟩
set_option maxRecDepth 20000 in
theorem tw_364 : Cond.code yX10_kiln cX10_kiln 3 (some FieldType.int) ∈ lw_tg := List.mem_filter.mpr ⟨List.mem_append_right _ (List.mem_of_getElem? (i := 331) rfl), rfl⟩
set_option maxRecDepth 20000 in
theorem tw_365 : Cond.classLink RX10 99 RX6 ∈ lw_tg := List.mem_filter.mpr ⟨List.mem_append_right _ (List.mem_of_getElem? (i := 332) rfl), rfl⟩
set_option maxRecDepth 20000 in
theorem tw_366 : Cond.instantiable RX6 8 ∈ lw_tg := List.mem_filter.mpr ⟨List.mem_append_right _ (List.mem_of_getElem? (i := 333) rfl), rfl⟩
set_option maxRecDepth 20000 in
theorem tw_367 : Cond.methodLink RX10 101 yX10_kindOf ∈ lw_tg := List.mem_filter.mpr ⟨List.mem_append_right _ (List.mem_of_getElem? (i := 334) rfl), rfl⟩
set_option maxRecDepth 20000 in
theorem tw_368 : Cond.static yX10_kindOf ∈ lw_tg := List.mem_filter.mpr ⟨List.mem_append_right _ (List.mem_of_getElem? (i := 335) rfl), rfl⟩
set_option maxRecDepth 20000 in
theorem tw_369 : Cond.code yX10_kindOf cX10_kindOf 1 (some (FieldType.object "HopYard$Plain")) ∈ lw_tg := List.mem_filter.mpr ⟨List.mem_append_right _ (List.mem_of_getElem? (i := 336) rfl), rfl⟩
set_option maxRecDepth 20000 in
theorem tw_370 : Cond.classLink RX10 284 RX2 ∈ lw_tg := List.mem_filter.mpr ⟨List.mem_append_right _ (List.mem_of_getElem? (i := 337) rfl), rfl⟩
set_option maxRecDepth 20000 in
theorem tw_371 : Cond.instantiable RX2 0 ∈ lw_tg := List.mem_filter.mpr ⟨List.mem_append_right _ (List.mem_of_getElem? (i := 338) rfl), rfl⟩
set_option maxRecDepth 20000 in
theorem tw_372 : Cond.methodLinkNest RX10 286 yX2_init "HopYard" ∈ lw_tbl := List.mem_append_right _ (List.mem_of_getElem? (i := 339) rfl)
set_option maxRecDepth 20000 in
theorem tw_373 : Cond.instanceMethod yX2_init ∈ lw_tg := List.mem_filter.mpr ⟨List.mem_append_right _ (List.mem_of_getElem? (i := 340) rfl), rfl⟩
set_option maxRecDepth 20000 in
theorem tw_374 : Cond.code yX2_init cX2_init 1 none ∈ lw_tg := List.mem_filter.mpr ⟨List.mem_append_right _ (List.mem_of_getElem? (i := 341) rfl), rfl⟩
set_option maxRecDepth 20000 in
theorem tw_375 : Cond.methodLinkNest RX2 1 yX8_init "HopYard" ∈ lw_tbl := List.mem_append_right _ (List.mem_of_getElem? (i := 342) rfl)
set_option maxRecDepth 20000 in
theorem tw_376 : Cond.instanceMethod yX8_init ∈ lw_tg := List.mem_filter.mpr ⟨List.mem_append_right _ (List.mem_of_getElem? (i := 343) rfl), rfl⟩
set_option maxRecDepth 20000 in
theorem tw_377 : Cond.code yX8_init cX8_init 1 none ∈ lw_tg := List.mem_filter.mpr ⟨List.mem_append_right _ (List.mem_of_getElem? (i := 344) rfl), rfl⟩
set_option maxRecDepth 20000 in
theorem tw_378 : Cond.methodLink RX8 1 objectInit ∈ lw_tg := List.mem_filter.mpr ⟨List.mem_append_right _ (List.mem_of_getElem? (i := 345) rfl), rfl⟩
set_option maxRecDepth 20000 in
theorem tw_379 : Cond.superclass "HopYard$Draught" "HopYard$Plain" ∈ lw_tg := List.mem_filter.mpr ⟨List.mem_append_right _ (List.mem_of_getElem? (i := 346) rfl), rfl⟩
set_option maxRecDepth 20000 in
theorem tw_380 : Cond.classLink RX10 287 RX1 ∈ lw_tg := List.mem_filter.mpr ⟨List.mem_append_right _ (List.mem_of_getElem? (i := 347) rfl), rfl⟩
set_option maxRecDepth 20000 in
theorem tw_381 : Cond.instantiable RX1 0 ∈ lw_tg := List.mem_filter.mpr ⟨List.mem_append_right _ (List.mem_of_getElem? (i := 348) rfl), rfl⟩
set_option maxRecDepth 20000 in
theorem tw_382 : Cond.methodLinkNest RX10 289 yX1_init "HopYard" ∈ lw_tbl := List.mem_append_right _ (List.mem_of_getElem? (i := 349) rfl)
set_option maxRecDepth 20000 in
theorem tw_383 : Cond.instanceMethod yX1_init ∈ lw_tg := List.mem_filter.mpr ⟨List.mem_append_right _ (List.mem_of_getElem? (i := 350) rfl), rfl⟩
set_option maxRecDepth 20000 in
theorem tw_384 : Cond.code yX1_init cX1_init 1 none ∈ lw_tg := List.mem_filter.mpr ⟨List.mem_append_right _ (List.mem_of_getElem? (i := 351) rfl), rfl⟩
set_option maxRecDepth 20000 in
theorem tw_385 : Cond.methodLinkNest RX1 1 yX2_init "HopYard" ∈ lw_tbl := List.mem_append_right _ (List.mem_of_getElem? (i := 352) rfl)
set_option maxRecDepth 20000 in
theorem tw_386 : Cond.superclass "HopYard$Doubled" "HopYard$Draught" ∈ lw_tg := List.mem_filter.mpr ⟨List.mem_append_right _ (List.mem_of_getElem? (i := 353) rfl), rfl⟩
set_option maxRecDepth 20000 in
theorem tw_387 : Cond.classLink RX10 120 RX8 ∈ lw_tg := List.mem_filter.mpr ⟨List.mem_append_right _ (List.mem_of_getElem? (i := 354) rfl), rfl⟩
set_option maxRecDepth 20000 in
theorem tw_388 : Cond.instantiable RX8 0 ∈ lw_tg := List.mem_filter.mpr ⟨List.mem_append_right _ (List.mem_of_getElem? (i := 355) rfl), rfl⟩
set_option maxRecDepth 20000 in
theorem tw_389 : Cond.methodLinkNest RX10 290 yX8_init "HopYard" ∈ lw_tbl := List.mem_append_right _ (List.mem_of_getElem? (i := 356) rfl)
set_option maxRecDepth 20000 in
theorem tw_390 : Cond.superclass "HopYard$Plain" "java/lang/Object" ∈ lw_tg := List.mem_filter.mpr ⟨List.mem_append_right _ (List.mem_of_getElem? (i := 357) rfl), rfl⟩
set_option maxRecDepth 20000 in
theorem tw_391 : Cond.methodLink RX10 105 yX6_init ∈ lw_tg := List.mem_filter.mpr ⟨List.mem_append_right _ (List.mem_of_getElem? (i := 358) rfl), rfl⟩
set_option maxRecDepth 20000 in
theorem tw_392 : Cond.instanceMethod yX6_init ∈ lw_tg := List.mem_filter.mpr ⟨List.mem_append_right _ (List.mem_of_getElem? (i := 359) rfl), rfl⟩
set_option maxRecDepth 20000 in
theorem tw_393 : Cond.code yX6_init cX6_init 3 none ∈ lw_tg := List.mem_filter.mpr ⟨List.mem_append_right _ (List.mem_of_getElem? (i := 360) rfl), rfl⟩
set_option maxRecDepth 20000 in
theorem tw_394 : Cond.methodLink RX6 3 objectInit ∈ lw_tg := List.mem_filter.mpr ⟨List.mem_append_right _ (List.mem_of_getElem? (i := 361) rfl), rfl⟩
set_option maxRecDepth 20000 in
theorem tw_395 : Cond.fieldLink RX6 9 "HopYard$Kiln" "kind" "LHopYard$Plain;" ∈ lw_tg := List.mem_filter.mpr ⟨List.mem_append_right _ (List.mem_of_getElem? (i := 362) rfl), rfl⟩
set_option maxRecDepth 20000 in
theorem tw_396 : Cond.fieldLink RX10 115 "HopYard$Kiln" "kind" "LHopYard$Plain;" ∈ lw_tg := List.mem_filter.mpr ⟨List.mem_append_right _ (List.mem_of_getElem? (i := 363) rfl), rfl⟩
set_option maxRecDepth 20000 in
theorem tw_397 : Cond.fieldLink RX6 15 "HopYard$Kiln" "room" "I" ∈ lw_tg := List.mem_filter.mpr ⟨List.mem_append_right _ (List.mem_of_getElem? (i := 364) rfl), rfl⟩
set_option maxRecDepth 20000 in
theorem tw_398 : Cond.fieldLink RX6 19 "HopYard$Kiln" "lotGarden" "[I" ∈ lw_tg := List.mem_filter.mpr ⟨List.mem_append_right _ (List.mem_of_getElem? (i := 365) rfl), rfl⟩
set_option maxRecDepth 20000 in
theorem tw_399 : Cond.fieldLink RX10 260 "HopYard$Kiln" "lotGarden" "[I" ∈ lw_tg := List.mem_filter.mpr ⟨List.mem_append_right _ (List.mem_of_getElem? (i := 366) rfl), rfl⟩
set_option maxRecDepth 20000 in
theorem tw_400 : Cond.fieldLink RX6 23 "HopYard$Kiln" "lotBushels" "[I" ∈ lw_tg := List.mem_filter.mpr ⟨List.mem_append_right _ (List.mem_of_getElem? (i := 367) rfl), rfl⟩
set_option maxRecDepth 20000 in
theorem tw_401 : Cond.fieldLink RX10 263 "HopYard$Kiln" "lotBushels" "[I" ∈ lw_tg := List.mem_filter.mpr ⟨List.mem_append_right _ (List.mem_of_getElem? (i := 368) rfl), rfl⟩
set_option maxRecDepth 20000 in
theorem tw_402 : Cond.fieldLink RX6 32 "HopYard$Kiln" "lots" "I" ∈ lw_tg := List.mem_filter.mpr ⟨List.mem_append_right _ (List.mem_of_getElem? (i := 369) rfl), rfl⟩
set_option maxRecDepth 20000 in
theorem tw_403 : Cond.fieldLink RX10 257 "HopYard$Kiln" "lots" "I" ∈ lw_tg := List.mem_filter.mpr ⟨List.mem_append_right _ (List.mem_of_getElem? (i := 370) rfl), rfl⟩
set_option maxRecDepth 20000 in
theorem tw_404 : Cond.fieldLink RX6 29 "HopYard$Kiln" "bushels" "I" ∈ lw_tg := List.mem_filter.mpr ⟨List.mem_append_right _ (List.mem_of_getElem? (i := 371) rfl), rfl⟩
set_option maxRecDepth 20000 in
theorem tw_405 : Cond.fieldLink RX10 156 "HopYard$Kiln" "bushels" "I" ∈ lw_tg := List.mem_filter.mpr ⟨List.mem_append_right _ (List.mem_of_getElem? (i := 372) rfl), rfl⟩
set_option maxRecDepth 20000 in
theorem tw_406 : Cond.fieldLink RX6 35 "HopYard$Kiln" "share" "I" ∈ lw_tg := List.mem_filter.mpr ⟨List.mem_append_right _ (List.mem_of_getElem? (i := 373) rfl), rfl⟩
set_option maxRecDepth 20000 in
theorem tw_407 : Cond.fieldLink RX10 159 "HopYard$Kiln" "share" "I" ∈ lw_tg := List.mem_filter.mpr ⟨List.mem_append_right _ (List.mem_of_getElem? (i := 374) rfl), rfl⟩
set_option maxRecDepth 20000 in
theorem tw_408 : Cond.fieldLink RX6 26 "HopYard$Kiln" "reading" "I" ∈ lw_tg := List.mem_filter.mpr ⟨List.mem_append_right _ (List.mem_of_getElem? (i := 375) rfl), rfl⟩
set_option maxRecDepth 20000 in
theorem tw_409 : Cond.fieldLink RX10 112 "HopYard$Kiln" "reading" "I" ∈ lw_tg := List.mem_filter.mpr ⟨List.mem_append_right _ (List.mem_of_getElem? (i := 376) rfl), rfl⟩
set_option maxRecDepth 20000 in
theorem tw_410 : Cond.laysFinal RX6 "HopYard$Kiln" "kind" "LHopYard$Plain;" ∈ lw_tg := List.mem_filter.mpr ⟨List.mem_append_right _ (List.mem_of_getElem? (i := 377) rfl), rfl⟩
set_option maxRecDepth 20000 in
theorem tw_412 : Cond.laysFinal RX6 "HopYard$Kiln" "room" "I" ∈ lw_tg := List.mem_filter.mpr ⟨List.mem_append_right _ (List.mem_of_getElem? (i := 379) rfl), rfl⟩
set_option maxRecDepth 20000 in
theorem tw_414 : Cond.laysFinal RX6 "HopYard$Kiln" "lotGarden" "[I" ∈ lw_tg := List.mem_filter.mpr ⟨List.mem_append_right _ (List.mem_of_getElem? (i := 381) rfl), rfl⟩
set_option maxRecDepth 20000 in
theorem tw_416 : Cond.laysFinal RX6 "HopYard$Kiln" "lotBushels" "[I" ∈ lw_tg := List.mem_filter.mpr ⟨List.mem_append_right _ (List.mem_of_getElem? (i := 383) rfl), rfl⟩
set_option maxRecDepth 20000 in
theorem tw_418 : Cond.lays RX6 "HopYard$Kiln" "lots" "I" ∈ lw_tg := List.mem_filter.mpr ⟨List.mem_append_right _ (List.mem_of_getElem? (i := 385) rfl), rfl⟩
set_option maxRecDepth 20000 in
theorem tw_420 : Cond.lays RX6 "HopYard$Kiln" "bushels" "I" ∈ lw_tg := List.mem_filter.mpr ⟨List.mem_append_right _ (List.mem_of_getElem? (i := 387) rfl), rfl⟩
set_option maxRecDepth 20000 in
theorem tw_422 : Cond.lays RX6 "HopYard$Kiln" "share" "I" ∈ lw_tg := List.mem_filter.mpr ⟨List.mem_append_right _ (List.mem_of_getElem? (i := 389) rfl), rfl⟩
set_option maxRecDepth 20000 in
theorem tw_424 : Cond.lays RX6 "HopYard$Kiln" "reading" "I" ∈ lw_tg := List.mem_filter.mpr ⟨List.mem_append_right _ (List.mem_of_getElem? (i := 391) rfl), rfl⟩
set_option maxRecDepth 20000 in
theorem tw_426 : Cond.superclass "HopYard$Kiln" "java/lang/Object" ∈ lw_tg := List.mem_filter.mpr ⟨List.mem_append_right _ (List.mem_of_getElem? (i := 393) rfl), rfl⟩
set_option maxRecDepth 20000 in
theorem tw_427 : Cond.methodLink RL 31 yX10_read ∈ lw_tg := List.mem_filter.mpr ⟨List.mem_append_right _ (List.mem_of_getElem? (i := 394) rfl), rfl⟩
set_option maxRecDepth 20000 in
theorem tw_428 : Cond.instanceMethod yX10_read ∈ lw_tg := List.mem_filter.mpr ⟨List.mem_append_right _ (List.mem_of_getElem? (i := 395) rfl), rfl⟩
set_option maxRecDepth 20000 in
theorem tw_429 : Cond.selects RX10 yX10_read yX10_read ∈ lw_tg := List.mem_filter.mpr ⟨List.mem_append_right _ (List.mem_of_getElem? (i := 396) rfl), rfl⟩
set_option maxRecDepth 20000 in
theorem tw_430 : Cond.code yX10_read cX10_read 5 (some FieldType.int) ∈ lw_tg := List.mem_filter.mpr ⟨List.mem_append_right _ (List.mem_of_getElem? (i := 397) rfl), rfl⟩
set_option maxRecDepth 20000 in
theorem tw_431 : Cond.methodLink RX10 108 yX10_kilnOf ∈ lw_tg := List.mem_filter.mpr ⟨List.mem_append_right _ (List.mem_of_getElem? (i := 398) rfl), rfl⟩
set_option maxRecDepth 20000 in
theorem tw_432 : Cond.privateMethod yX10_kilnOf ∈ lw_tbl := List.mem_append_right _ (List.mem_of_getElem? (i := 399) rfl)
set_option maxRecDepth 20000 in
theorem tw_433 : Cond.instanceMethod yX10_kilnOf ∈ lw_tg := List.mem_filter.mpr ⟨List.mem_append_right _ (List.mem_of_getElem? (i := 400) rfl), rfl⟩
set_option maxRecDepth 20000 in
theorem tw_434 : Cond.code yX10_kilnOf cX10_kilnOf 2 (some (FieldType.object "HopYard$Kiln")) ∈ lw_tg := List.mem_filter.mpr ⟨List.mem_append_right _ (List.mem_of_getElem? (i := 401) rfl), rfl⟩
set_option maxRecDepth 20000 in
theorem tw_435 : Cond.methodLink RL 35 yX10_drying ∈ lw_tg := List.mem_filter.mpr ⟨List.mem_append_right _ (List.mem_of_getElem? (i := 402) rfl), rfl⟩
set_option maxRecDepth 20000 in
theorem tw_436 : Cond.instanceMethod yX10_drying ∈ lw_tg := List.mem_filter.mpr ⟨List.mem_append_right _ (List.mem_of_getElem? (i := 403) rfl), rfl⟩
set_option maxRecDepth 20000 in
theorem tw_437 : Cond.selects RX10 yX10_drying yX10_drying ∈ lw_tg := List.mem_filter.mpr ⟨List.mem_append_right _ (List.mem_of_getElem? (i := 404) rfl), rfl⟩
set_option maxRecDepth 20000 in
theorem tw_438 : Cond.code yX10_drying cX10_drying 4 (some FieldType.int) ∈ lw_tg := List.mem_filter.mpr ⟨List.mem_append_right _ (List.mem_of_getElem? (i := 405) rfl), rfl⟩
set_option maxRecDepth 20000 in
theorem tw_439 : Cond.methodLink RX10 119 yX8_marks ∈ lw_tg := List.mem_filter.mpr ⟨List.mem_append_right _ (List.mem_of_getElem? (i := 406) rfl), rfl⟩
set_option maxRecDepth 20000 in
theorem tw_440 : Cond.instanceMethod yX8_marks ∈ lw_tg := List.mem_filter.mpr ⟨List.mem_append_right _ (List.mem_of_getElem? (i := 407) rfl), rfl⟩
set_option maxRecDepth 20000 in
theorem tw_441 : Cond.selects RX8 yX8_marks yX8_marks ∈ lw_tg := List.mem_filter.mpr ⟨List.mem_append_right _ (List.mem_of_getElem? (i := 408) rfl), rfl⟩
set_option maxRecDepth 20000 in
theorem tw_442 : Cond.sameMethod "HopYard$Plain" "HopYard$Plain" "marks" "()I" ∈ lw_tg := List.mem_filter.mpr ⟨List.mem_append_right _ (List.mem_of_getElem? (i := 409) rfl), rfl⟩
set_option maxRecDepth 20000 in
theorem tw_443 : Cond.selects RX1 yX8_marks yX1_marks ∈ lw_tg := List.mem_filter.mpr ⟨List.mem_append_right _ (List.mem_of_getElem? (i := 410) rfl), rfl⟩
set_option maxRecDepth 20000 in
theorem tw_444 : Cond.instanceMethod yX1_marks ∈ lw_tg := List.mem_filter.mpr ⟨List.mem_append_right _ (List.mem_of_getElem? (i := 411) rfl), rfl⟩
set_option maxRecDepth 20000 in
theorem tw_445 : Cond.code yX1_marks cX1_marks 1 (some FieldType.int) ∈ lw_tg := List.mem_filter.mpr ⟨List.mem_append_right _ (List.mem_of_getElem? (i := 412) rfl), rfl⟩
set_option maxRecDepth 20000 in
theorem tw_446 : Cond.methodLink RX1 17 yX2_marks ∈ lw_tg := List.mem_filter.mpr ⟨List.mem_append_right _ (List.mem_of_getElem? (i := 413) rfl), rfl⟩
set_option maxRecDepth 20000 in
theorem tw_447 : Cond.instanceMethod yX2_marks ∈ lw_tg := List.mem_filter.mpr ⟨List.mem_append_right _ (List.mem_of_getElem? (i := 414) rfl), rfl⟩
set_option maxRecDepth 20000 in
theorem tw_448 : Cond.code yX2_marks cX2_marks 1 (some FieldType.int) ∈ lw_tg := List.mem_filter.mpr ⟨List.mem_append_right _ (List.mem_of_getElem? (i := 415) rfl), rfl⟩
set_option maxRecDepth 20000 in
theorem tw_449 : Cond.methodLink RX2 11 yX8_marks ∈ lw_tg := List.mem_filter.mpr ⟨List.mem_append_right _ (List.mem_of_getElem? (i := 416) rfl), rfl⟩
set_option maxRecDepth 20000 in
theorem tw_450 : Cond.selects RX2 yX8_marks yX2_marks ∈ lw_tg := List.mem_filter.mpr ⟨List.mem_append_right _ (List.mem_of_getElem? (i := 417) rfl), rfl⟩
set_option maxRecDepth 20000 in
theorem tw_451 : Cond.code yX8_marks cX8_marks 1 (some FieldType.int) ∈ lw_tg := List.mem_filter.mpr ⟨List.mem_append_right _ (List.mem_of_getElem? (i := 418) rfl), rfl⟩
set_option maxRecDepth 20000 in
theorem tw_452 : Cond.methodLink RX10 124 yX8_dries ∈ lw_tg := List.mem_filter.mpr ⟨List.mem_append_right _ (List.mem_of_getElem? (i := 419) rfl), rfl⟩
set_option maxRecDepth 20000 in
theorem tw_453 : Cond.instanceMethod yX8_dries ∈ lw_tg := List.mem_filter.mpr ⟨List.mem_append_right _ (List.mem_of_getElem? (i := 420) rfl), rfl⟩
set_option maxRecDepth 20000 in
theorem tw_454 : Cond.selects RX8 yX8_dries yX8_dries ∈ lw_tg := List.mem_filter.mpr ⟨List.mem_append_right _ (List.mem_of_getElem? (i := 421) rfl), rfl⟩
set_option maxRecDepth 20000 in
theorem tw_455 : Cond.sameMethod "HopYard$Plain" "HopYard$Plain" "dries" "(I)I" ∈ lw_tg := List.mem_filter.mpr ⟨List.mem_append_right _ (List.mem_of_getElem? (i := 422) rfl), rfl⟩
set_option maxRecDepth 20000 in
theorem tw_456 : Cond.selects RX1 yX8_dries yX1_dries ∈ lw_tg := List.mem_filter.mpr ⟨List.mem_append_right _ (List.mem_of_getElem? (i := 423) rfl), rfl⟩
set_option maxRecDepth 20000 in
theorem tw_457 : Cond.instanceMethod yX1_dries ∈ lw_tg := List.mem_filter.mpr ⟨List.mem_append_right _ (List.mem_of_getElem? (i := 424) rfl), rfl⟩
set_option maxRecDepth 20000 in
theorem tw_458 : Cond.code yX1_dries cX1_dries 2 (some FieldType.int) ∈ lw_tg := List.mem_filter.mpr ⟨List.mem_append_right _ (List.mem_of_getElem? (i := 425) rfl), rfl⟩
set_option maxRecDepth 20000 in
theorem tw_459 : Cond.methodLink RX1 7 yX2_dries ∈ lw_tg := List.mem_filter.mpr ⟨List.mem_append_right _ (List.mem_of_getElem? (i := 426) rfl), rfl⟩
set_option maxRecDepth 20000 in
theorem tw_460 : Cond.instanceMethod yX2_dries ∈ lw_tg := List.mem_filter.mpr ⟨List.mem_append_right _ (List.mem_of_getElem? (i := 427) rfl), rfl⟩
set_option maxRecDepth 20000 in
theorem tw_461 : Cond.code yX2_dries cX2_dries 3 (some FieldType.int) ∈ lw_tg := List.mem_filter.mpr ⟨List.mem_append_right _ (List.mem_of_getElem? (i := 428) rfl), rfl⟩
set_option maxRecDepth 20000 in
theorem tw_462 : Cond.methodLink RX2 7 yX8_dries ∈ lw_tg := List.mem_filter.mpr ⟨List.mem_append_right _ (List.mem_of_getElem? (i := 429) rfl), rfl⟩
set_option maxRecDepth 20000 in
theorem tw_463 : Cond.methodLink RX1 11 yJ9_min_7cf53 ∈ lw_tg := List.mem_filter.mpr ⟨List.mem_append_right _ (List.mem_of_getElem? (i := 430) rfl), rfl⟩
set_option maxRecDepth 20000 in
theorem tw_464 : Cond.selects RX2 yX8_dries yX2_dries ∈ lw_tg := List.mem_filter.mpr ⟨List.mem_append_right _ (List.mem_of_getElem? (i := 431) rfl), rfl⟩
set_option maxRecDepth 20000 in
theorem tw_465 : Cond.code yX8_dries cX8_dries 2 (some FieldType.int) ∈ lw_tg := List.mem_filter.mpr ⟨List.mem_append_right _ (List.mem_of_getElem? (i := 432) rfl), rfl⟩
set_option maxRecDepth 20000 in
theorem tw_466 : Cond.methodLink RL 39 yX10_waits ∈ lw_tg := List.mem_filter.mpr ⟨List.mem_append_right _ (List.mem_of_getElem? (i := 433) rfl), rfl⟩
set_option maxRecDepth 20000 in
theorem tw_467 : Cond.instanceMethod yX10_waits ∈ lw_tg := List.mem_filter.mpr ⟨List.mem_append_right _ (List.mem_of_getElem? (i := 434) rfl), rfl⟩
set_option maxRecDepth 20000 in
theorem tw_468 : Cond.selects RX10 yX10_waits yX10_waits ∈ lw_tg := List.mem_filter.mpr ⟨List.mem_append_right _ (List.mem_of_getElem? (i := 435) rfl), rfl⟩
set_option maxRecDepth 20000 in
theorem tw_469 : Cond.code yX10_waits cX10_waits 3 (some FieldType.int) ∈ lw_tg := List.mem_filter.mpr ⟨List.mem_append_right _ (List.mem_of_getElem? (i := 436) rfl), rfl⟩
set_option maxRecDepth 20000 in
theorem tw_470 : Cond.methodLink RL 44 yX10_hours ∈ lw_tg := List.mem_filter.mpr ⟨List.mem_append_right _ (List.mem_of_getElem? (i := 437) rfl), rfl⟩
set_option maxRecDepth 20000 in
theorem tw_471 : Cond.instanceMethod yX10_hours ∈ lw_tg := List.mem_filter.mpr ⟨List.mem_append_right _ (List.mem_of_getElem? (i := 438) rfl), rfl⟩
set_option maxRecDepth 20000 in
theorem tw_472 : Cond.selects RX10 yX10_hours yX10_hours ∈ lw_tg := List.mem_filter.mpr ⟨List.mem_append_right _ (List.mem_of_getElem? (i := 439) rfl), rfl⟩
set_option maxRecDepth 20000 in
theorem tw_473 : Cond.code yX10_hours cX10_hours 3 (some FieldType.int) ∈ lw_tg := List.mem_filter.mpr ⟨List.mem_append_right _ (List.mem_of_getElem? (i := 440) rfl), rfl⟩
set_option maxRecDepth 20000 in
theorem tw_474 : Cond.methodLink RX10 128 yX10_passHour ∈ lw_tg := List.mem_filter.mpr ⟨List.mem_append_right _ (List.mem_of_getElem? (i := 441) rfl), rfl⟩
set_option maxRecDepth 20000 in
theorem tw_475 : Cond.privateMethod yX10_passHour ∈ lw_tbl := List.mem_append_right _ (List.mem_of_getElem? (i := 442) rfl)
set_option maxRecDepth 20000 in
theorem tw_476 : Cond.instanceMethod yX10_passHour ∈ lw_tg := List.mem_filter.mpr ⟨List.mem_append_right _ (List.mem_of_getElem? (i := 443) rfl), rfl⟩
set_option maxRecDepth 20000 in
theorem tw_477 : Cond.code yX10_passHour cX10_passHour 1 none ∈ lw_tg := List.mem_filter.mpr ⟨List.mem_append_right _ (List.mem_of_getElem? (i := 444) rfl), rfl⟩
set_option maxRecDepth 20000 in
theorem tw_478 : Cond.methodLink RX10 225 yX10_pickHour ∈ lw_tg := List.mem_filter.mpr ⟨List.mem_append_right _ (List.mem_of_getElem? (i := 445) rfl), rfl⟩
set_option maxRecDepth 20000 in
theorem tw_479 : Cond.privateMethod yX10_pickHour ∈ lw_tbl := List.mem_append_right _ (List.mem_of_getElem? (i := 446) rfl)
set_option maxRecDepth 20000 in
theorem tw_480 : Cond.instanceMethod yX10_pickHour ∈ lw_tg := List.mem_filter.mpr ⟨List.mem_append_right _ (List.mem_of_getElem? (i := 447) rfl), rfl⟩
set_option maxRecDepth 20000 in
theorem tw_481 : Cond.code yX10_pickHour cX10_pickHour 6 none ∈ lw_tg := List.mem_filter.mpr ⟨List.mem_append_right _ (List.mem_of_getElem? (i := 448) rfl), rfl⟩
set_option maxRecDepth 20000 in
theorem tw_482 : Cond.methodLink RX10 177 yX7_inForce ∈ lw_tg := List.mem_filter.mpr ⟨List.mem_append_right _ (List.mem_of_getElem? (i := 449) rfl), rfl⟩
set_option maxRecDepth 20000 in
theorem tw_483 : Cond.instanceMethod yX7_inForce ∈ lw_tg := List.mem_filter.mpr ⟨List.mem_append_right _ (List.mem_of_getElem? (i := 450) rfl), rfl⟩
set_option maxRecDepth 20000 in
theorem tw_484 : Cond.selects RX7 yX7_inForce yX7_inForce ∈ lw_tg := List.mem_filter.mpr ⟨List.mem_append_right _ (List.mem_of_getElem? (i := 451) rfl), rfl⟩
set_option maxRecDepth 20000 in
theorem tw_485 : Cond.code yX7_inForce cX7_inForce 5 (some FieldType.int) ∈ lw_tg := List.mem_filter.mpr ⟨List.mem_append_right _ (List.mem_of_getElem? (i := 452) rfl), rfl⟩
set_option maxRecDepth 20000 in
theorem tw_486 : Cond.methodLink RX10 213 yX4_isRipe ∈ lw_tg := List.mem_filter.mpr ⟨List.mem_append_right _ (List.mem_of_getElem? (i := 453) rfl), rfl⟩
set_option maxRecDepth 20000 in
theorem tw_487 : Cond.instanceMethod yX4_isRipe ∈ lw_tg := List.mem_filter.mpr ⟨List.mem_append_right _ (List.mem_of_getElem? (i := 454) rfl), rfl⟩
set_option maxRecDepth 20000 in
theorem tw_488 : Cond.selects RX4 yX4_isRipe yX4_isRipe ∈ lw_tg := List.mem_filter.mpr ⟨List.mem_append_right _ (List.mem_of_getElem? (i := 455) rfl), rfl⟩
set_option maxRecDepth 20000 in
theorem tw_489 : Cond.code yX4_isRipe cX4_isRipe 2 (some FieldType.boolean) ∈ lw_tg := List.mem_filter.mpr ⟨List.mem_append_right _ (List.mem_of_getElem? (i := 456) rfl), rfl⟩
set_option maxRecDepth 20000 in
theorem tw_490 : Cond.methodLinkNest RX4 19 yX10_within "HopYard" ∈ lw_tbl := List.mem_append_right _ (List.mem_of_getElem? (i := 457) rfl)
set_option maxRecDepth 20000 in
theorem tw_491 : Cond.methodLink RX10 240 yX4_yields ∈ lw_tg := List.mem_filter.mpr ⟨List.mem_append_right _ (List.mem_of_getElem? (i := 458) rfl), rfl⟩
set_option maxRecDepth 20000 in
theorem tw_492 : Cond.instanceMethod yX4_yields ∈ lw_tg := List.mem_filter.mpr ⟨List.mem_append_right _ (List.mem_of_getElem? (i := 459) rfl), rfl⟩
set_option maxRecDepth 20000 in
theorem tw_493 : Cond.selects RX4 yX4_yields yX4_yields ∈ lw_tg := List.mem_filter.mpr ⟨List.mem_append_right _ (List.mem_of_getElem? (i := 460) rfl), rfl⟩
set_option maxRecDepth 20000 in
theorem tw_494 : Cond.code yX4_yields cX4_yields 3 (some FieldType.int) ∈ lw_tg := List.mem_filter.mpr ⟨List.mem_append_right _ (List.mem_of_getElem? (i := 461) rfl), rfl⟩
set_option maxRecDepth 20000 in
theorem tw_495 : Cond.methodLink RX4 25 yJ9_min_7cf53 ∈ lw_tg := List.mem_filter.mpr ⟨List.mem_append_right _ (List.mem_of_getElem? (i := 462) rfl), rfl⟩
set_option maxRecDepth 20000 in
theorem tw_496 : Cond.methodLink RX10 243 yX3_enter ∈ lw_tg := List.mem_filter.mpr ⟨List.mem_append_right _ (List.mem_of_getElem? (i := 463) rfl), rfl⟩
set_option maxRecDepth 20000 in
theorem tw_497 : Cond.instanceMethod yX3_enter ∈ lw_tg := List.mem_filter.mpr ⟨List.mem_append_right _ (List.mem_of_getElem? (i := 464) rfl), rfl⟩
set_option maxRecDepth 20000 in
theorem tw_498 : Cond.selects RX3 yX3_enter yX3_enter ∈ lw_tg := List.mem_filter.mpr ⟨List.mem_append_right _ (List.mem_of_getElem? (i := 465) rfl), rfl⟩
set_option maxRecDepth 20000 in
theorem tw_499 : Cond.code yX3_enter cX3_enter 4 none ∈ lw_tg := List.mem_filter.mpr ⟨List.mem_append_right _ (List.mem_of_getElem? (i := 466) rfl), rfl⟩
set_option maxRecDepth 20000 in
theorem tw_500 : Cond.methodLink RX10 246 yX5_lay ∈ lw_tg := List.mem_filter.mpr ⟨List.mem_append_right _ (List.mem_of_getElem? (i := 467) rfl), rfl⟩
set_option maxRecDepth 20000 in
theorem tw_501 : Cond.instanceMethod yX5_lay ∈ lw_tg := List.mem_filter.mpr ⟨List.mem_append_right _ (List.mem_of_getElem? (i := 468) rfl), rfl⟩
set_option maxRecDepth 20000 in
theorem tw_502 : Cond.selects RX5 yX5_lay yX5_lay ∈ lw_tg := List.mem_filter.mpr ⟨List.mem_append_right _ (List.mem_of_getElem? (i := 469) rfl), rfl⟩
set_option maxRecDepth 20000 in
theorem tw_503 : Cond.code yX5_lay cX5_lay 4 none ∈ lw_tg := List.mem_filter.mpr ⟨List.mem_append_right _ (List.mem_of_getElem? (i := 470) rfl), rfl⟩
set_option maxRecDepth 20000 in
theorem tw_504 : Cond.methodLinkNest RX5 21 yX10_within "HopYard" ∈ lw_tbl := List.mem_append_right _ (List.mem_of_getElem? (i := 471) rfl)
set_option maxRecDepth 20000 in
theorem tw_505 : Cond.methodLink RX5 25 yX5_place ∈ lw_tg := List.mem_filter.mpr ⟨List.mem_append_right _ (List.mem_of_getElem? (i := 472) rfl), rfl⟩
set_option maxRecDepth 20000 in
theorem tw_506 : Cond.static yX5_place ∈ lw_tg := List.mem_filter.mpr ⟨List.mem_append_right _ (List.mem_of_getElem? (i := 473) rfl), rfl⟩
set_option maxRecDepth 20000 in
theorem tw_507 : Cond.code yX5_place cX5_place 2 (some FieldType.int) ∈ lw_tg := List.mem_filter.mpr ⟨List.mem_append_right _ (List.mem_of_getElem? (i := 474) rfl), rfl⟩
set_option maxRecDepth 20000 in
theorem tw_508 : Cond.methodLink RX5 15 yJ9_floorMod_7cf53 ∈ lw_tg := List.mem_filter.mpr ⟨List.mem_append_right _ (List.mem_of_getElem? (i := 475) rfl), rfl⟩
set_option maxRecDepth 20000 in
theorem tw_509 : Cond.static yJ9_floorMod_7cf53 ∈ lw_tg := List.mem_filter.mpr ⟨List.mem_append_right _ (List.mem_of_getElem? (i := 476) rfl), rfl⟩
set_option maxRecDepth 20000 in
theorem tw_510 : Cond.code yJ9_floorMod_7cf53 cJ9_floorMod_7cf53 3 (some FieldType.int) ∈ lw_tg := List.mem_filter.mpr ⟨List.mem_append_right _ (List.mem_of_getElem? (i := 477) rfl), rfl⟩
set_option maxRecDepth 20000 in
theorem tw_511 : Cond.methodLink RX10 228 yX10_dryHour ∈ lw_tg := List.mem_filter.mpr ⟨List.mem_append_right _ (List.mem_of_getElem? (i := 478) rfl), rfl⟩
set_option maxRecDepth 20000 in
theorem tw_512 : Cond.privateMethod yX10_dryHour ∈ lw_tbl := List.mem_append_right _ (List.mem_of_getElem? (i := 479) rfl)
set_option maxRecDepth 20000 in
theorem tw_513 : Cond.instanceMethod yX10_dryHour ∈ lw_tg := List.mem_filter.mpr ⟨List.mem_append_right _ (List.mem_of_getElem? (i := 480) rfl), rfl⟩
set_option maxRecDepth 20000 in
theorem tw_514 : Cond.code yX10_dryHour cX10_dryHour 3 none ∈ lw_tg := List.mem_filter.mpr ⟨List.mem_append_right _ (List.mem_of_getElem? (i := 481) rfl), rfl⟩
set_option maxRecDepth 20000 in
theorem tw_515 : Cond.methodLink RX10 249 yX6_isEmpty ∈ lw_tg := List.mem_filter.mpr ⟨List.mem_append_right _ (List.mem_of_getElem? (i := 482) rfl), rfl⟩
set_option maxRecDepth 20000 in
theorem tw_516 : Cond.instanceMethod yX6_isEmpty ∈ lw_tg := List.mem_filter.mpr ⟨List.mem_append_right _ (List.mem_of_getElem? (i := 483) rfl), rfl⟩
set_option maxRecDepth 20000 in
theorem tw_517 : Cond.selects RX6 yX6_isEmpty yX6_isEmpty ∈ lw_tg := List.mem_filter.mpr ⟨List.mem_append_right _ (List.mem_of_getElem? (i := 484) rfl), rfl⟩
set_option maxRecDepth 20000 in
theorem tw_518 : Cond.code yX6_isEmpty cX6_isEmpty 1 (some FieldType.boolean) ∈ lw_tg := List.mem_filter.mpr ⟨List.mem_append_right _ (List.mem_of_getElem? (i := 485) rfl), rfl⟩
set_option maxRecDepth 20000 in
theorem tw_519 : Cond.methodLink RX10 253 yX10_unload ∈ lw_tg := List.mem_filter.mpr ⟨List.mem_append_right _ (List.mem_of_getElem? (i := 486) rfl), rfl⟩
set_option maxRecDepth 20000 in
theorem tw_520 : Cond.privateMethod yX10_unload ∈ lw_tbl := List.mem_append_right _ (List.mem_of_getElem? (i := 487) rfl)
set_option maxRecDepth 20000 in
theorem tw_521 : Cond.instanceMethod yX10_unload ∈ lw_tg := List.mem_filter.mpr ⟨List.mem_append_right _ (List.mem_of_getElem? (i := 488) rfl), rfl⟩
set_option maxRecDepth 20000 in
theorem tw_522 : Cond.code yX10_unload cX10_unload 4 none ∈ lw_tg := List.mem_filter.mpr ⟨List.mem_append_right _ (List.mem_of_getElem? (i := 489) rfl), rfl⟩
set_option maxRecDepth 20000 in
theorem tw_523 : Cond.methodLink RX10 266 yX9_lay ∈ lw_tg := List.mem_filter.mpr ⟨List.mem_append_right _ (List.mem_of_getElem? (i := 490) rfl), rfl⟩
set_option maxRecDepth 20000 in
theorem tw_524 : Cond.instanceMethod yX9_lay ∈ lw_tg := List.mem_filter.mpr ⟨List.mem_append_right _ (List.mem_of_getElem? (i := 491) rfl), rfl⟩
set_option maxRecDepth 20000 in
theorem tw_525 : Cond.selects RX9 yX9_lay yX9_lay ∈ lw_tg := List.mem_filter.mpr ⟨List.mem_append_right _ (List.mem_of_getElem? (i := 492) rfl), rfl⟩
set_option maxRecDepth 20000 in
theorem tw_526 : Cond.code yX9_lay cX9_lay 4 none ∈ lw_tg := List.mem_filter.mpr ⟨List.mem_append_right _ (List.mem_of_getElem? (i := 493) rfl), rfl⟩
set_option maxRecDepth 20000 in
theorem tw_527 : Cond.methodLink RX9 34 yX9_pressOne ∈ lw_tg := List.mem_filter.mpr ⟨List.mem_append_right _ (List.mem_of_getElem? (i := 494) rfl), rfl⟩
set_option maxRecDepth 20000 in
theorem tw_528 : Cond.instanceMethod yX9_pressOne ∈ lw_tg := List.mem_filter.mpr ⟨List.mem_append_right _ (List.mem_of_getElem? (i := 495) rfl), rfl⟩
set_option maxRecDepth 20000 in
theorem tw_529 : Cond.selects RX9 yX9_pressOne yX9_pressOne ∈ lw_tg := List.mem_filter.mpr ⟨List.mem_append_right _ (List.mem_of_getElem? (i := 496) rfl), rfl⟩
set_option maxRecDepth 20000 in
theorem tw_530 : Cond.code yX9_pressOne cX9_pressOne 2 none ∈ lw_tg := List.mem_filter.mpr ⟨List.mem_append_right _ (List.mem_of_getElem? (i := 497) rfl), rfl⟩
set_option maxRecDepth 20000 in
theorem tw_531 : Cond.methodLink RX10 267 yX6_clear ∈ lw_tg := List.mem_filter.mpr ⟨List.mem_append_right _ (List.mem_of_getElem? (i := 498) rfl), rfl⟩
set_option maxRecDepth 20000 in
theorem tw_532 : Cond.instanceMethod yX6_clear ∈ lw_tg := List.mem_filter.mpr ⟨List.mem_append_right _ (List.mem_of_getElem? (i := 499) rfl), rfl⟩
set_option maxRecDepth 20000 in
theorem tw_533 : Cond.selects RX6 yX6_clear yX6_clear ∈ lw_tg := List.mem_filter.mpr ⟨List.mem_append_right _ (List.mem_of_getElem? (i := 500) rfl), rfl⟩
set_option maxRecDepth 20000 in
theorem tw_534 : Cond.code yX6_clear cX6_clear 1 none ∈ lw_tg := List.mem_filter.mpr ⟨List.mem_append_right _ (List.mem_of_getElem? (i := 501) rfl), rfl⟩
set_option maxRecDepth 20000 in
theorem tw_535 : Cond.methodLink RX10 231 yX10_loseHour ∈ lw_tg := List.mem_filter.mpr ⟨List.mem_append_right _ (List.mem_of_getElem? (i := 502) rfl), rfl⟩
set_option maxRecDepth 20000 in
theorem tw_536 : Cond.privateMethod yX10_loseHour ∈ lw_tbl := List.mem_append_right _ (List.mem_of_getElem? (i := 503) rfl)
set_option maxRecDepth 20000 in
theorem tw_537 : Cond.instanceMethod yX10_loseHour ∈ lw_tg := List.mem_filter.mpr ⟨List.mem_append_right _ (List.mem_of_getElem? (i := 504) rfl), rfl⟩
set_option maxRecDepth 20000 in
theorem tw_538 : Cond.code yX10_loseHour cX10_loseHour 3 none ∈ lw_tg := List.mem_filter.mpr ⟨List.mem_append_right _ (List.mem_of_getElem? (i := 505) rfl), rfl⟩
set_option maxRecDepth 20000 in
theorem tw_539 : Cond.methodLink RX10 270 yX5_give ∈ lw_tg := List.mem_filter.mpr ⟨List.mem_append_right _ (List.mem_of_getElem? (i := 506) rfl), rfl⟩
set_option maxRecDepth 20000 in
theorem tw_540 : Cond.instanceMethod yX5_give ∈ lw_tg := List.mem_filter.mpr ⟨List.mem_append_right _ (List.mem_of_getElem? (i := 507) rfl), rfl⟩
set_option maxRecDepth 20000 in
theorem tw_541 : Cond.selects RX5 yX5_give yX5_give ∈ lw_tg := List.mem_filter.mpr ⟨List.mem_append_right _ (List.mem_of_getElem? (i := 508) rfl), rfl⟩
set_option maxRecDepth 20000 in
theorem tw_542 : Cond.code yX5_give cX5_give 6 (some FieldType.int) ∈ lw_tg := List.mem_filter.mpr ⟨List.mem_append_right _ (List.mem_of_getElem? (i := 509) rfl), rfl⟩
set_option maxRecDepth 20000 in
theorem tw_543 : Cond.methodLink RX5 32 yJ9_min_7cf53 ∈ lw_tg := List.mem_filter.mpr ⟨List.mem_append_right _ (List.mem_of_getElem? (i := 510) rfl), rfl⟩
set_option maxRecDepth 20000 in
theorem tw_544 : Cond.methodLink RX10 234 yX10_fillHour ∈ lw_tg := List.mem_filter.mpr ⟨List.mem_append_right _ (List.mem_of_getElem? (i := 511) rfl), rfl⟩
set_option maxRecDepth 20000 in
theorem tw_545 : Cond.privateMethod yX10_fillHour ∈ lw_tbl := List.mem_append_right _ (List.mem_of_getElem? (i := 512) rfl)
set_option maxRecDepth 20000 in
theorem tw_546 : Cond.instanceMethod yX10_fillHour ∈ lw_tg := List.mem_filter.mpr ⟨List.mem_append_right _ (List.mem_of_getElem? (i := 513) rfl), rfl⟩
set_option maxRecDepth 20000 in
theorem tw_547 : Cond.code yX10_fillHour cX10_fillHour 3 none ∈ lw_tg := List.mem_filter.mpr ⟨List.mem_append_right _ (List.mem_of_getElem? (i := 514) rfl), rfl⟩
set_option maxRecDepth 20000 in
theorem tw_548 : Cond.methodLink RX10 274 yX10_fill ∈ lw_tg := List.mem_filter.mpr ⟨List.mem_append_right _ (List.mem_of_getElem? (i := 515) rfl), rfl⟩
set_option maxRecDepth 20000 in
theorem tw_549 : Cond.privateMethod yX10_fill ∈ lw_tbl := List.mem_append_right _ (List.mem_of_getElem? (i := 516) rfl)
set_option maxRecDepth 20000 in
theorem tw_550 : Cond.instanceMethod yX10_fill ∈ lw_tg := List.mem_filter.mpr ⟨List.mem_append_right _ (List.mem_of_getElem? (i := 517) rfl), rfl⟩
set_option maxRecDepth 20000 in
theorem tw_551 : Cond.code yX10_fill cX10_fill 4 none ∈ lw_tg := List.mem_filter.mpr ⟨List.mem_append_right _ (List.mem_of_getElem? (i := 518) rfl), rfl⟩
set_option maxRecDepth 20000 in
theorem tw_552 : Cond.methodLink RX10 277 yX6_free ∈ lw_tg := List.mem_filter.mpr ⟨List.mem_append_right _ (List.mem_of_getElem? (i := 519) rfl), rfl⟩
set_option maxRecDepth 20000 in
theorem tw_553 : Cond.instanceMethod yX6_free ∈ lw_tg := List.mem_filter.mpr ⟨List.mem_append_right _ (List.mem_of_getElem? (i := 520) rfl), rfl⟩
set_option maxRecDepth 20000 in
theorem tw_554 : Cond.selects RX6 yX6_free yX6_free ∈ lw_tg := List.mem_filter.mpr ⟨List.mem_append_right _ (List.mem_of_getElem? (i := 521) rfl), rfl⟩
set_option maxRecDepth 20000 in
theorem tw_555 : Cond.code yX6_free cX6_free 1 (some FieldType.int) ∈ lw_tg := List.mem_filter.mpr ⟨List.mem_append_right _ (List.mem_of_getElem? (i := 522) rfl), rfl⟩
set_option maxRecDepth 20000 in
theorem tw_556 : Cond.methodLink RX10 280 yX6_take ∈ lw_tg := List.mem_filter.mpr ⟨List.mem_append_right _ (List.mem_of_getElem? (i := 523) rfl), rfl⟩
set_option maxRecDepth 20000 in
theorem tw_557 : Cond.instanceMethod yX6_take ∈ lw_tg := List.mem_filter.mpr ⟨List.mem_append_right _ (List.mem_of_getElem? (i := 524) rfl), rfl⟩
set_option maxRecDepth 20000 in
theorem tw_558 : Cond.selects RX6 yX6_take yX6_take ∈ lw_tg := List.mem_filter.mpr ⟨List.mem_append_right _ (List.mem_of_getElem? (i := 525) rfl), rfl⟩
set_option maxRecDepth 20000 in
theorem tw_559 : Cond.code yX6_take cX6_take 3 none ∈ lw_tg := List.mem_filter.mpr ⟨List.mem_append_right _ (List.mem_of_getElem? (i := 526) rfl), rfl⟩
set_option maxRecDepth 20000 in
theorem tw_560 : Cond.methodLink RL 48 yX10_about ∈ lw_tg := List.mem_filter.mpr ⟨List.mem_append_right _ (List.mem_of_getElem? (i := 527) rfl), rfl⟩
set_option maxRecDepth 20000 in
theorem tw_561 : Cond.instanceMethod yX10_about ∈ lw_tg := List.mem_filter.mpr ⟨List.mem_append_right _ (List.mem_of_getElem? (i := 528) rfl), rfl⟩
set_option maxRecDepth 20000 in
theorem tw_562 : Cond.selects RX10 yX10_about yX10_about ∈ lw_tg := List.mem_filter.mpr ⟨List.mem_append_right _ (List.mem_of_getElem? (i := 529) rfl), rfl⟩
set_option maxRecDepth 20000 in
theorem tw_563 : Cond.code yX10_about cX10_about 4 (some FieldType.int) ∈ lw_tg := List.mem_filter.mpr ⟨List.mem_append_right _ (List.mem_of_getElem? (i := 530) rfl), rfl⟩
set_option maxRecDepth 20000 in
theorem tw_564 : Cond.methodLink RX10 137 yX5_ofGarden ∈ lw_tg := List.mem_filter.mpr ⟨List.mem_append_right _ (List.mem_of_getElem? (i := 531) rfl), rfl⟩
set_option maxRecDepth 20000 in
theorem tw_565 : Cond.instanceMethod yX5_ofGarden ∈ lw_tg := List.mem_filter.mpr ⟨List.mem_append_right _ (List.mem_of_getElem? (i := 532) rfl), rfl⟩
set_option maxRecDepth 20000 in
theorem tw_566 : Cond.selects RX5 yX5_ofGarden yX5_ofGarden ∈ lw_tg := List.mem_filter.mpr ⟨List.mem_append_right _ (List.mem_of_getElem? (i := 533) rfl), rfl⟩
set_option maxRecDepth 20000 in
theorem tw_567 : Cond.code yX5_ofGarden cX5_ofGarden 4 (some FieldType.int) ∈ lw_tg := List.mem_filter.mpr ⟨List.mem_append_right _ (List.mem_of_getElem? (i := 534) rfl), rfl⟩
set_option maxRecDepth 20000 in
theorem tw_568 : Cond.methodLink RX10 140 yX10_inKilnsOf ∈ lw_tg := List.mem_filter.mpr ⟨List.mem_append_right _ (List.mem_of_getElem? (i := 535) rfl), rfl⟩
set_option maxRecDepth 20000 in
theorem tw_569 : Cond.privateMethod yX10_inKilnsOf ∈ lw_tbl := List.mem_append_right _ (List.mem_of_getElem? (i := 536) rfl)
set_option maxRecDepth 20000 in
theorem tw_570 : Cond.instanceMethod yX10_inKilnsOf ∈ lw_tg := List.mem_filter.mpr ⟨List.mem_append_right _ (List.mem_of_getElem? (i := 537) rfl), rfl⟩
set_option maxRecDepth 20000 in
theorem tw_571 : Cond.code yX10_inKilnsOf cX10_inKilnsOf 4 (some FieldType.int) ∈ lw_tg := List.mem_filter.mpr ⟨List.mem_append_right _ (List.mem_of_getElem? (i := 538) rfl), rfl⟩
set_option maxRecDepth 20000 in
theorem tw_572 : Cond.methodLink RX10 283 yX6_ofGarden ∈ lw_tg := List.mem_filter.mpr ⟨List.mem_append_right _ (List.mem_of_getElem? (i := 539) rfl), rfl⟩
set_option maxRecDepth 20000 in
theorem tw_573 : Cond.instanceMethod yX6_ofGarden ∈ lw_tg := List.mem_filter.mpr ⟨List.mem_append_right _ (List.mem_of_getElem? (i := 540) rfl), rfl⟩
set_option maxRecDepth 20000 in
theorem tw_574 : Cond.selects RX6 yX6_ofGarden yX6_ofGarden ∈ lw_tg := List.mem_filter.mpr ⟨List.mem_append_right _ (List.mem_of_getElem? (i := 541) rfl), rfl⟩
set_option maxRecDepth 20000 in
theorem tw_575 : Cond.code yX6_ofGarden cX6_ofGarden 4 (some FieldType.int) ∈ lw_tg := List.mem_filter.mpr ⟨List.mem_append_right _ (List.mem_of_getElem? (i := 542) rfl), rfl⟩
set_option maxRecDepth 20000 in
theorem tw_576 : Cond.methodLink RL 52 yX10_tally ∈ lw_tg := List.mem_filter.mpr ⟨List.mem_append_right _ (List.mem_of_getElem? (i := 543) rfl), rfl⟩
set_option maxRecDepth 20000 in
theorem tw_577 : Cond.instanceMethod yX10_tally ∈ lw_tg := List.mem_filter.mpr ⟨List.mem_append_right _ (List.mem_of_getElem? (i := 544) rfl), rfl⟩
set_option maxRecDepth 20000 in
theorem tw_578 : Cond.selects RX10 yX10_tally yX10_tally ∈ lw_tg := List.mem_filter.mpr ⟨List.mem_append_right _ (List.mem_of_getElem? (i := 545) rfl), rfl⟩
set_option maxRecDepth 20000 in
theorem tw_579 : Cond.code yX10_tally cX10_tally 4 (some FieldType.int) ∈ lw_tg := List.mem_filter.mpr ⟨List.mem_append_right _ (List.mem_of_getElem? (i := 546) rfl), rfl⟩
set_option maxRecDepth 20000 in
theorem tw_580 : Cond.methodLink RL 56 yX10_in ∈ lw_tg := List.mem_filter.mpr ⟨List.mem_append_right _ (List.mem_of_getElem? (i := 547) rfl), rfl⟩
set_option maxRecDepth 20000 in
theorem tw_581 : Cond.instanceMethod yX10_in ∈ lw_tg := List.mem_filter.mpr ⟨List.mem_append_right _ (List.mem_of_getElem? (i := 548) rfl), rfl⟩
set_option maxRecDepth 20000 in
theorem tw_582 : Cond.selects RX10 yX10_in yX10_in ∈ lw_tg := List.mem_filter.mpr ⟨List.mem_append_right _ (List.mem_of_getElem? (i := 549) rfl), rfl⟩
set_option maxRecDepth 20000 in
theorem tw_583 : Cond.code yX10_in cX10_in 4 (some FieldType.int) ∈ lw_tg := List.mem_filter.mpr ⟨List.mem_append_right _ (List.mem_of_getElem? (i := 550) rfl), rfl⟩
set_option maxRecDepth 20000 in
theorem tw_584 : Cond.methodLink RX10 162 yX6_gardenBits ∈ lw_tg := List.mem_filter.mpr ⟨List.mem_append_right _ (List.mem_of_getElem? (i := 551) rfl), rfl⟩
set_option maxRecDepth 20000 in
theorem tw_585 : Cond.instanceMethod yX6_gardenBits ∈ lw_tg := List.mem_filter.mpr ⟨List.mem_append_right _ (List.mem_of_getElem? (i := 552) rfl), rfl⟩
set_option maxRecDepth 20000 in
theorem tw_586 : Cond.selects RX6 yX6_gardenBits yX6_gardenBits ∈ lw_tg := List.mem_filter.mpr ⟨List.mem_append_right _ (List.mem_of_getElem? (i := 553) rfl), rfl⟩
set_option maxRecDepth 20000 in
theorem tw_587 : Cond.code yX6_gardenBits cX6_gardenBits 3 (some FieldType.int) ∈ lw_tg := List.mem_filter.mpr ⟨List.mem_append_right _ (List.mem_of_getElem? (i := 554) rfl), rfl⟩
set_option maxRecDepth 20000 in
theorem tw_588 : Cond.methodLink RL 60 yX10_green ∈ lw_tg := List.mem_filter.mpr ⟨List.mem_append_right _ (List.mem_of_getElem? (i := 555) rfl), rfl⟩
set_option maxRecDepth 20000 in
theorem tw_589 : Cond.instanceMethod yX10_green ∈ lw_tg := List.mem_filter.mpr ⟨List.mem_append_right _ (List.mem_of_getElem? (i := 556) rfl), rfl⟩
set_option maxRecDepth 20000 in
theorem tw_590 : Cond.selects RX10 yX10_green yX10_green ∈ lw_tg := List.mem_filter.mpr ⟨List.mem_append_right _ (List.mem_of_getElem? (i := 557) rfl), rfl⟩
set_option maxRecDepth 20000 in
theorem tw_591 : Cond.code yX10_green cX10_green 2 (some FieldType.int) ∈ lw_tg := List.mem_filter.mpr ⟨List.mem_append_right _ (List.mem_of_getElem? (i := 558) rfl), rfl⟩
set_option maxRecDepth 20000 in
theorem tw_592 : Cond.methodLink RX10 165 yX5_ofHour ∈ lw_tg := List.mem_filter.mpr ⟨List.mem_append_right _ (List.mem_of_getElem? (i := 559) rfl), rfl⟩
set_option maxRecDepth 20000 in
theorem tw_593 : Cond.instanceMethod yX5_ofHour ∈ lw_tg := List.mem_filter.mpr ⟨List.mem_append_right _ (List.mem_of_getElem? (i := 560) rfl), rfl⟩
set_option maxRecDepth 20000 in
theorem tw_594 : Cond.selects RX5 yX5_ofHour yX5_ofHour ∈ lw_tg := List.mem_filter.mpr ⟨List.mem_append_right _ (List.mem_of_getElem? (i := 561) rfl), rfl⟩
set_option maxRecDepth 20000 in
theorem tw_595 : Cond.code yX5_ofHour cX5_ofHour 4 (some FieldType.int) ∈ lw_tg := List.mem_filter.mpr ⟨List.mem_append_right _ (List.mem_of_getElem? (i := 562) rfl), rfl⟩
set_option maxRecDepth 20000 in
theorem tw_596 : Cond.methodLink RL 64 yX10_pocket ∈ lw_tg := List.mem_filter.mpr ⟨List.mem_append_right _ (List.mem_of_getElem? (i := 563) rfl), rfl⟩
set_option maxRecDepth 20000 in
theorem tw_597 : Cond.instanceMethod yX10_pocket ∈ lw_tg := List.mem_filter.mpr ⟨List.mem_append_right _ (List.mem_of_getElem? (i := 564) rfl), rfl⟩
set_option maxRecDepth 20000 in
theorem tw_598 : Cond.selects RX10 yX10_pocket yX10_pocket ∈ lw_tg := List.mem_filter.mpr ⟨List.mem_append_right _ (List.mem_of_getElem? (i := 565) rfl), rfl⟩
set_option maxRecDepth 20000 in
theorem tw_599 : Cond.code yX10_pocket cX10_pocket 3 (some FieldType.int) ∈ lw_tg := List.mem_filter.mpr ⟨List.mem_append_right _ (List.mem_of_getElem? (i := 566) rfl), rfl⟩
set_option maxRecDepth 20000 in
theorem tw_600 : Cond.methodLink RX10 168 yX9_led ∈ lw_tg := List.mem_filter.mpr ⟨List.mem_append_right _ (List.mem_of_getElem? (i := 567) rfl), rfl⟩
set_option maxRecDepth 20000 in
theorem tw_601 : Cond.instanceMethod yX9_led ∈ lw_tg := List.mem_filter.mpr ⟨List.mem_append_right _ (List.mem_of_getElem? (i := 568) rfl), rfl⟩
set_option maxRecDepth 20000 in
theorem tw_602 : Cond.selects RX9 yX9_led yX9_led ∈ lw_tg := List.mem_filter.mpr ⟨List.mem_append_right _ (List.mem_of_getElem? (i := 569) rfl), rfl⟩
set_option maxRecDepth 20000 in
theorem tw_603 : Cond.code yX9_led cX9_led 1 (some FieldType.int) ∈ lw_tg := List.mem_filter.mpr ⟨List.mem_append_right _ (List.mem_of_getElem? (i := 570) rfl), rfl⟩
set_option maxRecDepth 20000 in
theorem tw_604 : Cond.methodLink RX9 22 yJ9_min_7cf53 ∈ lw_tg := List.mem_filter.mpr ⟨List.mem_append_right _ (List.mem_of_getElem? (i := 571) rfl), rfl⟩
set_option maxRecDepth 20000 in
theorem tw_605 : Cond.methodLink RL 68 yX10_count ∈ lw_tg := List.mem_filter.mpr ⟨List.mem_append_right _ (List.mem_of_getElem? (i := 572) rfl), rfl⟩
set_option maxRecDepth 20000 in
theorem tw_606 : Cond.instanceMethod yX10_count ∈ lw_tg := List.mem_filter.mpr ⟨List.mem_append_right _ (List.mem_of_getElem? (i := 573) rfl), rfl⟩
set_option maxRecDepth 20000 in
theorem tw_607 : Cond.selects RX10 yX10_count yX10_count ∈ lw_tg := List.mem_filter.mpr ⟨List.mem_append_right _ (List.mem_of_getElem? (i := 574) rfl), rfl⟩
set_option maxRecDepth 20000 in
theorem tw_608 : Cond.code yX10_count cX10_count 2 (some FieldType.int) ∈ lw_tg := List.mem_filter.mpr ⟨List.mem_append_right _ (List.mem_of_getElem? (i := 575) rfl), rfl⟩
set_option maxRecDepth 20000 in
theorem tw_609 : Cond.methodLink RX10 186 yX10_chargedInAll ∈ lw_tg := List.mem_filter.mpr ⟨List.mem_append_right _ (List.mem_of_getElem? (i := 576) rfl), rfl⟩
set_option maxRecDepth 20000 in
theorem tw_610 : Cond.privateMethod yX10_chargedInAll ∈ lw_tbl := List.mem_append_right _ (List.mem_of_getElem? (i := 577) rfl)
set_option maxRecDepth 20000 in
theorem tw_611 : Cond.instanceMethod yX10_chargedInAll ∈ lw_tg := List.mem_filter.mpr ⟨List.mem_append_right _ (List.mem_of_getElem? (i := 578) rfl), rfl⟩
set_option maxRecDepth 20000 in
theorem tw_612 : Cond.code yX10_chargedInAll cX10_chargedInAll 3 (some FieldType.int) ∈ lw_tg := List.mem_filter.mpr ⟨List.mem_append_right _ (List.mem_of_getElem? (i := 579) rfl), rfl⟩
set_option maxRecDepth 20000 in
theorem tw_613 : Cond.methodLink RX10 189 yX10_lostInAll ∈ lw_tg := List.mem_filter.mpr ⟨List.mem_append_right _ (List.mem_of_getElem? (i := 580) rfl), rfl⟩
set_option maxRecDepth 20000 in
theorem tw_614 : Cond.privateMethod yX10_lostInAll ∈ lw_tbl := List.mem_append_right _ (List.mem_of_getElem? (i := 581) rfl)
set_option maxRecDepth 20000 in
theorem tw_615 : Cond.instanceMethod yX10_lostInAll ∈ lw_tg := List.mem_filter.mpr ⟨List.mem_append_right _ (List.mem_of_getElem? (i := 582) rfl), rfl⟩
set_option maxRecDepth 20000 in
theorem tw_616 : Cond.code yX10_lostInAll cX10_lostInAll 3 (some FieldType.int) ∈ lw_tg := List.mem_filter.mpr ⟨List.mem_append_right _ (List.mem_of_getElem? (i := 583) rfl), rfl⟩
set_option maxRecDepth 20000 in
theorem tw_617 : Cond.methodLink RX10 195 yX10_payInAll ∈ lw_tg := List.mem_filter.mpr ⟨List.mem_append_right _ (List.mem_of_getElem? (i := 584) rfl), rfl⟩
set_option maxRecDepth 20000 in
theorem tw_618 : Cond.privateMethod yX10_payInAll ∈ lw_tbl := List.mem_append_right _ (List.mem_of_getElem? (i := 585) rfl)
set_option maxRecDepth 20000 in
theorem tw_619 : Cond.instanceMethod yX10_payInAll ∈ lw_tg := List.mem_filter.mpr ⟨List.mem_append_right _ (List.mem_of_getElem? (i := 586) rfl), rfl⟩
set_option maxRecDepth 20000 in
theorem tw_620 : Cond.code yX10_payInAll cX10_payInAll 3 (some FieldType.int) ∈ lw_tg := List.mem_filter.mpr ⟨List.mem_append_right _ (List.mem_of_getElem? (i := 587) rfl), rfl⟩
set_option maxRecDepth 20000 in
theorem tw_621 : Cond.methodLink RL 72 yX10_price ∈ lw_tg := List.mem_filter.mpr ⟨List.mem_append_right _ (List.mem_of_getElem? (i := 588) rfl), rfl⟩
set_option maxRecDepth 20000 in
theorem tw_622 : Cond.instanceMethod yX10_price ∈ lw_tg := List.mem_filter.mpr ⟨List.mem_append_right _ (List.mem_of_getElem? (i := 589) rfl), rfl⟩
set_option maxRecDepth 20000 in
theorem tw_623 : Cond.selects RX10 yX10_price yX10_price ∈ lw_tg := List.mem_filter.mpr ⟨List.mem_append_right _ (List.mem_of_getElem? (i := 590) rfl), rfl⟩
set_option maxRecDepth 20000 in
theorem tw_624 : Cond.code yX10_price cX10_price 3 (some FieldType.int) ∈ lw_tg := List.mem_filter.mpr ⟨List.mem_append_right _ (List.mem_of_getElem? (i := 591) rfl), rfl⟩
set_option maxRecDepth 20000 in
theorem tw_625 : Cond.methodLink RX10 198 yX7_tell ∈ lw_tg := List.mem_filter.mpr ⟨List.mem_append_right _ (List.mem_of_getElem? (i := 592) rfl), rfl⟩
set_option maxRecDepth 20000 in
theorem tw_626 : Cond.instanceMethod yX7_tell ∈ lw_tg := List.mem_filter.mpr ⟨List.mem_append_right _ (List.mem_of_getElem? (i := 593) rfl), rfl⟩
set_option maxRecDepth 20000 in
theorem tw_627 : Cond.selects RX7 yX7_tell yX7_tell ∈ lw_tg := List.mem_filter.mpr ⟨List.mem_append_right _ (List.mem_of_getElem? (i := 594) rfl), rfl⟩
set_option maxRecDepth 20000 in
theorem tw_628 : Cond.code yX7_tell cX7_tell 3 (some FieldType.boolean) ∈ lw_tg := List.mem_filter.mpr ⟨List.mem_append_right _ (List.mem_of_getElem? (i := 595) rfl), rfl⟩
set_option maxRecDepth 20000 in
theorem tw_629 : Cond.methodLink RL 76 yX10_priced ∈ lw_tg := List.mem_filter.mpr ⟨List.mem_append_right _ (List.mem_of_getElem? (i := 596) rfl), rfl⟩
set_option maxRecDepth 20000 in
theorem tw_630 : Cond.instanceMethod yX10_priced ∈ lw_tg := List.mem_filter.mpr ⟨List.mem_append_right _ (List.mem_of_getElem? (i := 597) rfl), rfl⟩
set_option maxRecDepth 20000 in
theorem tw_631 : Cond.selects RX10 yX10_priced yX10_priced ∈ lw_tg := List.mem_filter.mpr ⟨List.mem_append_right _ (List.mem_of_getElem? (i := 598) rfl), rfl⟩
set_option maxRecDepth 20000 in
theorem tw_632 : Cond.code yX10_priced cX10_priced 2 (some FieldType.int) ∈ lw_tg := List.mem_filter.mpr ⟨List.mem_append_right _ (List.mem_of_getElem? (i := 599) rfl), rfl⟩
set_option maxRecDepth 20000 in
theorem tw_633 : Cond.methodLink RL 80 yX10_act ∈ lw_tg := List.mem_filter.mpr ⟨List.mem_append_right _ (List.mem_of_getElem? (i := 600) rfl), rfl⟩
set_option maxRecDepth 20000 in
theorem tw_634 : Cond.instanceMethod yX10_act ∈ lw_tg := List.mem_filter.mpr ⟨List.mem_append_right _ (List.mem_of_getElem? (i := 601) rfl), rfl⟩
set_option maxRecDepth 20000 in
theorem tw_635 : Cond.selects RX10 yX10_act yX10_act ∈ lw_tg := List.mem_filter.mpr ⟨List.mem_append_right _ (List.mem_of_getElem? (i := 602) rfl), rfl⟩
set_option maxRecDepth 20000 in
theorem tw_636 : Cond.code yX10_act cX10_act 3 (some FieldType.int) ∈ lw_tg := List.mem_filter.mpr ⟨List.mem_append_right _ (List.mem_of_getElem? (i := 603) rfl), rfl⟩
set_option maxRecDepth 20000 in
theorem tw_637 : Cond.methodLink RL 84 yX10_duty ∈ lw_tg := List.mem_filter.mpr ⟨List.mem_append_right _ (List.mem_of_getElem? (i := 604) rfl), rfl⟩
set_option maxRecDepth 20000 in
theorem tw_638 : Cond.instanceMethod yX10_duty ∈ lw_tg := List.mem_filter.mpr ⟨List.mem_append_right _ (List.mem_of_getElem? (i := 605) rfl), rfl⟩
set_option maxRecDepth 20000 in
theorem tw_639 : Cond.selects RX10 yX10_duty yX10_duty ∈ lw_tg := List.mem_filter.mpr ⟨List.mem_append_right _ (List.mem_of_getElem? (i := 606) rfl), rfl⟩
set_option maxRecDepth 20000 in
theorem tw_640 : Cond.code yX10_duty cX10_duty 2 (some FieldType.int) ∈ lw_tg := List.mem_filter.mpr ⟨List.mem_append_right _ (List.mem_of_getElem? (i := 607) rfl), rfl⟩
set_option maxRecDepth 20000 in
theorem tw_641 : Cond.methodLink RL 88 yX10_bound ∈ lw_tg := List.mem_filter.mpr ⟨List.mem_append_right _ (List.mem_of_getElem? (i := 608) rfl), rfl⟩
set_option maxRecDepth 20000 in
theorem tw_642 : Cond.instanceMethod yX10_bound ∈ lw_tg := List.mem_filter.mpr ⟨List.mem_append_right _ (List.mem_of_getElem? (i := 609) rfl), rfl⟩
set_option maxRecDepth 20000 in
theorem tw_643 : Cond.selects RX10 yX10_bound yX10_bound ∈ lw_tg := List.mem_filter.mpr ⟨List.mem_append_right _ (List.mem_of_getElem? (i := 610) rfl), rfl⟩
set_option maxRecDepth 20000 in
theorem tw_644 : Cond.code yX10_bound cX10_bound 3 (some FieldType.int) ∈ lw_tg := List.mem_filter.mpr ⟨List.mem_append_right _ (List.mem_of_getElem? (i := 611) rfl), rfl⟩
set_option maxRecDepth 20000 in
theorem tw_645 : Cond.methodLink RX10 206 yX6_bears ∈ lw_tg := List.mem_filter.mpr ⟨List.mem_append_right _ (List.mem_of_getElem? (i := 612) rfl), rfl⟩
set_option maxRecDepth 20000 in
theorem tw_646 : Cond.instanceMethod yX6_bears ∈ lw_tg := List.mem_filter.mpr ⟨List.mem_append_right _ (List.mem_of_getElem? (i := 613) rfl), rfl⟩
set_option maxRecDepth 20000 in
theorem tw_647 : Cond.selects RX6 yX6_bears yX6_bears ∈ lw_tg := List.mem_filter.mpr ⟨List.mem_append_right _ (List.mem_of_getElem? (i := 614) rfl), rfl⟩
set_option maxRecDepth 20000 in
theorem tw_648 : Cond.code yX6_bears cX6_bears 3 (some FieldType.int) ∈ lw_tg := List.mem_filter.mpr ⟨List.mem_append_right _ (List.mem_of_getElem? (i := 615) rfl), rfl⟩
set_option maxRecDepth 20000 in
theorem tw_649 : Cond.methodLink RX6 38 yX8_dries ∈ lw_tg := List.mem_filter.mpr ⟨List.mem_append_right _ (List.mem_of_getElem? (i := 616) rfl), rfl⟩
set_option maxRecDepth 20000 in
theorem tw_650 : Cond.methodLink RX6 44 yJ9_max_7cf53 ∈ lw_tg := List.mem_filter.mpr ⟨List.mem_append_right _ (List.mem_of_getElem? (i := 617) rfl), rfl⟩
set_option maxRecDepth 20000 in
theorem tw_651 : Cond.methodLink RL 93 yX10_most ∈ lw_tg := List.mem_filter.mpr ⟨List.mem_append_right _ (List.mem_of_getElem? (i := 618) rfl), rfl⟩
set_option maxRecDepth 20000 in
theorem tw_652 : Cond.instanceMethod yX10_most ∈ lw_tg := List.mem_filter.mpr ⟨List.mem_append_right _ (List.mem_of_getElem? (i := 619) rfl), rfl⟩
set_option maxRecDepth 20000 in
theorem tw_653 : Cond.selects RX10 yX10_most yX10_most ∈ lw_tg := List.mem_filter.mpr ⟨List.mem_append_right _ (List.mem_of_getElem? (i := 620) rfl), rfl⟩
set_option maxRecDepth 20000 in
theorem tw_654 : Cond.code yX10_most cX10_most 5 (some FieldType.int) ∈ lw_tg := List.mem_filter.mpr ⟨List.mem_append_right _ (List.mem_of_getElem? (i := 621) rfl), rfl⟩
set_option maxRecDepth 20000 in
theorem tw_655 : Cond.methodLink RX10 209 yX0_begin ∈ lw_tg := List.mem_filter.mpr ⟨List.mem_append_right _ (List.mem_of_getElem? (i := 622) rfl), rfl⟩
set_option maxRecDepth 20000 in
theorem tw_656 : Cond.instanceMethod yX0_begin ∈ lw_tg := List.mem_filter.mpr ⟨List.mem_append_right _ (List.mem_of_getElem? (i := 623) rfl), rfl⟩
set_option maxRecDepth 20000 in
theorem tw_657 : Cond.selects RX0 yX0_begin yX0_begin ∈ lw_tg := List.mem_filter.mpr ⟨List.mem_append_right _ (List.mem_of_getElem? (i := 624) rfl), rfl⟩
set_option maxRecDepth 20000 in
theorem tw_658 : Cond.code yX0_begin cX0_begin 4 none ∈ lw_tg := List.mem_filter.mpr ⟨List.mem_append_right _ (List.mem_of_getElem? (i := 625) rfl), rfl⟩
set_option maxRecDepth 20000 in
theorem tw_659 : Cond.methodLink RX0 25 yJx4a65c_size_8abf5 ∈ lw_tg := List.mem_filter.mpr ⟨List.mem_append_right _ (List.mem_of_getElem? (i := 626) rfl), rfl⟩
set_option maxRecDepth 20000 in
theorem tw_660 : Cond.methodLink RX0 31 yJx4a65c_get_915e3 ∈ lw_tg := List.mem_filter.mpr ⟨List.mem_append_right _ (List.mem_of_getElem? (i := 627) rfl), rfl⟩
set_option maxRecDepth 20000 in
theorem tw_661 : Cond.classLink RX0 35 RX3 ∈ lw_tg := List.mem_filter.mpr ⟨List.mem_append_right _ (List.mem_of_getElem? (i := 628) rfl), rfl⟩
set_option maxRecDepth 20000 in
theorem tw_662 : Cond.methodLink RX0 40 yX0_addGang ∈ lw_tg := List.mem_filter.mpr ⟨List.mem_append_right _ (List.mem_of_getElem? (i := 629) rfl), rfl⟩
set_option maxRecDepth 20000 in
theorem tw_663 : Cond.instanceMethod yX0_addGang ∈ lw_tg := List.mem_filter.mpr ⟨List.mem_append_right _ (List.mem_of_getElem? (i := 630) rfl), rfl⟩
set_option maxRecDepth 20000 in
theorem tw_664 : Cond.selects RX0 yX0_addGang yX0_addGang ∈ lw_tg := List.mem_filter.mpr ⟨List.mem_append_right _ (List.mem_of_getElem? (i := 631) rfl), rfl⟩
set_option maxRecDepth 20000 in
theorem tw_665 : Cond.code yX0_addGang cX0_addGang 5 none ∈ lw_tg := List.mem_filter.mpr ⟨List.mem_append_right _ (List.mem_of_getElem? (i := 632) rfl), rfl⟩
set_option maxRecDepth 20000 in
theorem tw_666 : Cond.methodLink RX0 44 yJ9_min_7cf53 ∈ lw_tg := List.mem_filter.mpr ⟨List.mem_append_right _ (List.mem_of_getElem? (i := 633) rfl), rfl⟩
set_option maxRecDepth 20000 in
theorem tw_667 : Cond.methodLink RX10 217 yX0_offer ∈ lw_tg := List.mem_filter.mpr ⟨List.mem_append_right _ (List.mem_of_getElem? (i := 634) rfl), rfl⟩
set_option maxRecDepth 20000 in
theorem tw_668 : Cond.instanceMethod yX0_offer ∈ lw_tg := List.mem_filter.mpr ⟨List.mem_append_right _ (List.mem_of_getElem? (i := 635) rfl), rfl⟩
set_option maxRecDepth 20000 in
theorem tw_669 : Cond.selects RX0 yX0_offer yX0_offer ∈ lw_tg := List.mem_filter.mpr ⟨List.mem_append_right _ (List.mem_of_getElem? (i := 636) rfl), rfl⟩
set_option maxRecDepth 20000 in
theorem tw_670 : Cond.code yX0_offer cX0_offer 8 none ∈ lw_tg := List.mem_filter.mpr ⟨List.mem_append_right _ (List.mem_of_getElem? (i := 637) rfl), rfl⟩
set_option maxRecDepth 20000 in
theorem tw_671 : Cond.constant "HopYard$Allotment" 50 (117649 : Int32) ∈ lw_tg := List.mem_filter.mpr ⟨List.mem_append_right _ (List.mem_of_getElem? (i := 638) rfl), rfl⟩
set_option maxRecDepth 20000 in
theorem tw_672 : Cond.methodLink RX0 51 yJ9_max_7cf53 ∈ lw_tg := List.mem_filter.mpr ⟨List.mem_append_right _ (List.mem_of_getElem? (i := 639) rfl), rfl⟩
set_option maxRecDepth 20000 in
theorem tw_673 : Cond.methodLink RX10 220 yX0_bushels ∈ lw_tg := List.mem_filter.mpr ⟨List.mem_append_right _ (List.mem_of_getElem? (i := 640) rfl), rfl⟩
set_option maxRecDepth 20000 in
theorem tw_674 : Cond.instanceMethod yX0_bushels ∈ lw_tg := List.mem_filter.mpr ⟨List.mem_append_right _ (List.mem_of_getElem? (i := 641) rfl), rfl⟩
set_option maxRecDepth 20000 in
theorem tw_675 : Cond.selects RX0 yX0_bushels yX0_bushels ∈ lw_tg := List.mem_filter.mpr ⟨List.mem_append_right _ (List.mem_of_getElem? (i := 642) rfl), rfl⟩
set_option maxRecDepth 20000 in
theorem tw_676 : Cond.code yX0_bushels cX0_bushels 1 (some FieldType.int) ∈ lw_tg := List.mem_filter.mpr ⟨List.mem_append_right _ (List.mem_of_getElem? (i := 643) rfl), rfl⟩
set_option maxRecDepth 20000 in
theorem tw_677 : Cond.methodLink RX10 222 yX0_number ∈ lw_tg := List.mem_filter.mpr ⟨List.mem_append_right _ (List.mem_of_getElem? (i := 644) rfl), rfl⟩
set_option maxRecDepth 20000 in
theorem tw_678 : Cond.instanceMethod yX0_number ∈ lw_tg := List.mem_filter.mpr ⟨List.mem_append_right _ (List.mem_of_getElem? (i := 645) rfl), rfl⟩
set_option maxRecDepth 20000 in
theorem tw_679 : Cond.selects RX0 yX0_number yX0_number ∈ lw_tg := List.mem_filter.mpr ⟨List.mem_append_right _ (List.mem_of_getElem? (i := 646) rfl), rfl⟩
set_option maxRecDepth 20000 in
theorem tw_680 : Cond.code yX0_number cX0_number 1 (some FieldType.int) ∈ lw_tg := List.mem_filter.mpr ⟨List.mem_append_right _ (List.mem_of_getElem? (i := 647) rfl), rfl⟩
set_option maxRecDepth 20000 in
theorem tw_681 : Cond.methodLink RX0 54 yX0_bushels ∈ lw_tg := List.mem_filter.mpr ⟨List.mem_append_right _ (List.mem_of_getElem? (i := 648) rfl), rfl⟩
set_option maxRecDepth 20000 in
theorem tw_682 : Cond.methodLink RL 97 yX10_trace ∈ lw_tg := List.mem_filter.mpr ⟨List.mem_append_right _ (List.mem_of_getElem? (i := 649) rfl), rfl⟩
set_option maxRecDepth 20000 in
theorem tw_683 : Cond.instanceMethod yX10_trace ∈ lw_tg := List.mem_filter.mpr ⟨List.mem_append_right _ (List.mem_of_getElem? (i := 650) rfl), rfl⟩
set_option maxRecDepth 20000 in
theorem tw_684 : Cond.selects RX10 yX10_trace yX10_trace ∈ lw_tg := List.mem_filter.mpr ⟨List.mem_append_right _ (List.mem_of_getElem? (i := 651) rfl), rfl⟩
set_option maxRecDepth 20000 in
theorem tw_685 : Cond.code yX10_trace cX10_trace 1 (some FieldType.long) ∈ lw_tg := List.mem_filter.mpr ⟨List.mem_append_right _ (List.mem_of_getElem? (i := 652) rfl), rfl⟩
set_option maxRecDepth 20000 in
theorem tw_686 : Cond.classLink RL 10 RX11 ∈ lw_tg := List.mem_filter.mpr ⟨List.mem_append_right _ (List.mem_of_getElem? (i := 653) rfl), rfl⟩
set_option maxRecDepth 20000 in
theorem tw_687 : Cond.instantiable RX11 37 ∈ lw_tg := List.mem_filter.mpr ⟨List.mem_append_right _ (List.mem_of_getElem? (i := 654) rfl), rfl⟩
set_option maxRecDepth 20000 in
theorem tw_688 : Cond.methodLink RL 12 yX11_init ∈ lw_tg := List.mem_filter.mpr ⟨List.mem_append_right _ (List.mem_of_getElem? (i := 655) rfl), rfl⟩
set_option maxRecDepth 20000 in
theorem tw_689 : Cond.instanceMethod yX11_init ∈ lw_tg := List.mem_filter.mpr ⟨List.mem_append_right _ (List.mem_of_getElem? (i := 656) rfl), rfl⟩
set_option maxRecDepth 20000 in
theorem tw_690 : Cond.code yX11_init cX11_init 1 none ∈ lw_tg := List.mem_filter.mpr ⟨List.mem_append_right _ (List.mem_of_getElem? (i := 657) rfl), rfl⟩
set_option maxRecDepth 20000 in
theorem tw_691 : Cond.methodLink RX11 1 objectInit ∈ lw_tg := List.mem_filter.mpr ⟨List.mem_append_right _ (List.mem_of_getElem? (i := 658) rfl), rfl⟩
set_option maxRecDepth 20000 in
theorem tw_692 : Cond.fieldLink RX11 92 "HopYardModel" "now" "I" ∈ lw_tg := List.mem_filter.mpr ⟨List.mem_append_right _ (List.mem_of_getElem? (i := 659) rfl), rfl⟩
set_option maxRecDepth 20000 in
theorem tw_693 : Cond.fieldLink RX11 7 "HopYardModel" "wait" "I" ∈ lw_tg := List.mem_filter.mpr ⟨List.mem_append_right _ (List.mem_of_getElem? (i := 660) rfl), rfl⟩
set_option maxRecDepth 20000 in
theorem tw_694 : Cond.fieldLink RX11 95 "HopYardModel" "gardens" "I" ∈ lw_tg := List.mem_filter.mpr ⟨List.mem_append_right _ (List.mem_of_getElem? (i := 661) rfl), rfl⟩
set_option maxRecDepth 20000 in
theorem tw_695 : Cond.fieldLink RX11 13 "HopYardModel" "left" "[I" ∈ lw_tg := List.mem_filter.mpr ⟨List.mem_append_right _ (List.mem_of_getElem? (i := 662) rfl), rfl⟩
set_option maxRecDepth 20000 in
theorem tw_696 : Cond.fieldLink RX11 17 "HopYardModel" "ripeFrom" "[I" ∈ lw_tg := List.mem_filter.mpr ⟨List.mem_append_right _ (List.mem_of_getElem? (i := 663) rfl), rfl⟩
set_option maxRecDepth 20000 in
theorem tw_697 : Cond.fieldLink RX11 20 "HopYardModel" "ripeTo" "[I" ∈ lw_tg := List.mem_filter.mpr ⟨List.mem_append_right _ (List.mem_of_getElem? (i := 664) rfl), rfl⟩
set_option maxRecDepth 20000 in
theorem tw_698 : Cond.fieldLink RX11 23 "HopYardModel" "picked" "[I" ∈ lw_tg := List.mem_filter.mpr ⟨List.mem_append_right _ (List.mem_of_getElem? (i := 665) rfl), rfl⟩
set_option maxRecDepth 20000 in
theorem tw_699 : Cond.fieldLink RX11 26 "HopYardModel" "lost" "[I" ∈ lw_tg := List.mem_filter.mpr ⟨List.mem_append_right _ (List.mem_of_getElem? (i := 666) rfl), rfl⟩
set_option maxRecDepth 20000 in
theorem tw_700 : Cond.fieldLink RX11 29 "HopYardModel" "dried" "[I" ∈ lw_tg := List.mem_filter.mpr ⟨List.mem_append_right _ (List.mem_of_getElem? (i := 667) rfl), rfl⟩
set_option maxRecDepth 20000 in
theorem tw_701 : Cond.fieldLink RX11 102 "HopYardModel" "gangs" "I" ∈ lw_tg := List.mem_filter.mpr ⟨List.mem_append_right _ (List.mem_of_getElem? (i := 668) rfl), rfl⟩
set_option maxRecDepth 20000 in
theorem tw_702 : Cond.fieldLink RX11 32 "HopYardModel" "rate" "[I" ∈ lw_tg := List.mem_filter.mpr ⟨List.mem_append_right _ (List.mem_of_getElem? (i := 669) rfl), rfl⟩
set_option maxRecDepth 20000 in
theorem tw_703 : Cond.fieldLink RX11 35 "HopYardModel" "measure" "[I" ∈ lw_tg := List.mem_filter.mpr ⟨List.mem_append_right _ (List.mem_of_getElem? (i := 670) rfl), rfl⟩
set_option maxRecDepth 20000 in
theorem tw_704 : Cond.fieldLink RX11 38 "HopYardModel" "place" "[I" ∈ lw_tg := List.mem_filter.mpr ⟨List.mem_append_right _ (List.mem_of_getElem? (i := 671) rfl), rfl⟩
set_option maxRecDepth 20000 in
theorem tw_705 : Cond.fieldLink RX11 41 "HopYardModel" "gangPicked" "[I" ∈ lw_tg := List.mem_filter.mpr ⟨List.mem_append_right _ (List.mem_of_getElem? (i := 672) rfl), rfl⟩
set_option maxRecDepth 20000 in
theorem tw_706 : Cond.fieldLink RX11 44 "HopYardModel" "gangTold" "[I" ∈ lw_tg := List.mem_filter.mpr ⟨List.mem_append_right _ (List.mem_of_getElem? (i := 673) rfl), rfl⟩
set_option maxRecDepth 20000 in
theorem tw_707 : Cond.fieldLink RX11 47 "HopYardModel" "gangPay" "[I" ∈ lw_tg := List.mem_filter.mpr ⟨List.mem_append_right _ (List.mem_of_getElem? (i := 674) rfl), rfl⟩
set_option maxRecDepth 20000 in
theorem tw_708 : Cond.fieldLink RX11 50 "HopYardModel" "green" "[I" ∈ lw_tg := List.mem_filter.mpr ⟨List.mem_append_right _ (List.mem_of_getElem? (i := 675) rfl), rfl⟩
set_option maxRecDepth 20000 in
theorem tw_709 : Cond.fieldLink RX11 105 "HopYardModel" "kilns" "I" ∈ lw_tg := List.mem_filter.mpr ⟨List.mem_append_right _ (List.mem_of_getElem? (i := 676) rfl), rfl⟩
set_option maxRecDepth 20000 in
theorem tw_710 : Cond.fieldLink RX11 53 "HopYardModel" "kind" "[I" ∈ lw_tg := List.mem_filter.mpr ⟨List.mem_append_right _ (List.mem_of_getElem? (i := 677) rfl), rfl⟩
set_option maxRecDepth 20000 in
theorem tw_711 : Cond.fieldLink RX11 56 "HopYardModel" "room" "[I" ∈ lw_tg := List.mem_filter.mpr ⟨List.mem_append_right _ (List.mem_of_getElem? (i := 678) rfl), rfl⟩
set_option maxRecDepth 20000 in
theorem tw_712 : Cond.fieldLink RX11 59 "HopYardModel" "reading" "[I" ∈ lw_tg := List.mem_filter.mpr ⟨List.mem_append_right _ (List.mem_of_getElem? (i := 679) rfl), rfl⟩
set_option maxRecDepth 20000 in
theorem tw_713 : Cond.fieldLink RX11 62 "HopYardModel" "share" "[I" ∈ lw_tg := List.mem_filter.mpr ⟨List.mem_append_right _ (List.mem_of_getElem? (i := 680) rfl), rfl⟩
set_option maxRecDepth 20000 in
theorem tw_714 : Cond.fieldLink RX11 65 "HopYardModel" "filled" "[I" ∈ lw_tg := List.mem_filter.mpr ⟨List.mem_append_right _ (List.mem_of_getElem? (i := 681) rfl), rfl⟩
set_option maxRecDepth 20000 in
theorem tw_715 : Cond.fieldLink RX11 68 "HopYardModel" "bushel" "[I" ∈ lw_tg := List.mem_filter.mpr ⟨List.mem_append_right _ (List.mem_of_getElem? (i := 682) rfl), rfl⟩
set_option maxRecDepth 20000 in
theorem tw_716 : Cond.fieldLink RX11 150 "HopYardModel" "pockets" "I" ∈ lw_tg := List.mem_filter.mpr ⟨List.mem_append_right _ (List.mem_of_getElem? (i := 683) rfl), rfl⟩
set_option maxRecDepth 20000 in
theorem tw_717 : Cond.fieldLink RX11 71 "HopYardModel" "pocketGardens" "[I" ∈ lw_tg := List.mem_filter.mpr ⟨List.mem_append_right _ (List.mem_of_getElem? (i := 684) rfl), rfl⟩
set_option maxRecDepth 20000 in
theorem tw_718 : Cond.fieldLink RX11 74 "HopYardModel" "pocketDay" "[I" ∈ lw_tg := List.mem_filter.mpr ⟨List.mem_append_right _ (List.mem_of_getElem? (i := 685) rfl), rfl⟩
set_option maxRecDepth 20000 in
theorem tw_719 : Cond.fieldLink RX11 144 "HopYardModel" "loose" "I" ∈ lw_tg := List.mem_filter.mpr ⟨List.mem_append_right _ (List.mem_of_getElem? (i := 686) rfl), rfl⟩
set_option maxRecDepth 20000 in
theorem tw_720 : Cond.fieldLink RX11 147 "HopYardModel" "looseGardens" "I" ∈ lw_tg := List.mem_filter.mpr ⟨List.mem_append_right _ (List.mem_of_getElem? (i := 687) rfl), rfl⟩
set_option maxRecDepth 20000 in
theorem tw_721 : Cond.fieldLink RX11 130 "HopYardModel" "prices" "I" ∈ lw_tg := List.mem_filter.mpr ⟨List.mem_append_right _ (List.mem_of_getElem? (i := 688) rfl), rfl⟩
set_option maxRecDepth 20000 in
theorem tw_722 : Cond.fieldLink RX11 77 "HopYardModel" "priceHour" "[I" ∈ lw_tg := List.mem_filter.mpr ⟨List.mem_append_right _ (List.mem_of_getElem? (i := 689) rfl), rfl⟩
set_option maxRecDepth 20000 in
theorem tw_723 : Cond.fieldLink RX11 80 "HopYardModel" "priceOf" "[I" ∈ lw_tg := List.mem_filter.mpr ⟨List.mem_append_right _ (List.mem_of_getElem? (i := 690) rfl), rfl⟩
set_option maxRecDepth 20000 in
theorem tw_724 : Cond.fieldLink RX11 133 "HopYardModel" "acts" "I" ∈ lw_tg := List.mem_filter.mpr ⟨List.mem_append_right _ (List.mem_of_getElem? (i := 691) rfl), rfl⟩
set_option maxRecDepth 20000 in
theorem tw_725 : Cond.fieldLink RX11 83 "HopYardModel" "actDay" "[I" ∈ lw_tg := List.mem_filter.mpr ⟨List.mem_append_right _ (List.mem_of_getElem? (i := 692) rfl), rfl⟩
set_option maxRecDepth 20000 in
theorem tw_726 : Cond.fieldLink RX11 86 "HopYardModel" "actDuty" "[I" ∈ lw_tg := List.mem_filter.mpr ⟨List.mem_append_right _ (List.mem_of_getElem? (i := 693) rfl), rfl⟩
set_option maxRecDepth 20000 in
theorem tw_727 : Cond.fieldLink RX11 118 "HopYardModel" "trace" "J" ∈ lw_tg := List.mem_filter.mpr ⟨List.mem_append_right _ (List.mem_of_getElem? (i := 694) rfl), rfl⟩
set_option maxRecDepth 20000 in
theorem tw_728 : Cond.fieldLink RX11 89 "HopYardModel" "together" "[I" ∈ lw_tg := List.mem_filter.mpr ⟨List.mem_append_right _ (List.mem_of_getElem? (i := 695) rfl), rfl⟩
set_option maxRecDepth 20000 in
theorem tw_729 : Cond.lays RX11 "HopYardModel" "now" "I" ∈ lw_tg := List.mem_filter.mpr ⟨List.mem_append_right _ (List.mem_of_getElem? (i := 696) rfl), rfl⟩
set_option maxRecDepth 20000 in
theorem tw_731 : Cond.lays RX11 "HopYardModel" "wait" "I" ∈ lw_tg := List.mem_filter.mpr ⟨List.mem_append_right _ (List.mem_of_getElem? (i := 698) rfl), rfl⟩
set_option maxRecDepth 20000 in
theorem tw_733 : Cond.lays RX11 "HopYardModel" "gardens" "I" ∈ lw_tg := List.mem_filter.mpr ⟨List.mem_append_right _ (List.mem_of_getElem? (i := 700) rfl), rfl⟩
set_option maxRecDepth 20000 in
theorem tw_735 : Cond.laysFinal RX11 "HopYardModel" "left" "[I" ∈ lw_tg := List.mem_filter.mpr ⟨List.mem_append_right _ (List.mem_of_getElem? (i := 702) rfl), rfl⟩
set_option maxRecDepth 20000 in
theorem tw_737 : Cond.laysFinal RX11 "HopYardModel" "ripeFrom" "[I" ∈ lw_tg := List.mem_filter.mpr ⟨List.mem_append_right _ (List.mem_of_getElem? (i := 704) rfl), rfl⟩
set_option maxRecDepth 20000 in
theorem tw_739 : Cond.laysFinal RX11 "HopYardModel" "ripeTo" "[I" ∈ lw_tg := List.mem_filter.mpr ⟨List.mem_append_right _ (List.mem_of_getElem? (i := 706) rfl), rfl⟩
set_option maxRecDepth 20000 in
theorem tw_741 : Cond.laysFinal RX11 "HopYardModel" "picked" "[I" ∈ lw_tg := List.mem_filter.mpr ⟨List.mem_append_right _ (List.mem_of_getElem? (i := 708) rfl), rfl⟩
set_option maxRecDepth 20000 in
theorem tw_743 : Cond.laysFinal RX11 "HopYardModel" "lost" "[I" ∈ lw_tg := List.mem_filter.mpr ⟨List.mem_append_right _ (List.mem_of_getElem? (i := 710) rfl), rfl⟩
set_option maxRecDepth 20000 in
theorem tw_745 : Cond.laysFinal RX11 "HopYardModel" "dried" "[I" ∈ lw_tg := List.mem_filter.mpr ⟨List.mem_append_right _ (List.mem_of_getElem? (i := 712) rfl), rfl⟩
set_option maxRecDepth 20000 in
theorem tw_747 : Cond.lays RX11 "HopYardModel" "gangs" "I" ∈ lw_tg := List.mem_filter.mpr ⟨List.mem_append_right _ (List.mem_of_getElem? (i := 714) rfl), rfl⟩
set_option maxRecDepth 20000 in
theorem tw_749 : Cond.laysFinal RX11 "HopYardModel" "rate" "[I" ∈ lw_tg := List.mem_filter.mpr ⟨List.mem_append_right _ (List.mem_of_getElem? (i := 716) rfl), rfl⟩
set_option maxRecDepth 20000 in
theorem tw_751 : Cond.laysFinal RX11 "HopYardModel" "measure" "[I" ∈ lw_tg := List.mem_filter.mpr ⟨List.mem_append_right _ (List.mem_of_getElem? (i := 718) rfl), rfl⟩
set_option maxRecDepth 20000 in
theorem tw_753 : Cond.laysFinal RX11 "HopYardModel" "place" "[I" ∈ lw_tg := List.mem_filter.mpr ⟨List.mem_append_right _ (List.mem_of_getElem? (i := 720) rfl), rfl⟩
set_option maxRecDepth 20000 in
theorem tw_755 : Cond.laysFinal RX11 "HopYardModel" "gangPicked" "[I" ∈ lw_tg := List.mem_filter.mpr ⟨List.mem_append_right _ (List.mem_of_getElem? (i := 722) rfl), rfl⟩
set_option maxRecDepth 20000 in
theorem tw_757 : Cond.laysFinal RX11 "HopYardModel" "gangTold" "[I" ∈ lw_tg := List.mem_filter.mpr ⟨List.mem_append_right _ (List.mem_of_getElem? (i := 724) rfl), rfl⟩
set_option maxRecDepth 20000 in
theorem tw_759 : Cond.laysFinal RX11 "HopYardModel" "gangPay" "[I" ∈ lw_tg := List.mem_filter.mpr ⟨List.mem_append_right _ (List.mem_of_getElem? (i := 726) rfl), rfl⟩
set_option maxRecDepth 20000 in
theorem tw_761 : Cond.laysFinal RX11 "HopYardModel" "green" "[I" ∈ lw_tg := List.mem_filter.mpr ⟨List.mem_append_right _ (List.mem_of_getElem? (i := 728) rfl), rfl⟩
set_option maxRecDepth 20000 in
theorem tw_763 : Cond.lays RX11 "HopYardModel" "kilns" "I" ∈ lw_tg := List.mem_filter.mpr ⟨List.mem_append_right _ (List.mem_of_getElem? (i := 730) rfl), rfl⟩
set_option maxRecDepth 20000 in
theorem tw_765 : Cond.laysFinal RX11 "HopYardModel" "kind" "[I" ∈ lw_tg := List.mem_filter.mpr ⟨List.mem_append_right _ (List.mem_of_getElem? (i := 732) rfl), rfl⟩
set_option maxRecDepth 20000 in
theorem tw_767 : Cond.laysFinal RX11 "HopYardModel" "room" "[I" ∈ lw_tg := List.mem_filter.mpr ⟨List.mem_append_right _ (List.mem_of_getElem? (i := 734) rfl), rfl⟩
set_option maxRecDepth 20000 in
theorem tw_769 : Cond.laysFinal RX11 "HopYardModel" "reading" "[I" ∈ lw_tg := List.mem_filter.mpr ⟨List.mem_append_right _ (List.mem_of_getElem? (i := 736) rfl), rfl⟩
set_option maxRecDepth 20000 in
theorem tw_771 : Cond.laysFinal RX11 "HopYardModel" "share" "[I" ∈ lw_tg := List.mem_filter.mpr ⟨List.mem_append_right _ (List.mem_of_getElem? (i := 738) rfl), rfl⟩
set_option maxRecDepth 20000 in
theorem tw_773 : Cond.laysFinal RX11 "HopYardModel" "filled" "[I" ∈ lw_tg := List.mem_filter.mpr ⟨List.mem_append_right _ (List.mem_of_getElem? (i := 740) rfl), rfl⟩
set_option maxRecDepth 20000 in
theorem tw_775 : Cond.laysFinal RX11 "HopYardModel" "bushel" "[I" ∈ lw_tg := List.mem_filter.mpr ⟨List.mem_append_right _ (List.mem_of_getElem? (i := 742) rfl), rfl⟩
set_option maxRecDepth 20000 in
theorem tw_777 : Cond.lays RX11 "HopYardModel" "pockets" "I" ∈ lw_tg := List.mem_filter.mpr ⟨List.mem_append_right _ (List.mem_of_getElem? (i := 744) rfl), rfl⟩
set_option maxRecDepth 20000 in
theorem tw_779 : Cond.laysFinal RX11 "HopYardModel" "pocketGardens" "[I" ∈ lw_tg := List.mem_filter.mpr ⟨List.mem_append_right _ (List.mem_of_getElem? (i := 746) rfl), rfl⟩
set_option maxRecDepth 20000 in
theorem tw_781 : Cond.laysFinal RX11 "HopYardModel" "pocketDay" "[I" ∈ lw_tg := List.mem_filter.mpr ⟨List.mem_append_right _ (List.mem_of_getElem? (i := 748) rfl), rfl⟩
set_option maxRecDepth 20000 in
theorem tw_783 : Cond.lays RX11 "HopYardModel" "loose" "I" ∈ lw_tg := List.mem_filter.mpr ⟨List.mem_append_right _ (List.mem_of_getElem? (i := 750) rfl), rfl⟩
set_option maxRecDepth 20000 in
theorem tw_785 : Cond.lays RX11 "HopYardModel" "looseGardens" "I" ∈ lw_tg := List.mem_filter.mpr ⟨List.mem_append_right _ (List.mem_of_getElem? (i := 752) rfl), rfl⟩
set_option maxRecDepth 20000 in
theorem tw_787 : Cond.lays RX11 "HopYardModel" "prices" "I" ∈ lw_tg := List.mem_filter.mpr ⟨List.mem_append_right _ (List.mem_of_getElem? (i := 754) rfl), rfl⟩
set_option maxRecDepth 20000 in
theorem tw_789 : Cond.laysFinal RX11 "HopYardModel" "priceHour" "[I" ∈ lw_tg := List.mem_filter.mpr ⟨List.mem_append_right _ (List.mem_of_getElem? (i := 756) rfl), rfl⟩
set_option maxRecDepth 20000 in
theorem tw_791 : Cond.laysFinal RX11 "HopYardModel" "priceOf" "[I" ∈ lw_tg := List.mem_filter.mpr ⟨List.mem_append_right _ (List.mem_of_getElem? (i := 758) rfl), rfl⟩
set_option maxRecDepth 20000 in
theorem tw_793 : Cond.lays RX11 "HopYardModel" "acts" "I" ∈ lw_tg := List.mem_filter.mpr ⟨List.mem_append_right _ (List.mem_of_getElem? (i := 760) rfl), rfl⟩
set_option maxRecDepth 20000 in
theorem tw_795 : Cond.laysFinal RX11 "HopYardModel" "actDay" "[I" ∈ lw_tg := List.mem_filter.mpr ⟨List.mem_append_right _ (List.mem_of_getElem? (i := 762) rfl), rfl⟩
set_option maxRecDepth 20000 in
theorem tw_797 : Cond.laysFinal RX11 "HopYardModel" "actDuty" "[I" ∈ lw_tg := List.mem_filter.mpr ⟨List.mem_append_right _ (List.mem_of_getElem? (i := 764) rfl), rfl⟩
set_option maxRecDepth 20000 in
theorem tw_799 : Cond.lays RX11 "HopYardModel" "trace" "J" ∈ lw_tg := List.mem_filter.mpr ⟨List.mem_append_right _ (List.mem_of_getElem? (i := 766) rfl), rfl⟩
set_option maxRecDepth 20000 in
theorem tw_801 : Cond.laysFinal RX11 "HopYardModel" "together" "[I" ∈ lw_tg := List.mem_filter.mpr ⟨List.mem_append_right _ (List.mem_of_getElem? (i := 768) rfl), rfl⟩
set_option maxRecDepth 20000 in
theorem tw_803 : Cond.superclass "HopYardModel" "java/lang/Object" ∈ lw_tg := List.mem_filter.mpr ⟨List.mem_append_right _ (List.mem_of_getElem? (i := 770) rfl), rfl⟩
set_option maxRecDepth 20000 in
theorem tw_804 : Cond.methodLink RL 17 yX11_garden ∈ lw_tg := List.mem_filter.mpr ⟨List.mem_append_right _ (List.mem_of_getElem? (i := 771) rfl), rfl⟩
set_option maxRecDepth 20000 in
theorem tw_805 : Cond.instanceMethod yX11_garden ∈ lw_tg := List.mem_filter.mpr ⟨List.mem_append_right _ (List.mem_of_getElem? (i := 772) rfl), rfl⟩
set_option maxRecDepth 20000 in
theorem tw_806 : Cond.selects RX11 yX11_garden yX11_garden ∈ lw_tg := List.mem_filter.mpr ⟨List.mem_append_right _ (List.mem_of_getElem? (i := 773) rfl), rfl⟩
set_option maxRecDepth 20000 in
theorem tw_807 : Cond.code yX11_garden cX11_garden 4 (some FieldType.int) ∈ lw_tg := List.mem_filter.mpr ⟨List.mem_append_right _ (List.mem_of_getElem? (i := 774) rfl), rfl⟩
set_option maxRecDepth 20000 in
theorem tw_808 : Cond.methodLink RX11 98 yX11_isIn ∈ lw_tg := List.mem_filter.mpr ⟨List.mem_append_right _ (List.mem_of_getElem? (i := 775) rfl), rfl⟩
set_option maxRecDepth 20000 in
theorem tw_809 : Cond.static yX11_isIn ∈ lw_tg := List.mem_filter.mpr ⟨List.mem_append_right _ (List.mem_of_getElem? (i := 776) rfl), rfl⟩
set_option maxRecDepth 20000 in
theorem tw_810 : Cond.code yX11_isIn cX11_isIn 3 (some FieldType.boolean) ∈ lw_tg := List.mem_filter.mpr ⟨List.mem_append_right _ (List.mem_of_getElem? (i := 777) rfl), rfl⟩
set_option maxRecDepth 20000 in
theorem tw_811 : Cond.methodLink RL 22 yX11_gang ∈ lw_tg := List.mem_filter.mpr ⟨List.mem_append_right _ (List.mem_of_getElem? (i := 778) rfl), rfl⟩
set_option maxRecDepth 20000 in
theorem tw_812 : Cond.instanceMethod yX11_gang ∈ lw_tg := List.mem_filter.mpr ⟨List.mem_append_right _ (List.mem_of_getElem? (i := 779) rfl), rfl⟩
set_option maxRecDepth 20000 in
theorem tw_813 : Cond.selects RX11 yX11_gang yX11_gang ∈ lw_tg := List.mem_filter.mpr ⟨List.mem_append_right _ (List.mem_of_getElem? (i := 780) rfl), rfl⟩
set_option maxRecDepth 20000 in
theorem tw_814 : Cond.code yX11_gang cX11_gang 3 (some FieldType.int) ∈ lw_tg := List.mem_filter.mpr ⟨List.mem_append_right _ (List.mem_of_getElem? (i := 781) rfl), rfl⟩
set_option maxRecDepth 20000 in
theorem tw_815 : Cond.methodLink RL 26 yX11_sends ∈ lw_tg := List.mem_filter.mpr ⟨List.mem_append_right _ (List.mem_of_getElem? (i := 782) rfl), rfl⟩
set_option maxRecDepth 20000 in
theorem tw_816 : Cond.instanceMethod yX11_sends ∈ lw_tg := List.mem_filter.mpr ⟨List.mem_append_right _ (List.mem_of_getElem? (i := 783) rfl), rfl⟩
set_option maxRecDepth 20000 in
theorem tw_817 : Cond.selects RX11 yX11_sends yX11_sends ∈ lw_tg := List.mem_filter.mpr ⟨List.mem_append_right _ (List.mem_of_getElem? (i := 784) rfl), rfl⟩
set_option maxRecDepth 20000 in
theorem tw_818 : Cond.code yX11_sends cX11_sends 4 (some FieldType.int) ∈ lw_tg := List.mem_filter.mpr ⟨List.mem_append_right _ (List.mem_of_getElem? (i := 785) rfl), rfl⟩
set_option maxRecDepth 20000 in
theorem tw_819 : Cond.methodLink RX11 108 yX11_isGang ∈ lw_tg := List.mem_filter.mpr ⟨List.mem_append_right _ (List.mem_of_getElem? (i := 786) rfl), rfl⟩
set_option maxRecDepth 20000 in
theorem tw_820 : Cond.privateMethod yX11_isGang ∈ lw_tbl := List.mem_append_right _ (List.mem_of_getElem? (i := 787) rfl)
set_option maxRecDepth 20000 in
theorem tw_821 : Cond.instanceMethod yX11_isGang ∈ lw_tg := List.mem_filter.mpr ⟨List.mem_append_right _ (List.mem_of_getElem? (i := 788) rfl), rfl⟩
set_option maxRecDepth 20000 in
theorem tw_822 : Cond.code yX11_isGang cX11_isGang 2 (some FieldType.boolean) ∈ lw_tg := List.mem_filter.mpr ⟨List.mem_append_right _ (List.mem_of_getElem? (i := 789) rfl), rfl⟩
set_option maxRecDepth 20000 in
theorem tw_823 : Cond.methodLink RX11 112 yX11_isGarden ∈ lw_tg := List.mem_filter.mpr ⟨List.mem_append_right _ (List.mem_of_getElem? (i := 790) rfl), rfl⟩
set_option maxRecDepth 20000 in
theorem tw_824 : Cond.privateMethod yX11_isGarden ∈ lw_tbl := List.mem_append_right _ (List.mem_of_getElem? (i := 791) rfl)
set_option maxRecDepth 20000 in
theorem tw_825 : Cond.instanceMethod yX11_isGarden ∈ lw_tg := List.mem_filter.mpr ⟨List.mem_append_right _ (List.mem_of_getElem? (i := 792) rfl), rfl⟩
set_option maxRecDepth 20000 in
theorem tw_826 : Cond.code yX11_isGarden cX11_isGarden 2 (some FieldType.boolean) ∈ lw_tg := List.mem_filter.mpr ⟨List.mem_append_right _ (List.mem_of_getElem? (i := 793) rfl), rfl⟩
set_option maxRecDepth 20000 in
theorem tw_827 : Cond.methodLink RL 30 yX11_kiln ∈ lw_tg := List.mem_filter.mpr ⟨List.mem_append_right _ (List.mem_of_getElem? (i := 794) rfl), rfl⟩
set_option maxRecDepth 20000 in
theorem tw_828 : Cond.instanceMethod yX11_kiln ∈ lw_tg := List.mem_filter.mpr ⟨List.mem_append_right _ (List.mem_of_getElem? (i := 795) rfl), rfl⟩
set_option maxRecDepth 20000 in
theorem tw_829 : Cond.selects RX11 yX11_kiln yX11_kiln ∈ lw_tg := List.mem_filter.mpr ⟨List.mem_append_right _ (List.mem_of_getElem? (i := 796) rfl), rfl⟩
set_option maxRecDepth 20000 in
theorem tw_830 : Cond.code yX11_kiln cX11_kiln 3 (some FieldType.int) ∈ lw_tg := List.mem_filter.mpr ⟨List.mem_append_right _ (List.mem_of_getElem? (i := 797) rfl), rfl⟩
set_option maxRecDepth 20000 in
theorem tw_831 : Cond.methodLink RL 34 yX11_read ∈ lw_tg := List.mem_filter.mpr ⟨List.mem_append_right _ (List.mem_of_getElem? (i := 798) rfl), rfl⟩
set_option maxRecDepth 20000 in
theorem tw_832 : Cond.instanceMethod yX11_read ∈ lw_tg := List.mem_filter.mpr ⟨List.mem_append_right _ (List.mem_of_getElem? (i := 799) rfl), rfl⟩
set_option maxRecDepth 20000 in
theorem tw_833 : Cond.selects RX11 yX11_read yX11_read ∈ lw_tg := List.mem_filter.mpr ⟨List.mem_append_right _ (List.mem_of_getElem? (i := 800) rfl), rfl⟩
set_option maxRecDepth 20000 in
theorem tw_834 : Cond.code yX11_read cX11_read 4 (some FieldType.int) ∈ lw_tg := List.mem_filter.mpr ⟨List.mem_append_right _ (List.mem_of_getElem? (i := 801) rfl), rfl⟩
set_option maxRecDepth 20000 in
theorem tw_835 : Cond.methodLink RX11 115 yX11_isKiln ∈ lw_tg := List.mem_filter.mpr ⟨List.mem_append_right _ (List.mem_of_getElem? (i := 802) rfl), rfl⟩
set_option maxRecDepth 20000 in
theorem tw_836 : Cond.privateMethod yX11_isKiln ∈ lw_tbl := List.mem_append_right _ (List.mem_of_getElem? (i := 803) rfl)
set_option maxRecDepth 20000 in
theorem tw_837 : Cond.instanceMethod yX11_isKiln ∈ lw_tg := List.mem_filter.mpr ⟨List.mem_append_right _ (List.mem_of_getElem? (i := 804) rfl), rfl⟩
set_option maxRecDepth 20000 in
theorem tw_838 : Cond.code yX11_isKiln cX11_isKiln 2 (some FieldType.boolean) ∈ lw_tg := List.mem_filter.mpr ⟨List.mem_append_right _ (List.mem_of_getElem? (i := 805) rfl), rfl⟩
set_option maxRecDepth 20000 in
theorem tw_839 : Cond.methodLink RL 38 yX11_drying ∈ lw_tg := List.mem_filter.mpr ⟨List.mem_append_right _ (List.mem_of_getElem? (i := 806) rfl), rfl⟩
set_option maxRecDepth 20000 in
theorem tw_840 : Cond.instanceMethod yX11_drying ∈ lw_tg := List.mem_filter.mpr ⟨List.mem_append_right _ (List.mem_of_getElem? (i := 807) rfl), rfl⟩
set_option maxRecDepth 20000 in
theorem tw_841 : Cond.selects RX11 yX11_drying yX11_drying ∈ lw_tg := List.mem_filter.mpr ⟨List.mem_append_right _ (List.mem_of_getElem? (i := 808) rfl), rfl⟩
set_option maxRecDepth 20000 in
theorem tw_842 : Cond.code yX11_drying cX11_drying 3 (some FieldType.int) ∈ lw_tg := List.mem_filter.mpr ⟨List.mem_append_right _ (List.mem_of_getElem? (i := 809) rfl), rfl⟩
set_option maxRecDepth 20000 in
theorem tw_843 : Cond.constantLong "HopYardModel" 122 (11 : Int64) ∈ lw_tg := List.mem_filter.mpr ⟨List.mem_append_right _ (List.mem_of_getElem? (i := 810) rfl), rfl⟩
set_option maxRecDepth 20000 in
theorem tw_844 : Cond.constantLong "HopYardModel" 124 (111 : Int64) ∈ lw_tg := List.mem_filter.mpr ⟨List.mem_append_right _ (List.mem_of_getElem? (i := 811) rfl), rfl⟩
set_option maxRecDepth 20000 in
theorem tw_845 : Cond.methodLink RX11 126 yX11_dryingBy ∈ lw_tg := List.mem_filter.mpr ⟨List.mem_append_right _ (List.mem_of_getElem? (i := 812) rfl), rfl⟩
set_option maxRecDepth 20000 in
theorem tw_846 : Cond.static yX11_dryingBy ∈ lw_tg := List.mem_filter.mpr ⟨List.mem_append_right _ (List.mem_of_getElem? (i := 813) rfl), rfl⟩
set_option maxRecDepth 20000 in
theorem tw_847 : Cond.code yX11_dryingBy cX11_dryingBy 3 (some FieldType.int) ∈ lw_tg := List.mem_filter.mpr ⟨List.mem_append_right _ (List.mem_of_getElem? (i := 814) rfl), rfl⟩
set_option maxRecDepth 20000 in
theorem tw_848 : Cond.methodLink RL 43 yX11_waits ∈ lw_tg := List.mem_filter.mpr ⟨List.mem_append_right _ (List.mem_of_getElem? (i := 815) rfl), rfl⟩
set_option maxRecDepth 20000 in
theorem tw_849 : Cond.instanceMethod yX11_waits ∈ lw_tg := List.mem_filter.mpr ⟨List.mem_append_right _ (List.mem_of_getElem? (i := 816) rfl), rfl⟩
set_option maxRecDepth 20000 in
theorem tw_850 : Cond.selects RX11 yX11_waits yX11_waits ∈ lw_tg := List.mem_filter.mpr ⟨List.mem_append_right _ (List.mem_of_getElem? (i := 817) rfl), rfl⟩
set_option maxRecDepth 20000 in
theorem tw_851 : Cond.code yX11_waits cX11_waits 3 (some FieldType.int) ∈ lw_tg := List.mem_filter.mpr ⟨List.mem_append_right _ (List.mem_of_getElem? (i := 818) rfl), rfl⟩
set_option maxRecDepth 20000 in
theorem tw_852 : Cond.methodLink RL 47 yX11_hours ∈ lw_tg := List.mem_filter.mpr ⟨List.mem_append_right _ (List.mem_of_getElem? (i := 819) rfl), rfl⟩
set_option maxRecDepth 20000 in
theorem tw_853 : Cond.instanceMethod yX11_hours ∈ lw_tg := List.mem_filter.mpr ⟨List.mem_append_right _ (List.mem_of_getElem? (i := 820) rfl), rfl⟩
set_option maxRecDepth 20000 in
theorem tw_854 : Cond.selects RX11 yX11_hours yX11_hours ∈ lw_tg := List.mem_filter.mpr ⟨List.mem_append_right _ (List.mem_of_getElem? (i := 821) rfl), rfl⟩
set_option maxRecDepth 20000 in
theorem tw_855 : Cond.code yX11_hours cX11_hours 3 (some FieldType.int) ∈ lw_tg := List.mem_filter.mpr ⟨List.mem_append_right _ (List.mem_of_getElem? (i := 822) rfl), rfl⟩
set_option maxRecDepth 20000 in
theorem tw_856 : Cond.methodLink RX11 169 yX11_oneHour ∈ lw_tg := List.mem_filter.mpr ⟨List.mem_append_right _ (List.mem_of_getElem? (i := 823) rfl), rfl⟩
set_option maxRecDepth 20000 in
theorem tw_857 : Cond.privateMethod yX11_oneHour ∈ lw_tbl := List.mem_append_right _ (List.mem_of_getElem? (i := 824) rfl)
set_option maxRecDepth 20000 in
theorem tw_858 : Cond.instanceMethod yX11_oneHour ∈ lw_tg := List.mem_filter.mpr ⟨List.mem_append_right _ (List.mem_of_getElem? (i := 825) rfl), rfl⟩
set_option maxRecDepth 20000 in
theorem tw_859 : Cond.code yX11_oneHour cX11_oneHour 2 none ∈ lw_tg := List.mem_filter.mpr ⟨List.mem_append_right _ (List.mem_of_getElem? (i := 826) rfl), rfl⟩
set_option maxRecDepth 20000 in
theorem tw_860 : Cond.methodLink RX11 157 yX11_picks ∈ lw_tg := List.mem_filter.mpr ⟨List.mem_append_right _ (List.mem_of_getElem? (i := 827) rfl), rfl⟩
set_option maxRecDepth 20000 in
theorem tw_861 : Cond.privateMethod yX11_picks ∈ lw_tbl := List.mem_append_right _ (List.mem_of_getElem? (i := 828) rfl)
set_option maxRecDepth 20000 in
theorem tw_862 : Cond.instanceMethod yX11_picks ∈ lw_tg := List.mem_filter.mpr ⟨List.mem_append_right _ (List.mem_of_getElem? (i := 829) rfl), rfl⟩
set_option maxRecDepth 20000 in
theorem tw_863 : Cond.code yX11_picks cX11_picks 5 none ∈ lw_tg := List.mem_filter.mpr ⟨List.mem_append_right _ (List.mem_of_getElem? (i := 830) rfl), rfl⟩
set_option maxRecDepth 20000 in
theorem tw_864 : Cond.methodLink RX11 136 yX11_isRipe ∈ lw_tg := List.mem_filter.mpr ⟨List.mem_append_right _ (List.mem_of_getElem? (i := 831) rfl), rfl⟩
set_option maxRecDepth 20000 in
theorem tw_865 : Cond.privateMethod yX11_isRipe ∈ lw_tbl := List.mem_append_right _ (List.mem_of_getElem? (i := 832) rfl)
set_option maxRecDepth 20000 in
theorem tw_866 : Cond.instanceMethod yX11_isRipe ∈ lw_tg := List.mem_filter.mpr ⟨List.mem_append_right _ (List.mem_of_getElem? (i := 833) rfl), rfl⟩
set_option maxRecDepth 20000 in
theorem tw_867 : Cond.code yX11_isRipe cX11_isRipe 3 (some FieldType.boolean) ∈ lw_tg := List.mem_filter.mpr ⟨List.mem_append_right _ (List.mem_of_getElem? (i := 834) rfl), rfl⟩
set_option maxRecDepth 20000 in
theorem tw_868 : Cond.methodLink RX11 140 yX11_priceAt ∈ lw_tg := List.mem_filter.mpr ⟨List.mem_append_right _ (List.mem_of_getElem? (i := 835) rfl), rfl⟩
set_option maxRecDepth 20000 in
theorem tw_869 : Cond.privateMethod yX11_priceAt ∈ lw_tbl := List.mem_append_right _ (List.mem_of_getElem? (i := 836) rfl)
set_option maxRecDepth 20000 in
theorem tw_870 : Cond.instanceMethod yX11_priceAt ∈ lw_tg := List.mem_filter.mpr ⟨List.mem_append_right _ (List.mem_of_getElem? (i := 837) rfl), rfl⟩
set_option maxRecDepth 20000 in
theorem tw_871 : Cond.code yX11_priceAt cX11_priceAt 4 (some FieldType.int) ∈ lw_tg := List.mem_filter.mpr ⟨List.mem_append_right _ (List.mem_of_getElem? (i := 838) rfl), rfl⟩
set_option maxRecDepth 20000 in
theorem tw_872 : Cond.methodLink RX11 160 yX11_dries ∈ lw_tg := List.mem_filter.mpr ⟨List.mem_append_right _ (List.mem_of_getElem? (i := 839) rfl), rfl⟩
set_option maxRecDepth 20000 in
theorem tw_873 : Cond.privateMethod yX11_dries ∈ lw_tbl := List.mem_append_right _ (List.mem_of_getElem? (i := 840) rfl)
set_option maxRecDepth 20000 in
theorem tw_874 : Cond.instanceMethod yX11_dries ∈ lw_tg := List.mem_filter.mpr ⟨List.mem_append_right _ (List.mem_of_getElem? (i := 841) rfl), rfl⟩
set_option maxRecDepth 20000 in
theorem tw_875 : Cond.code yX11_dries cX11_dries 3 none ∈ lw_tg := List.mem_filter.mpr ⟨List.mem_append_right _ (List.mem_of_getElem? (i := 842) rfl), rfl⟩
set_option maxRecDepth 20000 in
theorem tw_876 : Cond.methodLink RX11 153 yX11_presses ∈ lw_tg := List.mem_filter.mpr ⟨List.mem_append_right _ (List.mem_of_getElem? (i := 843) rfl), rfl⟩
set_option maxRecDepth 20000 in
theorem tw_877 : Cond.privateMethod yX11_presses ∈ lw_tbl := List.mem_append_right _ (List.mem_of_getElem? (i := 844) rfl)
set_option maxRecDepth 20000 in
theorem tw_878 : Cond.instanceMethod yX11_presses ∈ lw_tg := List.mem_filter.mpr ⟨List.mem_append_right _ (List.mem_of_getElem? (i := 845) rfl), rfl⟩
set_option maxRecDepth 20000 in
theorem tw_879 : Cond.code yX11_presses cX11_presses 2 none ∈ lw_tg := List.mem_filter.mpr ⟨List.mem_append_right _ (List.mem_of_getElem? (i := 846) rfl), rfl⟩
set_option maxRecDepth 20000 in
theorem tw_880 : Cond.methodLink RX11 163 yX11_spoils ∈ lw_tg := List.mem_filter.mpr ⟨List.mem_append_right _ (List.mem_of_getElem? (i := 847) rfl), rfl⟩
set_option maxRecDepth 20000 in
theorem tw_881 : Cond.privateMethod yX11_spoils ∈ lw_tbl := List.mem_append_right _ (List.mem_of_getElem? (i := 848) rfl)
set_option maxRecDepth 20000 in
theorem tw_882 : Cond.instanceMethod yX11_spoils ∈ lw_tg := List.mem_filter.mpr ⟨List.mem_append_right _ (List.mem_of_getElem? (i := 849) rfl), rfl⟩
set_option maxRecDepth 20000 in
theorem tw_883 : Cond.code yX11_spoils cX11_spoils 3 none ∈ lw_tg := List.mem_filter.mpr ⟨List.mem_append_right _ (List.mem_of_getElem? (i := 850) rfl), rfl⟩
set_option maxRecDepth 20000 in
theorem tw_884 : Cond.methodLink RX11 166 yX11_takes ∈ lw_tg := List.mem_filter.mpr ⟨List.mem_append_right _ (List.mem_of_getElem? (i := 851) rfl), rfl⟩
set_option maxRecDepth 20000 in
theorem tw_885 : Cond.privateMethod yX11_takes ∈ lw_tbl := List.mem_append_right _ (List.mem_of_getElem? (i := 852) rfl)
set_option maxRecDepth 20000 in
theorem tw_886 : Cond.instanceMethod yX11_takes ∈ lw_tg := List.mem_filter.mpr ⟨List.mem_append_right _ (List.mem_of_getElem? (i := 853) rfl), rfl⟩
set_option maxRecDepth 20000 in
theorem tw_887 : Cond.code yX11_takes cX11_takes 4 none ∈ lw_tg := List.mem_filter.mpr ⟨List.mem_append_right _ (List.mem_of_getElem? (i := 854) rfl), rfl⟩
set_option maxRecDepth 20000 in
theorem tw_888 : Cond.methodLink RL 51 yX11_about ∈ lw_tg := List.mem_filter.mpr ⟨List.mem_append_right _ (List.mem_of_getElem? (i := 855) rfl), rfl⟩
set_option maxRecDepth 20000 in
theorem tw_889 : Cond.instanceMethod yX11_about ∈ lw_tg := List.mem_filter.mpr ⟨List.mem_append_right _ (List.mem_of_getElem? (i := 856) rfl), rfl⟩
set_option maxRecDepth 20000 in
theorem tw_890 : Cond.selects RX11 yX11_about yX11_about ∈ lw_tg := List.mem_filter.mpr ⟨List.mem_append_right _ (List.mem_of_getElem? (i := 857) rfl), rfl⟩
set_option maxRecDepth 20000 in
theorem tw_891 : Cond.code yX11_about cX11_about 3 (some FieldType.int) ∈ lw_tg := List.mem_filter.mpr ⟨List.mem_append_right _ (List.mem_of_getElem? (i := 858) rfl), rfl⟩
set_option maxRecDepth 20000 in
theorem tw_892 : Cond.methodLink RX11 172 yX11_greenOf ∈ lw_tg := List.mem_filter.mpr ⟨List.mem_append_right _ (List.mem_of_getElem? (i := 859) rfl), rfl⟩
set_option maxRecDepth 20000 in
theorem tw_893 : Cond.privateMethod yX11_greenOf ∈ lw_tbl := List.mem_append_right _ (List.mem_of_getElem? (i := 860) rfl)
set_option maxRecDepth 20000 in
theorem tw_894 : Cond.instanceMethod yX11_greenOf ∈ lw_tg := List.mem_filter.mpr ⟨List.mem_append_right _ (List.mem_of_getElem? (i := 861) rfl), rfl⟩
set_option maxRecDepth 20000 in
theorem tw_895 : Cond.code yX11_greenOf cX11_greenOf 4 (some FieldType.int) ∈ lw_tg := List.mem_filter.mpr ⟨List.mem_append_right _ (List.mem_of_getElem? (i := 862) rfl), rfl⟩
set_option maxRecDepth 20000 in
theorem tw_896 : Cond.methodLink RX11 175 yX11_inKilns ∈ lw_tg := List.mem_filter.mpr ⟨List.mem_append_right _ (List.mem_of_getElem? (i := 863) rfl), rfl⟩
set_option maxRecDepth 20000 in
theorem tw_897 : Cond.privateMethod yX11_inKilns ∈ lw_tbl := List.mem_append_right _ (List.mem_of_getElem? (i := 864) rfl)
set_option maxRecDepth 20000 in
theorem tw_898 : Cond.instanceMethod yX11_inKilns ∈ lw_tg := List.mem_filter.mpr ⟨List.mem_append_right _ (List.mem_of_getElem? (i := 865) rfl), rfl⟩
set_option maxRecDepth 20000 in
theorem tw_899 : Cond.code yX11_inKilns cX11_inKilns 5 (some FieldType.int) ∈ lw_tg := List.mem_filter.mpr ⟨List.mem_append_right _ (List.mem_of_getElem? (i := 866) rfl), rfl⟩
set_option maxRecDepth 20000 in
theorem tw_900 : Cond.methodLink RL 55 yX11_tally ∈ lw_tg := List.mem_filter.mpr ⟨List.mem_append_right _ (List.mem_of_getElem? (i := 867) rfl), rfl⟩
set_option maxRecDepth 20000 in
theorem tw_901 : Cond.instanceMethod yX11_tally ∈ lw_tg := List.mem_filter.mpr ⟨List.mem_append_right _ (List.mem_of_getElem? (i := 868) rfl), rfl⟩
set_option maxRecDepth 20000 in
theorem tw_902 : Cond.selects RX11 yX11_tally yX11_tally ∈ lw_tg := List.mem_filter.mpr ⟨List.mem_append_right _ (List.mem_of_getElem? (i := 869) rfl), rfl⟩
set_option maxRecDepth 20000 in
theorem tw_903 : Cond.code yX11_tally cX11_tally 3 (some FieldType.int) ∈ lw_tg := List.mem_filter.mpr ⟨List.mem_append_right _ (List.mem_of_getElem? (i := 870) rfl), rfl⟩
set_option maxRecDepth 20000 in
theorem tw_904 : Cond.methodLink RL 59 yX11_in ∈ lw_tg := List.mem_filter.mpr ⟨List.mem_append_right _ (List.mem_of_getElem? (i := 871) rfl), rfl⟩
set_option maxRecDepth 20000 in
theorem tw_905 : Cond.instanceMethod yX11_in ∈ lw_tg := List.mem_filter.mpr ⟨List.mem_append_right _ (List.mem_of_getElem? (i := 872) rfl), rfl⟩
set_option maxRecDepth 20000 in
theorem tw_906 : Cond.selects RX11 yX11_in yX11_in ∈ lw_tg := List.mem_filter.mpr ⟨List.mem_append_right _ (List.mem_of_getElem? (i := 873) rfl), rfl⟩
set_option maxRecDepth 20000 in
theorem tw_907 : Cond.code yX11_in cX11_in 5 (some FieldType.int) ∈ lw_tg := List.mem_filter.mpr ⟨List.mem_append_right _ (List.mem_of_getElem? (i := 874) rfl), rfl⟩
set_option maxRecDepth 20000 in
theorem tw_908 : Cond.methodLink RL 63 yX11_green ∈ lw_tg := List.mem_filter.mpr ⟨List.mem_append_right _ (List.mem_of_getElem? (i := 875) rfl), rfl⟩
set_option maxRecDepth 20000 in
theorem tw_909 : Cond.instanceMethod yX11_green ∈ lw_tg := List.mem_filter.mpr ⟨List.mem_append_right _ (List.mem_of_getElem? (i := 876) rfl), rfl⟩
set_option maxRecDepth 20000 in
theorem tw_910 : Cond.selects RX11 yX11_green yX11_green ∈ lw_tg := List.mem_filter.mpr ⟨List.mem_append_right _ (List.mem_of_getElem? (i := 877) rfl), rfl⟩
set_option maxRecDepth 20000 in
theorem tw_911 : Cond.code yX11_green cX11_green 5 (some FieldType.int) ∈ lw_tg := List.mem_filter.mpr ⟨List.mem_append_right _ (List.mem_of_getElem? (i := 878) rfl), rfl⟩
set_option maxRecDepth 20000 in
theorem tw_912 : Cond.methodLink RL 67 yX11_pocket ∈ lw_tg := List.mem_filter.mpr ⟨List.mem_append_right _ (List.mem_of_getElem? (i := 879) rfl), rfl⟩
set_option maxRecDepth 20000 in
theorem tw_913 : Cond.instanceMethod yX11_pocket ∈ lw_tg := List.mem_filter.mpr ⟨List.mem_append_right _ (List.mem_of_getElem? (i := 880) rfl), rfl⟩
set_option maxRecDepth 20000 in
theorem tw_914 : Cond.selects RX11 yX11_pocket yX11_pocket ∈ lw_tg := List.mem_filter.mpr ⟨List.mem_append_right _ (List.mem_of_getElem? (i := 881) rfl), rfl⟩
set_option maxRecDepth 20000 in
theorem tw_915 : Cond.code yX11_pocket cX11_pocket 3 (some FieldType.int) ∈ lw_tg := List.mem_filter.mpr ⟨List.mem_append_right _ (List.mem_of_getElem? (i := 882) rfl), rfl⟩
set_option maxRecDepth 20000 in
theorem tw_916 : Cond.methodLink RX11 178 yX11_ledPockets ∈ lw_tg := List.mem_filter.mpr ⟨List.mem_append_right _ (List.mem_of_getElem? (i := 883) rfl), rfl⟩
set_option maxRecDepth 20000 in
theorem tw_917 : Cond.privateMethod yX11_ledPockets ∈ lw_tbl := List.mem_append_right _ (List.mem_of_getElem? (i := 884) rfl)
set_option maxRecDepth 20000 in
theorem tw_918 : Cond.instanceMethod yX11_ledPockets ∈ lw_tg := List.mem_filter.mpr ⟨List.mem_append_right _ (List.mem_of_getElem? (i := 885) rfl), rfl⟩
set_option maxRecDepth 20000 in
theorem tw_919 : Cond.code yX11_ledPockets cX11_ledPockets 1 (some FieldType.int) ∈ lw_tg := List.mem_filter.mpr ⟨List.mem_append_right _ (List.mem_of_getElem? (i := 886) rfl), rfl⟩
set_option maxRecDepth 20000 in
theorem tw_920 : Cond.methodLink RX11 182 yX11_dutyOn ∈ lw_tg := List.mem_filter.mpr ⟨List.mem_append_right _ (List.mem_of_getElem? (i := 887) rfl), rfl⟩
set_option maxRecDepth 20000 in
theorem tw_921 : Cond.privateMethod yX11_dutyOn ∈ lw_tbl := List.mem_append_right _ (List.mem_of_getElem? (i := 888) rfl)
set_option maxRecDepth 20000 in
theorem tw_922 : Cond.instanceMethod yX11_dutyOn ∈ lw_tg := List.mem_filter.mpr ⟨List.mem_append_right _ (List.mem_of_getElem? (i := 889) rfl), rfl⟩
set_option maxRecDepth 20000 in
theorem tw_923 : Cond.code yX11_dutyOn cX11_dutyOn 4 (some FieldType.int) ∈ lw_tg := List.mem_filter.mpr ⟨List.mem_append_right _ (List.mem_of_getElem? (i := 890) rfl), rfl⟩
set_option maxRecDepth 20000 in
theorem tw_924 : Cond.methodLink RL 71 yX11_count ∈ lw_tg := List.mem_filter.mpr ⟨List.mem_append_right _ (List.mem_of_getElem? (i := 891) rfl), rfl⟩
set_option maxRecDepth 20000 in
theorem tw_925 : Cond.instanceMethod yX11_count ∈ lw_tg := List.mem_filter.mpr ⟨List.mem_append_right _ (List.mem_of_getElem? (i := 892) rfl), rfl⟩
set_option maxRecDepth 20000 in
theorem tw_926 : Cond.selects RX11 yX11_count yX11_count ∈ lw_tg := List.mem_filter.mpr ⟨List.mem_append_right _ (List.mem_of_getElem? (i := 893) rfl), rfl⟩
set_option maxRecDepth 20000 in
theorem tw_927 : Cond.code yX11_count cX11_count 4 (some FieldType.int) ∈ lw_tg := List.mem_filter.mpr ⟨List.mem_append_right _ (List.mem_of_getElem? (i := 894) rfl), rfl⟩
set_option maxRecDepth 20000 in
theorem tw_928 : Cond.methodLink RL 75 yX11_price ∈ lw_tg := List.mem_filter.mpr ⟨List.mem_append_right _ (List.mem_of_getElem? (i := 895) rfl), rfl⟩
set_option maxRecDepth 20000 in
theorem tw_929 : Cond.instanceMethod yX11_price ∈ lw_tg := List.mem_filter.mpr ⟨List.mem_append_right _ (List.mem_of_getElem? (i := 896) rfl), rfl⟩
set_option maxRecDepth 20000 in
theorem tw_930 : Cond.selects RX11 yX11_price yX11_price ∈ lw_tg := List.mem_filter.mpr ⟨List.mem_append_right _ (List.mem_of_getElem? (i := 897) rfl), rfl⟩
set_option maxRecDepth 20000 in
theorem tw_931 : Cond.code yX11_price cX11_price 3 (some FieldType.int) ∈ lw_tg := List.mem_filter.mpr ⟨List.mem_append_right _ (List.mem_of_getElem? (i := 898) rfl), rfl⟩
set_option maxRecDepth 20000 in
theorem tw_932 : Cond.methodLink RL 79 yX11_priced ∈ lw_tg := List.mem_filter.mpr ⟨List.mem_append_right _ (List.mem_of_getElem? (i := 899) rfl), rfl⟩
set_option maxRecDepth 20000 in
theorem tw_933 : Cond.instanceMethod yX11_priced ∈ lw_tg := List.mem_filter.mpr ⟨List.mem_append_right _ (List.mem_of_getElem? (i := 900) rfl), rfl⟩
set_option maxRecDepth 20000 in
theorem tw_934 : Cond.selects RX11 yX11_priced yX11_priced ∈ lw_tg := List.mem_filter.mpr ⟨List.mem_append_right _ (List.mem_of_getElem? (i := 901) rfl), rfl⟩
set_option maxRecDepth 20000 in
theorem tw_935 : Cond.code yX11_priced cX11_priced 2 (some FieldType.int) ∈ lw_tg := List.mem_filter.mpr ⟨List.mem_append_right _ (List.mem_of_getElem? (i := 902) rfl), rfl⟩
set_option maxRecDepth 20000 in
theorem tw_936 : Cond.methodLink RL 83 yX11_act ∈ lw_tg := List.mem_filter.mpr ⟨List.mem_append_right _ (List.mem_of_getElem? (i := 903) rfl), rfl⟩
set_option maxRecDepth 20000 in
theorem tw_937 : Cond.instanceMethod yX11_act ∈ lw_tg := List.mem_filter.mpr ⟨List.mem_append_right _ (List.mem_of_getElem? (i := 904) rfl), rfl⟩
set_option maxRecDepth 20000 in
theorem tw_938 : Cond.selects RX11 yX11_act yX11_act ∈ lw_tg := List.mem_filter.mpr ⟨List.mem_append_right _ (List.mem_of_getElem? (i := 905) rfl), rfl⟩
set_option maxRecDepth 20000 in
theorem tw_939 : Cond.code yX11_act cX11_act 3 (some FieldType.int) ∈ lw_tg := List.mem_filter.mpr ⟨List.mem_append_right _ (List.mem_of_getElem? (i := 906) rfl), rfl⟩
set_option maxRecDepth 20000 in
theorem tw_940 : Cond.methodLink RL 87 yX11_duty ∈ lw_tg := List.mem_filter.mpr ⟨List.mem_append_right _ (List.mem_of_getElem? (i := 907) rfl), rfl⟩
set_option maxRecDepth 20000 in
theorem tw_941 : Cond.instanceMethod yX11_duty ∈ lw_tg := List.mem_filter.mpr ⟨List.mem_append_right _ (List.mem_of_getElem? (i := 908) rfl), rfl⟩
set_option maxRecDepth 20000 in
theorem tw_942 : Cond.selects RX11 yX11_duty yX11_duty ∈ lw_tg := List.mem_filter.mpr ⟨List.mem_append_right _ (List.mem_of_getElem? (i := 909) rfl), rfl⟩
set_option maxRecDepth 20000 in
theorem tw_943 : Cond.code yX11_duty cX11_duty 2 (some FieldType.int) ∈ lw_tg := List.mem_filter.mpr ⟨List.mem_append_right _ (List.mem_of_getElem? (i := 910) rfl), rfl⟩
set_option maxRecDepth 20000 in
theorem tw_944 : Cond.methodLink RL 92 yX11_bound ∈ lw_tg := List.mem_filter.mpr ⟨List.mem_append_right _ (List.mem_of_getElem? (i := 911) rfl), rfl⟩
set_option maxRecDepth 20000 in
theorem tw_945 : Cond.instanceMethod yX11_bound ∈ lw_tg := List.mem_filter.mpr ⟨List.mem_append_right _ (List.mem_of_getElem? (i := 912) rfl), rfl⟩
set_option maxRecDepth 20000 in
theorem tw_946 : Cond.selects RX11 yX11_bound yX11_bound ∈ lw_tg := List.mem_filter.mpr ⟨List.mem_append_right _ (List.mem_of_getElem? (i := 913) rfl), rfl⟩
set_option maxRecDepth 20000 in
theorem tw_947 : Cond.code yX11_bound cX11_bound 4 (some FieldType.int) ∈ lw_tg := List.mem_filter.mpr ⟨List.mem_append_right _ (List.mem_of_getElem? (i := 914) rfl), rfl⟩
set_option maxRecDepth 20000 in
theorem tw_948 : Cond.methodLink RL 96 yX11_most ∈ lw_tg := List.mem_filter.mpr ⟨List.mem_append_right _ (List.mem_of_getElem? (i := 915) rfl), rfl⟩
set_option maxRecDepth 20000 in
theorem tw_949 : Cond.instanceMethod yX11_most ∈ lw_tg := List.mem_filter.mpr ⟨List.mem_append_right _ (List.mem_of_getElem? (i := 916) rfl), rfl⟩
set_option maxRecDepth 20000 in
theorem tw_950 : Cond.selects RX11 yX11_most yX11_most ∈ lw_tg := List.mem_filter.mpr ⟨List.mem_append_right _ (List.mem_of_getElem? (i := 917) rfl), rfl⟩
set_option maxRecDepth 20000 in
theorem tw_951 : Cond.code yX11_most cX11_most 8 (some FieldType.int) ∈ lw_tg := List.mem_filter.mpr ⟨List.mem_append_right _ (List.mem_of_getElem? (i := 918) rfl), rfl⟩
set_option maxRecDepth 20000 in
theorem tw_952 : Cond.methodLink RX11 185 yX11_picksBy ∈ lw_tg := List.mem_filter.mpr ⟨List.mem_append_right _ (List.mem_of_getElem? (i := 919) rfl), rfl⟩
set_option maxRecDepth 20000 in
theorem tw_953 : Cond.privateMethod yX11_picksBy ∈ lw_tbl := List.mem_append_right _ (List.mem_of_getElem? (i := 920) rfl)
set_option maxRecDepth 20000 in
theorem tw_954 : Cond.instanceMethod yX11_picksBy ∈ lw_tg := List.mem_filter.mpr ⟨List.mem_append_right _ (List.mem_of_getElem? (i := 921) rfl), rfl⟩
set_option maxRecDepth 20000 in
theorem tw_955 : Cond.code yX11_picksBy cX11_picksBy 7 (some FieldType.int) ∈ lw_tg := List.mem_filter.mpr ⟨List.mem_append_right _ (List.mem_of_getElem? (i := 922) rfl), rfl⟩
set_option maxRecDepth 20000 in
theorem tw_956 : Cond.methodLink RL 101 yX11_trace ∈ lw_tg := List.mem_filter.mpr ⟨List.mem_append_right _ (List.mem_of_getElem? (i := 923) rfl), rfl⟩
set_option maxRecDepth 20000 in
theorem tw_957 : Cond.instanceMethod yX11_trace ∈ lw_tg := List.mem_filter.mpr ⟨List.mem_append_right _ (List.mem_of_getElem? (i := 924) rfl), rfl⟩
set_option maxRecDepth 20000 in
theorem tw_958 : Cond.selects RX11 yX11_trace yX11_trace ∈ lw_tg := List.mem_filter.mpr ⟨List.mem_append_right _ (List.mem_of_getElem? (i := 925) rfl), rfl⟩
set_option maxRecDepth 20000 in
theorem tw_959 : Cond.code yX11_trace cX11_trace 1 (some FieldType.long) ∈ lw_tg := List.mem_filter.mpr ⟨List.mem_append_right _ (List.mem_of_getElem? (i := 926) rfl), rfl⟩
set_option maxRecDepth 20000 in
theorem tw_960 : Cond.sameMethod "HopYard$Draught" "HopYard$Draught" "marks" "()I" ∈ lw_tg := List.mem_filter.mpr ⟨List.mem_append_right _ (List.mem_of_getElem? (i := 927) rfl), rfl⟩
set_option maxRecDepth 20000 in
theorem tw_961 : Cond.sameMethod "HopYard$Draught" "HopYard$Draught" "dries" "(I)I" ∈ lw_tg := List.mem_filter.mpr ⟨List.mem_append_right _ (List.mem_of_getElem? (i := 928) rfl), rfl⟩
set_option maxRecDepth 20000 in
theorem tw_962 : Cond.castable "HopYard" "java/lang/Object" ∈ lw_tbl := List.mem_append_right _ (List.mem_of_getElem? (i := 929) rfl)
set_option maxRecDepth 20000 in
theorem tw_963 : Cond.castable "java/util/ArrayList" "java/lang/Object" ∈ lw_tbl := List.mem_append_right _ (List.mem_of_getElem? (i := 930) rfl)
set_option maxRecDepth 20000 in
theorem tw_964 : Cond.castable "HopYard$GreenHops" "java/lang/Object" ∈ lw_tbl := List.mem_append_right _ (List.mem_of_getElem? (i := 931) rfl)
set_option maxRecDepth 20000 in
theorem tw_965 : Cond.castable "HopYard$Press" "java/lang/Object" ∈ lw_tbl := List.mem_append_right _ (List.mem_of_getElem? (i := 932) rfl)
set_option maxRecDepth 20000 in
theorem tw_966 : Cond.castable "HopYard$Notices" "java/lang/Object" ∈ lw_tbl := List.mem_append_right _ (List.mem_of_getElem? (i := 933) rfl)
set_option maxRecDepth 20000 in
theorem tw_967 : Cond.castable "HopYard$Allotment" "java/lang/Object" ∈ lw_tbl := List.mem_append_right _ (List.mem_of_getElem? (i := 934) rfl)
set_option maxRecDepth 20000 in
theorem tw_968 : Cond.castable "HopYardModel" "java/lang/Object" ∈ lw_tbl := List.mem_append_right _ (List.mem_of_getElem? (i := 935) rfl)
set_option maxRecDepth 20000 in
theorem tw_969 : Cond.castable "HopYard$Garden" "java/lang/Object" ∈ lw_tbl := List.mem_append_right _ (List.mem_of_getElem? (i := 936) rfl)
set_option maxRecDepth 20000 in
theorem tw_970 : Cond.castable "HopYard$Gang" "java/lang/Object" ∈ lw_tbl := List.mem_append_right _ (List.mem_of_getElem? (i := 937) rfl)
set_option maxRecDepth 20000 in
theorem tw_971 : Cond.castable "HopYard$Kiln" "java/lang/Object" ∈ lw_tbl := List.mem_append_right _ (List.mem_of_getElem? (i := 938) rfl)
set_option maxRecDepth 20000 in
theorem tw_972 : Cond.castable "HopYard$Draught" "java/lang/Object" ∈ lw_tbl := List.mem_append_right _ (List.mem_of_getElem? (i := 939) rfl)
set_option maxRecDepth 20000 in
theorem tw_973 : Cond.castable "HopYard$Doubled" "java/lang/Object" ∈ lw_tbl := List.mem_append_right _ (List.mem_of_getElem? (i := 940) rfl)
set_option maxRecDepth 20000 in
theorem tw_974 : Cond.castable "HopYard$Plain" "java/lang/Object" ∈ lw_tbl := List.mem_append_right _ (List.mem_of_getElem? (i := 941) rfl)
set_option maxRecDepth 20000 in
theorem tw_975 : Cond.sameMethod "[Ljava/lang/Object;" "java/lang/Object" "getClass" "()Ljava/lang/Class;" ∈ lw_tg := List.mem_filter.mpr ⟨List.mem_append_right _ (List.mem_of_getElem? (i := 942) rfl), rfl⟩
set_option maxRecDepth 20000 in
theorem tw_976 : Cond.selects "[Ljava/lang/Object;" ⟨"java/lang/Object", "getClass", "()Ljava/lang/Class;"⟩ ⟨"java/lang/Object", "getClass", "()Ljava/lang/Class;"⟩ ∈ lw_tg := List.mem_filter.mpr ⟨List.mem_append_right _ (List.mem_of_getElem? (i := 943) rfl), rfl⟩
set_option maxRecDepth 20000 in
theorem tw_977 : Cond.declares ⟨"java/lang/Object", "getClass", "()Ljava/lang/Class;"⟩ ∈ lw_tbl := List.mem_append_right _ (List.mem_of_getElem? (i := 944) rfl)
set_option maxRecDepth 20000 in
theorem tw_978 : Cond.castable "[I" "java/lang/Object" ∈ lw_tbl := List.mem_append_right _ (List.mem_of_getElem? (i := 945) rfl)
set_option maxRecDepth 20000 in
theorem tw_979 : Cond.castable "[Ljava/lang/Object;" "java/lang/Object" ∈ lw_tbl := List.mem_append_right _ (List.mem_of_getElem? (i := 946) rfl)
set_option maxRecDepth 20000 in
theorem tw_good : ∀ w ∈ lw_tg, goodWord w = true := fun _ h => (List.mem_filter.mp h).2
set_option maxRecDepth 20000 in
theorem tw_cl0 : ∀ w ∈ u_ws RJx4a65c TJx4a65c 3, w ∈ lw_tg := fun w h => List.mem_filter.mpr ⟨(show ∀ w ∈ u_ws RJx4a65c TJx4a65c 3, w ∈ lw_tbl by decide +kernel) w h, (show ∀ w ∈ u_ws RJx4a65c TJx4a65c 3, goodWord w = true by decide +kernel) w h⟩
set_option maxRecDepth 20000 in
theorem tw_cl1 : ∀ w ∈ u_ws RX0 TX0 4, w ∈ lw_tg := fun w h => List.mem_filter.mpr ⟨(show ∀ w ∈ u_ws RX0 TX0 4, w ∈ lw_tbl by decide +kernel) w h, (show ∀ w ∈ u_ws RX0 TX0 4, goodWord w = true by decide +kernel) w h⟩
set_option maxRecDepth 20000 in
theorem tw_cl2 : ∀ w ∈ u_ws RX1 TX1 0, w ∈ lw_tg := fun w h => List.mem_filter.mpr ⟨(show ∀ w ∈ u_ws RX1 TX1 0, w ∈ lw_tbl by decide +kernel) w h, (show ∀ w ∈ u_ws RX1 TX1 0, goodWord w = true by decide +kernel) w h⟩
set_option maxRecDepth 20000 in
theorem tw_cl3 : ∀ w ∈ u_ws RX2 TX2 0, w ∈ lw_tg := fun w h => List.mem_filter.mpr ⟨(show ∀ w ∈ u_ws RX2 TX2 0, w ∈ lw_tbl by decide +kernel) w h, (show ∀ w ∈ u_ws RX2 TX2 0, goodWord w = true by decide +kernel) w h⟩
set_option maxRecDepth 20000 in
theorem tw_cl4 : ∀ w ∈ u_ws RX3 TX3 6, w ∈ lw_tg := fun w h => List.mem_filter.mpr ⟨(show ∀ w ∈ u_ws RX3 TX3 6, w ∈ lw_tbl by decide +kernel) w h, (show ∀ w ∈ u_ws RX3 TX3 6, goodWord w = true by decide +kernel) w h⟩
set_option maxRecDepth 20000 in
theorem tw_cl5 : ∀ w ∈ u_ws RX4 TX4 6, w ∈ lw_tg := fun w h => List.mem_filter.mpr ⟨(show ∀ w ∈ u_ws RX4 TX4 6, w ∈ lw_tbl by decide +kernel) w h, (show ∀ w ∈ u_ws RX4 TX4 6, goodWord w = true by decide +kernel) w h⟩
set_option maxRecDepth 20000 in
theorem tw_cl6 : ∀ w ∈ u_ws RX5 TX5 2, w ∈ lw_tg := fun w h => List.mem_filter.mpr ⟨(show ∀ w ∈ u_ws RX5 TX5 2, w ∈ lw_tbl by decide +kernel) w h, (show ∀ w ∈ u_ws RX5 TX5 2, goodWord w = true by decide +kernel) w h⟩
set_option maxRecDepth 20000 in
theorem tw_cl7 : ∀ w ∈ u_ws RX6 TX6 8, w ∈ lw_tg := fun w h => List.mem_filter.mpr ⟨(show ∀ w ∈ u_ws RX6 TX6 8, w ∈ lw_tbl by decide +kernel) w h, (show ∀ w ∈ u_ws RX6 TX6 8, goodWord w = true by decide +kernel) w h⟩
set_option maxRecDepth 20000 in
theorem tw_cl8 : ∀ w ∈ u_ws RX7 TX7 4, w ∈ lw_tg := fun w h => List.mem_filter.mpr ⟨(show ∀ w ∈ u_ws RX7 TX7 4, w ∈ lw_tbl by decide +kernel) w h, (show ∀ w ∈ u_ws RX7 TX7 4, goodWord w = true by decide +kernel) w h⟩
set_option maxRecDepth 20000 in
theorem tw_cl9 : ∀ w ∈ u_ws RX8 TX8 0, w ∈ lw_tg := fun w h => List.mem_filter.mpr ⟨(show ∀ w ∈ u_ws RX8 TX8 0, w ∈ lw_tbl by decide +kernel) w h, (show ∀ w ∈ u_ws RX8 TX8 0, goodWord w = true by decide +kernel) w h⟩
set_option maxRecDepth 20000 in
theorem tw_cl10 : ∀ w ∈ u_ws RX9 TX9 5, w ∈ lw_tg := fun w h => List.mem_filter.mpr ⟨(show ∀ w ∈ u_ws RX9 TX9 5, w ∈ lw_tbl by decide +kernel) w h, (show ∀ w ∈ u_ws RX9 TX9 5, goodWord w = true by decide +kernel) w h⟩
set_option maxRecDepth 20000 in
theorem tw_cl11 : ∀ w ∈ u_ws RX10 TX10 11, w ∈ lw_tg := fun w h => List.mem_filter.mpr ⟨(show ∀ w ∈ u_ws RX10 TX10 11, w ∈ lw_tbl by decide +kernel) w h, (show ∀ w ∈ u_ws RX10 TX10 11, goodWord w = true by decide +kernel) w h⟩
set_option maxRecDepth 20000 in
theorem tw_cl12 : ∀ w ∈ u_ws RX11 TX11 37, w ∈ lw_tg := fun w h => List.mem_filter.mpr ⟨(show ∀ w ∈ u_ws RX11 TX11 37, w ∈ lw_tbl by decide +kernel) w h, (show ∀ w ∈ u_ws RX11 TX11 37, goodWord w = true by decide +kernel) w h⟩
end
section
/-! the world by logical places: a place is in the system's half (inl) or the reference's (inr); the ints of all cells are one function of place and slot -/
abbrev hk_D : Type := (va_G × (ClassId × ClassId)) × (Nat × Nat)
abbrev hk_L : Type := (Nat × Nat) ⊕ (Nat × Nat)
abbrev hk_k : Type := Nat ⊕ (Nat ⊕ Nat)
abbrev hk_G : Type := (hk_L → Nat) × ((hk_L → Option hk_k) × (hk_L → Nat → Value))
abbrev hk_V : Type := hk_L → Nat → Int32
def hk_mask : List (List Bool) := [[true, false, true], [false, false, false, true], [], [], [true, true, true, true, true, true], [true, true, true, true, true, true], [false, true], [false, true, false, false, true, true, true, true], [false, false, true, true], [], [false, false, true, true, true], [false, false, false, false, false, false, false, false, true, true, false], [true, true, true, false, false, false, false, false, false, true, false, false, false, false, false, false, false, true, false, false, false, false, false, false, true, false, false, true, true, true, false, false, true, false, false, false, false]]
def hk_int (ci k : Nat) : Bool := (hk_mask.getD ci []).getD k false
def hk_ob (G : hk_G) (iv : hk_V) (ci : Nat) (L : hk_L) : Nat → Value := fun j => if hk_int ci j = true then .int (iv L j) else G.2.2 L j
def hk_at (D : hk_D) (G : hk_G) (iv : hk_V) (L : hk_L) (H : Heap) : hk_k → Prop
  | .inl ci => ∃ r : vw_C, vwCl[ci]? = some r ∧ t_OB (G.1 L) (D.1.1.1 ci) r.2.2 (D.1.1.2 ci) H (hk_ob G iv ci L)
  | .inr (.inl n) => H[G.1 L]? = some (arrV D.1.2.1 n (fun j => .int (iv L j)))
  | .inr (.inr n) => H[G.1 L]? = some (arrV D.1.2.2 n (G.2.2 L))
def hk_A (D : hk_D) : Nat → Prop := fun q => D.2.1 ≤ q
def hk_H (D : hk_D) (G : hk_G) (iv : hk_V) (H : Heap) : Prop := D.2.1 ≤ H.size ∧ (∀ L k, G.2.1 L = some k → hk_at D G iv L H k ∧ D.2.1 ≤ G.1 L) ∧ (∀ L L' k k', G.2.1 L = some k → G.2.1 L' = some k' → G.1 L = G.1 L' → L = L')
def hk_isN : Cond → Bool
  | .castable .. => true
  | .methodLinkNest .. => true
  | _ => false
def hk_nw : List Cond := lw_tbl.filter hk_isN
def hk_K (D : hk_D) (U : State) : Prop := va_K D.1.1 vwCl [(D.1.2.1, .int), (D.1.2.2, .object "java/lang/Object")] U ∧ (∀ w ∈ hk_nw, va_Nw w U) ∧ va_AO "java/lang/Object" U ∧ va_Z "java/util/ArrayList" "DEFAULTCAPACITY_EMPTY_ELEMENTDATA" "[Ljava/lang/Object;" (.ref D.2.2) (hk_A D) U U.heap ∧ va_T (.object "java/lang/Object") D.2.2 0 (fun _ => .null) (hk_A D) U U.heap
theorem hk_nw_moved {w : Cond} (hw : hk_isN w = true) {s U : State} (hW : s.WarmedH U.vm) (h : va_Nw w s) : va_Nw w U := by
  cases w <;> first | (simp [hk_isN] at hw; done) | exact va_Nw.warmC hW h | exact va_Nw.warmM hW h
theorem hk_nw_same {w : Cond} (hw : hk_isN w = true) {s U : State} (e : s.vm = U.vm) (h : va_Nw w s) : va_Nw w U := by
  cases w <;> first | (simp [hk_isN] at hw; done) | exact va_Nw.same rfl e h
theorem hk_K.to {D : hk_D} {s U : State} {H : Heap} {locs : List Loc} (h : hk_K D s) (hS : va_S (hk_A D) s.heap H locs) (hU : U.heap = H) (hW : s.WarmedH U.vm) : hk_K D U := by
  obtain ⟨h1, h2, h3, h4, h5⟩ := h
  subst hU
  exact ⟨va_K.moved hW.alike h1, fun w hw => hk_nw_moved (List.mem_filter.mp hw).2 hW (h2 w hw), va_AO.moved hW.alike h3, va_Z.kept (va_Z.moved hW.alike h4) hS.2.1, va_T.kept (va_T.moved hW.alike h5) hS.2.1⟩
theorem hk_K.calling {D : hk_D} {U : State} {g : JFrame} {mk : MethodId} {a : Array Value} (h : hk_K D U) : hk_K D (U.calling g mk a) := by
  obtain ⟨h1, h2, h3, h4, h5⟩ := h
  have hvm : U.vm.Alike (U.calling g mk a).vm := Vm.Alike.refl U.vm
  exact ⟨va_K.moved hvm h1, fun w hw => hk_nw_same (s := U) (List.mem_filter.mp hw).2 rfl (h2 w hw), va_AO.moved hvm h3, va_Z.moved hvm h4, va_T.moved hvm h5⟩
/-- a method's start; its end: what it answers, where the cells are, the ints behind it -/
def hk_P (D : hk_D) (G : hk_G) (iv : hk_V) (as : List Value) : Array Value → State → Prop := va_Pc as (fun U => hk_K D U ∧ hk_H D G iv U.heap)
def hk_Q (D : hk_D) (P : Option Value → hk_G → hk_V → Prop) : Array Value → State → Outcome → State → Prop := fun _ st oc t => (∃ (v : Option Value) (G : hk_G) (iv : hk_V), oc = .returned v ∧ P v G iv ∧ hk_H D G iv t.heap) ∧ va_F (hk_A D) st t
def hk_e (G : hk_G) (v : Option Value) (iv : hk_V) : Option Value → hk_G → hk_V → Prop := fun v' G' iv' => v = v' ∧ G = G' ∧ iv = iv'
theorem hk_P.blind {D : hk_D} {G : hk_G} {iv : hk_V} {as : List Value} : FrameBlind (hk_P D G iv as) := fun _ _ _ _ h => ⟨h.1, h.2.1.calling, h.2.2⟩
theorem hk_P.mk {D : hk_D} {G : hk_G} {iv : hk_V} {as : List Value} {s : State} {H : Heap} {locs : List Loc} (hK : hk_K D s) (hS : va_S (hk_A D) s.heap H locs) (hH : hk_H D G iv H) : ∀ U : State, U.heap = H → s.WarmedH U.vm → hk_P D G iv as as.toArray U := fun U hU hW => ⟨rfl, hK.to hS hU hW, by rw [hU]; exact hH⟩
abbrev hk_ws (y : MethodName) (bytes : ByteArray) (maxL : Nat) (ret : Option FieldType) : List Cond := Cond.code y bytes maxL ret :: lw_tg
theorem hk_good {y : MethodName} {bytes : ByteArray} {maxL : Nat} {ret : Option FieldType} (h : Cond.code y bytes maxL ret ∈ lw_tg) : GoodIn lw_tg (hk_ws y bytes maxL ret) := by
  intro w hw
  rcases List.mem_cons.mp hw with rfl | hw
  · exact ⟨h, good_of_word (tw_good _ h)⟩
  · exact ⟨hw, good_of_word (tw_good _ hw)⟩
def hk_up (iv : hk_V) (L : hk_L) (k : Nat) (x : Int32) : hk_V := fun L' j => if L' = L ∧ j = k then x else iv L' j
abbrev hk_v : Type := Nat × Nat → Nat → Int32
def hk_u (τ : hk_v) (q : Nat × Nat) (k : Nat) (x : Int32) : hk_v := fun q' j => if q' = q ∧ j = k then x else τ q' j
def hk_cm (τ σ : hk_v) : hk_V := fun L => match L with
  | .inl q => τ q
  | .inr q => σ q
theorem hk_up_l (τ σ : hk_v) (q : Nat × Nat) (k : Nat) (x : Int32) : hk_up (hk_cm τ σ) (.inl q) k x = hk_cm (hk_u τ q k x) σ := by
  funext L j
  cases L with
  | inl a => simp [hk_up, hk_cm, hk_u]
  | inr a => simp [hk_up, hk_cm]
theorem hk_up_r (τ σ : hk_v) (q : Nat × Nat) (k : Nat) (x : Int32) : hk_up (hk_cm τ σ) (.inr q) k x = hk_cm τ (hk_u σ q k x) := by
  funext L j
  cases L with
  | inl a => simp [hk_up, hk_cm]
  | inr a => simp [hk_up, hk_cm, hk_u]
def hk_cls (ci : Nat) (C : String) (T : u_T) (N : Nat) (ty : Nat → FieldType) : Prop := vwCl[ci]? = some (C, T, N) ∧ (∀ w ∈ u_ws C T N, w ∈ lw_tg) ∧ (∀ k, k < N → parseFieldDescriptor (T k).2.2.1 = some (ty k)) ∧ (∀ a, a < N → ∀ b, b < N → a ≠ b → (T a).2.1 ≠ (T b).2.1)
theorem kc_0 : hk_cls 0 RJx4a65c TJx4a65c 3 tyJx4a65c := ⟨rfl, tw_cl0, tyJx4a65c_ok, nmJx4a65c⟩
theorem kc_1 : hk_cls 1 RX0 TX0 4 tyX0 := ⟨rfl, tw_cl1, tyX0_ok, nmX0⟩
theorem kc_2 : hk_cls 2 RX1 TX1 0 tyX1 := ⟨rfl, tw_cl2, tyX1_ok, nmX1⟩
theorem kc_3 : hk_cls 3 RX2 TX2 0 tyX2 := ⟨rfl, tw_cl3, tyX2_ok, nmX2⟩
theorem kc_4 : hk_cls 4 RX3 TX3 6 tyX3 := ⟨rfl, tw_cl4, tyX3_ok, nmX3⟩
theorem kc_5 : hk_cls 5 RX4 TX4 6 tyX4 := ⟨rfl, tw_cl5, tyX4_ok, nmX4⟩
theorem kc_6 : hk_cls 6 RX5 TX5 2 tyX5 := ⟨rfl, tw_cl6, tyX5_ok, nmX5⟩
theorem kc_7 : hk_cls 7 RX6 TX6 8 tyX6 := ⟨rfl, tw_cl7, tyX6_ok, nmX6⟩
theorem kc_8 : hk_cls 8 RX7 TX7 4 tyX7 := ⟨rfl, tw_cl8, tyX7_ok, nmX7⟩
theorem kc_9 : hk_cls 9 RX8 TX8 0 tyX8 := ⟨rfl, tw_cl9, tyX8_ok, nmX8⟩
theorem kc_10 : hk_cls 10 RX9 TX9 5 tyX9 := ⟨rfl, tw_cl10, tyX9_ok, nmX9⟩
theorem kc_11 : hk_cls 11 RX10 TX10 11 tyX10 := ⟨rfl, tw_cl11, tyX10_ok, nmX10⟩
theorem kc_12 : hk_cls 12 RX11 TX11 37 tyX11 := ⟨rfl, tw_cl12, tyX11_ok, nmX11⟩
theorem hk_at.kept {D : hk_D} {G : hk_G} {iv iv' : hk_V} {L : hk_L} {H H1 : Heap} {k : hk_k} (h : hk_at D G iv L H k) (hq : H1[G.1 L]? = H[G.1 L]?) (hi : ∀ j, iv' L j = iv L j) : hk_at D G iv' L H1 k := by
  have e : iv' L = iv L := funext hi
  rcases k with ci | n | n
  · obtain ⟨r, h1, h2⟩ := h
    refine ⟨r, h1, (h2.kept hq).to (fun j _ => ?_)⟩
    simp only [hk_ob, e]
  · show H1[_]? = _
    rw [hq, show (fun j => Value.int (iv' L j)) = (fun j => Value.int (iv L j)) by rw [e]]
    exact h
  · exact hq.trans h
theorem hk_H.lt {D : hk_D} {G : hk_G} {iv : hk_V} {H : Heap} (hH : hk_H D G iv H) {L : hk_L} {k : hk_k} (hk : G.2.1 L = some k) : G.1 L < H.size := by
  have h := (hH.2.1 L k hk).1
  rcases k with ci | n | n
  · obtain ⟨r, h1, cell, h2, -⟩ := h
    exact (Array.getElem?_eq_some_iff.mp h2).1
  · exact (Array.getElem?_eq_some_iff.mp h).1
  · exact (Array.getElem?_eq_some_iff.mp h).1
/-- one cell's ints change -/
theorem hk_H.set {D : hk_D} {G : hk_G} {iv : hk_V} {H H1 : Heap} (hH : hk_H D G iv H) {L : hk_L} {k : hk_k} (hk : G.2.1 L = some k) (i : Nat) (x : Int32) (z : H1.size = H.size) (oq : ∀ q : Nat, q ≠ G.1 L → H1[q]? = H[q]?) (hat : hk_at D G (hk_up iv L i x) L H1 k) : hk_H D G (hk_up iv L i x) H1 := by
  refine ⟨by rw [z]; exact hH.1, fun L' k' hk' => ?_, hH.2.2⟩
  by_cases e : L' = L
  · subst e
    cases hk.symm.trans hk'
    exact ⟨hat, (hH.2.1 L' k hk).2⟩
  · obtain ⟨h1, h2⟩ := hH.2.1 L' k' hk'
    exact ⟨h1.kept (oq _ (fun q => e (hH.2.2 L' L k' k hk' hk q))) (fun j => by simp [hk_up, e]), h2⟩
end
section
section HKR
variable {p : Program} {l : Launch} {e : Env} {R : Room} {s : State} {m : MethodId} {args : Array Value} {below : List Frame} {meth : Method} {c : Code} {H : Heap} {locs : List Loc} {cells slots : Nat} {Q : State → Prop}
variable {cc : ByteArray} {pc : Nat} {ls : Array Slot} {rest : List Value} {D : hk_D} {G : hk_G} {iv : hk_V} {L : hk_L}
theorem hk_get (hexec : p.tables.exec = Jvm.exec) (hb : c.code = cc) {own ref C : String} {T : u_T} {N ci index : Nat} {ty : Nat → FieldType} (ht : ∀ w ∈ lw_tg, w.before args s = true) (hown : s.vm.findClass own = some m.cls) (hK : hk_K D s) (hH : hk_H D G iv H) (hc : hk_cls ci C T N ty) (hkd : G.2.1 L = some (.inl ci)) (k : Nat) (hk : k < N) (hlink : Cond.fieldLink own index ref (T k).2.1 (T k).2.2.1 ∈ lw_tg) (hsame : ∀ x, s.fieldFound? (T k).1 (T k).2.1 (T k).2.2.1 = some x → s.fieldFound? ref (T k).2.1 (T k).2.2.1 = some x) {v : Value} (hv : hk_ob G iv ci L k = v) (hdg : decode cc pc = .ok (.getfield index, 3))
    (kk : W p l e R s m args below meth c H locs cells slots Q (F0 m (pc + 3) ls (v :: rest))) : W p l e R s m args below meth c H locs cells slots Q (F0 m pc ls (.ref (G.1 L) :: rest)) := by
  obtain ⟨r, h1, cell, q1, q2, q3, q4⟩ := (hH.2.1 L _ hkd).1
  have hr : r = (C, T, N) := Option.some.inj (h1.symm.trans hc.1)
  subst hr
  obtain ⟨hS, hfc, kC, hkC, hkind⟩ := hK.1.1 ci _ hc.1
  obtain ⟨cf, kf, fi, f, hi, hsl⟩ := hS k hk
  refine W.getf hexec hb hown (ht _ hlink) (hsame _ hi) (u_facts hfc hkC (u_lays ht hc.2.1 hk) hi).1 q1 (by rw [q3]; exact fun h => by cases h) (v := v) ?_ rfl rfl hdg kk
  rw [hsl, q4 k hk, hv]
/-- an int field -/
theorem hk_geti (hexec : p.tables.exec = Jvm.exec) (hb : c.code = cc) {own ref C : String} {T : u_T} {N ci index : Nat} {ty : Nat → FieldType} (ht : ∀ w ∈ lw_tg, w.before args s = true) (hown : s.vm.findClass own = some m.cls) (hK : hk_K D s) (hH : hk_H D G iv H) (hc : hk_cls ci C T N ty) (hkd : G.2.1 L = some (.inl ci)) (k : Nat) (hk : k < N) (hi : hk_int ci k = true) (hlink : Cond.fieldLink own index ref (T k).2.1 (T k).2.2.1 ∈ lw_tg) (hsame : (T k).1 = ref) {v : Int32} (hv : iv L k = v) (hdg : decode cc pc = .ok (.getfield index, 3))
    (kk : W p l e R s m args below meth c H locs cells slots Q (F0 m (pc + 3) ls (.int v :: rest))) : W p l e R s m args below meth c H locs cells slots Q (F0 m pc ls (.ref (G.1 L) :: rest)) :=
  hk_get (v := .int v) hexec hb ht hown hK hH hc hkd k hk hlink (fun x h => by rw [← hsame]; exact h) (by simp [hk_ob, hi, hv]) hdg kk
/-- a field of another kind -/
theorem hk_getr (hexec : p.tables.exec = Jvm.exec) (hb : c.code = cc) {own ref C : String} {T : u_T} {N ci index : Nat} {ty : Nat → FieldType} (ht : ∀ w ∈ lw_tg, w.before args s = true) (hown : s.vm.findClass own = some m.cls) (hK : hk_K D s) (hH : hk_H D G iv H) (hc : hk_cls ci C T N ty) (hkd : G.2.1 L = some (.inl ci)) (k : Nat) (hk : k < N) (hi : hk_int ci k = false) (hlink : Cond.fieldLink own index ref (T k).2.1 (T k).2.2.1 ∈ lw_tg) (hsame : (T k).1 = ref) {v : Value} (hv : G.2.2 L k = v) (hdg : decode cc pc = .ok (.getfield index, 3))
    (kk : W p l e R s m args below meth c H locs cells slots Q (F0 m (pc + 3) ls (v :: rest))) : W p l e R s m args below meth c H locs cells slots Q (F0 m pc ls (.ref (G.1 L) :: rest)) :=
  hk_get (v := v) hexec hb ht hown hK hH hc hkd k hk hlink (fun x h => by rw [← hsame]; exact h) (by simp [hk_ob, hi, hv]) hdg kk
theorem hk_slots {own C : String} {T : u_T} {N ci : Nat} {ty : Nat → FieldType} (ht : ∀ w ∈ lw_tg, w.before args s = true) (hK : hk_K D s) (hc : hk_cls ci C T N ty) : ∀ x y, x < N → y < N → x ≠ y → (D.1.1.2 ci) x ≠ (D.1.1.2 ci) y := va_apart (own := own) ht hc.2.1 ty hc.2.2.1 hc.2.2.2 hK.1 hc.1
/-- any field is written: the cell's new values -/
theorem hk_putw (hexec : p.tables.exec = Jvm.exec) (hb : c.code = cc) {own ref C : String} {T : u_T} {N ci index : Nat} {ty : Nat → FieldType} (ht : ∀ w ∈ lw_tg, w.before args s = true) (hown : s.vm.findClass own = some m.cls) (hK : hk_K D s) (hH : hk_H D G iv H) (hc : hk_cls ci C T N ty) (hkd : G.2.1 L = some (.inl ci)) (k : Nat) (hk : k < N) (hlink : Cond.fieldLink own index ref (T k).2.1 (T k).2.2.1 ∈ lw_tg) (hsame : ∀ x, s.fieldFound? (T k).1 (T k).2.1 (T k).2.2.1 = some x → s.fieldFound? ref (T k).2.1 (T k).2.2.1 = some x) (hfin : (T k).2.2.2 = false ∨ ((T k).2.2.2 = true ∧ meth.name = "<init>" ∧ (T k).1 = own)) {v : Value} (hn : narrow (ty k) v = v) (hfit : fits (ty k) v = true)
    (hdg : decode cc pc = .ok (.putfield index, 3)) (kk : ∀ (H1 : Heap) (i : Nat), H1.size = H.size → (∀ q : Nat, q ≠ G.1 L → H1[q]? = H[q]?) → t_OB (G.1 L) (D.1.1.1 ci) N (D.1.1.2 ci) H1 (updV (hk_ob G iv ci L) k v) → W p l e R s m args below meth c H1 (locs ++ [⟨G.1 L, i⟩]) cells slots Q (F0 m (pc + 3) ls rest)) : W p l e R s m args below meth c H locs cells slots Q (F0 m pc ls (v :: .ref (G.1 L) :: rest)) := by
  have hap := hk_slots (own := own) ht hK hc
  obtain ⟨r, h1, cell, q1, q2, q3, q4⟩ := (hH.2.1 L _ hkd).1
  have hr : r = (C, T, N) := Option.some.inj (h1.symm.trans hc.1)
  subst hr
  obtain ⟨hS, hfc, kC, hkC, hkind⟩ := hK.1.1 ci _ hc.1
  obtain ⟨cf, kf, fi, f, hi, hsl⟩ := hS k hk
  have hlay := ht _ (hc.2.1 _ (u_in_lay hk))
  unfold u_lay at hlay
  have hst := (u_facts hfc hkC (u_lays ht hc.2.1 hk) hi).1
  rcases hfin with hfin | ⟨hfin, hin2, hdecl⟩
  · rw [if_neg (by rw [hfin]; decide)] at hlay
    have h6 := u_store hfc hkC hkind hlay hi (hc.2.2.1 k hk) hn hfit
    refine W.putK hexec hb (f := f) ⟨hown, ht _ hlink, ⟨_, _, _, hsame _ hi⟩, hst⟩ (by rw [q2]; exact h6) q1 q3 (by rw [hsl]; exact k2_hasslot (q4 k hk)) rfl rfl hdg fun H' e1 e2 e3 => ?_
    rw [hsl] at e1
    exact kk H' _ e2 e3 ⟨_, e1, q2, q3, t_set q4 hap hk v⟩
  · rw [if_pos hfin] at hlay
    have hcf : m.cls = cf := by
      obtain ⟨_, _, c', _, _, _, -, -, hf', -, -, -, hown2, -⟩ := Cond.laysFinal_spec hlay
      have e1 : c' = cf := by have := hi.symm.trans hf'; simp at this; exact this.1.symm
      rw [hdecl] at hown2
      rw [← e1]; exact Option.some.inj (hown.symm.trans hown2)
    have h6 := u_fits hfc hkC hkind (Or.inr hlay) hi (hc.2.2.1 k hk) hn hfit
    refine W.putFinK hexec hb hown (ht _ hlink) (hsame _ hi) hst hcf hin2 (by rw [q2]; exact h6) q1 q3 (by rw [hsl]; exact k2_hasslot (q4 k hk)) rfl rfl hdg fun H' e1 e2 e3 => ?_
    rw [hsl] at e1
    exact kk H' _ e2 e3 ⟨_, e1, q2, q3, t_set q4 hap hk v⟩
theorem hk_puti (hexec : p.tables.exec = Jvm.exec) (hb : c.code = cc) {own ref C : String} {T : u_T} {N ci index : Nat} {ty : Nat → FieldType} (ht : ∀ w ∈ lw_tg, w.before args s = true) (hown : s.vm.findClass own = some m.cls) (hK : hk_K D s) (hH : hk_H D G iv H) (hS : va_S (hk_A D) s.heap H locs) (hc : hk_cls ci C T N ty) (hkd : G.2.1 L = some (.inl ci)) (k : Nat) (hk : k < N) (hi : hk_int ci k = true) (hlink : Cond.fieldLink own index ref (T k).2.1 (T k).2.2.1 ∈ lw_tg) (hsame : (T k).1 = ref) (hfin : (T k).2.2.2 = false ∨ ((T k).2.2.2 = true ∧ meth.name = "<init>" ∧ (T k).1 = own)) (hty : ty k = .int) {v : Int32}
    (hdg : decode cc pc = .ok (.putfield index, 3)) (kk : ∀ (H1 : Heap) (locs1 : List Loc), hk_H D G (hk_up iv L k v) H1 → va_S (hk_A D) s.heap H1 locs1 → W p l e R s m args below meth c H1 locs1 cells slots Q (F0 m (pc + 3) ls rest)) : W p l e R s m args below meth c H locs cells slots Q (F0 m pc ls (.int v :: .ref (G.1 L) :: rest)) := by
  refine hk_putw hexec hb ht hown hK hH hc hkd k hk hlink (fun x h => by rw [← hsame]; exact h) hfin (by rw [hty]; rfl) (by rw [hty]; rfl) hdg (fun H1 i z oq h => ?_)
  refine kk H1 _ (hH.set hkd k v z oq ⟨_, hc.1, h.to (fun j _ => ?_)⟩) (hS.put z oq (hH.2.1 L _ hkd).2)
  by_cases hj : j = k
  · subst hj; simp [updV, hk_ob, hi, hk_up]
  · simp [updV, hk_ob, hk_up, hj]
def hk_rf (G : hk_G) (L : hk_L) (k : Nat) (v : Value) : hk_G := (G.1, (G.2.1, fun L' j => if L' = L ∧ j = k then v else G.2.2 L' j))
theorem hk_putr (hexec : p.tables.exec = Jvm.exec) (hb : c.code = cc) {own ref C : String} {T : u_T} {N ci index : Nat} {ty : Nat → FieldType} (ht : ∀ w ∈ lw_tg, w.before args s = true) (hown : s.vm.findClass own = some m.cls) (hK : hk_K D s) (hH : hk_H D G iv H) (hS : va_S (hk_A D) s.heap H locs) (hc : hk_cls ci C T N ty) (hkd : G.2.1 L = some (.inl ci)) (k : Nat) (hk : k < N) (hi : hk_int ci k = false) (hlink : Cond.fieldLink own index ref (T k).2.1 (T k).2.2.1 ∈ lw_tg) (hsame : (T k).1 = ref) (hfin : (T k).2.2.2 = false ∨ ((T k).2.2.2 = true ∧ meth.name = "<init>" ∧ (T k).1 = own)) {v : Value} (hn : narrow (ty k) v = v) (hfit : fits (ty k) v = true)
    (hdg : decode cc pc = .ok (.putfield index, 3)) (kk : ∀ (H1 : Heap) (locs1 : List Loc), hk_H D (hk_rf G L k v) iv H1 → va_S (hk_A D) s.heap H1 locs1 → W p l e R s m args below meth c H1 locs1 cells slots Q (F0 m (pc + 3) ls rest)) : W p l e R s m args below meth c H locs cells slots Q (F0 m pc ls (v :: .ref (G.1 L) :: rest)) := by
  refine hk_putw hexec hb ht hown hK hH hc hkd k hk hlink (fun x h => by rw [← hsame]; exact h) hfin hn hfit hdg (fun H1 i z oq h => ?_)
  refine kk H1 _ ⟨by rw [z]; exact hH.1, fun L' k' hk' => ?_, hH.2.2⟩ (hS.put z oq (hH.2.1 L _ hkd).2)
  have hk'' : G.2.1 L' = some k' := hk'
  by_cases e : L' = L
  · subst e
    cases hkd.symm.trans hk''
    refine ⟨⟨_, hc.1, h.to (fun j _ => ?_)⟩, (hH.2.1 L' _ hkd).2⟩
    by_cases hj : j = k
    · subst hj; simp [updV, hk_ob, hi, hk_rf]
    · simp [updV, hk_ob, hk_rf, hj]
  · obtain ⟨h1, h2⟩ := hH.2.1 L' k' hk''
    have hq := oq _ (fun q => e (hH.2.2 L' L k' _ hk'' hkd q))
    refine ⟨?_, h2⟩
    have er : (hk_rf G L k v).2.2 L' = G.2.2 L' := by funext j; simp [hk_rf, e]
    rcases k' with cj | n | n
    · obtain ⟨r, g1, g2⟩ := h1
      exact ⟨r, g1, (g2.kept hq).to (fun j _ => by simp only [hk_ob, er])⟩
    · exact hq.trans h1
    · show H1[_]? = some (arrV _ _ ((hk_rf G L k v).2.2 L'))
      rw [er]
      exact hq.trans h1
theorem hk_ild (hexec : p.tables.exec = Jvm.exec) (hb : c.code = cc) (hK : hk_K D s) (hH : hk_H D G iv H) {n : Nat} (hkd : G.2.1 L = some (.inr (.inl n))) {i : Int32} (hin : vp_in i n) {v : Int32} (hv : iv L i.toNatClampNeg = v) (hdg : decode cc pc = .ok (.iaload, 1))
    (kk : W p l e R s m args below meth c H locs cells slots Q (F0 m (pc + 1) ls (.int v :: rest))) : W p l e R s m args below meth c H locs cells slots Q (F0 m pc ls (.int i :: .ref (G.1 L) :: rest)) := by
  have hlt : i.toNatClampNeg < n := Nat.not_le.mp fun q => hin (Or.inr q)
  subst hv
  exact W.iald (v := .int (iv L i.toNatClampNeg)) hexec hb (hH.2.1 L _ hkd).1 ((hK.1.2 0 _ rfl).1 n (fun j => .int (iv L j))) (fun q => by cases q) (by show ¬ (i < 0 ∨ (arrV _ _ _).slots.size ≤ _); rw [arrV_size]; exact hin) (by show (arrV _ _ _).slots[_]? = _; rw [arrV_read _ _ hlt]) rfl rfl hdg kk
theorem hk_ist (hexec : p.tables.exec = Jvm.exec) (hb : c.code = cc) (hK : hk_K D s) (hH : hk_H D G iv H) (hS : va_S (hk_A D) s.heap H locs) {n : Nat} (hkd : G.2.1 L = some (.inr (.inl n))) {i x : Int32} (hin : vp_in i n) (hdg : decode cc pc = .ok (.iastore, 1))
    (kk : ∀ (H1 : Heap) (locs1 : List Loc), hk_H D G (hk_up iv L i.toNatClampNeg x) H1 → va_S (hk_A D) s.heap H1 locs1 → W p l e R s m args below meth c H1 locs1 cells slots Q (F0 m (pc + 1) ls rest)) : W p l e R s m args below meth c H locs cells slots Q (F0 m pc ls (.int x :: .int i :: .ref (G.1 L) :: rest)) := by
  refine W.iast hexec hb (hH.2.1 L _ hkd).1 ((hK.1.2 0 _ rfl).1 n (fun j => .int (iv L j))) (fun q => by cases q) (by show ¬ (i < 0 ∨ (arrV _ _ _).slots.size ≤ _); rw [arrV_size]; exact hin) rfl rfl hdg fun H1 e z oq => ?_
  refine kk H1 _ (hH.set hkd _ x z oq ?_) (hS.put z oq (hH.2.1 L _ hkd).2)
  show H1[_]? = some (arrV _ _ _)
  rw [e, arrV_store]
  congr 2
  funext q
  by_cases hq : q = i.toNatClampNeg
  · subst hq; simp [updV, hk_up]
  · simp [updV, hk_up, hq]
theorem hk_ilen (hexec : p.tables.exec = Jvm.exec) (hb : c.code = cc) (hK : hk_K D s) (hH : hk_H D G iv H) {n : Nat} (hkd : G.2.1 L = some (.inr (.inl n))) {v : Int32} (hv : Int32.ofNat n = v) (hdg : decode cc pc = .ok (.arraylength, 1))
    (kk : W p l e R s m args below meth c H locs cells slots Q (F0 m (pc + 1) ls (.int v :: rest))) : W p l e R s m args below meth c H locs cells slots Q (F0 m pc ls (.ref (G.1 L) :: rest)) := by
  subst hv
  exact W.alen (n := Int32.ofNat n) hexec hb (hH.2.1 L _ hkd).1 ((hK.1.2 0 _ rfl).1 n (fun j => .int (iv L j))) (by rw [arrV_size] <;> rfl) rfl rfl hdg kk
theorem hk_qlen (hexec : p.tables.exec = Jvm.exec) (hb : c.code = cc) (hK : hk_K D s) (hH : hk_H D G iv H) {n : Nat} (hkd : G.2.1 L = some (.inr (.inr n))) {v : Int32} (hv : Int32.ofNat n = v) (hdg : decode cc pc = .ok (.arraylength, 1))
    (kk : W p l e R s m args below meth c H locs cells slots Q (F0 m (pc + 1) ls (.int v :: rest))) : W p l e R s m args below meth c H locs cells slots Q (F0 m pc ls (.ref (G.1 L) :: rest)) := by
  subst hv
  exact W.alen (n := Int32.ofNat n) hexec hb (hH.2.1 L _ hkd).1 ((hK.1.2 1 _ rfl).1 n (G.2.2 L)) (by rw [arrV_size] <;> rfl) rfl rfl hdg kk
theorem hk_qld (hexec : p.tables.exec = Jvm.exec) (hb : c.code = cc) (hK : hk_K D s) (hH : hk_H D G iv H) {n : Nat} (hkd : G.2.1 L = some (.inr (.inr n))) {i : Int32} (hin : vp_in i n) {v : Value} (hv : G.2.2 L i.toNatClampNeg = v) (hdg : decode cc pc = .ok (.aaload, 1))
    (kk : W p l e R s m args below meth c H locs cells slots Q (F0 m (pc + 1) ls (v :: rest))) : W p l e R s m args below meth c H locs cells slots Q (F0 m pc ls (.int i :: .ref (G.1 L) :: rest)) := by
  have hlt : i.toNatClampNeg < n := Nat.not_le.mp fun q => hin (Or.inr q)
  subst hv
  exact W.aald (v := G.2.2 L i.toNatClampNeg) (ty := .object "java/lang/Object") hexec hb (hH.2.1 L _ hkd).1 ((hK.1.2 1 _ rfl).1 n (G.2.2 L)) rfl (fun q => by cases q) (by show ¬ (i < 0 ∨ (arrV _ _ _).slots.size ≤ _); rw [arrV_size]; exact hin) (by show (arrV _ _ _).slots[_]? = _; rw [arrV_read _ _ hlt]) rfl rfl hdg kk
/-- a cell of the world as a call's receiver -/
theorem hk_recv {ci : Nat} {q : vw_C} (hK : hk_K D s) (hH : hk_H D G iv H) (hc : vwCl[ci]? = some q) (hkd : G.2.1 L = some (.inl ci)) : ∃ cell : Cell, H[G.1 L]? = some cell ∧ cell.vm.isStatics = false ∧ s.vm.findClass q.1 = some cell.cls := by
  obtain ⟨r, h1, cell, q1, q2, q3, -⟩ := (hH.2.1 L _ hkd).1
  have hr : r = q := Option.some.inj (h1.symm.trans hc)
  subst hr
  exact ⟨cell, q1, by rw [q3]; rfl, by rw [q2]; exact (hK.1.1 ci _ hc).2.1⟩
theorem hk_run {v0 : Unit} {mc ms : Nat} {st0 : List Value} {a : Array Value} {P : Option Value → hk_G → hk_V → Prop} (hr : va_Run p l e R s m args below meth c H locs cells slots mc ms (F0 m pc ls st0) rest (hk_Q D P a) (hk_A D)) (hS : va_S (hk_A D) s.heap H locs)
    (kk : ∀ (v : Option Value) (G1 : hk_G) (iv1 : hk_V) (H1 : Heap) (locs1 : List Loc), P v G1 iv1 → hk_H D G1 iv1 H1 → va_S (hk_A D) s.heap H1 locs1 → W p l e R s m args below meth c H1 locs1 (cells + mc) (slots + ms) Q (F0 m (pc + 3) ls (v.toList ++ rest))) : W p l e R s m args below meth c H locs cells slots Q (F0 m pc ls st0) := by
  intro T hT X
  obtain ⟨v, st₀, t, T', L, h0, X', hL, e1, e2, ⟨⟨v', G1, iv1, hv, hp, hb⟩, hz, hk⟩, st⟩ := hr T hT X
  cases hv
  rw [h0] at hz hk
  obtain ⟨t2, a1, b1⟩ := kk v G1 iv1 T'.heap (locs ++ L) hp (by rw [e1]; exact hb)
    ⟨Nat.le_trans hS.1 (by rw [e1]; exact hz), fun q h1 h2 => by rw [e1, hk q (Nat.lt_of_lt_of_le h1 hS.1) h2]; exact hS.2.1 q h1 h2, fun q hq => by
      rcases List.mem_append.mp hq with h | h
      · exact hS.2.2 q h
      · exact hL q h⟩ T' rfl X'
  exact ⟨t2, st t2 a1, b1⟩
end HKR
end
section
def hk_mV (y : MethodName) (bytes : ByteArray) (maxL : Nat) (ret : Option FieldType) (C : String) (n : Nat) : Prop := Cond.code y bytes maxL ret ∈ lw_tg ∧ Cond.instanceMethod y ∈ lw_tg ∧ Cond.selects C y y ∈ lw_tg ∧ Cond.initialized C ∈ lw_tg ∧ (y.cls = C ∧ y.cls ≠ "java/lang/invoke/MethodHandle" ∧ y.cls ≠ "java/lang/invoke/VarHandle" ∧ (parseMethodDescriptor y.desc).map (fun d => d.parameters.length) = some n)
def hk_mS (y : MethodName) (bytes : ByteArray) (maxL : Nat) (ret : Option FieldType) (n : Nat) : Prop := Cond.code y bytes maxL ret ∈ lw_tg ∧ Cond.static y ∈ lw_tg ∧ Cond.initialized y.cls ∈ lw_tg ∧ (y.cls ≠ "java/lang/invoke/MethodHandle" ∧ y.cls ≠ "java/lang/invoke/VarHandle" ∧ (parseMethodDescriptor y.desc).map (fun d => d.parameters.length) = some n)
def hk_mI (y : MethodName) (bytes : ByteArray) (maxL : Nat) (n : Nat) : Prop := Cond.code y bytes maxL none ∈ lw_tg ∧ Cond.instanceMethod y ∈ lw_tg ∧ Cond.initialized y.cls ∈ lw_tg ∧ y.name = "<init>" ∧ (y.cls ≠ "java/lang/invoke/MethodHandle" ∧ y.cls ≠ "java/lang/invoke/VarHandle" ∧ (parseMethodDescriptor y.desc).map (fun d => d.parameters.length) = some n)
section HKC
variable {p : Program} {l : Launch} {e : Env} {R : Room} {s : State} {m : MethodId} {args : Array Value} {below : List Frame} {meth : Method} {c : Code} {H : Heap} {locs : List Loc} {cells slots : Nat} {Q : State → Prop}
variable {cc : ByteArray} {pc : Nat} {ls : Array Slot} {rest : List Value} {D : hk_D} {G : hk_G} {iv : hk_V} {L : hk_L}
variable {y : MethodName} {bytes : ByteArray} {maxL nL mc ms n index : Nat} {ret : Option FieldType} {rm : Room} {own C : String} {As st0 : List Value} {P : Option Value → hk_G → hk_V → Prop}
theorem hk_goodV (hm : hk_mV y bytes maxL ret C n) (hl : Cond.methodLink own index y ∈ lw_tg) : GoodIn lw_tg (wsV own index C y (hk_ws y bytes maxL ret)) := by
  obtain ⟨h1, h2, h3, h4, -⟩ := hm
  intro w hw
  rcases List.mem_append.mp hw with hw | hw
  · simp only [List.mem_cons, List.not_mem_nil, or_false] at hw
    rcases hw with rfl | rfl | rfl | rfl
    · exact ⟨hl, good_of_word (tw_good _ hl)⟩
    · exact ⟨h2, good_of_word (tw_good _ h2)⟩
    · exact ⟨h3, good_of_word (tw_good _ h3)⟩
    · exact ⟨h4, good_of_word (tw_good _ h4)⟩
  · exact hk_good h1 w hw
theorem hk_cV (hexec : p.tables.exec = Jvm.exec) (hb : c.code = cc) (hml : c.maxLocals = nL) (hlz : ls.size = nL) (ht : ∀ w ∈ lw_tg, w.before args s = true) (hown : s.vm.findClass own = some m.cls) (hK : hk_K D s) (hH : hk_H D G iv H) (hS : va_S (hk_A D) s.heap H locs)
    (hM : Met l y (hk_ws y bytes maxL ret) rm (hk_P D G iv (.ref (G.1 L) :: As)) (hk_Q D P) mc ms (hk_A D)) (hm : hk_mV y bytes maxL ret C n) {T : u_T} {N ci : Nat} {ty : Nat → FieldType} (hc : hk_cls ci C T N ty) (hkd : G.2.1 L = some (.inl ci)) (hl : Cond.methodLink own index y ∈ lw_tg) (hrc : rm.cells = mc ∧ rm.slots = ms) (hR : rm.frames + 1 ≤ R.frames ∧ 8 + (maxL + 11) + rm.locals ≤ R.locals) (hn : As.length = n) (hst : st0 = As.reverse ++ .ref (G.1 L) :: rest) (hr : (rest.map fun v => v.category).sum ≤ 8) (hdg : decode cc pc = .ok (.invokevirtual index, 3)) (hf : cells + mc ≤ R.cells ∧ slots + ms ≤ R.slots)
    (kk : ∀ (v : Option Value) (G1 : hk_G) (iv1 : hk_V) (H1 : Heap) (locs1 : List Loc), P v G1 iv1 → hk_H D G1 iv1 H1 → va_S (hk_A D) s.heap H1 locs1 → W p l e R s m args below meth c H1 locs1 (cells + mc) (slots + ms) Q (F0 m (pc + 3) ls (v.toList ++ rest))) : W p l e R s m args below meth c H locs cells slots Q (F0 m pc ls st0) :=
  hk_run (v0 := ()) (va_runV (C := C) (b := G.1 L) (As := As) (rest := rest) ⟨hexec, hb, hml, hown, ht⟩ hM (cwV n ht (hk_goodV hm hl) rfl hrc.1 hrc.2 hm.2.2.2.2 hR) ⟨hk_P.blind, hk_recv hK hH hc.1 hkd, hk_P.mk hK hS hH⟩ rfl hn hlz hst (lv_room hr) hdg hf) hS kk
theorem hk_cS (hexec : p.tables.exec = Jvm.exec) (hb : c.code = cc) (hml : c.maxLocals = nL) (hlz : ls.size = nL) (ht : ∀ w ∈ lw_tg, w.before args s = true) (hown : s.vm.findClass own = some m.cls) (hK : hk_K D s) (hH : hk_H D G iv H) (hS : va_S (hk_A D) s.heap H locs)
    (hM : Met l y (hk_ws y bytes maxL ret) rm (hk_P D G iv As) (hk_Q D P) mc ms (hk_A D)) (hm : hk_mS y bytes maxL ret n) (hl : Cond.methodLink own index y ∈ lw_tg) (hrc : rm.cells = mc ∧ rm.slots = ms) (hR : rm.frames + 1 ≤ R.frames ∧ 8 + (maxL + 11) + rm.locals ≤ R.locals) (hn : As.length = n) (hst : st0 = As.reverse ++ rest) (hr : (rest.map fun v => v.category).sum ≤ 8) (hdg : decode cc pc = .ok (.invokestatic index, 3)) (hf : cells + mc ≤ R.cells ∧ slots + ms ≤ R.slots)
    (kk : ∀ (v : Option Value) (G1 : hk_G) (iv1 : hk_V) (H1 : Heap) (locs1 : List Loc), P v G1 iv1 → hk_H D G1 iv1 H1 → va_S (hk_A D) s.heap H1 locs1 → W p l e R s m args below meth c H1 locs1 (cells + mc) (slots + ms) Q (F0 m (pc + 3) ls (v.toList ++ rest))) : W p l e R s m args below meth c H locs cells slots Q (F0 m pc ls st0) :=
  hk_run (v0 := ()) (va_runS (As := As) (rest := rest) ⟨hexec, hb, hml, hown, ht⟩ hM ⟨callB_of n ht (hk_good hm.1) rfl hrc.1 hrc.2 (ht _ hm.2.2.1) (ht _ hl) hm.2.2.2 hR, ht _ hm.2.1⟩ ⟨hk_P.blind, hk_P.mk hK hS hH⟩ rfl hn hlz hst (lv_room hr) hdg hf) hS kk
/-- a nest mate's static method -/
theorem hk_cSN {host : String} (hexec : p.tables.exec = Jvm.exec) (hb : c.code = cc) (hml : c.maxLocals = nL) (hlz : ls.size = nL) (ht : ∀ w ∈ lw_tg, w.before args s = true) (hown : s.vm.findClass own = some m.cls) (hK : hk_K D s) (hH : hk_H D G iv H) (hS : va_S (hk_A D) s.heap H locs)
    (hM : Met l y (hk_ws y bytes maxL ret) rm (hk_P D G iv As) (hk_Q D P) mc ms (hk_A D)) (hm : hk_mS y bytes maxL ret n) (hl : Cond.methodLinkNest own index y host ∈ hk_nw) (hrc : rm.cells = mc ∧ rm.slots = ms) (hR : rm.frames + 1 ≤ R.frames ∧ 8 + (maxL + 11) + rm.locals ≤ R.locals) (hn : As.length = n) (hst : st0 = As.reverse ++ rest) (hr : (rest.map fun v => v.category).sum ≤ 8) (hdg : decode cc pc = .ok (.invokestatic index, 3)) (hf : cells + mc ≤ R.cells ∧ slots + ms ≤ R.slots)
    (kk : ∀ (v : Option Value) (G1 : hk_G) (iv1 : hk_V) (H1 : Heap) (locs1 : List Loc), P v G1 iv1 → hk_H D G1 iv1 H1 → va_S (hk_A D) s.heap H1 locs1 → W p l e R s m args below meth c H1 locs1 (cells + mc) (slots + ms) Q (F0 m (pc + 3) ls (v.toList ++ rest))) : W p l e R s m args below meth c H locs cells slots Q (F0 m pc ls st0) :=
  hk_run (v0 := ()) (va_runSN (As := As) (rest := rest) ⟨hexec, hb, hml, hown, ht⟩ hM ⟨va_cnB n ht (hk_good hm.1) rfl hrc.1 hrc.2 (hK.2.1 _ hl) (ht _ hm.2.2.1) hm.2.2.2 hR, ht _ hm.2.1, trivial⟩ ⟨hk_P.blind, hk_P.mk hK hS hH⟩ rfl hn hlz hst (lv_room hr) hdg hf) hS kk
theorem hk_cI {b : Addr} (hexec : p.tables.exec = Jvm.exec) (hb : c.code = cc) (hml : c.maxLocals = nL) (hlz : ls.size = nL) (ht : ∀ w ∈ lw_tg, w.before args s = true) (hown : s.vm.findClass own = some m.cls) (hK : hk_K D s) (hH : hk_H D G iv H) (hS : va_S (hk_A D) s.heap H locs)
    (hM : Met l y (hk_ws y bytes maxL none) rm (hk_P D G iv (.ref b :: As)) (hk_Q D P) mc ms (hk_A D)) (hm : hk_mI y bytes maxL n) (hl : Cond.methodLink own index y ∈ lw_tg) (hrc : rm.cells = mc ∧ rm.slots = ms) (hR : rm.frames + 1 ≤ R.frames ∧ 8 + (maxL + 11) + rm.locals ≤ R.locals) (hn : As.length = n) (hst : st0 = As.reverse ++ .ref b :: rest) (hr : (rest.map fun v => v.category).sum ≤ 8) (hdg : decode cc pc = .ok (.invokespecial index, 3)) (hf : cells + mc ≤ R.cells ∧ slots + ms ≤ R.slots)
    (kk : ∀ (v : Option Value) (G1 : hk_G) (iv1 : hk_V) (H1 : Heap) (locs1 : List Loc), P v G1 iv1 → hk_H D G1 iv1 H1 → va_S (hk_A D) s.heap H1 locs1 → W p l e R s m args below meth c H1 locs1 (cells + mc) (slots + ms) Q (F0 m (pc + 3) ls (v.toList ++ rest))) : W p l e R s m args below meth c H locs cells slots Q (F0 m pc ls st0) :=
  hk_run (v0 := ()) (va_runI (b := b) (As := As) (rest := rest) ⟨hexec, hb, hml, hown, ht⟩ hM (cwI n ht (hk_good hm.1) rfl hrc.1 hrc.2 (ht _ hm.2.2.1) (ht _ hl) (ht _ hm.2.1) hm.2.2.2.1 hm.2.2.2.2 hR) ⟨hk_P.blind, hk_P.mk hK hS hH⟩ rfl hn hlz hst (lv_room hr) hdg hf) hS kk
theorem hk_cIN {b : Addr} {host : String} (hexec : p.tables.exec = Jvm.exec) (hb : c.code = cc) (hml : c.maxLocals = nL) (hlz : ls.size = nL) (ht : ∀ w ∈ lw_tg, w.before args s = true) (hown : s.vm.findClass own = some m.cls) (hK : hk_K D s) (hH : hk_H D G iv H) (hS : va_S (hk_A D) s.heap H locs)
    (hM : Met l y (hk_ws y bytes maxL none) rm (hk_P D G iv (.ref b :: As)) (hk_Q D P) mc ms (hk_A D)) (hm : hk_mI y bytes maxL n) (hl : Cond.methodLinkNest own index y host ∈ hk_nw) (hrc : rm.cells = mc ∧ rm.slots = ms) (hR : rm.frames + 1 ≤ R.frames ∧ 8 + (maxL + 11) + rm.locals ≤ R.locals) (hn : As.length = n) (hst : st0 = As.reverse ++ .ref b :: rest) (hr : (rest.map fun v => v.category).sum ≤ 8) (hdg : decode cc pc = .ok (.invokespecial index, 3)) (hf : cells + mc ≤ R.cells ∧ slots + ms ≤ R.slots)
    (kk : ∀ (v : Option Value) (G1 : hk_G) (iv1 : hk_V) (H1 : Heap) (locs1 : List Loc), P v G1 iv1 → hk_H D G1 iv1 H1 → va_S (hk_A D) s.heap H1 locs1 → W p l e R s m args below meth c H1 locs1 (cells + mc) (slots + ms) Q (F0 m (pc + 3) ls (v.toList ++ rest))) : W p l e R s m args below meth c H locs cells slots Q (F0 m pc ls st0) :=
  hk_run (v0 := ()) (va_runIN (b := b) (As := As) (rest := rest) ⟨hexec, hb, hml, hown, ht⟩ hM ⟨va_cnB n ht (hk_good hm.1) rfl hrc.1 hrc.2 (hK.2.1 _ hl) (ht _ hm.2.2.1) hm.2.2.2.2 hR, hm.2.2.2.1, ht _ hm.2.1⟩ ⟨hk_P.blind, hk_P.mk hK hS hH⟩ rfl hn hlz hst (lv_room hr) hdg hf) hS kk
/-- super.m(..) -/
theorem hk_cSU (hexec : p.tables.exec = Jvm.exec) (hb : c.code = cc) (hml : c.maxLocals = nL) (hlz : ls.size = nL) (ht : ∀ w ∈ lw_tg, w.before args s = true) (hown : s.vm.findClass own = some m.cls) (hK : hk_K D s) (hH : hk_H D G iv H) (hS : va_S (hk_A D) s.heap H locs)
    (hM : Met l y (hk_ws y bytes maxL ret) rm (hk_P D G iv (.ref (G.1 L) :: As)) (hk_Q D P) mc ms (hk_A D)) (w1 : Cond.code y bytes maxL ret ∈ lw_tg) (w2 : Cond.methodLink own index y ∈ lw_tg) (w3 : Cond.sameMethod y.cls y.cls y.name y.desc ∈ lw_tg) (w4 : Cond.superclass own y.cls ∈ lw_tg) (w5 : Cond.instanceMethod y ∈ lw_tg) (w6 : Cond.initialized y.cls ∈ lw_tg) (hd : y.name ≠ "<init>" ∧ (parseMethodDescriptor y.desc).map (fun d => d.parameters.length) = some n) {T : u_T} {N ci : Nat} {ty : Nat → FieldType} (hc : hk_cls ci C T N ty) (hkd : G.2.1 L = some (.inl ci)) (hrc : rm.cells = mc ∧ rm.slots = ms) (hR : rm.frames + 1 ≤ R.frames ∧ 8 + (maxL + 11) + rm.locals ≤ R.locals) (hn : As.length = n) (hst : st0 = As.reverse ++ .ref (G.1 L) :: rest) (hr : (rest.map fun v => v.category).sum ≤ 8) (hdg : decode cc pc = .ok (.invokespecial index, 3)) (hf : cells + mc ≤ R.cells ∧ slots + ms ≤ R.slots)
    (kk : ∀ (v : Option Value) (G1 : hk_G) (iv1 : hk_V) (H1 : Heap) (locs1 : List Loc), P v G1 iv1 → hk_H D G1 iv1 H1 → va_S (hk_A D) s.heap H1 locs1 → W p l e R s m args below meth c H1 locs1 (cells + mc) (slots + ms) Q (F0 m (pc + 3) ls (v.toList ++ rest))) : W p l e R s m args below meth c H locs cells slots Q (F0 m pc ls st0) := by
  have hg : GoodIn lw_tg (va_wsSU own index y (hk_ws y bytes maxL ret)) := by
    intro w hw
    rcases List.mem_append.mp hw with hw | hw
    · simp only [List.mem_cons, List.not_mem_nil, or_false] at hw
      rcases hw with rfl | rfl | rfl | rfl | rfl
      · exact ⟨w2, good_of_word (tw_good _ w2)⟩
      · exact ⟨w3, good_of_word (tw_good _ w3)⟩
      · exact ⟨w4, good_of_word (tw_good _ w4)⟩
      · exact ⟨w5, good_of_word (tw_good _ w5)⟩
      · exact ⟨w6, good_of_word (tw_good _ w6)⟩
    · exact hk_good w1 w hw
  exact hk_run (v0 := ()) (va_runSU (C := C) (b := G.1 L) (As := As) (rest := rest) (hK.1.1 ci _ hc.1).2 ⟨hexec, hb, hml, hown, ht⟩ hM (va_cwSU n ht hg rfl hrc.1 hrc.2 hd hR) ⟨hk_P.blind, hk_recv hK hH hc.1 hkd, hk_P.mk hK hS hH⟩ rfl hn hlz hst (lv_room hr) hdg hf) hS kk
/-- an overriding method: x is named, y is run -/
theorem hk_cO {x : MethodName} {b0 : ByteArray} {m0 : Nat} {r0 : Option FieldType} (hexec : p.tables.exec = Jvm.exec) (hb : c.code = cc) (hml : c.maxLocals = nL) (hlz : ls.size = nL) (ht : ∀ w ∈ lw_tg, w.before args s = true) (hown : s.vm.findClass own = some m.cls) (hK : hk_K D s) (hH : hk_H D G iv H) (hS : va_S (hk_A D) s.heap H locs)
    (hM : Met l y (hk_ws y bytes maxL ret) rm (hk_P D G iv (.ref (G.1 L) :: As)) (hk_Q D P) mc ms (hk_A D)) (w1 : Cond.code y bytes maxL ret ∈ lw_tg) (w2 : Cond.methodLink own index x ∈ lw_tg) (w3 : Cond.sameMethod x.cls x.cls x.name x.desc ∈ lw_tg) (w4 : Cond.instanceMethod x ∈ lw_tg) (w5 : Cond.selects C x y ∈ lw_tg) (w6 : Cond.instanceMethod y ∈ lw_tg) (w7 : Cond.initialized y.cls ∈ lw_tg) (w8 : Cond.code x b0 m0 r0 ∈ lw_tg) (hd : x.cls ≠ "java/lang/invoke/MethodHandle" ∧ x.cls ≠ "java/lang/invoke/VarHandle" ∧ (parseMethodDescriptor x.desc).map (fun d => d.parameters.length) = some n) {T : u_T} {N ci : Nat} {ty : Nat → FieldType} (hc : hk_cls ci C T N ty) (hkd : G.2.1 L = some (.inl ci)) (hrc : rm.cells = mc ∧ rm.slots = ms) (hR : rm.frames + 1 ≤ R.frames ∧ 8 + (maxL + 11) + rm.locals ≤ R.locals) (hn : As.length = n) (hst : st0 = As.reverse ++ .ref (G.1 L) :: rest) (hr : (rest.map fun v => v.category).sum ≤ 8) (hdg : decode cc pc = .ok (.invokevirtual index, 3)) (hf : cells + mc ≤ R.cells ∧ slots + ms ≤ R.slots)
    (kk : ∀ (v : Option Value) (G1 : hk_G) (iv1 : hk_V) (H1 : Heap) (locs1 : List Loc), P v G1 iv1 → hk_H D G1 iv1 H1 → va_S (hk_A D) s.heap H1 locs1 → W p l e R s m args below meth c H1 locs1 (cells + mc) (slots + ms) Q (F0 m (pc + 3) ls (v.toList ++ rest))) : W p l e R s m args below meth c H locs cells slots Q (F0 m pc ls st0) := by
  have hg : GoodIn lw_tg (va_wsO own index C x.cls x y (hk_ws y bytes maxL ret)) := by
    intro w hw
    rcases List.mem_append.mp hw with hw | hw
    · simp only [List.mem_cons, List.not_mem_nil, or_false] at hw
      rcases hw with rfl | rfl | rfl | rfl | rfl | rfl
      · exact ⟨w2, good_of_word (tw_good _ w2)⟩
      · exact ⟨w3, good_of_word (tw_good _ w3)⟩
      · exact ⟨w4, good_of_word (tw_good _ w4)⟩
      · exact ⟨w5, good_of_word (tw_good _ w5)⟩
      · exact ⟨w6, good_of_word (tw_good _ w6)⟩
      · exact ⟨w7, good_of_word (tw_good _ w7)⟩
    · exact hk_good w1 w hw
  exact hk_run (v0 := ()) (va_runU (C := C) (owner := x.cls) (b := G.1 L) (As := As) (rest := rest) ⟨hexec, hb, hml, hown, ht⟩ hM (va_cwO n ht hg rfl hrc.1 hrc.2 w8 hd hR) ⟨hk_P.blind, hk_recv hK hH hc.1 hkd, hk_P.mk hK hS hH⟩ rfl hn hlz hst (lv_room hr) hdg hf) hS kk
theorem hk_ofW {ws' : List Cond} {Pc : Array Value → State → Prop} {Qc : Array Value → State → Outcome → State → Prop} {free : Addr → Prop} (hy : plainFor y = true) {ws : List Cond} (hw : ws = Cond.code y cc maxL ret :: ws')
    (body : ∀ p e s m args below meth c s₁, BodyLoose p l y (headSpec ws rm) cc maxL ret e s m args below meth c s₁ → c.maxLocals = maxL → Pc args s →
      W p l e (headSpec ws rm).room s m args below meth c s.heap [] 0 0 (MQ below Qc args s mc ms free) (entryFrame m args maxL)) : Met l y ws rm Pc Qc mc ms free := by
  refine MetFree.of_bodySF (code := cc) (maxLocals := maxL) (ret := ret) hy ?_ ?_
  · intro args s m h hn
    obtain ⟨meth, c, h1, h2, h3, h4, h5, h6, -, -⟩ := Cond.code_spec hn (atoms_spec (ws := ws) h _ (by rw [hw]; exact List.mem_cons_self))
    exact ⟨meth, c, h1, h2, h3, h4, h5, h6⟩
  · intro p e s m args below meth c s₁ B hml hP _
    have hh0 : s₁.heap = s.heap := by rw [B.state]; rfl
    obtain ⟨t, a1, o, b1, b2, b3⟩ := body p e s m args below meth c s₁ B hml hP s₁ hh0 (Stand.of_body B)
    exact ⟨t, o, a1, b1, b2, ⟨b3.1, b3.2⟩⟩
theorem hk_met (hpn : plainFor y = true) {as : List Value} (has : (lg_sl as).length ≤ maxL) (body : ∀ (p : Program) (e : Env) (s : State) (m : MethodId) (below : List Frame) (meth : Method) (c : Code), p.tables.exec = Jvm.exec → c.code = bytes → meth.sig.returnType = ret → c.maxLocals = maxL → meth.locks = false → (∀ w ∈ lw_tg, w.before as.toArray s = true) → s.vm.findClass y.cls = some m.cls → meth.name = y.name → hk_K D s → hk_H D G iv s.heap → va_S (hk_A D) s.heap s.heap [] → ∀ ls : Array Slot, lv_has ls maxL (lv_args 0 as) →
      W p l e rm s m as.toArray below meth c s.heap [] 0 0 (MQ below (hk_Q D P) as.toArray s mc ms (hk_A D)) (F0 m 0 ls [])) : Met l y (hk_ws y bytes maxL ret) rm (hk_P D G iv as) (hk_Q D P) mc ms (hk_A D) := by
  refine hk_ofW (cc := bytes) (maxL := maxL) (ret := ret) hpn rfl ?_
  intro p e s m args below meth c s₁ B hml hv
  obtain ⟨rfl, hK, hH⟩ := hv
  rw [lg_entry_eq]
  exact body p e s m below meth c B.exec B.bytes B.returns hml B.notSynchronized (fun w hw => atoms_spec (ws := hk_ws y bytes maxL ret) B.pre w (List.mem_cons_of_mem _ hw)) (findClass_of_methodNamed B.named) (name_of_methodNamed B.named B.method).1 hK hH va_S.rf _ (lv_entry as has)
theorem hk_iret (hexec : p.tables.exec = Jvm.exec) (hb : c.code = cc) (hr : meth.sig.returnType = some .int) (hlocks : meth.locks = false) {v : Int32} (hH : hk_H D G iv H) (hS : va_S (hk_A D) s.heap H locs) (hP : P (some (.int v)) G iv) (hdg : decode cc pc = .ok (.ireturn, 1)) : W p l e R s m args below meth c H locs cells slots (MQ below (hk_Q D P) args s cells slots (hk_A D)) (F0 m pc ls [.int v]) :=
  W.iret hexec hb hr (fun t h2 _ => ⟨⟨_, G, iv, rfl, hP, by rw [h2]; exact hH⟩, hS.F h2⟩) hS.2.2 hdg hlocks
theorem hk_zret (hexec : p.tables.exec = Jvm.exec) (hb : c.code = cc) (hr : meth.sig.returnType = some .boolean) (hlocks : meth.locks = false) {v : Int32} (hv : v = 0 ∨ v = 1) (hH : hk_H D G iv H) (hS : va_S (hk_A D) s.heap H locs) (hP : P (some (.int v)) G iv) (hdg : decode cc pc = .ok (.ireturn, 1)) : W p l e R s m args below meth c H locs cells slots (MQ below (hk_Q D P) args s cells slots (hk_A D)) (F0 m pc ls [.int v]) :=
  W.zret hexec hb hr (by rcases hv with rfl | rfl <;> rfl) (fun t h2 _ => ⟨⟨_, G, iv, rfl, hP, by rw [h2]; exact hH⟩, hS.F h2⟩) hS.2.2 hdg hlocks
theorem hk_lret (hexec : p.tables.exec = Jvm.exec) (hb : c.code = cc) (hr : meth.sig.returnType = some .long) (hlocks : meth.locks = false) {v : Int64} (hH : hk_H D G iv H) (hS : va_S (hk_A D) s.heap H locs) (hP : P (some (.long v)) G iv) (hdg : decode cc pc = .ok (.lreturn, 1)) : W p l e R s m args below meth c H locs cells slots (MQ below (hk_Q D P) args s cells slots (hk_A D)) (F0 m pc ls [.long v]) :=
  W.lret hexec hb hr (fun t h2 _ => ⟨⟨_, G, iv, rfl, hP, by rw [h2]; exact hH⟩, hS.F h2⟩) hS.2.2 hdg hlocks
theorem hk_vret (hexec : p.tables.exec = Jvm.exec) (hb : c.code = cc) (hr : meth.sig.returnType = none) (hlocks : meth.locks = false) (hH : hk_H D G iv H) (hS : va_S (hk_A D) s.heap H locs) (hP : P none G iv) (hdg : decode cc pc = .ok (.return_, 1)) : W p l e R s m args below meth c H locs cells slots (MQ below (hk_Q D P) args s cells slots (hk_A D)) (F0 m pc ls []) :=
  W.vret hexec hb hr (fun t h2 _ => ⟨⟨_, G, iv, rfl, hP, by rw [h2]; exact hH⟩, hS.F h2⟩) hS.2.2 hdg hlocks
theorem hk_aret {rt : FieldType} (hexec : p.tables.exec = Jvm.exec) (hb : c.code = cc) (hr : meth.sig.returnType = some rt) (hlocks : meth.locks = false) (hrt : (∃ n, rt = .object n) ∨ ∃ t, rt = .array t) {v : Value} (hv : v = .null ∨ ∃ a, v = .ref a) (hH : hk_H D G iv H) (hS : va_S (hk_A D) s.heap H locs) (hP : P (some v) G iv) (hdg : decode cc pc = .ok (.areturn, 1)) : W p l e R s m args below meth c H locs cells slots (MQ below (hk_Q D P) args s cells slots (hk_A D)) (F0 m pc ls [v]) :=
  W.aret hexec hb hr hrt hv (fun t h2 _ => ⟨⟨_, G, iv, rfl, hP, by rw [h2]; exact hH⟩, hS.F h2⟩) hS.2.2 hdg hlocks
end HKC
section HKE
variable {p : Program} {l : Launch} {e : Env} {R : Room} {s : State} {m : MethodId} {args : Array Value} {below : List Frame} {meth : Method} {c : Code} {cells slots : Nat} {Q : State → Prop}
variable {pc : Nat} {ls : Array Slot} {rest : List Value} {D : hk_D} {G : hk_G} {iv : hk_V}
/-- behind a call whose end is told exactly: with an answer, with none -/
theorem hk_ea {x : Value} (k : ∀ (H1 : Heap) (locs1 : List Loc), hk_H D G iv H1 → va_S (hk_A D) s.heap H1 locs1 → W p l e R s m args below meth c H1 locs1 cells slots Q (F0 m pc ls (x :: rest))) : ∀ (v : Option Value) (G1 : hk_G) (iv1 : hk_V) (H1 : Heap) (locs1 : List Loc), hk_e G (some x) iv v G1 iv1 → hk_H D G1 iv1 H1 → va_S (hk_A D) s.heap H1 locs1 → W p l e R s m args below meth c H1 locs1 cells slots Q (F0 m pc ls (v.toList ++ rest)) := by
  intro v G1 iv1 H1 locs1 h
  obtain ⟨rfl, rfl, rfl⟩ := h
  exact k H1 locs1
theorem hk_ev (k : ∀ (H1 : Heap) (locs1 : List Loc), hk_H D G iv H1 → va_S (hk_A D) s.heap H1 locs1 → W p l e R s m args below meth c H1 locs1 cells slots Q (F0 m pc ls rest)) : ∀ (v : Option Value) (G1 : hk_G) (iv1 : hk_V) (H1 : Heap) (locs1 : List Loc), hk_e G none iv v G1 iv1 → hk_H D G1 iv1 H1 → va_S (hk_A D) s.heap H1 locs1 → W p l e R s m args below meth c H1 locs1 cells slots Q (F0 m pc ls (v.toList ++ rest)) := by
  intro v G1 iv1 H1 locs1 h
  obtain ⟨rfl, rfl, rfl⟩ := h
  exact k H1 locs1
end HKE
theorem hk_u_ap (τ : hk_v) (q : Nat × Nat) (k : Nat) (x : Int32) (q' : Nat × Nat) (j : Nat) : hk_u τ q k x q' j = if q' = q ∧ j = k then x else τ q' j := rfl
/-- a loop that counts up -/
def hk_it {α : Type} (f : Nat → α → α) : Nat → Nat → α → α
  | 0, _, s => s
  | n + 1, i, s => hk_it f n (i + 1) (f i s)
theorem hk_it_0 {α : Type} (f : Nat → α → α) (i : Nat) (s : α) : hk_it f 0 i s = s := rfl
theorem hk_it_s {α : Type} (f : Nat → α → α) (n i : Nat) (s : α) : hk_it f (n + 1) i s = hk_it f n (i + 1) (f i s) := rfl
theorem hk_it_last {α : Type} (f : Nat → α → α) : ∀ (n i : Nat) (s : α), hk_it f (n + 1) i s = f (i + n) (hk_it f n i s)
  | 0, i, s => rfl
  | n + 1, i, s => by rw [hk_it_s, hk_it_last f n (i + 1) (f i s), hk_it_s, show i + 1 + n = i + (n + 1) by omega]
/-- what each step keeps, the loop keeps -/
theorem hk_it_inv {α : Type} {f : Nat → α → α} (I : Nat → α → Prop) : ∀ (n i : Nat) (s : α), I i s → (∀ j t, i ≤ j → j < i + n → I j t → I (j + 1) (f j t)) → I (i + n) (hk_it f n i s)
  | 0, _, _, h, _ => h
  | n + 1, i, s, h, hs => by
    rw [hk_it_s, show i + (n + 1) = i + 1 + n by omega]
    exact hk_it_inv I n (i + 1) (f i s) (hs i s (Nat.le_refl i) (by omega) h) (fun j t h1 h2 => hs j t (by omega) (by omega))
end
section
abbrev hk_Z : Type := (Nat → Nat) × ((Nat → Nat) × (Nat → Nat))
def hk_Y (D : hk_D) (G : hk_G) (Z : hk_Z) : Prop :=
  (G.2.1 (.inl (0, 0)) = some (.inl 11)) ∧
  (G.2.2 (.inl (0, 0)) 0 = .ref (G.1 (.inl (1, 0)))) ∧
  (G.2.1 (.inl (1, 0)) = some (.inl 0)) ∧
  (Z.1 0 = 0 → G.2.2 (.inl (1, 0)) 1 = .ref D.2.2) ∧
  (0 < Z.1 0 → G.2.2 (.inl (1, 0)) 1 = .ref (G.1 (.inl (2, 0)))) ∧
  (0 < Z.1 0 → G.2.1 (.inl (2, 0)) = some (.inr (.inr 10))) ∧
  (∀ i, i < Z.1 0 → G.2.2 (.inl (2, 0)) i = .ref (G.1 (.inl (9, i)))) ∧
  (G.2.2 (.inl (0, 0)) 1 = .ref (G.1 (.inl (1, 1)))) ∧
  (G.2.1 (.inl (1, 1)) = some (.inl 0)) ∧
  (Z.1 1 = 0 → G.2.2 (.inl (1, 1)) 1 = .ref D.2.2) ∧
  (0 < Z.1 1 → G.2.2 (.inl (1, 1)) 1 = .ref (G.1 (.inl (2, 1)))) ∧
  (0 < Z.1 1 → G.2.1 (.inl (2, 1)) = some (.inr (.inr 10))) ∧
  (∀ i, i < Z.1 1 → G.2.2 (.inl (2, 1)) i = .ref (G.1 (.inl (10, i)))) ∧
  (G.2.2 (.inl (0, 0)) 2 = .ref (G.1 (.inl (1, 2)))) ∧
  (G.2.1 (.inl (1, 2)) = some (.inl 0)) ∧
  (Z.1 2 = 0 → G.2.2 (.inl (1, 2)) 1 = .ref D.2.2) ∧
  (0 < Z.1 2 → G.2.2 (.inl (1, 2)) 1 = .ref (G.1 (.inl (2, 2)))) ∧
  (0 < Z.1 2 → G.2.1 (.inl (2, 2)) = some (.inr (.inr 10))) ∧
  (∀ i, i < Z.1 2 → G.2.2 (.inl (2, 2)) i = .ref (G.1 (.inl (11, i)))) ∧
  (G.2.2 (.inl (0, 0)) 3 = .ref (G.1 (.inl (3, 0)))) ∧
  (G.2.1 (.inl (3, 0)) = some (.inl 6)) ∧
  (G.2.2 (.inl (3, 0)) 0 = .ref (G.1 (.inl (3, 1)))) ∧
  (G.2.1 (.inl (3, 1)) = some (.inr (.inl 150))) ∧
  (G.2.2 (.inl (0, 0)) 4 = .ref (G.1 (.inl (4, 0)))) ∧
  (G.2.1 (.inl (4, 0)) = some (.inl 10)) ∧
  (G.2.2 (.inl (4, 0)) 0 = .ref (G.1 (.inl (4, 1)))) ∧
  (G.2.1 (.inl (4, 1)) = some (.inr (.inl 100))) ∧
  (G.2.2 (.inl (4, 0)) 1 = .ref (G.1 (.inl (4, 2)))) ∧
  (G.2.1 (.inl (4, 2)) = some (.inr (.inl 100))) ∧
  (G.2.2 (.inl (0, 0)) 5 = .ref (G.1 (.inl (5, 0)))) ∧
  (G.2.2 (.inl (0, 0)) 6 = .ref (G.1 (.inl (5, 1)))) ∧
  (∀ i, i < 2 → G.2.1 (.inl (5, i)) = some (.inl 8)) ∧
  (∀ i, i < 2 → G.2.2 (.inl (5, i)) 0 = .ref (G.1 (.inl (6, i)))) ∧
  (∀ i, i < 2 → G.2.1 (.inl (6, i)) = some (.inr (.inl 20))) ∧
  (∀ i, i < 2 → G.2.2 (.inl (5, i)) 1 = .ref (G.1 (.inl (7, i)))) ∧
  (∀ i, i < 2 → G.2.1 (.inl (7, i)) = some (.inr (.inl 20))) ∧
  (G.2.2 (.inl (0, 0)) 7 = .ref (G.1 (.inl (8, 0)))) ∧
  (G.2.1 (.inl (8, 0)) = some (.inl 1)) ∧
  (G.2.2 (.inl (8, 0)) 0 = .ref (G.1 (.inl (8, 1)))) ∧
  (G.2.1 (.inl (8, 1)) = some (.inr (.inl 64))) ∧
  (G.2.2 (.inl (8, 0)) 1 = .ref (G.1 (.inl (8, 2)))) ∧
  (G.2.1 (.inl (8, 2)) = some (.inr (.inl 64))) ∧
  (G.2.2 (.inl (8, 0)) 2 = .ref (G.1 (.inl (8, 3)))) ∧
  (G.2.1 (.inl (8, 3)) = some (.inr (.inl 64))) ∧
  (∀ i, i < Z.1 0 → G.2.1 (.inl (9, i)) = some (.inl 5)) ∧
  (∀ i, i < Z.1 1 → G.2.1 (.inl (10, i)) = some (.inl 4)) ∧
  (∀ i, i < Z.1 2 → G.2.1 (.inl (11, i)) = some (.inl 7)) ∧
  (∀ i, i < Z.1 2 → G.2.2 (.inl (11, i)) 0 = .ref (G.1 (.inl (12, i)))) ∧
  (∀ i, i < Z.1 2 → G.2.2 (.inl (11, i)) 2 = .ref (G.1 (.inl (13, i)))) ∧
  (∀ i, i < Z.1 2 → G.2.2 (.inl (11, i)) 3 = .ref (G.1 (.inl (14, i)))) ∧
  (∀ i, i < Z.1 2 → G.2.1 (.inl (12, i)) = some (.inl (Z.2.1 i))) ∧
  (∀ i, i < Z.1 2 → G.2.1 (.inl (13, i)) = some (.inr (.inl (Z.2.2 i)))) ∧
  (∀ i, i < Z.1 2 → G.2.1 (.inl (14, i)) = some (.inr (.inl (Z.2.2 i)))) ∧
  (∀ i, i < Z.1 2 → (Z.2.1 i = 9 ∨ Z.2.1 i = 3 ∨ Z.2.1 i = 2))
theorem hk_Y.k0 {D : hk_D} {G : hk_G} {Z : hk_Z} (h : hk_Y D G Z) : G.2.1 (.inl (0, 0)) = some (.inl 11) := h.1
theorem hk_Y.r0_0 {D : hk_D} {G : hk_G} {Z : hk_Z} (h : hk_Y D G Z) : G.2.2 (.inl (0, 0)) 0 = .ref (G.1 (.inl (1, 0))) := h.2.1
theorem hk_Y.k1_0 {D : hk_D} {G : hk_G} {Z : hk_Z} (h : hk_Y D G Z) : G.2.1 (.inl (1, 0)) = some (.inl 0) := h.2.2.1
theorem hk_Y.e1_0 {D : hk_D} {G : hk_G} {Z : hk_Z} (h : hk_Y D G Z) : Z.1 0 = 0 → G.2.2 (.inl (1, 0)) 1 = .ref D.2.2 := h.2.2.2.1
theorem hk_Y.a1_0 {D : hk_D} {G : hk_G} {Z : hk_Z} (h : hk_Y D G Z) : 0 < Z.1 0 → G.2.2 (.inl (1, 0)) 1 = .ref (G.1 (.inl (2, 0))) := h.2.2.2.2.1
theorem hk_Y.k2_0 {D : hk_D} {G : hk_G} {Z : hk_Z} (h : hk_Y D G Z) : 0 < Z.1 0 → G.2.1 (.inl (2, 0)) = some (.inr (.inr 10)) := h.2.2.2.2.2.1
theorem hk_Y.a2_0 {D : hk_D} {G : hk_G} {Z : hk_Z} (h : hk_Y D G Z) : ∀ i, i < Z.1 0 → G.2.2 (.inl (2, 0)) i = .ref (G.1 (.inl (9, i))) := h.2.2.2.2.2.2.1
theorem hk_Y.r0_1 {D : hk_D} {G : hk_G} {Z : hk_Z} (h : hk_Y D G Z) : G.2.2 (.inl (0, 0)) 1 = .ref (G.1 (.inl (1, 1))) := h.2.2.2.2.2.2.2.1
theorem hk_Y.k1_1 {D : hk_D} {G : hk_G} {Z : hk_Z} (h : hk_Y D G Z) : G.2.1 (.inl (1, 1)) = some (.inl 0) := h.2.2.2.2.2.2.2.2.1
theorem hk_Y.e1_1 {D : hk_D} {G : hk_G} {Z : hk_Z} (h : hk_Y D G Z) : Z.1 1 = 0 → G.2.2 (.inl (1, 1)) 1 = .ref D.2.2 := h.2.2.2.2.2.2.2.2.2.1
theorem hk_Y.a1_1 {D : hk_D} {G : hk_G} {Z : hk_Z} (h : hk_Y D G Z) : 0 < Z.1 1 → G.2.2 (.inl (1, 1)) 1 = .ref (G.1 (.inl (2, 1))) := h.2.2.2.2.2.2.2.2.2.2.1
theorem hk_Y.k2_1 {D : hk_D} {G : hk_G} {Z : hk_Z} (h : hk_Y D G Z) : 0 < Z.1 1 → G.2.1 (.inl (2, 1)) = some (.inr (.inr 10)) := h.2.2.2.2.2.2.2.2.2.2.2.1
theorem hk_Y.a2_1 {D : hk_D} {G : hk_G} {Z : hk_Z} (h : hk_Y D G Z) : ∀ i, i < Z.1 1 → G.2.2 (.inl (2, 1)) i = .ref (G.1 (.inl (10, i))) := h.2.2.2.2.2.2.2.2.2.2.2.2.1
theorem hk_Y.r0_2 {D : hk_D} {G : hk_G} {Z : hk_Z} (h : hk_Y D G Z) : G.2.2 (.inl (0, 0)) 2 = .ref (G.1 (.inl (1, 2))) := h.2.2.2.2.2.2.2.2.2.2.2.2.2.1
theorem hk_Y.k1_2 {D : hk_D} {G : hk_G} {Z : hk_Z} (h : hk_Y D G Z) : G.2.1 (.inl (1, 2)) = some (.inl 0) := h.2.2.2.2.2.2.2.2.2.2.2.2.2.2.1
theorem hk_Y.e1_2 {D : hk_D} {G : hk_G} {Z : hk_Z} (h : hk_Y D G Z) : Z.1 2 = 0 → G.2.2 (.inl (1, 2)) 1 = .ref D.2.2 := h.2.2.2.2.2.2.2.2.2.2.2.2.2.2.2.1
theorem hk_Y.a1_2 {D : hk_D} {G : hk_G} {Z : hk_Z} (h : hk_Y D G Z) : 0 < Z.1 2 → G.2.2 (.inl (1, 2)) 1 = .ref (G.1 (.inl (2, 2))) := h.2.2.2.2.2.2.2.2.2.2.2.2.2.2.2.2.1
theorem hk_Y.k2_2 {D : hk_D} {G : hk_G} {Z : hk_Z} (h : hk_Y D G Z) : 0 < Z.1 2 → G.2.1 (.inl (2, 2)) = some (.inr (.inr 10)) := h.2.2.2.2.2.2.2.2.2.2.2.2.2.2.2.2.2.1
theorem hk_Y.a2_2 {D : hk_D} {G : hk_G} {Z : hk_Z} (h : hk_Y D G Z) : ∀ i, i < Z.1 2 → G.2.2 (.inl (2, 2)) i = .ref (G.1 (.inl (11, i))) := h.2.2.2.2.2.2.2.2.2.2.2.2.2.2.2.2.2.2.1
theorem hk_Y.r0_3 {D : hk_D} {G : hk_G} {Z : hk_Z} (h : hk_Y D G Z) : G.2.2 (.inl (0, 0)) 3 = .ref (G.1 (.inl (3, 0))) := h.2.2.2.2.2.2.2.2.2.2.2.2.2.2.2.2.2.2.2.1
theorem hk_Y.k3_0 {D : hk_D} {G : hk_G} {Z : hk_Z} (h : hk_Y D G Z) : G.2.1 (.inl (3, 0)) = some (.inl 6) := h.2.2.2.2.2.2.2.2.2.2.2.2.2.2.2.2.2.2.2.2.1
theorem hk_Y.r3 {D : hk_D} {G : hk_G} {Z : hk_Z} (h : hk_Y D G Z) : G.2.2 (.inl (3, 0)) 0 = .ref (G.1 (.inl (3, 1))) := h.2.2.2.2.2.2.2.2.2.2.2.2.2.2.2.2.2.2.2.2.2.1
theorem hk_Y.k3_1 {D : hk_D} {G : hk_G} {Z : hk_Z} (h : hk_Y D G Z) : G.2.1 (.inl (3, 1)) = some (.inr (.inl 150)) := h.2.2.2.2.2.2.2.2.2.2.2.2.2.2.2.2.2.2.2.2.2.2.1
theorem hk_Y.r0_4 {D : hk_D} {G : hk_G} {Z : hk_Z} (h : hk_Y D G Z) : G.2.2 (.inl (0, 0)) 4 = .ref (G.1 (.inl (4, 0))) := h.2.2.2.2.2.2.2.2.2.2.2.2.2.2.2.2.2.2.2.2.2.2.2.1
theorem hk_Y.k4_0 {D : hk_D} {G : hk_G} {Z : hk_Z} (h : hk_Y D G Z) : G.2.1 (.inl (4, 0)) = some (.inl 10) := h.2.2.2.2.2.2.2.2.2.2.2.2.2.2.2.2.2.2.2.2.2.2.2.2.1
theorem hk_Y.r4_0 {D : hk_D} {G : hk_G} {Z : hk_Z} (h : hk_Y D G Z) : G.2.2 (.inl (4, 0)) 0 = .ref (G.1 (.inl (4, 1))) := h.2.2.2.2.2.2.2.2.2.2.2.2.2.2.2.2.2.2.2.2.2.2.2.2.2.1
theorem hk_Y.k4_1 {D : hk_D} {G : hk_G} {Z : hk_Z} (h : hk_Y D G Z) : G.2.1 (.inl (4, 1)) = some (.inr (.inl 100)) := h.2.2.2.2.2.2.2.2.2.2.2.2.2.2.2.2.2.2.2.2.2.2.2.2.2.2.1
theorem hk_Y.r4_1 {D : hk_D} {G : hk_G} {Z : hk_Z} (h : hk_Y D G Z) : G.2.2 (.inl (4, 0)) 1 = .ref (G.1 (.inl (4, 2))) := h.2.2.2.2.2.2.2.2.2.2.2.2.2.2.2.2.2.2.2.2.2.2.2.2.2.2.2.1
theorem hk_Y.k4_2 {D : hk_D} {G : hk_G} {Z : hk_Z} (h : hk_Y D G Z) : G.2.1 (.inl (4, 2)) = some (.inr (.inl 100)) := h.2.2.2.2.2.2.2.2.2.2.2.2.2.2.2.2.2.2.2.2.2.2.2.2.2.2.2.2.1
theorem hk_Y.r0_5 {D : hk_D} {G : hk_G} {Z : hk_Z} (h : hk_Y D G Z) : G.2.2 (.inl (0, 0)) 5 = .ref (G.1 (.inl (5, 0))) := h.2.2.2.2.2.2.2.2.2.2.2.2.2.2.2.2.2.2.2.2.2.2.2.2.2.2.2.2.2.1
theorem hk_Y.r0_6 {D : hk_D} {G : hk_G} {Z : hk_Z} (h : hk_Y D G Z) : G.2.2 (.inl (0, 0)) 6 = .ref (G.1 (.inl (5, 1))) := h.2.2.2.2.2.2.2.2.2.2.2.2.2.2.2.2.2.2.2.2.2.2.2.2.2.2.2.2.2.2.1
theorem hk_Y.k5 {D : hk_D} {G : hk_G} {Z : hk_Z} (h : hk_Y D G Z) : ∀ i, i < 2 → G.2.1 (.inl (5, i)) = some (.inl 8) := h.2.2.2.2.2.2.2.2.2.2.2.2.2.2.2.2.2.2.2.2.2.2.2.2.2.2.2.2.2.2.2.1
theorem hk_Y.r5_0 {D : hk_D} {G : hk_G} {Z : hk_Z} (h : hk_Y D G Z) : ∀ i, i < 2 → G.2.2 (.inl (5, i)) 0 = .ref (G.1 (.inl (6, i))) := h.2.2.2.2.2.2.2.2.2.2.2.2.2.2.2.2.2.2.2.2.2.2.2.2.2.2.2.2.2.2.2.2.1
theorem hk_Y.k6 {D : hk_D} {G : hk_G} {Z : hk_Z} (h : hk_Y D G Z) : ∀ i, i < 2 → G.2.1 (.inl (6, i)) = some (.inr (.inl 20)) := h.2.2.2.2.2.2.2.2.2.2.2.2.2.2.2.2.2.2.2.2.2.2.2.2.2.2.2.2.2.2.2.2.2.1
theorem hk_Y.r5_1 {D : hk_D} {G : hk_G} {Z : hk_Z} (h : hk_Y D G Z) : ∀ i, i < 2 → G.2.2 (.inl (5, i)) 1 = .ref (G.1 (.inl (7, i))) := h.2.2.2.2.2.2.2.2.2.2.2.2.2.2.2.2.2.2.2.2.2.2.2.2.2.2.2.2.2.2.2.2.2.2.1
theorem hk_Y.k7 {D : hk_D} {G : hk_G} {Z : hk_Z} (h : hk_Y D G Z) : ∀ i, i < 2 → G.2.1 (.inl (7, i)) = some (.inr (.inl 20)) := h.2.2.2.2.2.2.2.2.2.2.2.2.2.2.2.2.2.2.2.2.2.2.2.2.2.2.2.2.2.2.2.2.2.2.2.1
theorem hk_Y.r0_7 {D : hk_D} {G : hk_G} {Z : hk_Z} (h : hk_Y D G Z) : G.2.2 (.inl (0, 0)) 7 = .ref (G.1 (.inl (8, 0))) := h.2.2.2.2.2.2.2.2.2.2.2.2.2.2.2.2.2.2.2.2.2.2.2.2.2.2.2.2.2.2.2.2.2.2.2.2.1
theorem hk_Y.k8_0 {D : hk_D} {G : hk_G} {Z : hk_Z} (h : hk_Y D G Z) : G.2.1 (.inl (8, 0)) = some (.inl 1) := h.2.2.2.2.2.2.2.2.2.2.2.2.2.2.2.2.2.2.2.2.2.2.2.2.2.2.2.2.2.2.2.2.2.2.2.2.2.1
theorem hk_Y.r8_0 {D : hk_D} {G : hk_G} {Z : hk_Z} (h : hk_Y D G Z) : G.2.2 (.inl (8, 0)) 0 = .ref (G.1 (.inl (8, 1))) := h.2.2.2.2.2.2.2.2.2.2.2.2.2.2.2.2.2.2.2.2.2.2.2.2.2.2.2.2.2.2.2.2.2.2.2.2.2.2.1
theorem hk_Y.k8_1 {D : hk_D} {G : hk_G} {Z : hk_Z} (h : hk_Y D G Z) : G.2.1 (.inl (8, 1)) = some (.inr (.inl 64)) := h.2.2.2.2.2.2.2.2.2.2.2.2.2.2.2.2.2.2.2.2.2.2.2.2.2.2.2.2.2.2.2.2.2.2.2.2.2.2.2.1
theorem hk_Y.r8_1 {D : hk_D} {G : hk_G} {Z : hk_Z} (h : hk_Y D G Z) : G.2.2 (.inl (8, 0)) 1 = .ref (G.1 (.inl (8, 2))) := h.2.2.2.2.2.2.2.2.2.2.2.2.2.2.2.2.2.2.2.2.2.2.2.2.2.2.2.2.2.2.2.2.2.2.2.2.2.2.2.2.1
theorem hk_Y.k8_2 {D : hk_D} {G : hk_G} {Z : hk_Z} (h : hk_Y D G Z) : G.2.1 (.inl (8, 2)) = some (.inr (.inl 64)) := h.2.2.2.2.2.2.2.2.2.2.2.2.2.2.2.2.2.2.2.2.2.2.2.2.2.2.2.2.2.2.2.2.2.2.2.2.2.2.2.2.2.1
theorem hk_Y.r8_2 {D : hk_D} {G : hk_G} {Z : hk_Z} (h : hk_Y D G Z) : G.2.2 (.inl (8, 0)) 2 = .ref (G.1 (.inl (8, 3))) := h.2.2.2.2.2.2.2.2.2.2.2.2.2.2.2.2.2.2.2.2.2.2.2.2.2.2.2.2.2.2.2.2.2.2.2.2.2.2.2.2.2.2.1
theorem hk_Y.k8_3 {D : hk_D} {G : hk_G} {Z : hk_Z} (h : hk_Y D G Z) : G.2.1 (.inl (8, 3)) = some (.inr (.inl 64)) := h.2.2.2.2.2.2.2.2.2.2.2.2.2.2.2.2.2.2.2.2.2.2.2.2.2.2.2.2.2.2.2.2.2.2.2.2.2.2.2.2.2.2.2.1
theorem hk_Y.k9 {D : hk_D} {G : hk_G} {Z : hk_Z} (h : hk_Y D G Z) : ∀ i, i < Z.1 0 → G.2.1 (.inl (9, i)) = some (.inl 5) := h.2.2.2.2.2.2.2.2.2.2.2.2.2.2.2.2.2.2.2.2.2.2.2.2.2.2.2.2.2.2.2.2.2.2.2.2.2.2.2.2.2.2.2.2.1
theorem hk_Y.k10 {D : hk_D} {G : hk_G} {Z : hk_Z} (h : hk_Y D G Z) : ∀ i, i < Z.1 1 → G.2.1 (.inl (10, i)) = some (.inl 4) := h.2.2.2.2.2.2.2.2.2.2.2.2.2.2.2.2.2.2.2.2.2.2.2.2.2.2.2.2.2.2.2.2.2.2.2.2.2.2.2.2.2.2.2.2.2.1
theorem hk_Y.k11 {D : hk_D} {G : hk_G} {Z : hk_Z} (h : hk_Y D G Z) : ∀ i, i < Z.1 2 → G.2.1 (.inl (11, i)) = some (.inl 7) := h.2.2.2.2.2.2.2.2.2.2.2.2.2.2.2.2.2.2.2.2.2.2.2.2.2.2.2.2.2.2.2.2.2.2.2.2.2.2.2.2.2.2.2.2.2.2.1
theorem hk_Y.r11_0 {D : hk_D} {G : hk_G} {Z : hk_Z} (h : hk_Y D G Z) : ∀ i, i < Z.1 2 → G.2.2 (.inl (11, i)) 0 = .ref (G.1 (.inl (12, i))) := h.2.2.2.2.2.2.2.2.2.2.2.2.2.2.2.2.2.2.2.2.2.2.2.2.2.2.2.2.2.2.2.2.2.2.2.2.2.2.2.2.2.2.2.2.2.2.2.1
theorem hk_Y.r11_2 {D : hk_D} {G : hk_G} {Z : hk_Z} (h : hk_Y D G Z) : ∀ i, i < Z.1 2 → G.2.2 (.inl (11, i)) 2 = .ref (G.1 (.inl (13, i))) := h.2.2.2.2.2.2.2.2.2.2.2.2.2.2.2.2.2.2.2.2.2.2.2.2.2.2.2.2.2.2.2.2.2.2.2.2.2.2.2.2.2.2.2.2.2.2.2.2.1
theorem hk_Y.r11_3 {D : hk_D} {G : hk_G} {Z : hk_Z} (h : hk_Y D G Z) : ∀ i, i < Z.1 2 → G.2.2 (.inl (11, i)) 3 = .ref (G.1 (.inl (14, i))) := h.2.2.2.2.2.2.2.2.2.2.2.2.2.2.2.2.2.2.2.2.2.2.2.2.2.2.2.2.2.2.2.2.2.2.2.2.2.2.2.2.2.2.2.2.2.2.2.2.2.1
theorem hk_Y.k12 {D : hk_D} {G : hk_G} {Z : hk_Z} (h : hk_Y D G Z) : ∀ i, i < Z.1 2 → G.2.1 (.inl (12, i)) = some (.inl (Z.2.1 i)) := h.2.2.2.2.2.2.2.2.2.2.2.2.2.2.2.2.2.2.2.2.2.2.2.2.2.2.2.2.2.2.2.2.2.2.2.2.2.2.2.2.2.2.2.2.2.2.2.2.2.2.1
theorem hk_Y.k13 {D : hk_D} {G : hk_G} {Z : hk_Z} (h : hk_Y D G Z) : ∀ i, i < Z.1 2 → G.2.1 (.inl (13, i)) = some (.inr (.inl (Z.2.2 i))) := h.2.2.2.2.2.2.2.2.2.2.2.2.2.2.2.2.2.2.2.2.2.2.2.2.2.2.2.2.2.2.2.2.2.2.2.2.2.2.2.2.2.2.2.2.2.2.2.2.2.2.2.1
theorem hk_Y.k14 {D : hk_D} {G : hk_G} {Z : hk_Z} (h : hk_Y D G Z) : ∀ i, i < Z.1 2 → G.2.1 (.inl (14, i)) = some (.inr (.inl (Z.2.2 i))) := h.2.2.2.2.2.2.2.2.2.2.2.2.2.2.2.2.2.2.2.2.2.2.2.2.2.2.2.2.2.2.2.2.2.2.2.2.2.2.2.2.2.2.2.2.2.2.2.2.2.2.2.2.1
theorem hk_Y.kn {D : hk_D} {G : hk_G} {Z : hk_Z} (h : hk_Y D G Z) : ∀ i, i < Z.1 2 → (Z.2.1 i = 9 ∨ Z.2.1 i = 3 ∨ Z.2.1 i = 2) := h.2.2.2.2.2.2.2.2.2.2.2.2.2.2.2.2.2.2.2.2.2.2.2.2.2.2.2.2.2.2.2.2.2.2.2.2.2.2.2.2.2.2.2.2.2.2.2.2.2.2.2.2.2
def hk_M (G : hk_G) : Prop :=
  (G.2.1 (.inr (0, 0)) = some (.inl 12)) ∧
  (G.2.2 (.inr (0, 0)) 3 = .ref (G.1 (.inr (1, 3)))) ∧
  (G.2.1 (.inr (1, 3)) = some (.inr (.inl 6))) ∧
  (G.2.2 (.inr (0, 0)) 4 = .ref (G.1 (.inr (1, 4)))) ∧
  (G.2.1 (.inr (1, 4)) = some (.inr (.inl 6))) ∧
  (G.2.2 (.inr (0, 0)) 5 = .ref (G.1 (.inr (1, 5)))) ∧
  (G.2.1 (.inr (1, 5)) = some (.inr (.inl 6))) ∧
  (G.2.2 (.inr (0, 0)) 6 = .ref (G.1 (.inr (1, 6)))) ∧
  (G.2.1 (.inr (1, 6)) = some (.inr (.inl 6))) ∧
  (G.2.2 (.inr (0, 0)) 7 = .ref (G.1 (.inr (1, 7)))) ∧
  (G.2.1 (.inr (1, 7)) = some (.inr (.inl 6))) ∧
  (G.2.2 (.inr (0, 0)) 8 = .ref (G.1 (.inr (1, 8)))) ∧
  (G.2.1 (.inr (1, 8)) = some (.inr (.inl 6))) ∧
  (G.2.2 (.inr (0, 0)) 10 = .ref (G.1 (.inr (1, 10)))) ∧
  (G.2.1 (.inr (1, 10)) = some (.inr (.inl 6))) ∧
  (G.2.2 (.inr (0, 0)) 11 = .ref (G.1 (.inr (1, 11)))) ∧
  (G.2.1 (.inr (1, 11)) = some (.inr (.inl 6))) ∧
  (G.2.2 (.inr (0, 0)) 12 = .ref (G.1 (.inr (1, 12)))) ∧
  (G.2.1 (.inr (1, 12)) = some (.inr (.inl 6))) ∧
  (G.2.2 (.inr (0, 0)) 13 = .ref (G.1 (.inr (1, 13)))) ∧
  (G.2.1 (.inr (1, 13)) = some (.inr (.inl 6))) ∧
  (G.2.2 (.inr (0, 0)) 14 = .ref (G.1 (.inr (1, 14)))) ∧
  (G.2.1 (.inr (1, 14)) = some (.inr (.inl 6))) ∧
  (G.2.2 (.inr (0, 0)) 15 = .ref (G.1 (.inr (1, 15)))) ∧
  (G.2.1 (.inr (1, 15)) = some (.inr (.inl 6))) ∧
  (G.2.2 (.inr (0, 0)) 16 = .ref (G.1 (.inr (1, 16)))) ∧
  (G.2.1 (.inr (1, 16)) = some (.inr (.inl 2886))) ∧
  (G.2.2 (.inr (0, 0)) 18 = .ref (G.1 (.inr (1, 18)))) ∧
  (G.2.1 (.inr (1, 18)) = some (.inr (.inl 4))) ∧
  (G.2.2 (.inr (0, 0)) 19 = .ref (G.1 (.inr (1, 19)))) ∧
  (G.2.1 (.inr (1, 19)) = some (.inr (.inl 4))) ∧
  (G.2.2 (.inr (0, 0)) 20 = .ref (G.1 (.inr (1, 20)))) ∧
  (G.2.1 (.inr (1, 20)) = some (.inr (.inl 4))) ∧
  (G.2.2 (.inr (0, 0)) 21 = .ref (G.1 (.inr (1, 21)))) ∧
  (G.2.1 (.inr (1, 21)) = some (.inr (.inl 4))) ∧
  (G.2.2 (.inr (0, 0)) 22 = .ref (G.1 (.inr (1, 22)))) ∧
  (G.2.1 (.inr (1, 22)) = some (.inr (.inl 4))) ∧
  (G.2.2 (.inr (0, 0)) 23 = .ref (G.1 (.inr (1, 23)))) ∧
  (G.2.1 (.inr (1, 23)) = some (.inr (.inl 800))) ∧
  (G.2.2 (.inr (0, 0)) 25 = .ref (G.1 (.inr (1, 25)))) ∧
  (G.2.1 (.inr (1, 25)) = some (.inr (.inl 100))) ∧
  (G.2.2 (.inr (0, 0)) 26 = .ref (G.1 (.inr (1, 26)))) ∧
  (G.2.1 (.inr (1, 26)) = some (.inr (.inl 100))) ∧
  (G.2.2 (.inr (0, 0)) 30 = .ref (G.1 (.inr (1, 30)))) ∧
  (G.2.1 (.inr (1, 30)) = some (.inr (.inl 20))) ∧
  (G.2.2 (.inr (0, 0)) 31 = .ref (G.1 (.inr (1, 31)))) ∧
  (G.2.1 (.inr (1, 31)) = some (.inr (.inl 20))) ∧
  (G.2.2 (.inr (0, 0)) 33 = .ref (G.1 (.inr (1, 33)))) ∧
  (G.2.1 (.inr (1, 33)) = some (.inr (.inl 20))) ∧
  (G.2.2 (.inr (0, 0)) 34 = .ref (G.1 (.inr (1, 34)))) ∧
  (G.2.1 (.inr (1, 34)) = some (.inr (.inl 20))) ∧
  (G.2.2 (.inr (0, 0)) 36 = .ref (G.1 (.inr (1, 36)))) ∧
  (G.2.1 (.inr (1, 36)) = some (.inr (.inl 7)))
theorem hk_M.k0 {G : hk_G} (h : hk_M G) : G.2.1 (.inr (0, 0)) = some (.inl 12) := h.1
theorem hk_M.r3 {G : hk_G} (h : hk_M G) : G.2.2 (.inr (0, 0)) 3 = .ref (G.1 (.inr (1, 3))) := h.2.1
theorem hk_M.k3 {G : hk_G} (h : hk_M G) : G.2.1 (.inr (1, 3)) = some (.inr (.inl 6)) := h.2.2.1
theorem hk_M.r4 {G : hk_G} (h : hk_M G) : G.2.2 (.inr (0, 0)) 4 = .ref (G.1 (.inr (1, 4))) := h.2.2.2.1
theorem hk_M.k4 {G : hk_G} (h : hk_M G) : G.2.1 (.inr (1, 4)) = some (.inr (.inl 6)) := h.2.2.2.2.1
theorem hk_M.r5 {G : hk_G} (h : hk_M G) : G.2.2 (.inr (0, 0)) 5 = .ref (G.1 (.inr (1, 5))) := h.2.2.2.2.2.1
theorem hk_M.k5 {G : hk_G} (h : hk_M G) : G.2.1 (.inr (1, 5)) = some (.inr (.inl 6)) := h.2.2.2.2.2.2.1
theorem hk_M.r6 {G : hk_G} (h : hk_M G) : G.2.2 (.inr (0, 0)) 6 = .ref (G.1 (.inr (1, 6))) := h.2.2.2.2.2.2.2.1
theorem hk_M.k6 {G : hk_G} (h : hk_M G) : G.2.1 (.inr (1, 6)) = some (.inr (.inl 6)) := h.2.2.2.2.2.2.2.2.1
theorem hk_M.r7 {G : hk_G} (h : hk_M G) : G.2.2 (.inr (0, 0)) 7 = .ref (G.1 (.inr (1, 7))) := h.2.2.2.2.2.2.2.2.2.1
theorem hk_M.k7 {G : hk_G} (h : hk_M G) : G.2.1 (.inr (1, 7)) = some (.inr (.inl 6)) := h.2.2.2.2.2.2.2.2.2.2.1
theorem hk_M.r8 {G : hk_G} (h : hk_M G) : G.2.2 (.inr (0, 0)) 8 = .ref (G.1 (.inr (1, 8))) := h.2.2.2.2.2.2.2.2.2.2.2.1
theorem hk_M.k8 {G : hk_G} (h : hk_M G) : G.2.1 (.inr (1, 8)) = some (.inr (.inl 6)) := h.2.2.2.2.2.2.2.2.2.2.2.2.1
theorem hk_M.r10 {G : hk_G} (h : hk_M G) : G.2.2 (.inr (0, 0)) 10 = .ref (G.1 (.inr (1, 10))) := h.2.2.2.2.2.2.2.2.2.2.2.2.2.1
theorem hk_M.k10 {G : hk_G} (h : hk_M G) : G.2.1 (.inr (1, 10)) = some (.inr (.inl 6)) := h.2.2.2.2.2.2.2.2.2.2.2.2.2.2.1
theorem hk_M.r11 {G : hk_G} (h : hk_M G) : G.2.2 (.inr (0, 0)) 11 = .ref (G.1 (.inr (1, 11))) := h.2.2.2.2.2.2.2.2.2.2.2.2.2.2.2.1
theorem hk_M.k11 {G : hk_G} (h : hk_M G) : G.2.1 (.inr (1, 11)) = some (.inr (.inl 6)) := h.2.2.2.2.2.2.2.2.2.2.2.2.2.2.2.2.1
theorem hk_M.r12 {G : hk_G} (h : hk_M G) : G.2.2 (.inr (0, 0)) 12 = .ref (G.1 (.inr (1, 12))) := h.2.2.2.2.2.2.2.2.2.2.2.2.2.2.2.2.2.1
theorem hk_M.k12 {G : hk_G} (h : hk_M G) : G.2.1 (.inr (1, 12)) = some (.inr (.inl 6)) := h.2.2.2.2.2.2.2.2.2.2.2.2.2.2.2.2.2.2.1
theorem hk_M.r13 {G : hk_G} (h : hk_M G) : G.2.2 (.inr (0, 0)) 13 = .ref (G.1 (.inr (1, 13))) := h.2.2.2.2.2.2.2.2.2.2.2.2.2.2.2.2.2.2.2.1
theorem hk_M.k13 {G : hk_G} (h : hk_M G) : G.2.1 (.inr (1, 13)) = some (.inr (.inl 6)) := h.2.2.2.2.2.2.2.2.2.2.2.2.2.2.2.2.2.2.2.2.1
theorem hk_M.r14 {G : hk_G} (h : hk_M G) : G.2.2 (.inr (0, 0)) 14 = .ref (G.1 (.inr (1, 14))) := h.2.2.2.2.2.2.2.2.2.2.2.2.2.2.2.2.2.2.2.2.2.1
theorem hk_M.k14 {G : hk_G} (h : hk_M G) : G.2.1 (.inr (1, 14)) = some (.inr (.inl 6)) := h.2.2.2.2.2.2.2.2.2.2.2.2.2.2.2.2.2.2.2.2.2.2.1
theorem hk_M.r15 {G : hk_G} (h : hk_M G) : G.2.2 (.inr (0, 0)) 15 = .ref (G.1 (.inr (1, 15))) := h.2.2.2.2.2.2.2.2.2.2.2.2.2.2.2.2.2.2.2.2.2.2.2.1
theorem hk_M.k15 {G : hk_G} (h : hk_M G) : G.2.1 (.inr (1, 15)) = some (.inr (.inl 6)) := h.2.2.2.2.2.2.2.2.2.2.2.2.2.2.2.2.2.2.2.2.2.2.2.2.1
theorem hk_M.r16 {G : hk_G} (h : hk_M G) : G.2.2 (.inr (0, 0)) 16 = .ref (G.1 (.inr (1, 16))) := h.2.2.2.2.2.2.2.2.2.2.2.2.2.2.2.2.2.2.2.2.2.2.2.2.2.1
theorem hk_M.k16 {G : hk_G} (h : hk_M G) : G.2.1 (.inr (1, 16)) = some (.inr (.inl 2886)) := h.2.2.2.2.2.2.2.2.2.2.2.2.2.2.2.2.2.2.2.2.2.2.2.2.2.2.1
theorem hk_M.r18 {G : hk_G} (h : hk_M G) : G.2.2 (.inr (0, 0)) 18 = .ref (G.1 (.inr (1, 18))) := h.2.2.2.2.2.2.2.2.2.2.2.2.2.2.2.2.2.2.2.2.2.2.2.2.2.2.2.1
theorem hk_M.k18 {G : hk_G} (h : hk_M G) : G.2.1 (.inr (1, 18)) = some (.inr (.inl 4)) := h.2.2.2.2.2.2.2.2.2.2.2.2.2.2.2.2.2.2.2.2.2.2.2.2.2.2.2.2.1
theorem hk_M.r19 {G : hk_G} (h : hk_M G) : G.2.2 (.inr (0, 0)) 19 = .ref (G.1 (.inr (1, 19))) := h.2.2.2.2.2.2.2.2.2.2.2.2.2.2.2.2.2.2.2.2.2.2.2.2.2.2.2.2.2.1
theorem hk_M.k19 {G : hk_G} (h : hk_M G) : G.2.1 (.inr (1, 19)) = some (.inr (.inl 4)) := h.2.2.2.2.2.2.2.2.2.2.2.2.2.2.2.2.2.2.2.2.2.2.2.2.2.2.2.2.2.2.1
theorem hk_M.r20 {G : hk_G} (h : hk_M G) : G.2.2 (.inr (0, 0)) 20 = .ref (G.1 (.inr (1, 20))) := h.2.2.2.2.2.2.2.2.2.2.2.2.2.2.2.2.2.2.2.2.2.2.2.2.2.2.2.2.2.2.2.1
theorem hk_M.k20 {G : hk_G} (h : hk_M G) : G.2.1 (.inr (1, 20)) = some (.inr (.inl 4)) := h.2.2.2.2.2.2.2.2.2.2.2.2.2.2.2.2.2.2.2.2.2.2.2.2.2.2.2.2.2.2.2.2.1
theorem hk_M.r21 {G : hk_G} (h : hk_M G) : G.2.2 (.inr (0, 0)) 21 = .ref (G.1 (.inr (1, 21))) := h.2.2.2.2.2.2.2.2.2.2.2.2.2.2.2.2.2.2.2.2.2.2.2.2.2.2.2.2.2.2.2.2.2.1
theorem hk_M.k21 {G : hk_G} (h : hk_M G) : G.2.1 (.inr (1, 21)) = some (.inr (.inl 4)) := h.2.2.2.2.2.2.2.2.2.2.2.2.2.2.2.2.2.2.2.2.2.2.2.2.2.2.2.2.2.2.2.2.2.2.1
theorem hk_M.r22 {G : hk_G} (h : hk_M G) : G.2.2 (.inr (0, 0)) 22 = .ref (G.1 (.inr (1, 22))) := h.2.2.2.2.2.2.2.2.2.2.2.2.2.2.2.2.2.2.2.2.2.2.2.2.2.2.2.2.2.2.2.2.2.2.2.1
theorem hk_M.k22 {G : hk_G} (h : hk_M G) : G.2.1 (.inr (1, 22)) = some (.inr (.inl 4)) := h.2.2.2.2.2.2.2.2.2.2.2.2.2.2.2.2.2.2.2.2.2.2.2.2.2.2.2.2.2.2.2.2.2.2.2.2.1
theorem hk_M.r23 {G : hk_G} (h : hk_M G) : G.2.2 (.inr (0, 0)) 23 = .ref (G.1 (.inr (1, 23))) := h.2.2.2.2.2.2.2.2.2.2.2.2.2.2.2.2.2.2.2.2.2.2.2.2.2.2.2.2.2.2.2.2.2.2.2.2.2.1
theorem hk_M.k23 {G : hk_G} (h : hk_M G) : G.2.1 (.inr (1, 23)) = some (.inr (.inl 800)) := h.2.2.2.2.2.2.2.2.2.2.2.2.2.2.2.2.2.2.2.2.2.2.2.2.2.2.2.2.2.2.2.2.2.2.2.2.2.2.1
theorem hk_M.r25 {G : hk_G} (h : hk_M G) : G.2.2 (.inr (0, 0)) 25 = .ref (G.1 (.inr (1, 25))) := h.2.2.2.2.2.2.2.2.2.2.2.2.2.2.2.2.2.2.2.2.2.2.2.2.2.2.2.2.2.2.2.2.2.2.2.2.2.2.2.1
theorem hk_M.k25 {G : hk_G} (h : hk_M G) : G.2.1 (.inr (1, 25)) = some (.inr (.inl 100)) := h.2.2.2.2.2.2.2.2.2.2.2.2.2.2.2.2.2.2.2.2.2.2.2.2.2.2.2.2.2.2.2.2.2.2.2.2.2.2.2.2.1
theorem hk_M.r26 {G : hk_G} (h : hk_M G) : G.2.2 (.inr (0, 0)) 26 = .ref (G.1 (.inr (1, 26))) := h.2.2.2.2.2.2.2.2.2.2.2.2.2.2.2.2.2.2.2.2.2.2.2.2.2.2.2.2.2.2.2.2.2.2.2.2.2.2.2.2.2.1
theorem hk_M.k26 {G : hk_G} (h : hk_M G) : G.2.1 (.inr (1, 26)) = some (.inr (.inl 100)) := h.2.2.2.2.2.2.2.2.2.2.2.2.2.2.2.2.2.2.2.2.2.2.2.2.2.2.2.2.2.2.2.2.2.2.2.2.2.2.2.2.2.2.1
theorem hk_M.r30 {G : hk_G} (h : hk_M G) : G.2.2 (.inr (0, 0)) 30 = .ref (G.1 (.inr (1, 30))) := h.2.2.2.2.2.2.2.2.2.2.2.2.2.2.2.2.2.2.2.2.2.2.2.2.2.2.2.2.2.2.2.2.2.2.2.2.2.2.2.2.2.2.2.1
theorem hk_M.k30 {G : hk_G} (h : hk_M G) : G.2.1 (.inr (1, 30)) = some (.inr (.inl 20)) := h.2.2.2.2.2.2.2.2.2.2.2.2.2.2.2.2.2.2.2.2.2.2.2.2.2.2.2.2.2.2.2.2.2.2.2.2.2.2.2.2.2.2.2.2.1
theorem hk_M.r31 {G : hk_G} (h : hk_M G) : G.2.2 (.inr (0, 0)) 31 = .ref (G.1 (.inr (1, 31))) := h.2.2.2.2.2.2.2.2.2.2.2.2.2.2.2.2.2.2.2.2.2.2.2.2.2.2.2.2.2.2.2.2.2.2.2.2.2.2.2.2.2.2.2.2.2.1
theorem hk_M.k31 {G : hk_G} (h : hk_M G) : G.2.1 (.inr (1, 31)) = some (.inr (.inl 20)) := h.2.2.2.2.2.2.2.2.2.2.2.2.2.2.2.2.2.2.2.2.2.2.2.2.2.2.2.2.2.2.2.2.2.2.2.2.2.2.2.2.2.2.2.2.2.2.1
theorem hk_M.r33 {G : hk_G} (h : hk_M G) : G.2.2 (.inr (0, 0)) 33 = .ref (G.1 (.inr (1, 33))) := h.2.2.2.2.2.2.2.2.2.2.2.2.2.2.2.2.2.2.2.2.2.2.2.2.2.2.2.2.2.2.2.2.2.2.2.2.2.2.2.2.2.2.2.2.2.2.2.1
theorem hk_M.k33 {G : hk_G} (h : hk_M G) : G.2.1 (.inr (1, 33)) = some (.inr (.inl 20)) := h.2.2.2.2.2.2.2.2.2.2.2.2.2.2.2.2.2.2.2.2.2.2.2.2.2.2.2.2.2.2.2.2.2.2.2.2.2.2.2.2.2.2.2.2.2.2.2.2.1
theorem hk_M.r34 {G : hk_G} (h : hk_M G) : G.2.2 (.inr (0, 0)) 34 = .ref (G.1 (.inr (1, 34))) := h.2.2.2.2.2.2.2.2.2.2.2.2.2.2.2.2.2.2.2.2.2.2.2.2.2.2.2.2.2.2.2.2.2.2.2.2.2.2.2.2.2.2.2.2.2.2.2.2.2.1
theorem hk_M.k34 {G : hk_G} (h : hk_M G) : G.2.1 (.inr (1, 34)) = some (.inr (.inl 20)) := h.2.2.2.2.2.2.2.2.2.2.2.2.2.2.2.2.2.2.2.2.2.2.2.2.2.2.2.2.2.2.2.2.2.2.2.2.2.2.2.2.2.2.2.2.2.2.2.2.2.2.1
theorem hk_M.r36 {G : hk_G} (h : hk_M G) : G.2.2 (.inr (0, 0)) 36 = .ref (G.1 (.inr (1, 36))) := h.2.2.2.2.2.2.2.2.2.2.2.2.2.2.2.2.2.2.2.2.2.2.2.2.2.2.2.2.2.2.2.2.2.2.2.2.2.2.2.2.2.2.2.2.2.2.2.2.2.2.2.1
theorem hk_M.k36 {G : hk_G} (h : hk_M G) : G.2.1 (.inr (1, 36)) = some (.inr (.inl 7)) := h.2.2.2.2.2.2.2.2.2.2.2.2.2.2.2.2.2.2.2.2.2.2.2.2.2.2.2.2.2.2.2.2.2.2.2.2.2.2.2.2.2.2.2.2.2.2.2.2.2.2.2.2
theorem hk_sw2 (x : Int32) : (x = 0 ∨ x = 1 ∨ x = 2) ∨ ((x.toInt < 0 ∨ 2 < x.toInt) ∧ ¬ x = 0 ∧ ¬ x = 1 ∧ ¬ x = 2) := by
  by_cases h : (x.toInt < 0 ∨ 2 < x.toInt)
  · refine Or.inr ?_
    refine ⟨h, ?_, ?_, ?_⟩ <;> (intro e; subst e; revert h; decide)
  · refine Or.inl ?_
    have h2 : x.toInt = 0 ∨ x.toInt = 1 ∨ x.toInt = 2 := by omega
    have key : ∀ k : Nat, k < 2 ^ 31 → x.toInt = (k : Int) → x = Int32.ofNat k := fun k hk e => Int32.toInt_inj.mp (by rw [e]; exact (nI_toInt hk).symm)
    rcases h2 with h2 | h2 | h2
    · exact Or.inl (key 0 (by decide) h2)
    · exact Or.inr (Or.inl (key 1 (by decide) h2))
    · exact Or.inr (Or.inr ((key 2 (by decide) h2)))
theorem hk_sw3 (x : Int32) : (x = 0 ∨ x = 1 ∨ x = 2 ∨ x = 3) ∨ ((x.toInt < 0 ∨ 3 < x.toInt) ∧ ¬ x = 0 ∧ ¬ x = 1 ∧ ¬ x = 2 ∧ ¬ x = 3) := by
  by_cases h : (x.toInt < 0 ∨ 3 < x.toInt)
  · refine Or.inr ?_
    refine ⟨h, ?_, ?_, ?_, ?_⟩ <;> (intro e; subst e; revert h; decide)
  · refine Or.inl ?_
    have h2 : x.toInt = 0 ∨ x.toInt = 1 ∨ x.toInt = 2 ∨ x.toInt = 3 := by omega
    have key : ∀ k : Nat, k < 2 ^ 31 → x.toInt = (k : Int) → x = Int32.ofNat k := fun k hk e => Int32.toInt_inj.mp (by rw [e]; exact (nI_toInt hk).symm)
    rcases h2 with h2 | h2 | h2 | h2
    · exact Or.inl (key 0 (by decide) h2)
    · exact Or.inr (Or.inl (key 1 (by decide) h2))
    · exact Or.inr (Or.inr (Or.inl (key 2 (by decide) h2)))
    · exact Or.inr (Or.inr (Or.inr ((key 3 (by decide) h2))))
theorem hk_sw5 (x : Int32) : (x = 0 ∨ x = 1 ∨ x = 2 ∨ x = 3 ∨ x = 4 ∨ x = 5) ∨ ((x.toInt < 0 ∨ 5 < x.toInt) ∧ ¬ x = 0 ∧ ¬ x = 1 ∧ ¬ x = 2 ∧ ¬ x = 3 ∧ ¬ x = 4 ∧ ¬ x = 5) := by
  by_cases h : (x.toInt < 0 ∨ 5 < x.toInt)
  · refine Or.inr ?_
    refine ⟨h, ?_, ?_, ?_, ?_, ?_, ?_⟩ <;> (intro e; subst e; revert h; decide)
  · refine Or.inl ?_
    have h2 : x.toInt = 0 ∨ x.toInt = 1 ∨ x.toInt = 2 ∨ x.toInt = 3 ∨ x.toInt = 4 ∨ x.toInt = 5 := by omega
    have key : ∀ k : Nat, k < 2 ^ 31 → x.toInt = (k : Int) → x = Int32.ofNat k := fun k hk e => Int32.toInt_inj.mp (by rw [e]; exact (nI_toInt hk).symm)
    rcases h2 with h2 | h2 | h2 | h2 | h2 | h2
    · exact Or.inl (key 0 (by decide) h2)
    · exact Or.inr (Or.inl (key 1 (by decide) h2))
    · exact Or.inr (Or.inr (Or.inl (key 2 (by decide) h2)))
    · exact Or.inr (Or.inr (Or.inr (Or.inl (key 3 (by decide) h2))))
    · exact Or.inr (Or.inr (Or.inr (Or.inr (Or.inl (key 4 (by decide) h2)))))
    · exact Or.inr (Or.inr (Or.inr (Or.inr (Or.inr ((key 5 (by decide) h2))))))
theorem hk_sw9 (x : Int32) : (x = 0 ∨ x = 1 ∨ x = 2 ∨ x = 3 ∨ x = 4 ∨ x = 5 ∨ x = 6 ∨ x = 7 ∨ x = 8 ∨ x = 9) ∨ ((x.toInt < 0 ∨ 9 < x.toInt) ∧ ¬ x = 0 ∧ ¬ x = 1 ∧ ¬ x = 2 ∧ ¬ x = 3 ∧ ¬ x = 4 ∧ ¬ x = 5 ∧ ¬ x = 6 ∧ ¬ x = 7 ∧ ¬ x = 8 ∧ ¬ x = 9) := by
  by_cases h : (x.toInt < 0 ∨ 9 < x.toInt)
  · refine Or.inr ?_
    refine ⟨h, ?_, ?_, ?_, ?_, ?_, ?_, ?_, ?_, ?_, ?_⟩ <;> (intro e; subst e; revert h; decide)
  · refine Or.inl ?_
    have h2 : x.toInt = 0 ∨ x.toInt = 1 ∨ x.toInt = 2 ∨ x.toInt = 3 ∨ x.toInt = 4 ∨ x.toInt = 5 ∨ x.toInt = 6 ∨ x.toInt = 7 ∨ x.toInt = 8 ∨ x.toInt = 9 := by omega
    have key : ∀ k : Nat, k < 2 ^ 31 → x.toInt = (k : Int) → x = Int32.ofNat k := fun k hk e => Int32.toInt_inj.mp (by rw [e]; exact (nI_toInt hk).symm)
    rcases h2 with h2 | h2 | h2 | h2 | h2 | h2 | h2 | h2 | h2 | h2
    · exact Or.inl (key 0 (by decide) h2)
    · exact Or.inr (Or.inl (key 1 (by decide) h2))
    · exact Or.inr (Or.inr (Or.inl (key 2 (by decide) h2)))
    · exact Or.inr (Or.inr (Or.inr (Or.inl (key 3 (by decide) h2))))
    · exact Or.inr (Or.inr (Or.inr (Or.inr (Or.inl (key 4 (by decide) h2)))))
    · exact Or.inr (Or.inr (Or.inr (Or.inr (Or.inr (Or.inl (key 5 (by decide) h2))))))
    · exact Or.inr (Or.inr (Or.inr (Or.inr (Or.inr (Or.inr (Or.inl (key 6 (by decide) h2)))))))
    · exact Or.inr (Or.inr (Or.inr (Or.inr (Or.inr (Or.inr (Or.inr (Or.inl (key 7 (by decide) h2))))))))
    · exact Or.inr (Or.inr (Or.inr (Or.inr (Or.inr (Or.inr (Or.inr (Or.inr (Or.inl (key 8 (by decide) h2)))))))))
    · exact Or.inr (Or.inr (Or.inr (Or.inr (Or.inr (Or.inr (Or.inr (Or.inr (Or.inr ((key 9 (by decide) h2))))))))))
end
section
section HKCAST
variable {p : Program} {l : Launch} {e : Env} {R : Room} {s : State} {m : MethodId} {args : Array Value} {below : List Frame} {meth : Method} {c : Code} {H : Heap} {locs : List Loc} {cells slots : Nat} {Q : State → Prop}
variable {cc : ByteArray} {pc : Nat} {ls : Array Slot} {rest : List Value} {D : hk_D} {G : hk_G} {iv : hk_V} {L : hk_L}
theorem hk_cast (hexec : p.tables.exec = Jvm.exec) (hb : c.code = cc) {own C : String} {T : u_T} {N ci index : Nat} {ty : Nat → FieldType} (ht : ∀ w ∈ lw_tg, w.before args s = true) (hown : s.vm.findClass own = some m.cls) (hK : hk_K D s) (hH : hk_H D G iv H) (hc : hk_cls ci C T N ty) (hkd : G.2.1 L = some (.inl ci)) (hlink : Cond.classLink own index C ∈ lw_tg) (hdg : decode cc pc = .ok (.checkcast index, 3))
    (k : W p l e R s m args below meth c H locs cells slots Q (F0 m (pc + 3) ls (.ref (G.1 L) :: rest))) : W p l e R s m args below meth c H locs cells slots Q (F0 m pc ls (.ref (G.1 L) :: rest)) :=
  va_castS hexec hb hown (ht _ hlink) (hK.1.1 ci _ hc.1).2 (hk_recv hK hH hc.1 hkd) hdg k
end HKCAST
def hk_in (x a b : Int32) : Int32 := if x < a then 0 else if b < x then 0 else 1
theorem hk_in_01 (x a b : Int32) : hk_in x a b = 0 ∨ hk_in x a b = 1 := by
  unfold hk_in
  split
  · exact Or.inl rfl
  · split
    · exact Or.inl rfl
    · exact Or.inr rfl
theorem hk_in_ne {x a b : Int32} (h : ¬ hk_in x a b = 0) : ¬ x < a ∧ ¬ b < x := by
  unfold hk_in at h
  refine ⟨fun q => h (if_pos q), fun q => h ?_⟩
  split
  · rfl
  · rfl
theorem hk_in_ix {x : Int32} {n : Nat} {b : Int32} (hb : b = nI n) (hn : n < 2 ^ 31) (h : ¬ hk_in x 0 b = 0) : x.toNatClampNeg ≤ n ∧ x = nI x.toNatClampNeg := by
  obtain ⟨h1, h2⟩ := hk_in_ne h
  subst hb
  obtain ⟨j, hj, rfl⟩ := nI_of h1
  rw [nI_clamp hj]
  refine ⟨?_, rfl⟩
  rcases Nat.lt_or_ge n j with q | q
  · exact absurd (nI_lt q hj) h2
  · exact q
theorem hk_vin {x : Int32} {n : Nat} (h0 : ¬ x < 0) (h1 : ¬ nI n ≤ x) : vp_in x n := by
  obtain ⟨j, hj, rfl⟩ := nI_of h0
  rw [vp_in, nI_clamp hj]
  intro h
  rcases h with h | h
  · exact h0 h
  · exact h1 (nI_le h hj)
def hk_wh {α : Type} (f : α → Option α) : Nat → α → α
  | 0, s => s
  | n + 1, s => match f s with
    | none => s
    | some s2 => hk_wh f n s2
theorem hk_wh_n {α : Type} {f : α → Option α} {n : Nat} {s : α} (h : f s = none) : hk_wh f (n + 1) s = s := by simp only [hk_wh, h]
theorem hk_wh_s {α : Type} {f : α → Option α} {n : Nat} {s s2 : α} (h : f s = some s2) : hk_wh f (n + 1) s = hk_wh f n s2 := by simp only [hk_wh, h]
set_option maxHeartbeats 4000000 in
set_option maxRecDepth 100000 in
theorem c_within (l : Launch) (D : hk_D) (G : hk_G) (τ σ : hk_v) (x : Int32) (a : Int32) (b : Int32)   : Met l yX10_within (hk_ws yX10_within cX10_within 3 (some FieldType.boolean)) ({ frames := 0, cells := 0, slots := 0, locals := 0 }) (hk_P D G (hk_cm τ σ) [.int x, .int a, .int b]) (hk_Q D (hk_e G (some (.int (hk_in x a b))) (hk_cm τ σ))) 0 0 (hk_A D) := by
  refine hk_met (by decide +kernel) (Nat.le_of_ble_eq_true rfl) (fun p e s m below meth c hx hb hr hml hlocks ht hown hin hK hH hS ls hl => ?_)
  have hl : lv_has ls 3 [(0, .int x), (1, .int a), (2, .int b)] := hl
  refine lv_iload_n hx hb dX10_within_0 rfl (lv_at hl 0 rfl) ?_
  refine lv_iload_n hx hb dX10_within_1 rfl (lv_at hl 1 rfl) ?_
  refine lv_icmp_lt (tgt := 14) hx hb dX10_within_2 (by decide) (fun c_1 => ?_) (fun c_1 => ?_)
  · refine lv_iconst (v := 0) hx hb dX10_within_14 (by decide) ?_
    exact hk_zret hx hb hr hlocks (by decide) hH hS ⟨(by simp only [hk_in, if_pos c_1]), rfl, rfl⟩ dX10_within_15
  · refine lv_iload_n hx hb dX10_within_5 rfl (lv_at hl 0 rfl) ?_
    refine lv_iload_n hx hb dX10_within_6 rfl (lv_at hl 2 rfl) ?_
    refine lv_icmp_gt (tgt := 14) hx hb dX10_within_7 (by decide) (fun c_2 => ?_) (fun c_2 => ?_)
    · refine lv_iconst (v := 0) hx hb dX10_within_14 (by decide) ?_
      exact hk_zret hx hb hr hlocks (by decide) hH hS ⟨(by simp only [hk_in, if_neg c_1, if_pos c_2]), rfl, rfl⟩ dX10_within_15
    · refine lv_iconst (v := 1) hx hb dX10_within_10 (by decide) ?_
      refine lv_goto (tgt := 15) hx hb dX10_within_11 (by decide) ?_
      exact hk_zret hx hb hr hlocks (by decide) hH hS ⟨(by simp only [hk_in, if_neg c_1, if_neg c_2]), rfl, rfl⟩ dX10_within_15
set_option maxHeartbeats 4000000 in
set_option maxRecDepth 100000 in
theorem c_isIn (l : Launch) (D : hk_D) (G : hk_G) (τ σ : hk_v) (x : Int32) (a : Int32) (b : Int32)   : Met l yX11_isIn (hk_ws yX11_isIn cX11_isIn 3 (some FieldType.boolean)) ({ frames := 0, cells := 0, slots := 0, locals := 0 }) (hk_P D G (hk_cm τ σ) [.int x, .int a, .int b]) (hk_Q D (hk_e G (some (.int (hk_in x a b))) (hk_cm τ σ))) 0 0 (hk_A D) := by
  refine hk_met (by decide +kernel) (Nat.le_of_ble_eq_true rfl) (fun p e s m below meth c hx hb hr hml hlocks ht hown hin hK hH hS ls hl => ?_)
  have hl : lv_has ls 3 [(0, .int x), (1, .int a), (2, .int b)] := hl
  refine lv_iload_n hx hb dX11_isIn_0 rfl (lv_at hl 0 rfl) ?_
  refine lv_iload_n hx hb dX11_isIn_1 rfl (lv_at hl 1 rfl) ?_
  refine lv_icmp_lt (tgt := 14) hx hb dX11_isIn_2 (by decide) (fun c_1 => ?_) (fun c_1 => ?_)
  · refine lv_iconst (v := 0) hx hb dX11_isIn_14 (by decide) ?_
    exact hk_zret hx hb hr hlocks (by decide) hH hS ⟨(by simp only [hk_in, if_pos c_1]), rfl, rfl⟩ dX11_isIn_15
  · refine lv_iload_n hx hb dX11_isIn_5 rfl (lv_at hl 0 rfl) ?_
    refine lv_iload_n hx hb dX11_isIn_6 rfl (lv_at hl 2 rfl) ?_
    refine lv_icmp_gt (tgt := 14) hx hb dX11_isIn_7 (by decide) (fun c_2 => ?_) (fun c_2 => ?_)
    · refine lv_iconst (v := 0) hx hb dX11_isIn_14 (by decide) ?_
      exact hk_zret hx hb hr hlocks (by decide) hH hS ⟨(by simp only [hk_in, if_neg c_1, if_pos c_2]), rfl, rfl⟩ dX11_isIn_15
    · refine lv_iconst (v := 1) hx hb dX11_isIn_10 (by decide) ?_
      refine lv_goto (tgt := 15) hx hb dX11_isIn_11 (by decide) ?_
      exact hk_zret hx hb hr hlocks (by decide) hH hS ⟨(by simp only [hk_in, if_neg c_1, if_neg c_2]), rfl, rfl⟩ dX11_isIn_15
theorem ymS_X10_within : hk_mS yX10_within cX10_within 3 (some FieldType.boolean) 3 := ⟨tw_208, tw_207, tw_34, by decide, by decide, by decide +kernel⟩
def F_isRipe (τ : hk_v) (i : Nat) (day : Int32) : Int32 := hk_in day (τ (9, i) 0) (τ (9, i) 1)
set_option maxHeartbeats 4000000 in
set_option maxRecDepth 100000 in
theorem c_isRipe (l : Launch) (D : hk_D) (G : hk_G) (Z : hk_Z) (τ σ : hk_v) (i : Nat) (day : Int32) (hG : hk_Y D G Z) (hi : i < Z.1 0) : Met l yX4_isRipe (hk_ws yX4_isRipe cX4_isRipe 2 (some FieldType.boolean)) ({ frames := 1, cells := 0, slots := 0, locals := 22 }) (hk_P D G (hk_cm τ σ) [.ref (G.1 (.inl (9, i))), .int day]) (hk_Q D (hk_e G (some (.int (F_isRipe τ i day))) (hk_cm τ σ))) 0 0 (hk_A D) := by
  refine hk_met (by decide +kernel) (Nat.le_of_ble_eq_true rfl) (fun p e s m below meth c hx hb hr hml hlocks ht hown hin hK hH hS ls hl => ?_)
  have hl : lv_has ls 2 [(0, .ref (G.1 (.inl (9, i)))), (1, .int day)] := hl
  refine lv_iload_n hx hb dX4_isRipe_0 rfl (lv_at hl 1 rfl) ?_
  refine lv_aload_n hx hb dX4_isRipe_1 rfl (lv_at hl 0 rfl) ?_
  refine hk_geti (L := (.inl (9, i))) (v := τ (9, i) 0) hx hb ht hown hK hH kc_5 (hG.k9 i hi) 0 (by decide) rfl tw_219 rfl rfl dX4_isRipe_2 ?_
  refine lv_aload_n hx hb dX4_isRipe_5 rfl (lv_at hl 0 rfl) ?_
  refine hk_geti (L := (.inl (9, i))) (v := τ (9, i) 1) hx hb ht hown hK hH kc_5 (hG.k9 i hi) 1 (by decide) rfl tw_220 rfl rfl dX4_isRipe_6 ?_
  refine hk_cSN (As := [.int day, .int (τ (9, i) 0), .int (τ (9, i) 1)]) (rest := []) hx hb hml hl.1 ht hown hK hH hS (c_within l D G τ σ day (τ (9, i) 0) (τ (9, i) 1)) ymS_X10_within (List.mem_filter.mpr ⟨tw_490, rfl⟩) ⟨rfl, rfl⟩ ⟨Nat.le_of_ble_eq_true rfl, Nat.le_of_ble_eq_true rfl⟩ rfl rfl (Nat.le_of_ble_eq_true rfl) dX4_isRipe_9 ⟨Nat.le_of_ble_eq_true rfl, Nat.le_of_ble_eq_true rfl⟩ (hk_ea (fun H locs hH hS => ?_))
  exact hk_zret hx hb hr hlocks (hk_in_01 _ _ _) hH hS ⟨(by simp only [F_isRipe]), rfl, rfl⟩ dX4_isRipe_12
def F_yields (τ : hk_v) (i : Nat) (rate : Int32) : Int32 := if (τ (9, i) 2) < rate then (τ (9, i) 2) else rate
def T_yields (τ : hk_v) (i : Nat) (rate : Int32) : hk_v := (hk_u (hk_u τ (9, i) 2 ((τ (9, i) 2) - (if (τ (9, i) 2) < rate then (τ (9, i) 2) else rate))) (9, i) 3 ((τ (9, i) 3) + (if (τ (9, i) 2) < rate then (τ (9, i) 2) else rate)))
set_option maxHeartbeats 4000000 in
set_option maxRecDepth 100000 in
theorem c_yields (l : Launch) (D : hk_D) (G : hk_G) (Z : hk_Z) (τ σ : hk_v) (i : Nat) (rate : Int32) (hG : hk_Y D G Z) (hi : i < Z.1 0) : Met l yX4_yields (hk_ws yX4_yields cX4_yields 3 (some FieldType.int)) ({ frames := 1, cells := 0, slots := 0, locals := 13 }) (hk_P D G (hk_cm τ σ) [.ref (G.1 (.inl (9, i))), .int rate]) (hk_Q D (hk_e G (some (.int (F_yields τ i rate))) (hk_cm (T_yields τ i rate) σ))) 0 0 (hk_A D) := by
  refine hk_met (by decide +kernel) (Nat.le_of_ble_eq_true rfl) (fun p e s m below meth c hx hb hr hml hlocks ht hown hin hK hH hS ls hl => ?_)
  have hl : lv_has ls 3 [(0, .ref (G.1 (.inl (9, i)))), (1, .int rate)] := hl
  refine lv_iload_n hx hb dX4_yields_0 rfl (lv_at hl 1 rfl) ?_
  refine lv_aload_n hx hb dX4_yields_1 rfl (lv_at hl 0 rfl) ?_
  refine hk_geti (L := (.inl (9, i))) (v := τ (9, i) 2) hx hb ht hown hK hH kc_5 (hG.k9 i hi) 2 (by decide) rfl tw_221 rfl rfl dX4_yields_2 ?_
  refine va_mmin hx hb (hml.trans hl.1.symm) hown (ht _ tw_495) (ht _ tw_293) (ht _ tw_45) (ht _ tw_294) (Nat.le_of_ble_eq_true rfl) (Nat.le_of_ble_eq_true rfl) (Nat.zero_le _) (Nat.zero_le _) dX4_yields_5 ?_
  refine lv_istore_n (lv' := [(2, .int (if (τ (9, i) 2) < rate then (τ (9, i) 2) else rate)), (0, .ref (G.1 (.inl (9, i)))), (1, .int rate)]) hx hb dX4_yields_8 rfl hl (by decide) rfl (fun ls hl => ?_)
  refine lv_aload_n hx hb dX4_yields_9 rfl (lv_at hl 1 rfl) ?_
  refine lv_dup hx hb dX4_yields_10 rfl ?_
  refine hk_geti (L := (.inl (9, i))) (v := τ (9, i) 2) hx hb ht hown hK hH kc_5 (hG.k9 i hi) 2 (by decide) rfl tw_221 rfl rfl dX4_yields_11 ?_
  refine lv_iload_n hx hb dX4_yields_14 rfl (lv_at hl 0 rfl) ?_
  refine lv_isub hx hb dX4_yields_15 ?_
  refine hk_puti (L := (.inl (9, i))) hx hb ht hown hK hH hS kc_5 (hG.k9 i hi) 2 (by decide) rfl tw_221 rfl (Or.inl rfl) rfl dX4_yields_16 (fun H locs hH hS => ?_)
  rw [hk_up_l] at hH
  refine lv_aload_n hx hb dX4_yields_19 rfl (lv_at hl 1 rfl) ?_
  refine lv_dup hx hb dX4_yields_20 rfl ?_
  refine hk_geti (L := (.inl (9, i))) (v := τ (9, i) 3) hx hb ht hown hK hH kc_5 (hG.k9 i hi) 3 (by decide) rfl tw_223 rfl (by simp [hk_cm, hk_u_ap]) dX4_yields_21 ?_
  refine lv_iload_n hx hb dX4_yields_24 rfl (lv_at hl 0 rfl) ?_
  refine lv_iadd hx hb dX4_yields_25 ?_
  refine hk_puti (L := (.inl (9, i))) hx hb ht hown hK hH hS kc_5 (hG.k9 i hi) 3 (by decide) rfl tw_223 rfl (Or.inl rfl) rfl dX4_yields_26 (fun H locs hH hS => ?_)
  rw [hk_up_l] at hH
  refine lv_iload_n hx hb dX4_yields_29 rfl (lv_at hl 0 rfl) ?_
  exact hk_iret hx hb hr hlocks hH hS ⟨(by simp only [F_yields]), rfl, (by simp only [T_yields])⟩ dX4_yields_30
def T_enter (τ : hk_v) (i : Nat) (b : Int32) (paid : Int32) : hk_v := (hk_u (hk_u (hk_u τ (10, i) 3 ((τ (10, i) 3) + b)) (10, i) 4 ((τ (10, i) 4) + ((b * 100) / (τ (10, i) 1)))) (10, i) 5 ((τ (10, i) 5) + (((b * 100) / (τ (10, i) 1)) * paid)))
set_option maxHeartbeats 4000000 in
set_option maxRecDepth 100000 in
theorem c_enter (l : Launch) (D : hk_D) (G : hk_G) (Z : hk_Z) (τ σ : hk_v) (i : Nat) (b : Int32) (paid : Int32) (hG : hk_Y D G Z) (hi : i < Z.1 1) (hm : ¬ τ (10, i) 1 = 0) : Met l yX3_enter (hk_ws yX3_enter cX3_enter 4 none) ({ frames := 0, cells := 0, slots := 0, locals := 0 }) (hk_P D G (hk_cm τ σ) [.ref (G.1 (.inl (10, i))), .int b, .int paid]) (hk_Q D (hk_e G (none) (hk_cm (T_enter τ i b paid) σ))) 0 0 (hk_A D) := by
  refine hk_met (by decide +kernel) (Nat.le_of_ble_eq_true rfl) (fun p e s m below meth c hx hb hr hml hlocks ht hown hin hK hH hS ls hl => ?_)
  have hl : lv_has ls 4 [(0, .ref (G.1 (.inl (10, i)))), (1, .int b), (2, .int paid)] := hl
  refine lv_iload_n hx hb dX3_enter_0 rfl (lv_at hl 1 rfl) ?_
  refine lv_bipush (v := 100) hx hb dX3_enter_1 (by decide) ?_
  refine lv_imul hx hb dX3_enter_3 ?_
  refine lv_aload_n hx hb dX3_enter_4 rfl (lv_at hl 0 rfl) ?_
  refine hk_geti (L := (.inl (10, i))) (v := τ (10, i) 1) hx hb ht hown hK hH kc_4 (hG.k10 i hi) 1 (by decide) rfl tw_313 rfl rfl dX3_enter_5 ?_
  refine lv_idiv hx hb dX3_enter_8 (by assumption) ?_
  refine lv_istore_n (lv' := [(3, .int ((b * 100) / (τ (10, i) 1))), (0, .ref (G.1 (.inl (10, i)))), (1, .int b), (2, .int paid)]) hx hb dX3_enter_9 rfl hl (by decide) rfl (fun ls hl => ?_)
  refine lv_aload_n hx hb dX3_enter_10 rfl (lv_at hl 1 rfl) ?_
  refine lv_dup hx hb dX3_enter_11 rfl ?_
  refine hk_geti (L := (.inl (10, i))) (v := τ (10, i) 3) hx hb ht hown hK hH kc_4 (hG.k10 i hi) 3 (by decide) rfl tw_316 rfl rfl dX3_enter_12 ?_
  refine lv_iload_n hx hb dX3_enter_15 rfl (lv_at hl 2 rfl) ?_
  refine lv_iadd hx hb dX3_enter_16 ?_
  refine hk_puti (L := (.inl (10, i))) hx hb ht hown hK hH hS kc_4 (hG.k10 i hi) 3 (by decide) rfl tw_316 rfl (Or.inl rfl) rfl dX3_enter_17 (fun H locs hH hS => ?_)
  rw [hk_up_l] at hH
  refine lv_aload_n hx hb dX3_enter_20 rfl (lv_at hl 1 rfl) ?_
  refine lv_dup hx hb dX3_enter_21 rfl ?_
  refine hk_geti (L := (.inl (10, i))) (v := τ (10, i) 4) hx hb ht hown hK hH kc_4 (hG.k10 i hi) 4 (by decide) rfl tw_318 rfl (by simp [hk_cm, hk_u_ap]) dX3_enter_22 ?_
  refine lv_iload_n hx hb dX3_enter_25 rfl (lv_at hl 0 rfl) ?_
  refine lv_iadd hx hb dX3_enter_26 ?_
  refine hk_puti (L := (.inl (10, i))) hx hb ht hown hK hH hS kc_4 (hG.k10 i hi) 4 (by decide) rfl tw_318 rfl (Or.inl rfl) rfl dX3_enter_27 (fun H locs hH hS => ?_)
  rw [hk_up_l] at hH
  refine lv_aload_n hx hb dX3_enter_30 rfl (lv_at hl 1 rfl) ?_
  refine lv_dup hx hb dX3_enter_31 rfl ?_
  refine hk_geti (L := (.inl (10, i))) (v := τ (10, i) 5) hx hb ht hown hK hH kc_4 (hG.k10 i hi) 5 (by decide) rfl tw_320 rfl (by simp [hk_cm, hk_u_ap]) dX3_enter_32 ?_
  refine lv_iload_n hx hb dX3_enter_35 rfl (lv_at hl 0 rfl) ?_
  refine lv_iload_n hx hb dX3_enter_36 rfl (lv_at hl 3 rfl) ?_
  refine lv_imul hx hb dX3_enter_37 ?_
  refine lv_iadd hx hb dX3_enter_38 ?_
  refine hk_puti (L := (.inl (10, i))) hx hb ht hown hK hH hS kc_4 (hG.k10 i hi) 5 (by decide) rfl tw_320 rfl (Or.inl rfl) rfl dX3_enter_39 (fun H locs hH hS => ?_)
  rw [hk_up_l] at hH
  exact hk_vret hx hb hr hlocks hH hS ⟨rfl, rfl, (by simp only [T_enter])⟩ dX3_enter_42
def F_isEmpty (τ : hk_v) (i : Nat) : Int32 := (if (τ (11, i) 5) = 0 then 1 else 0)
set_option maxHeartbeats 4000000 in
set_option maxRecDepth 100000 in
theorem c_isEmpty (l : Launch) (D : hk_D) (G : hk_G) (Z : hk_Z) (τ σ : hk_v) (i : Nat) (hG : hk_Y D G Z) (hi : i < Z.1 2) : Met l yX6_isEmpty (hk_ws yX6_isEmpty cX6_isEmpty 1 (some FieldType.boolean)) ({ frames := 0, cells := 0, slots := 0, locals := 0 }) (hk_P D G (hk_cm τ σ) [.ref (G.1 (.inl (11, i)))]) (hk_Q D (hk_e G (some (.int (F_isEmpty τ i))) (hk_cm τ σ))) 0 0 (hk_A D) := by
  refine hk_met (by decide +kernel) (Nat.le_of_ble_eq_true rfl) (fun p e s m below meth c hx hb hr hml hlocks ht hown hin hK hH hS ls hl => ?_)
  have hl : lv_has ls 1 [(0, .ref (G.1 (.inl (11, i))))] := hl
  refine lv_aload_n hx hb dX6_isEmpty_0 rfl (lv_at hl 0 rfl) ?_
  refine hk_geti (L := (.inl (11, i))) (v := τ (11, i) 5) hx hb ht hown hK hH kc_7 (hG.k11 i hi) 5 (by decide) rfl tw_404 rfl rfl dX6_isEmpty_1 ?_
  refine lv_if_ne (tgt := 11) hx hb dX6_isEmpty_4 (by decide) (fun c_1 => ?_) (fun c_1 => ?_)
  · refine lv_iconst (v := 0) hx hb dX6_isEmpty_11 (by decide) ?_
    exact hk_zret hx hb hr hlocks (by decide) hH hS ⟨(by simp only [F_isEmpty, if_neg c_1]), rfl, rfl⟩ dX6_isEmpty_12
  · refine lv_iconst (v := 1) hx hb dX6_isEmpty_7 (by decide) ?_
    refine lv_goto (tgt := 12) hx hb dX6_isEmpty_8 (by decide) ?_
    exact hk_zret hx hb hr hlocks (by decide) hH hS ⟨(by simp only [F_isEmpty, if_pos c_1]), rfl, rfl⟩ dX6_isEmpty_12
def F_free (τ : hk_v) (i : Nat) : Int32 := (τ (11, i) 1) - (τ (11, i) 5)
set_option maxHeartbeats 4000000 in
set_option maxRecDepth 100000 in
theorem c_free (l : Launch) (D : hk_D) (G : hk_G) (Z : hk_Z) (τ σ : hk_v) (i : Nat) (hG : hk_Y D G Z) (hi : i < Z.1 2) : Met l yX6_free (hk_ws yX6_free cX6_free 1 (some FieldType.int)) ({ frames := 0, cells := 0, slots := 0, locals := 0 }) (hk_P D G (hk_cm τ σ) [.ref (G.1 (.inl (11, i)))]) (hk_Q D (hk_e G (some (.int (F_free τ i))) (hk_cm τ σ))) 0 0 (hk_A D) := by
  refine hk_met (by decide +kernel) (Nat.le_of_ble_eq_true rfl) (fun p e s m below meth c hx hb hr hml hlocks ht hown hin hK hH hS ls hl => ?_)
  have hl : lv_has ls 1 [(0, .ref (G.1 (.inl (11, i))))] := hl
  refine lv_aload_n hx hb dX6_free_0 rfl (lv_at hl 0 rfl) ?_
  refine hk_geti (L := (.inl (11, i))) (v := τ (11, i) 1) hx hb ht hown hK hH kc_7 (hG.k11 i hi) 1 (by decide) rfl tw_397 rfl rfl dX6_free_1 ?_
  refine lv_aload_n hx hb dX6_free_4 rfl (lv_at hl 0 rfl) ?_
  refine hk_geti (L := (.inl (11, i))) (v := τ (11, i) 5) hx hb ht hown hK hH kc_7 (hG.k11 i hi) 5 (by decide) rfl tw_404 rfl rfl dX6_free_5 ?_
  refine lv_isub hx hb dX6_free_8 ?_
  exact hk_iret hx hb hr hlocks hH hS ⟨(by simp only [F_free]), rfl, rfl⟩ dX6_free_9
def T_clear (τ : hk_v) (i : Nat) : hk_v := (hk_u (hk_u (hk_u τ (11, i) 4 0) (11, i) 5 0) (11, i) 6 0)
set_option maxHeartbeats 4000000 in
set_option maxRecDepth 100000 in
theorem c_clear (l : Launch) (D : hk_D) (G : hk_G) (Z : hk_Z) (τ σ : hk_v) (i : Nat) (hG : hk_Y D G Z) (hi : i < Z.1 2) : Met l yX6_clear (hk_ws yX6_clear cX6_clear 1 none) ({ frames := 0, cells := 0, slots := 0, locals := 0 }) (hk_P D G (hk_cm τ σ) [.ref (G.1 (.inl (11, i)))]) (hk_Q D (hk_e G (none) (hk_cm (T_clear τ i) σ))) 0 0 (hk_A D) := by
  refine hk_met (by decide +kernel) (Nat.le_of_ble_eq_true rfl) (fun p e s m below meth c hx hb hr hml hlocks ht hown hin hK hH hS ls hl => ?_)
  have hl : lv_has ls 1 [(0, .ref (G.1 (.inl (11, i))))] := hl
  refine lv_aload_n hx hb dX6_clear_0 rfl (lv_at hl 0 rfl) ?_
  refine lv_iconst (v := 0) hx hb dX6_clear_1 (by decide) ?_
  refine hk_puti (L := (.inl (11, i))) hx hb ht hown hK hH hS kc_7 (hG.k11 i hi) 4 (by decide) rfl tw_402 rfl (Or.inl rfl) rfl dX6_clear_2 (fun H locs hH hS => ?_)
  rw [hk_up_l] at hH
  refine lv_aload_n hx hb dX6_clear_5 rfl (lv_at hl 0 rfl) ?_
  refine lv_iconst (v := 0) hx hb dX6_clear_6 (by decide) ?_
  refine hk_puti (L := (.inl (11, i))) hx hb ht hown hK hH hS kc_7 (hG.k11 i hi) 5 (by decide) rfl tw_404 rfl (Or.inl rfl) rfl dX6_clear_7 (fun H locs hH hS => ?_)
  rw [hk_up_l] at hH
  refine lv_aload_n hx hb dX6_clear_10 rfl (lv_at hl 0 rfl) ?_
  refine lv_iconst (v := 0) hx hb dX6_clear_11 (by decide) ?_
  refine hk_puti (L := (.inl (11, i))) hx hb ht hown hK hH hS kc_7 (hG.k11 i hi) 6 (by decide) rfl tw_406 rfl (Or.inl rfl) rfl dX6_clear_12 (fun H locs hH hS => ?_)
  rw [hk_up_l] at hH
  exact hk_vret hx hb hr hlocks hH hS ⟨rfl, rfl, (by simp only [T_clear])⟩ dX6_clear_15
def T_take (Z : hk_Z) (τ : hk_v) (i : Nat) (g : Int32) (b : Int32) : hk_v := (if b ≤ 0 then τ else (if (τ (11, i) 4) < (nI (Z.2.2 i)) then (hk_u (hk_u (hk_u (hk_u τ (13, i) ((τ (11, i) 4).toNatClampNeg) g) (14, i) ((τ (11, i) 4).toNatClampNeg) b) (11, i) 4 ((τ (11, i) 4) + 1)) (11, i) 5 ((τ (11, i) 5) + b)) else τ))
set_option maxHeartbeats 4000000 in
set_option maxRecDepth 100000 in
theorem c_take (l : Launch) (D : hk_D) (G : hk_G) (Z : hk_Z) (τ σ : hk_v) (i : Nat) (g : Int32) (b : Int32) (hG : hk_Y D G Z) (hi : i < Z.1 2) (h0 : ¬ τ (11, i) 4 < 0) : Met l yX6_take (hk_ws yX6_take cX6_take 3 none) ({ frames := 0, cells := 0, slots := 0, locals := 0 }) (hk_P D G (hk_cm τ σ) [.ref (G.1 (.inl (11, i))), .int g, .int b]) (hk_Q D (hk_e G (none) (hk_cm (T_take Z τ i g b) σ))) 0 0 (hk_A D) := by
  refine hk_met (by decide +kernel) (Nat.le_of_ble_eq_true rfl) (fun p e s m below meth c hx hb hr hml hlocks ht hown hin hK hH hS ls hl => ?_)
  have hl : lv_has ls 3 [(0, .ref (G.1 (.inl (11, i)))), (1, .int g), (2, .int b)] := hl
  refine lv_iload_n hx hb dX6_take_0 rfl (lv_at hl 2 rfl) ?_
  refine lv_if_le (tgt := 16) hx hb dX6_take_1 (by decide) (fun c_1 => ?_) (fun c_1 => ?_)
  · exact hk_vret hx hb hr hlocks hH hS ⟨rfl, rfl, (by simp only [T_take, if_pos c_1])⟩ dX6_take_16
  · refine lv_aload_n hx hb dX6_take_4 rfl (lv_at hl 0 rfl) ?_
    refine hk_geti (L := (.inl (11, i))) (v := τ (11, i) 4) hx hb ht hown hK hH kc_7 (hG.k11 i hi) 4 (by decide) rfl tw_402 rfl rfl dX6_take_5 ?_
    refine lv_aload_n hx hb dX6_take_8 rfl (lv_at hl 0 rfl) ?_
    refine hk_getr (L := (.inl (11, i))) (v := .ref (G.1 (.inl (13, i)))) hx hb ht hown hK hH kc_7 (hG.k11 i hi) 2 (by decide) rfl tw_398 rfl (hG.r11_2 i hi) dX6_take_9 ?_
    refine hk_ilen (L := (.inl (13, i))) (v := nI (Z.2.2 i)) hx hb hK hH (hG.k13 i hi) rfl dX6_take_12 ?_
    refine lv_icmp_lt (tgt := 17) hx hb dX6_take_13 (by decide) (fun c_2 => ?_) (fun c_2 => ?_)
    · refine lv_aload_n hx hb dX6_take_17 rfl (lv_at hl 0 rfl) ?_
      refine hk_getr (L := (.inl (11, i))) (v := .ref (G.1 (.inl (13, i)))) hx hb ht hown hK hH kc_7 (hG.k11 i hi) 2 (by decide) rfl tw_398 rfl (hG.r11_2 i hi) dX6_take_18 ?_
      refine lv_aload_n hx hb dX6_take_21 rfl (lv_at hl 0 rfl) ?_
      refine hk_geti (L := (.inl (11, i))) (v := τ (11, i) 4) hx hb ht hown hK hH kc_7 (hG.k11 i hi) 4 (by decide) rfl tw_402 rfl rfl dX6_take_22 ?_
      refine lv_iload_n hx hb dX6_take_25 rfl (lv_at hl 1 rfl) ?_
      refine hk_ist (L := (.inl (13, i))) hx hb hK hH hS (hG.k13 i hi) (hk_vin h0 (Int32.not_le.mpr c_2)) dX6_take_26 (fun H locs hH hS => ?_)
      rw [hk_up_l] at hH
      refine lv_aload_n hx hb dX6_take_27 rfl (lv_at hl 0 rfl) ?_
      refine hk_getr (L := (.inl (11, i))) (v := .ref (G.1 (.inl (14, i)))) hx hb ht hown hK hH kc_7 (hG.k11 i hi) 3 (by decide) rfl tw_400 rfl (hG.r11_3 i hi) dX6_take_28 ?_
      refine lv_aload_n hx hb dX6_take_31 rfl (lv_at hl 0 rfl) ?_
      refine hk_geti (L := (.inl (11, i))) (v := τ (11, i) 4) hx hb ht hown hK hH kc_7 (hG.k11 i hi) 4 (by decide) rfl tw_402 rfl (by simp [hk_cm, hk_u_ap]) dX6_take_32 ?_
      refine lv_iload_n hx hb dX6_take_35 rfl (lv_at hl 2 rfl) ?_
      refine hk_ist (L := (.inl (14, i))) hx hb hK hH hS (hG.k14 i hi) (hk_vin h0 (Int32.not_le.mpr c_2)) dX6_take_36 (fun H locs hH hS => ?_)
      rw [hk_up_l] at hH
      refine lv_aload_n hx hb dX6_take_37 rfl (lv_at hl 0 rfl) ?_
      refine lv_dup hx hb dX6_take_38 rfl ?_
      refine hk_geti (L := (.inl (11, i))) (v := τ (11, i) 4) hx hb ht hown hK hH kc_7 (hG.k11 i hi) 4 (by decide) rfl tw_402 rfl (by simp [hk_cm, hk_u_ap]) dX6_take_39 ?_
      refine lv_iconst (v := 1) hx hb dX6_take_42 (by decide) ?_
      refine lv_iadd hx hb dX6_take_43 ?_
      refine hk_puti (L := (.inl (11, i))) hx hb ht hown hK hH hS kc_7 (hG.k11 i hi) 4 (by decide) rfl tw_402 rfl (Or.inl rfl) rfl dX6_take_44 (fun H locs hH hS => ?_)
      rw [hk_up_l] at hH
      refine lv_aload_n hx hb dX6_take_47 rfl (lv_at hl 0 rfl) ?_
      refine lv_dup hx hb dX6_take_48 rfl ?_
      refine hk_geti (L := (.inl (11, i))) (v := τ (11, i) 5) hx hb ht hown hK hH kc_7 (hG.k11 i hi) 5 (by decide) rfl tw_404 rfl (by simp [hk_cm, hk_u_ap]) dX6_take_49 ?_
      refine lv_iload_n hx hb dX6_take_52 rfl (lv_at hl 2 rfl) ?_
      refine lv_iadd hx hb dX6_take_53 ?_
      refine hk_puti (L := (.inl (11, i))) hx hb ht hown hK hH hS kc_7 (hG.k11 i hi) 5 (by decide) rfl tw_404 rfl (Or.inl rfl) rfl dX6_take_54 (fun H locs hH hS => ?_)
      rw [hk_up_l] at hH
      exact hk_vret hx hb hr hlocks hH hS ⟨rfl, rfl, (by simp only [T_take, if_neg c_1, if_pos c_2])⟩ dX6_take_57
    · exact hk_vret hx hb hr hlocks hH hS ⟨rfl, rfl, (by simp only [T_take, if_neg c_1, if_neg c_2])⟩ dX6_take_16
def B_ofGarden (i : Nat) (g : Int32) (τ : hk_v) (j : Nat) (sum : Int32) : Int32 := (if (τ (13, i) j) = g then sum + (τ (14, i) j) else sum)
def F_ofGarden (τ : hk_v) (i : Nat) (n : Nat) (g : Int32) : Int32 := (hk_it (B_ofGarden i g τ) n 0 0)
set_option maxHeartbeats 4000000 in
set_option maxRecDepth 100000 in
theorem c_ofGarden (l : Launch) (D : hk_D) (G : hk_G) (Z : hk_Z) (τ σ : hk_v) (i : Nat) (n : Nat) (g : Int32) (hG : hk_Y D G Z) (hi : i < Z.1 2) (hn : τ (11, i) 4 = nI n) (hr : n ≤ Z.2.2 i) (hz : Z.2.2 i < 2 ^ 31) : Met l yX6_ofGarden (hk_ws yX6_ofGarden cX6_ofGarden 4 (some FieldType.int)) ({ frames := 0, cells := 0, slots := 0, locals := 0 }) (hk_P D G (hk_cm τ σ) [.ref (G.1 (.inl (11, i))), .int g]) (hk_Q D (hk_e G (some (.int (F_ofGarden τ i n g))) (hk_cm τ σ))) 0 0 (hk_A D) := by
  refine hk_met (by decide +kernel) (Nat.le_of_ble_eq_true rfl) (fun p e s m below meth c hx hb hr hml hlocks ht hown hin hK hH hS ls hl => ?_)
  have hl : lv_has ls 4 [(0, .ref (G.1 (.inl (11, i)))), (1, .int g)] := hl
  refine lv_iconst (v := 0) hx hb dX6_ofGarden_0 (by decide) ?_
  refine lv_istore_n (lv' := [(2, .int 0), (0, .ref (G.1 (.inl (11, i)))), (1, .int g)]) hx hb dX6_ofGarden_1 rfl hl (by decide) rfl (fun ls hl => ?_)
  refine lv_iconst (v := 0) hx hb dX6_ofGarden_2 (by decide) ?_
  refine lv_istore_n (lv' := [(3, .int 0), (2, .int 0), (0, .ref (G.1 (.inl (11, i)))), (1, .int g)]) hx hb dX6_ofGarden_3 rfl hl (by decide) rfl (fun ls hl => ?_)
  have LP_1 : ∀ (r j : Nat) (sum : Int32) (H : Heap) (locs : List Loc) (ls : Array Slot) (QQ : State → Prop), j + r = n → hk_H D G (hk_cm τ σ) H → va_S (hk_A D) s.heap H locs → lv_has ls 4 [(3, .int (nI j)), (2, .int sum), (0, .ref (G.1 (.inl (11, i)))), (1, .int g)] → (∀ (H : Heap) (locs : List Loc) (ls : Array Slot), hk_H D G (hk_cm τ σ) H → va_S (hk_A D) s.heap H locs → lv_has ls 4 [(3, .int (nI n)), (2, .int (hk_it (B_ofGarden i g τ) r j sum)), (0, .ref (G.1 (.inl (11, i)))), (1, .int g)] → W p l e ({ frames := 0, cells := 0, slots := 0, locals := 0 }) s m ([.ref (G.1 (.inl (11, i))), .int g] : List Value).toArray below meth c H locs 0 0 QQ (F0 m 37 ls [])) → W p l e ({ frames := 0, cells := 0, slots := 0, locals := 0 }) s m ([.ref (G.1 (.inl (11, i))), .int g] : List Value).toArray below meth c H locs 0 0 QQ (F0 m 4 ls []) := by
    intro r
    induction r with
    | zero =>
      intro j sum H locs ls QQ hn_ofGarden hH hS hl kk
      refine lv_iload_n hx hb dX6_ofGarden_4 rfl (lv_at hl 0 rfl) ?_
      refine lv_aload_n hx hb dX6_ofGarden_5 rfl (lv_at hl 2 rfl) ?_
      refine hk_geti (L := (.inl (11, i))) (v := τ (11, i) 4) hx hb ht hown hK hH kc_7 (hG.k11 i hi) 4 (by decide) rfl tw_402 rfl rfl dX6_ofGarden_6 ?_
      refine lv_icmp_ge (tgt := 37) hx hb dX6_ofGarden_9 (by decide) (fun c_2 => ?_) (fun c_2 => ?_)
      rotate_left
      · exfalso; rw [hn] at c_2; first | exact nI_ge (by omega) (by omega) c_2 | exact c_2 (nI_le (by omega) (by omega)) | exact nI_nlt (by omega) (by omega) c_2 | exact c_2 (nI_lt (by omega) (by omega))
      have hiN : j = n := by omega
      rw [hiN] at hl
      exact kk H locs ls hH hS (lv_sub hl [0, 1, 2, 3] rfl)
    | succ r ih =>
      intro j sum H locs ls QQ hn_ofGarden hH hS hl kk
      refine lv_iload_n hx hb dX6_ofGarden_4 rfl (lv_at hl 0 rfl) ?_
      refine lv_aload_n hx hb dX6_ofGarden_5 rfl (lv_at hl 2 rfl) ?_
      refine hk_geti (L := (.inl (11, i))) (v := τ (11, i) 4) hx hb ht hown hK hH kc_7 (hG.k11 i hi) 4 (by decide) rfl tw_402 rfl rfl dX6_ofGarden_6 ?_
      refine lv_icmp_ge (tgt := 37) hx hb dX6_ofGarden_9 (by decide) (fun c_3 => ?_) (fun c_3 => ?_)
      · exfalso; rw [hn] at c_3; first | exact nI_ge (by omega) (by omega) c_3 | exact c_3 (nI_le (by omega) (by omega)) | exact nI_nlt (by omega) (by omega) c_3 | exact c_3 (nI_lt (by omega) (by omega))
      refine lv_aload_n hx hb dX6_ofGarden_12 rfl (lv_at hl 2 rfl) ?_
      refine hk_getr (L := (.inl (11, i))) (v := .ref (G.1 (.inl (13, i)))) hx hb ht hown hK hH kc_7 (hG.k11 i hi) 2 (by decide) rfl tw_398 rfl (hG.r11_2 i hi) dX6_ofGarden_13 ?_
      refine lv_iload_n hx hb dX6_ofGarden_16 rfl (lv_at hl 0 rfl) ?_
      refine hk_ild (L := (.inl (13, i))) (v := τ (13, i) j) hx hb hK hH (hG.k13 i hi) (vp_in_nI (by omega) (by omega)) (by rw [nI_clamp (by omega)]; rfl) dX6_ofGarden_17 ?_
      refine lv_iload_n hx hb dX6_ofGarden_18 rfl (lv_at hl 3 rfl) ?_
      refine lv_icmp_ne (tgt := 31) hx hb dX6_ofGarden_19 (by decide) (fun c_4 => ?_) (fun c_4 => ?_)
      · refine lv_iinc (v := nI (j + 1)) (lv' := [(3, .int (nI (j + 1))), (2, .int sum), (0, .ref (G.1 (.inl (11, i)))), (1, .int g)]) hx hb dX6_ofGarden_31 hl (k := 0) rfl (nI_1 _) (by decide) rfl (fun ls hl => ?_)
        refine lv_goto (tgt := 4) hx hb dX6_ofGarden_34 (by decide) ?_
        have EB_5 : (B_ofGarden i g τ) j sum = sum := by simp only [B_ofGarden, if_neg c_4]
        exact ih (j + 1) sum _ _ _ QQ (by omega) hH hS (lv_sub hl [0, 1, 2, 3] rfl) (fun H locs ls hH hS hl => kk H locs ls hH hS (by rw [hk_it_s, EB_5]; exact hl))
      · refine lv_iload_n hx hb dX6_ofGarden_22 rfl (lv_at hl 1 rfl) ?_
        refine lv_aload_n hx hb dX6_ofGarden_23 rfl (lv_at hl 2 rfl) ?_
        refine hk_getr (L := (.inl (11, i))) (v := .ref (G.1 (.inl (14, i)))) hx hb ht hown hK hH kc_7 (hG.k11 i hi) 3 (by decide) rfl tw_400 rfl (hG.r11_3 i hi) dX6_ofGarden_24 ?_
        refine lv_iload_n hx hb dX6_ofGarden_27 rfl (lv_at hl 0 rfl) ?_
        refine hk_ild (L := (.inl (14, i))) (v := τ (14, i) j) hx hb hK hH (hG.k14 i hi) (vp_in_nI (by omega) (by omega)) (by rw [nI_clamp (by omega)]; rfl) dX6_ofGarden_28 ?_
        refine lv_iadd hx hb dX6_ofGarden_29 ?_
        refine lv_istore_n (lv' := [(2, .int (sum + (τ (14, i) j))), (3, .int (nI j)), (0, .ref (G.1 (.inl (11, i)))), (1, .int g)]) hx hb dX6_ofGarden_30 rfl hl (by decide) rfl (fun ls hl => ?_)
        refine lv_iinc (v := nI (j + 1)) (lv' := [(3, .int (nI (j + 1))), (2, .int (sum + (τ (14, i) j))), (0, .ref (G.1 (.inl (11, i)))), (1, .int g)]) hx hb dX6_ofGarden_31 hl (k := 1) rfl (nI_1 _) (by decide) rfl (fun ls hl => ?_)
        refine lv_goto (tgt := 4) hx hb dX6_ofGarden_34 (by decide) ?_
        have EB_6 : (B_ofGarden i g τ) j sum = sum + (τ (14, i) j) := by simp only [B_ofGarden, if_pos c_4]
        exact ih (j + 1) (sum + (τ (14, i) j)) _ _ _ QQ (by omega) hH hS (lv_sub hl [0, 1, 2, 3] rfl) (fun H locs ls hH hS hl => kk H locs ls hH hS (by rw [hk_it_s, EB_6]; exact hl))
  refine LP_1 n 0 0 _ _ _ _ (by omega) hH hS (lv_sub hl [0, 1, 2, 3] rfl) (fun H locs ls hH hS hl => ?_)
  refine lv_iload_n hx hb dX6_ofGarden_37 rfl (lv_at hl 1 rfl) ?_
  exact hk_iret hx hb hr hlocks hH hS ⟨(by simp only [F_ofGarden]), rfl, rfl⟩ dX6_ofGarden_38
def B_gardenBits (i : Nat) (τ : hk_v) (j : Nat) (bits : Int32) : Int32 := bits ||| (1 <<< ((τ (13, i) j) &&& 31))
def F_gardenBits (τ : hk_v) (i : Nat) (n : Nat) : Int32 := (hk_it (B_gardenBits i τ) n 0 0)
set_option maxHeartbeats 4000000 in
set_option maxRecDepth 100000 in
theorem c_gardenBits (l : Launch) (D : hk_D) (G : hk_G) (Z : hk_Z) (τ σ : hk_v) (i : Nat) (n : Nat) (hG : hk_Y D G Z) (hi : i < Z.1 2) (hn : τ (11, i) 4 = nI n) (hr : n ≤ Z.2.2 i) (hz : Z.2.2 i < 2 ^ 31) : Met l yX6_gardenBits (hk_ws yX6_gardenBits cX6_gardenBits 3 (some FieldType.int)) ({ frames := 0, cells := 0, slots := 0, locals := 0 }) (hk_P D G (hk_cm τ σ) [.ref (G.1 (.inl (11, i)))]) (hk_Q D (hk_e G (some (.int (F_gardenBits τ i n))) (hk_cm τ σ))) 0 0 (hk_A D) := by
  refine hk_met (by decide +kernel) (Nat.le_of_ble_eq_true rfl) (fun p e s m below meth c hx hb hr hml hlocks ht hown hin hK hH hS ls hl => ?_)
  have hl : lv_has ls 3 [(0, .ref (G.1 (.inl (11, i))))] := hl
  refine lv_iconst (v := 0) hx hb dX6_gardenBits_0 (by decide) ?_
  refine lv_istore_n (lv' := [(1, .int 0), (0, .ref (G.1 (.inl (11, i))))]) hx hb dX6_gardenBits_1 rfl hl (by decide) rfl (fun ls hl => ?_)
  refine lv_iconst (v := 0) hx hb dX6_gardenBits_2 (by decide) ?_
  refine lv_istore_n (lv' := [(2, .int 0), (1, .int 0), (0, .ref (G.1 (.inl (11, i))))]) hx hb dX6_gardenBits_3 rfl hl (by decide) rfl (fun ls hl => ?_)
  have LP_1 : ∀ (r j : Nat) (bits : Int32) (H : Heap) (locs : List Loc) (ls : Array Slot) (QQ : State → Prop), j + r = n → hk_H D G (hk_cm τ σ) H → va_S (hk_A D) s.heap H locs → lv_has ls 3 [(2, .int (nI j)), (1, .int bits), (0, .ref (G.1 (.inl (11, i))))] → (∀ (H : Heap) (locs : List Loc) (ls : Array Slot), hk_H D G (hk_cm τ σ) H → va_S (hk_A D) s.heap H locs → lv_has ls 3 [(2, .int (nI n)), (1, .int (hk_it (B_gardenBits i τ) r j bits)), (0, .ref (G.1 (.inl (11, i))))] → W p l e ({ frames := 0, cells := 0, slots := 0, locals := 0 }) s m ([.ref (G.1 (.inl (11, i)))] : List Value).toArray below meth c H locs 0 0 QQ (F0 m 29 ls [])) → W p l e ({ frames := 0, cells := 0, slots := 0, locals := 0 }) s m ([.ref (G.1 (.inl (11, i)))] : List Value).toArray below meth c H locs 0 0 QQ (F0 m 4 ls []) := by
    intro r
    induction r with
    | zero =>
      intro j bits H locs ls QQ hn_gardenBits hH hS hl kk
      refine lv_iload_n hx hb dX6_gardenBits_4 rfl (lv_at hl 0 rfl) ?_
      refine lv_aload_n hx hb dX6_gardenBits_5 rfl (lv_at hl 2 rfl) ?_
      refine hk_geti (L := (.inl (11, i))) (v := τ (11, i) 4) hx hb ht hown hK hH kc_7 (hG.k11 i hi) 4 (by decide) rfl tw_402 rfl rfl dX6_gardenBits_6 ?_
      refine lv_icmp_ge (tgt := 29) hx hb dX6_gardenBits_9 (by decide) (fun c_2 => ?_) (fun c_2 => ?_)
      rotate_left
      · exfalso; rw [hn] at c_2; first | exact nI_ge (by omega) (by omega) c_2 | exact c_2 (nI_le (by omega) (by omega)) | exact nI_nlt (by omega) (by omega) c_2 | exact c_2 (nI_lt (by omega) (by omega))
      have hiN : j = n := by omega
      rw [hiN] at hl
      exact kk H locs ls hH hS (lv_sub hl [0, 1, 2] rfl)
    | succ r ih =>
      intro j bits H locs ls QQ hn_gardenBits hH hS hl kk
      refine lv_iload_n hx hb dX6_gardenBits_4 rfl (lv_at hl 0 rfl) ?_
      refine lv_aload_n hx hb dX6_gardenBits_5 rfl (lv_at hl 2 rfl) ?_
      refine hk_geti (L := (.inl (11, i))) (v := τ (11, i) 4) hx hb ht hown hK hH kc_7 (hG.k11 i hi) 4 (by decide) rfl tw_402 rfl rfl dX6_gardenBits_6 ?_
      refine lv_icmp_ge (tgt := 29) hx hb dX6_gardenBits_9 (by decide) (fun c_3 => ?_) (fun c_3 => ?_)
      · exfalso; rw [hn] at c_3; first | exact nI_ge (by omega) (by omega) c_3 | exact c_3 (nI_le (by omega) (by omega)) | exact nI_nlt (by omega) (by omega) c_3 | exact c_3 (nI_lt (by omega) (by omega))
      refine lv_iload_n hx hb dX6_gardenBits_12 rfl (lv_at hl 1 rfl) ?_
      refine lv_iconst (v := 1) hx hb dX6_gardenBits_13 (by decide) ?_
      refine lv_aload_n hx hb dX6_gardenBits_14 rfl (lv_at hl 2 rfl) ?_
      refine hk_getr (L := (.inl (11, i))) (v := .ref (G.1 (.inl (13, i)))) hx hb ht hown hK hH kc_7 (hG.k11 i hi) 2 (by decide) rfl tw_398 rfl (hG.r11_2 i hi) dX6_gardenBits_15 ?_
      refine lv_iload_n hx hb dX6_gardenBits_18 rfl (lv_at hl 0 rfl) ?_
      refine hk_ild (L := (.inl (13, i))) (v := τ (13, i) j) hx hb hK hH (hG.k13 i hi) (vp_in_nI (by omega) (by omega)) (by rw [nI_clamp (by omega)]; rfl) dX6_gardenBits_19 ?_
      refine lv_ishl hx hb dX6_gardenBits_20 ?_
      refine lv_ior hx hb dX6_gardenBits_21 ?_
      refine lv_istore_n (lv' := [(1, .int (bits ||| (1 <<< ((τ (13, i) j) &&& 31)))), (2, .int (nI j)), (0, .ref (G.1 (.inl (11, i))))]) hx hb dX6_gardenBits_22 rfl hl (by decide) rfl (fun ls hl => ?_)
      refine lv_iinc (v := nI (j + 1)) (lv' := [(2, .int (nI (j + 1))), (1, .int (bits ||| (1 <<< ((τ (13, i) j) &&& 31)))), (0, .ref (G.1 (.inl (11, i))))]) hx hb dX6_gardenBits_23 hl (k := 1) rfl (nI_1 _) (by decide) rfl (fun ls hl => ?_)
      refine lv_goto (tgt := 4) hx hb dX6_gardenBits_26 (by decide) ?_
      have EB_4 : (B_gardenBits i τ) j bits = bits ||| (1 <<< ((τ (13, i) j) &&& 31)) := by simp only [B_gardenBits]
      exact ih (j + 1) (bits ||| (1 <<< ((τ (13, i) j) &&& 31))) _ _ _ QQ (by omega) hH hS (lv_sub hl [0, 1, 2] rfl) (fun H locs ls hH hS hl => kk H locs ls hH hS (by rw [hk_it_s, EB_4]; exact hl))
  refine LP_1 n 0 0 _ _ _ _ (by omega) hH hS (lv_sub hl [0, 1, 2] rfl) (fun H locs ls hH hS hl => ?_)
  refine lv_iload_n hx hb dX6_gardenBits_29 rfl (lv_at hl 1 rfl) ?_
  exact hk_iret hx hb hr hlocks hH hS ⟨(by simp only [F_gardenBits]), rfl, rfl⟩ dX6_gardenBits_30
def F_dries0 (i : Nat) (x : Int32) : Int32 := x / 5
set_option maxHeartbeats 4000000 in
set_option maxRecDepth 100000 in
theorem c_dries0 (l : Launch) (D : hk_D) (G : hk_G) (Z : hk_Z) (τ σ : hk_v) (i : Nat) (x : Int32) (hG : hk_Y D G Z) (hi : i < Z.1 2) : Met l yX8_dries (hk_ws yX8_dries cX8_dries 2 (some FieldType.int)) ({ frames := 0, cells := 0, slots := 0, locals := 0 }) (hk_P D G (hk_cm τ σ) [.ref (G.1 (.inl (12, i))), .int x]) (hk_Q D (hk_e G (some (.int (F_dries0 i x))) (hk_cm τ σ))) 0 0 (hk_A D) := by
  refine hk_met (by decide +kernel) (Nat.le_of_ble_eq_true rfl) (fun p e s m below meth c hx hb hr hml hlocks ht hown hin hK hH hS ls hl => ?_)
  have hl : lv_has ls 2 [(0, .ref (G.1 (.inl (12, i)))), (1, .int x)] := hl
  refine lv_iload_n hx hb dX8_dries_0 rfl (lv_at hl 1 rfl) ?_
  refine lv_iconst (v := 5) hx hb dX8_dries_1 (by decide) ?_
  refine lv_idiv hx hb dX8_dries_2 (by decide) ?_
  exact hk_iret hx hb hr hlocks hH hS ⟨(by simp only [F_dries0]), rfl, rfl⟩ dX8_dries_3
def F_marks0 (i : Nat) : Int32 := 1
set_option maxHeartbeats 4000000 in
set_option maxRecDepth 100000 in
theorem c_marks0 (l : Launch) (D : hk_D) (G : hk_G) (Z : hk_Z) (τ σ : hk_v) (i : Nat) (hG : hk_Y D G Z) (hi : i < Z.1 2) : Met l yX8_marks (hk_ws yX8_marks cX8_marks 1 (some FieldType.int)) ({ frames := 0, cells := 0, slots := 0, locals := 0 }) (hk_P D G (hk_cm τ σ) [.ref (G.1 (.inl (12, i)))]) (hk_Q D (hk_e G (some (.int (F_marks0 i))) (hk_cm τ σ))) 0 0 (hk_A D) := by
  refine hk_met (by decide +kernel) (Nat.le_of_ble_eq_true rfl) (fun p e s m below meth c hx hb hr hml hlocks ht hown hin hK hH hS ls hl => ?_)
  have hl : lv_has ls 1 [(0, .ref (G.1 (.inl (12, i))))] := hl
  refine lv_iconst (v := 1) hx hb dX8_marks_0 (by decide) ?_
  exact hk_iret hx hb hr hlocks hH hS ⟨(by simp only [F_marks0]), rfl, rfl⟩ dX8_marks_1
def F_floorMod (x : Int32) (y : Int32) : Int32 := (if 0 ≤ (x ^^^ y) then x - x / y * y else (if (x - x / y * y) = 0 then x - x / y * y else (x - x / y * y) + y))
set_option maxHeartbeats 4000000 in
set_option maxRecDepth 100000 in
theorem c_floorMod (l : Launch) (D : hk_D) (G : hk_G) (τ σ : hk_v) (x : Int32) (y : Int32)  (hy : ¬ y = 0) : Met l yJ9_floorMod_7cf53 (hk_ws yJ9_floorMod_7cf53 cJ9_floorMod_7cf53 3 (some FieldType.int)) ({ frames := 0, cells := 0, slots := 0, locals := 0 }) (hk_P D G (hk_cm τ σ) [.int x, .int y]) (hk_Q D (hk_e G (some (.int (F_floorMod x y))) (hk_cm τ σ))) 0 0 (hk_A D) := by
  refine hk_met (by decide +kernel) (Nat.le_of_ble_eq_true rfl) (fun p e s m below meth c hx hb hr hml hlocks ht hown hin hK hH hS ls hl => ?_)
  have hl : lv_has ls 3 [(0, .int x), (1, .int y)] := hl
  refine lv_iload_n hx hb dJ9_floorMod_7cf53_0 rfl (lv_at hl 0 rfl) ?_
  refine lv_iload_n hx hb dJ9_floorMod_7cf53_1 rfl (lv_at hl 1 rfl) ?_
  refine lv_irem hx hb dJ9_floorMod_7cf53_2 hy ?_
  refine lv_istore_n (lv' := [(2, .int (x - x / y * y)), (0, .int x), (1, .int y)]) hx hb dJ9_floorMod_7cf53_3 rfl hl (by decide) rfl (fun ls hl => ?_)
  refine lv_iload_n hx hb dJ9_floorMod_7cf53_4 rfl (lv_at hl 1 rfl) ?_
  refine lv_iload_n hx hb dJ9_floorMod_7cf53_5 rfl (lv_at hl 2 rfl) ?_
  refine lv_ixor hx hb dJ9_floorMod_7cf53_6 ?_
  refine lv_if_ge (tgt := 18) hx hb dJ9_floorMod_7cf53_7 (by decide) (fun c_1 => ?_) (fun c_1 => ?_)
  · refine lv_iload_n hx hb dJ9_floorMod_7cf53_18 rfl (lv_at hl 0 rfl) ?_
    exact hk_iret hx hb hr hlocks hH hS ⟨(by simp only [F_floorMod, if_pos c_1]), rfl, rfl⟩ dJ9_floorMod_7cf53_19
  · refine lv_iload_n hx hb dJ9_floorMod_7cf53_10 rfl (lv_at hl 0 rfl) ?_
    refine lv_if_eq (tgt := 18) hx hb dJ9_floorMod_7cf53_11 (by decide) (fun c_2 => ?_) (fun c_2 => ?_)
    · refine lv_iload_n hx hb dJ9_floorMod_7cf53_18 rfl (lv_at hl 0 rfl) ?_
      exact hk_iret hx hb hr hlocks hH hS ⟨(by simp only [F_floorMod, if_neg c_1, if_pos c_2]), rfl, rfl⟩ dJ9_floorMod_7cf53_19
    · refine lv_iload_n hx hb dJ9_floorMod_7cf53_14 rfl (lv_at hl 0 rfl) ?_
      refine lv_iload_n hx hb dJ9_floorMod_7cf53_15 rfl (lv_at hl 2 rfl) ?_
      refine lv_iadd hx hb dJ9_floorMod_7cf53_16 ?_
      exact hk_iret hx hb hr hlocks hH hS ⟨(by simp only [F_floorMod, if_neg c_1, if_neg c_2]), rfl, rfl⟩ dJ9_floorMod_7cf53_17
theorem ymS_J9_floorMod_7cf53 : hk_mS yJ9_floorMod_7cf53 cJ9_floorMod_7cf53 3 (some FieldType.int) 2 := ⟨tw_510, tw_509, tw_45, by decide, by decide, by decide +kernel⟩
def F_place (h : Int32) (g : Int32) : Int32 := ((F_floorMod h 25) * 6) + g
set_option maxHeartbeats 4000000 in
set_option maxRecDepth 100000 in
theorem c_place (l : Launch) (D : hk_D) (G : hk_G) (τ σ : hk_v) (h : Int32) (g : Int32)   : Met l yX5_place (hk_ws yX5_place cX5_place 2 (some FieldType.int)) ({ frames := 1, cells := 0, slots := 0, locals := 22 }) (hk_P D G (hk_cm τ σ) [.int h, .int g]) (hk_Q D (hk_e G (some (.int (F_place h g))) (hk_cm τ σ))) 0 0 (hk_A D) := by
  refine hk_met (by decide +kernel) (Nat.le_of_ble_eq_true rfl) (fun p e s m below meth c hx hb hr hml hlocks ht hown hin hK hH hS ls hl => ?_)
  have hl : lv_has ls 2 [(0, .int h), (1, .int g)] := hl
  refine lv_iload_n hx hb dX5_place_0 rfl (lv_at hl 0 rfl) ?_
  refine lv_bipush (v := 25) hx hb dX5_place_1 (by decide) ?_
  refine hk_cS (As := [.int h, .int 25]) (rest := []) hx hb hml hl.1 ht hown hK hH hS (c_floorMod l D G τ σ h 25 (by decide)) ymS_J9_floorMod_7cf53 tw_508 ⟨rfl, rfl⟩ ⟨Nat.le_of_ble_eq_true rfl, Nat.le_of_ble_eq_true rfl⟩ rfl rfl (Nat.le_of_ble_eq_true rfl) dX5_place_3 ⟨Nat.le_of_ble_eq_true rfl, Nat.le_of_ble_eq_true rfl⟩ (hk_ea (fun H locs hH hS => ?_))
  refine lv_bipush (v := 6) hx hb dX5_place_6 (by decide) ?_
  refine lv_imul hx hb dX5_place_8 ?_
  refine lv_iload_n hx hb dX5_place_9 rfl (lv_at hl 1 rfl) ?_
  refine lv_iadd hx hb dX5_place_10 ?_
  exact hk_iret hx hb hr hlocks hH hS ⟨(by simp only [F_place]), rfl, rfl⟩ dX5_place_11
def F_tell (τ : hk_v) (i : Nat) (w : Int32) (v : Int32) : Int32 := (if (τ (5, i) 3) < 20 then 1 else 0)
def T_tell (τ : hk_v) (i : Nat) (w : Int32) (v : Int32) : hk_v := (if (τ (5, i) 3) < 20 then (hk_u (hk_u (hk_u τ (6, i) ((τ (5, i) 3).toNatClampNeg) w) (7, i) ((τ (5, i) 3).toNatClampNeg) v) (5, i) 3 ((τ (5, i) 3) + 1)) else τ)
set_option maxHeartbeats 4000000 in
set_option maxRecDepth 100000 in
theorem c_tell (l : Launch) (D : hk_D) (G : hk_G) (Z : hk_Z) (τ σ : hk_v) (i : Nat) (w : Int32) (v : Int32) (hG : hk_Y D G Z) (hi : i < 2) (h0 : ¬ τ (5, i) 3 < 0) : Met l yX7_tell (hk_ws yX7_tell cX7_tell 3 (some FieldType.boolean)) ({ frames := 0, cells := 0, slots := 0, locals := 0 }) (hk_P D G (hk_cm τ σ) [.ref (G.1 (.inl (5, i))), .int w, .int v]) (hk_Q D (hk_e G (some (.int (F_tell τ i w v))) (hk_cm (T_tell τ i w v) σ))) 0 0 (hk_A D) := by
  refine hk_met (by decide +kernel) (Nat.le_of_ble_eq_true rfl) (fun p e s m below meth c hx hb hr hml hlocks ht hown hin hK hH hS ls hl => ?_)
  have hl : lv_has ls 3 [(0, .ref (G.1 (.inl (5, i)))), (1, .int w), (2, .int v)] := hl
  refine lv_aload_n hx hb dX7_tell_0 rfl (lv_at hl 0 rfl) ?_
  refine hk_geti (L := (.inl (5, i))) (v := τ (5, i) 3) hx hb ht hown hK hH kc_8 (hG.k5 i hi) 3 (by decide) rfl tw_139 rfl rfl dX7_tell_1 ?_
  refine lv_bipush (v := 20) hx hb dX7_tell_4 (by decide) ?_
  refine lv_icmp_lt (tgt := 11) hx hb dX7_tell_6 (by decide) (fun c_1 => ?_) (fun c_1 => ?_)
  · refine lv_aload_n hx hb dX7_tell_11 rfl (lv_at hl 0 rfl) ?_
    refine hk_getr (L := (.inl (5, i))) (v := .ref (G.1 (.inl (6, i)))) hx hb ht hown hK hH kc_8 (hG.k5 i hi) 0 (by decide) rfl tw_136 rfl (hG.r5_0 i hi) dX7_tell_12 ?_
    refine lv_aload_n hx hb dX7_tell_15 rfl (lv_at hl 0 rfl) ?_
    refine hk_geti (L := (.inl (5, i))) (v := τ (5, i) 3) hx hb ht hown hK hH kc_8 (hG.k5 i hi) 3 (by decide) rfl tw_139 rfl rfl dX7_tell_16 ?_
    refine lv_iload_n hx hb dX7_tell_19 rfl (lv_at hl 1 rfl) ?_
    refine hk_ist (L := (.inl (6, i))) hx hb hK hH hS (hG.k6 i hi) (hk_vin h0 (Int32.not_le.mpr c_1)) dX7_tell_20 (fun H locs hH hS => ?_)
    rw [hk_up_l] at hH
    refine lv_aload_n hx hb dX7_tell_21 rfl (lv_at hl 0 rfl) ?_
    refine hk_getr (L := (.inl (5, i))) (v := .ref (G.1 (.inl (7, i)))) hx hb ht hown hK hH kc_8 (hG.k5 i hi) 1 (by decide) rfl tw_137 rfl (hG.r5_1 i hi) dX7_tell_22 ?_
    refine lv_aload_n hx hb dX7_tell_25 rfl (lv_at hl 0 rfl) ?_
    refine hk_geti (L := (.inl (5, i))) (v := τ (5, i) 3) hx hb ht hown hK hH kc_8 (hG.k5 i hi) 3 (by decide) rfl tw_139 rfl (by simp [hk_cm, hk_u_ap]) dX7_tell_26 ?_
    refine lv_iload_n hx hb dX7_tell_29 rfl (lv_at hl 2 rfl) ?_
    refine hk_ist (L := (.inl (7, i))) hx hb hK hH hS (hG.k7 i hi) (hk_vin h0 (Int32.not_le.mpr c_1)) dX7_tell_30 (fun H locs hH hS => ?_)
    rw [hk_up_l] at hH
    refine lv_aload_n hx hb dX7_tell_31 rfl (lv_at hl 0 rfl) ?_
    refine lv_dup hx hb dX7_tell_32 rfl ?_
    refine hk_geti (L := (.inl (5, i))) (v := τ (5, i) 3) hx hb ht hown hK hH kc_8 (hG.k5 i hi) 3 (by decide) rfl tw_139 rfl (by simp [hk_cm, hk_u_ap]) dX7_tell_33 ?_
    refine lv_iconst (v := 1) hx hb dX7_tell_36 (by decide) ?_
    refine lv_iadd hx hb dX7_tell_37 ?_
    refine hk_puti (L := (.inl (5, i))) hx hb ht hown hK hH hS kc_8 (hG.k5 i hi) 3 (by decide) rfl tw_139 rfl (Or.inl rfl) rfl dX7_tell_38 (fun H locs hH hS => ?_)
    rw [hk_up_l] at hH
    refine lv_iconst (v := 1) hx hb dX7_tell_41 (by decide) ?_
    exact hk_zret hx hb hr hlocks (by decide) hH hS ⟨(by simp only [F_tell, if_pos c_1]), rfl, (by simp only [T_tell, if_pos c_1])⟩ dX7_tell_42
  · refine lv_iconst (v := 0) hx hb dX7_tell_9 (by decide) ?_
    exact hk_zret hx hb hr hlocks (by decide) hH hS ⟨(by simp only [F_tell, if_neg c_1]), rfl, (by simp only [T_tell, if_neg c_1])⟩ dX7_tell_10
def B_inForce (i : Nat) (w : Int32) (τ : hk_v) (j : Nat) (s : Int32 × Int32) : Int32 × Int32 := match s with
  | (la, fo) => (if w < (τ (6, i) j) then (la, fo) else (if (τ (6, i) j) < la then (la, fo) else (τ (6, i) j, τ (7, i) j)))
def F_inForce (τ : hk_v) (i : Nat) (n : Nat) (w : Int32) : Int32 := (hk_it (B_inForce i w τ) n 0 ((-1), τ (5, i) 2)).2
set_option maxHeartbeats 4000000 in
set_option maxRecDepth 100000 in
theorem c_inForce (l : Launch) (D : hk_D) (G : hk_G) (Z : hk_Z) (τ σ : hk_v) (i : Nat) (n : Nat) (w : Int32) (hG : hk_Y D G Z) (hi : i < 2) (hn : τ (5, i) 3 = nI n) (hr : n ≤ 20) : Met l yX7_inForce (hk_ws yX7_inForce cX7_inForce 5 (some FieldType.int)) ({ frames := 0, cells := 0, slots := 0, locals := 0 }) (hk_P D G (hk_cm τ σ) [.ref (G.1 (.inl (5, i))), .int w]) (hk_Q D (hk_e G (some (.int (F_inForce τ i n w))) (hk_cm τ σ))) 0 0 (hk_A D) := by
  refine hk_met (by decide +kernel) (Nat.le_of_ble_eq_true rfl) (fun p e s m below meth c hx hb hr hml hlocks ht hown hin hK hH hS ls hl => ?_)
  have hl : lv_has ls 5 [(0, .ref (G.1 (.inl (5, i)))), (1, .int w)] := hl
  refine lv_iconst (v := -1) hx hb dX7_inForce_0 (by decide) ?_
  refine lv_istore_n (lv' := [(2, .int (-1)), (0, .ref (G.1 (.inl (5, i)))), (1, .int w)]) hx hb dX7_inForce_1 rfl hl (by decide) rfl (fun ls hl => ?_)
  refine lv_aload_n hx hb dX7_inForce_2 rfl (lv_at hl 1 rfl) ?_
  refine hk_geti (L := (.inl (5, i))) (v := τ (5, i) 2) hx hb ht hown hK hH kc_8 (hG.k5 i hi) 2 (by decide) rfl tw_138 rfl rfl dX7_inForce_3 ?_
  refine lv_istore_n (lv' := [(3, .int (τ (5, i) 2)), (2, .int (-1)), (0, .ref (G.1 (.inl (5, i)))), (1, .int w)]) hx hb dX7_inForce_6 rfl hl (by decide) rfl (fun ls hl => ?_)
  refine lv_iconst (v := 0) hx hb dX7_inForce_7 (by decide) ?_
  refine lv_istore (lv' := [(4, .int 0), (3, .int (τ (5, i) 2)), (2, .int (-1)), (0, .ref (G.1 (.inl (5, i)))), (1, .int w)]) hx hb dX7_inForce_8 hl (by decide) rfl (fun ls hl => ?_)
  have LP_1 : ∀ (r j : Nat) (la : Int32) (fo : Int32) (H : Heap) (locs : List Loc) (ls : Array Slot) (QQ : State → Prop), j + r = n → hk_H D G (hk_cm τ σ) H → va_S (hk_A D) s.heap H locs → lv_has ls 5 [(4, .int (nI j)), (3, .int fo), (2, .int la), (0, .ref (G.1 (.inl (5, i)))), (1, .int w)] → (∀ (H : Heap) (locs : List Loc) (ls : Array Slot), hk_H D G (hk_cm τ σ) H → va_S (hk_A D) s.heap H locs → lv_has ls 5 [(4, .int (nI n)), (3, .int ((hk_it (B_inForce i w τ) r j (la, fo)).2)), (2, .int ((hk_it (B_inForce i w τ) r j (la, fo)).1)), (0, .ref (G.1 (.inl (5, i)))), (1, .int w)] → W p l e ({ frames := 0, cells := 0, slots := 0, locals := 0 }) s m ([.ref (G.1 (.inl (5, i))), .int w] : List Value).toArray below meth c H locs 0 0 QQ (F0 m 63 ls [])) → W p l e ({ frames := 0, cells := 0, slots := 0, locals := 0 }) s m ([.ref (G.1 (.inl (5, i))), .int w] : List Value).toArray below meth c H locs 0 0 QQ (F0 m 10 ls []) := by
    intro r
    induction r with
    | zero =>
      intro j la fo H locs ls QQ hn_inForce hH hS hl kk
      refine lv_iload hx hb dX7_inForce_10 (lv_at hl 0 rfl) ?_
      refine lv_aload_n hx hb dX7_inForce_12 rfl (lv_at hl 3 rfl) ?_
      refine hk_geti (L := (.inl (5, i))) (v := τ (5, i) 3) hx hb ht hown hK hH kc_8 (hG.k5 i hi) 3 (by decide) rfl tw_139 rfl rfl dX7_inForce_13 ?_
      refine lv_icmp_ge (tgt := 63) hx hb dX7_inForce_16 (by decide) (fun c_2 => ?_) (fun c_2 => ?_)
      rotate_left
      · exfalso; rw [hn] at c_2; first | exact nI_ge (by omega) (by omega) c_2 | exact c_2 (nI_le (by omega) (by omega)) | exact nI_nlt (by omega) (by omega) c_2 | exact c_2 (nI_lt (by omega) (by omega))
      have hiN : j = n := by omega
      rw [hiN] at hl
      exact kk H locs ls hH hS (lv_sub hl [0, 1, 2, 3, 4] rfl)
    | succ r ih =>
      intro j la fo H locs ls QQ hn_inForce hH hS hl kk
      refine lv_iload hx hb dX7_inForce_10 (lv_at hl 0 rfl) ?_
      refine lv_aload_n hx hb dX7_inForce_12 rfl (lv_at hl 3 rfl) ?_
      refine hk_geti (L := (.inl (5, i))) (v := τ (5, i) 3) hx hb ht hown hK hH kc_8 (hG.k5 i hi) 3 (by decide) rfl tw_139 rfl rfl dX7_inForce_13 ?_
      refine lv_icmp_ge (tgt := 63) hx hb dX7_inForce_16 (by decide) (fun c_3 => ?_) (fun c_3 => ?_)
      · exfalso; rw [hn] at c_3; first | exact nI_ge (by omega) (by omega) c_3 | exact c_3 (nI_le (by omega) (by omega)) | exact nI_nlt (by omega) (by omega) c_3 | exact c_3 (nI_lt (by omega) (by omega))
      refine lv_aload_n hx hb dX7_inForce_19 rfl (lv_at hl 3 rfl) ?_
      refine hk_getr (L := (.inl (5, i))) (v := .ref (G.1 (.inl (6, i)))) hx hb ht hown hK hH kc_8 (hG.k5 i hi) 0 (by decide) rfl tw_136 rfl (hG.r5_0 i hi) dX7_inForce_20 ?_
      refine lv_iload hx hb dX7_inForce_23 (lv_at hl 0 rfl) ?_
      refine hk_ild (L := (.inl (6, i))) (v := τ (6, i) j) hx hb hK hH (hG.k6 i hi) (vp_in_nI (by omega) (by omega)) (by rw [nI_clamp (by omega)]; rfl) dX7_inForce_25 ?_
      refine lv_iload_n hx hb dX7_inForce_26 rfl (lv_at hl 4 rfl) ?_
      refine lv_icmp_gt (tgt := 57) hx hb dX7_inForce_27 (by decide) (fun c_4 => ?_) (fun c_4 => ?_)
      · refine lv_iinc (v := nI (j + 1)) (lv' := [(4, .int (nI (j + 1))), (3, .int fo), (2, .int la), (0, .ref (G.1 (.inl (5, i)))), (1, .int w)]) hx hb dX7_inForce_57 hl (k := 0) rfl (nI_1 _) (by decide) rfl (fun ls hl => ?_)
        refine lv_goto (tgt := 10) hx hb dX7_inForce_60 (by decide) ?_
        have EB_5 : (B_inForce i w τ) j (la, fo) = (la, fo) := by simp only [B_inForce, if_pos c_4]
        exact ih (j + 1) la fo _ _ _ QQ (by omega) hH hS (lv_sub hl [0, 1, 2, 3, 4] rfl) (fun H locs ls hH hS hl => kk H locs ls hH hS (by rw [hk_it_s, EB_5]; exact hl))
      · refine lv_aload_n hx hb dX7_inForce_30 rfl (lv_at hl 3 rfl) ?_
        refine hk_getr (L := (.inl (5, i))) (v := .ref (G.1 (.inl (6, i)))) hx hb ht hown hK hH kc_8 (hG.k5 i hi) 0 (by decide) rfl tw_136 rfl (hG.r5_0 i hi) dX7_inForce_31 ?_
        refine lv_iload hx hb dX7_inForce_34 (lv_at hl 0 rfl) ?_
        refine hk_ild (L := (.inl (6, i))) (v := τ (6, i) j) hx hb hK hH (hG.k6 i hi) (vp_in_nI (by omega) (by omega)) (by rw [nI_clamp (by omega)]; rfl) dX7_inForce_36 ?_
        refine lv_iload_n hx hb dX7_inForce_37 rfl (lv_at hl 2 rfl) ?_
        refine lv_icmp_lt (tgt := 57) hx hb dX7_inForce_38 (by decide) (fun c_6 => ?_) (fun c_6 => ?_)
        · refine lv_iinc (v := nI (j + 1)) (lv' := [(4, .int (nI (j + 1))), (3, .int fo), (2, .int la), (0, .ref (G.1 (.inl (5, i)))), (1, .int w)]) hx hb dX7_inForce_57 hl (k := 0) rfl (nI_1 _) (by decide) rfl (fun ls hl => ?_)
          refine lv_goto (tgt := 10) hx hb dX7_inForce_60 (by decide) ?_
          have EB_7 : (B_inForce i w τ) j (la, fo) = (la, fo) := by simp only [B_inForce, if_neg c_4, if_pos c_6]
          exact ih (j + 1) la fo _ _ _ QQ (by omega) hH hS (lv_sub hl [0, 1, 2, 3, 4] rfl) (fun H locs ls hH hS hl => kk H locs ls hH hS (by rw [hk_it_s, EB_7]; exact hl))
        · refine lv_aload_n hx hb dX7_inForce_41 rfl (lv_at hl 3 rfl) ?_
          refine hk_getr (L := (.inl (5, i))) (v := .ref (G.1 (.inl (6, i)))) hx hb ht hown hK hH kc_8 (hG.k5 i hi) 0 (by decide) rfl tw_136 rfl (hG.r5_0 i hi) dX7_inForce_42 ?_
          refine lv_iload hx hb dX7_inForce_45 (lv_at hl 0 rfl) ?_
          refine hk_ild (L := (.inl (6, i))) (v := τ (6, i) j) hx hb hK hH (hG.k6 i hi) (vp_in_nI (by omega) (by omega)) (by rw [nI_clamp (by omega)]; rfl) dX7_inForce_47 ?_
          refine lv_istore_n (lv' := [(2, .int (τ (6, i) j)), (4, .int (nI j)), (3, .int fo), (0, .ref (G.1 (.inl (5, i)))), (1, .int w)]) hx hb dX7_inForce_48 rfl hl (by decide) rfl (fun ls hl => ?_)
          refine lv_aload_n hx hb dX7_inForce_49 rfl (lv_at hl 3 rfl) ?_
          refine hk_getr (L := (.inl (5, i))) (v := .ref (G.1 (.inl (7, i)))) hx hb ht hown hK hH kc_8 (hG.k5 i hi) 1 (by decide) rfl tw_137 rfl (hG.r5_1 i hi) dX7_inForce_50 ?_
          refine lv_iload hx hb dX7_inForce_53 (lv_at hl 1 rfl) ?_
          refine hk_ild (L := (.inl (7, i))) (v := τ (7, i) j) hx hb hK hH (hG.k7 i hi) (vp_in_nI (by omega) (by omega)) (by rw [nI_clamp (by omega)]; rfl) dX7_inForce_55 ?_
          refine lv_istore_n (lv' := [(3, .int (τ (7, i) j)), (2, .int (τ (6, i) j)), (4, .int (nI j)), (0, .ref (G.1 (.inl (5, i)))), (1, .int w)]) hx hb dX7_inForce_56 rfl hl (by decide) rfl (fun ls hl => ?_)
          refine lv_iinc (v := nI (j + 1)) (lv' := [(4, .int (nI (j + 1))), (3, .int (τ (7, i) j)), (2, .int (τ (6, i) j)), (0, .ref (G.1 (.inl (5, i)))), (1, .int w)]) hx hb dX7_inForce_57 hl (k := 2) rfl (nI_1 _) (by decide) rfl (fun ls hl => ?_)
          refine lv_goto (tgt := 10) hx hb dX7_inForce_60 (by decide) ?_
          have EB_8 : (B_inForce i w τ) j (la, fo) = (τ (6, i) j, τ (7, i) j) := by simp only [B_inForce, if_neg c_4, if_neg c_6]
          exact ih (j + 1) (τ (6, i) j) (τ (7, i) j) _ _ _ QQ (by omega) hH hS (lv_sub hl [0, 1, 2, 3, 4] rfl) (fun H locs ls hH hS hl => kk H locs ls hH hS (by rw [hk_it_s, EB_8]; exact hl))
  refine LP_1 n 0 (-1) (τ (5, i) 2) _ _ _ _ (by omega) hH hS (lv_sub hl [0, 1, 2, 3, 4] rfl) (fun H locs ls hH hS hl => ?_)
  refine lv_iload_n hx hb dX7_inForce_63 rfl (lv_at hl 1 rfl) ?_
  exact hk_iret hx hb hr hlocks hH hS ⟨(by simp only [F_inForce]), rfl, rfl⟩ dX7_inForce_64
def F_led (τ : hk_v)  : Int32 := if 100 < (τ (4, 0) 2) then 100 else (τ (4, 0) 2)
set_option maxHeartbeats 4000000 in
set_option maxRecDepth 100000 in
theorem c_led (l : Launch) (D : hk_D) (G : hk_G) (Z : hk_Z) (τ σ : hk_v)  (hG : hk_Y D G Z)  : Met l yX9_led (hk_ws yX9_led cX9_led 1 (some FieldType.int)) ({ frames := 1, cells := 0, slots := 0, locals := 13 }) (hk_P D G (hk_cm τ σ) [.ref (G.1 (.inl (4, 0)))]) (hk_Q D (hk_e G (some (.int (F_led τ))) (hk_cm τ σ))) 0 0 (hk_A D) := by
  refine hk_met (by decide +kernel) (Nat.le_of_ble_eq_true rfl) (fun p e s m below meth c hx hb hr hml hlocks ht hown hin hK hH hS ls hl => ?_)
  have hl : lv_has ls 1 [(0, .ref (G.1 (.inl (4, 0))))] := hl
  refine lv_aload_n hx hb dX9_led_0 rfl (lv_at hl 0 rfl) ?_
  refine hk_geti (L := (.inl (4, 0))) (v := τ (4, 0) 2) hx hb ht hown hK hH kc_10 hG.k4_0 2 (by decide) rfl tw_114 rfl rfl dX9_led_1 ?_
  refine lv_bipush (v := 100) hx hb dX9_led_4 (by decide) ?_
  refine va_mmin hx hb (hml.trans hl.1.symm) hown (ht _ tw_604) (ht _ tw_293) (ht _ tw_45) (ht _ tw_294) (Nat.le_of_ble_eq_true rfl) (Nat.le_of_ble_eq_true rfl) (Nat.zero_le _) (Nat.zero_le _) dX9_led_6 ?_
  exact hk_iret hx hb hr hlocks hH hS ⟨(by simp only [F_led]), rfl, rfl⟩ dX9_led_9
def T_pressOne (τ : hk_v) (day : Int32) : hk_v := (if 100 ≤ (τ (4, 0) 2) then (hk_u τ (4, 0) 2 ((τ (4, 0) 2) + 1)) else (hk_u (hk_u (hk_u τ (4, 1) ((τ (4, 0) 2).toNatClampNeg) (τ (4, 0) 4)) (4, 2) ((τ (4, 0) 2).toNatClampNeg) day) (4, 0) 2 ((τ (4, 0) 2) + 1)))
set_option maxHeartbeats 4000000 in
set_option maxRecDepth 100000 in
theorem c_pressOne (l : Launch) (D : hk_D) (G : hk_G) (Z : hk_Z) (τ σ : hk_v) (day : Int32) (hG : hk_Y D G Z) (h0 : ¬ τ (4, 0) 2 < 0) : Met l yX9_pressOne (hk_ws yX9_pressOne cX9_pressOne 2 none) ({ frames := 0, cells := 0, slots := 0, locals := 0 }) (hk_P D G (hk_cm τ σ) [.ref (G.1 (.inl (4, 0))), .int day]) (hk_Q D (hk_e G (none) (hk_cm (T_pressOne τ day) σ))) 0 0 (hk_A D) := by
  refine hk_met (by decide +kernel) (Nat.le_of_ble_eq_true rfl) (fun p e s m below meth c hx hb hr hml hlocks ht hown hin hK hH hS ls hl => ?_)
  have hl : lv_has ls 2 [(0, .ref (G.1 (.inl (4, 0)))), (1, .int day)] := hl
  refine lv_aload_n hx hb dX9_pressOne_0 rfl (lv_at hl 0 rfl) ?_
  refine hk_geti (L := (.inl (4, 0))) (v := τ (4, 0) 2) hx hb ht hown hK hH kc_10 hG.k4_0 2 (by decide) rfl tw_114 rfl rfl dX9_pressOne_1 ?_
  refine lv_bipush (v := 100) hx hb dX9_pressOne_4 (by decide) ?_
  refine lv_icmp_ge (tgt := 32) hx hb dX9_pressOne_6 (by decide) (fun c_1 => ?_) (fun c_1 => ?_)
  · refine lv_aload_n hx hb dX9_pressOne_32 rfl (lv_at hl 0 rfl) ?_
    refine lv_dup hx hb dX9_pressOne_33 rfl ?_
    refine hk_geti (L := (.inl (4, 0))) (v := τ (4, 0) 2) hx hb ht hown hK hH kc_10 hG.k4_0 2 (by decide) rfl tw_114 rfl rfl dX9_pressOne_34 ?_
    refine lv_iconst (v := 1) hx hb dX9_pressOne_37 (by decide) ?_
    refine lv_iadd hx hb dX9_pressOne_38 ?_
    refine hk_puti (L := (.inl (4, 0))) hx hb ht hown hK hH hS kc_10 hG.k4_0 2 (by decide) rfl tw_114 rfl (Or.inl rfl) rfl dX9_pressOne_39 (fun H locs hH hS => ?_)
    rw [hk_up_l] at hH
    exact hk_vret hx hb hr hlocks hH hS ⟨rfl, rfl, (by simp only [T_pressOne, if_pos c_1])⟩ dX9_pressOne_42
  · refine lv_aload_n hx hb dX9_pressOne_9 rfl (lv_at hl 0 rfl) ?_
    refine hk_getr (L := (.inl (4, 0))) (v := .ref (G.1 (.inl (4, 1)))) hx hb ht hown hK hH kc_10 hG.k4_0 0 (by decide) rfl tw_110 rfl hG.r4_0 dX9_pressOne_10 ?_
    refine lv_aload_n hx hb dX9_pressOne_13 rfl (lv_at hl 0 rfl) ?_
    refine hk_geti (L := (.inl (4, 0))) (v := τ (4, 0) 2) hx hb ht hown hK hH kc_10 hG.k4_0 2 (by decide) rfl tw_114 rfl rfl dX9_pressOne_14 ?_
    refine lv_aload_n hx hb dX9_pressOne_17 rfl (lv_at hl 0 rfl) ?_
    refine hk_geti (L := (.inl (4, 0))) (v := τ (4, 0) 4) hx hb ht hown hK hH kc_10 hG.k4_0 4 (by decide) rfl tw_118 rfl rfl dX9_pressOne_18 ?_
    refine hk_ist (L := (.inl (4, 1))) hx hb hK hH hS hG.k4_1 (hk_vin h0 c_1) dX9_pressOne_21 (fun H locs hH hS => ?_)
    rw [hk_up_l] at hH
    refine lv_aload_n hx hb dX9_pressOne_22 rfl (lv_at hl 0 rfl) ?_
    refine hk_getr (L := (.inl (4, 0))) (v := .ref (G.1 (.inl (4, 2)))) hx hb ht hown hK hH kc_10 hG.k4_0 1 (by decide) rfl tw_112 rfl hG.r4_1 dX9_pressOne_23 ?_
    refine lv_aload_n hx hb dX9_pressOne_26 rfl (lv_at hl 0 rfl) ?_
    refine hk_geti (L := (.inl (4, 0))) (v := τ (4, 0) 2) hx hb ht hown hK hH kc_10 hG.k4_0 2 (by decide) rfl tw_114 rfl (by simp [hk_cm, hk_u_ap]) dX9_pressOne_27 ?_
    refine lv_iload_n hx hb dX9_pressOne_30 rfl (lv_at hl 1 rfl) ?_
    refine hk_ist (L := (.inl (4, 2))) hx hb hK hH hS hG.k4_2 (hk_vin h0 c_1) dX9_pressOne_31 (fun H locs hH hS => ?_)
    rw [hk_up_l] at hH
    refine lv_aload_n hx hb dX9_pressOne_32 rfl (lv_at hl 0 rfl) ?_
    refine lv_dup hx hb dX9_pressOne_33 rfl ?_
    refine hk_geti (L := (.inl (4, 0))) (v := τ (4, 0) 2) hx hb ht hown hK hH kc_10 hG.k4_0 2 (by decide) rfl tw_114 rfl (by simp [hk_cm, hk_u_ap]) dX9_pressOne_34 ?_
    refine lv_iconst (v := 1) hx hb dX9_pressOne_37 (by decide) ?_
    refine lv_iadd hx hb dX9_pressOne_38 ?_
    refine hk_puti (L := (.inl (4, 0))) hx hb ht hown hK hH hS kc_10 hG.k4_0 2 (by decide) rfl tw_114 rfl (Or.inl rfl) rfl dX9_pressOne_39 (fun H locs hH hS => ?_)
    rw [hk_up_l] at hH
    exact hk_vret hx hb hr hlocks hH hS ⟨rfl, rfl, (by simp only [T_pressOne, if_neg c_1])⟩ dX9_pressOne_42
end
section
theorem hk_sgn (x : Int32) : (0 ≤ x ^^^ 25) ↔ 0 ≤ x.toInt := by
  rw [Int32.le_iff_toInt_le]
  have h1 : (x ^^^ 25).toBitVec.msb = x.toBitVec.msb := by
    show (x.toBitVec ^^^ (25 : Int32).toBitVec).msb = _
    rw [BitVec.msb_xor, show (25 : Int32).toBitVec.msb = false from by decide]
    simp
  have h2 : (x ^^^ 25).toBitVec.msb = decide ((x ^^^ 25).toInt < 0) := BitVec.msb_eq_toInt
  have h3 : x.toBitVec.msb = decide (x.toInt < 0) := BitVec.msb_eq_toInt
  have h4 : decide ((x ^^^ 25).toInt < 0) = decide (x.toInt < 0) := by rw [← h2, ← h3, h1]
  have h5 : ((x ^^^ 25).toInt < 0) ↔ (x.toInt < 0) := by simpa using h4
  have h6 : (0 : Int32).toInt = 0 := by decide
  rw [h6]
  omega
theorem hk_rng (x : Int32) : -2147483648 ≤ x.toInt ∧ x.toInt < 2147483648 := ⟨Int32.le_toInt x, Int32.toInt_lt x⟩
theorem hk_bmod {z : Int} (h1 : -2147483648 ≤ z) (h2 : z < 2147483648) : z.bmod (2 ^ 32) = z := by
  rw [Int.bmod_eq_of_le] <;> omega
theorem hk_addI {x y : Int32} (h1 : -2147483648 ≤ x.toInt + y.toInt) (h2 : x.toInt + y.toInt < 2147483648) : (x + y).toInt = x.toInt + y.toInt := by
  rw [Int32.toInt_add]; exact hk_bmod h1 h2
theorem hk_subI {x y : Int32} (h1 : -2147483648 ≤ x.toInt - y.toInt) (h2 : x.toInt - y.toInt < 2147483648) : (x - y).toInt = x.toInt - y.toInt := by
  rw [Int32.toInt_sub]; exact hk_bmod h1 h2
theorem hk_mulI {x y : Int32} (h1 : -2147483648 ≤ x.toInt * y.toInt) (h2 : x.toInt * y.toInt < 2147483648) : (x * y).toInt = x.toInt * y.toInt := by
  rw [Int32.toInt_mul]; exact hk_bmod h1 h2
theorem hk_eqI {x : Int32} {n : Nat} (h : x.toInt = (n : Int)) : x = nI n := by
  have h2 := hk_rng x
  exact Int32.toInt_inj.mp (by rw [nI_toInt (by omega)]; exact h)
theorem hk_fm (x : Int32) : (F_floorMod x 25).toInt = x.toInt % 25 := by
  have e25 : (25 : Int32).toInt = 25 := by decide
  have hr : (x - x / 25 * 25).toInt = x.toInt.tmod 25 := by rw [rem_toInt, e25]
  unfold F_floorMod
  by_cases h : 0 ≤ x ^^^ 25
  · rw [if_pos h, hr]
    exact Int.tmod_eq_emod_of_nonneg ((hk_sgn x).mp h)
  · rw [if_neg h]
    have hneg : x.toInt < 0 := by
      have := mt (hk_sgn x).mpr h
      omega
    have hb := tmod_bounds (a := x.toInt) (M := 25) (by decide)
    have ht : x.toInt.tmod 25 = -((-x.toInt) % 25) := by
      have h1 : x.toInt = -(-x.toInt) := by omega
      rw [h1, Int.neg_tmod, Int.tmod_eq_emod_of_nonneg (by omega)]
      omega
    by_cases h0 : (x - x / 25 * 25) = 0
    · rw [if_pos h0, hr, ht]
      have : (x - x / 25 * 25).toInt = 0 := by rw [h0]; decide
      rw [hr, ht] at this
      omega
    · rw [if_neg h0]
      have hz : (x - x / 25 * 25).toInt ≠ 0 := fun q => h0 (Int32.toInt_inj.mp (by rw [q]; decide))
      rw [hk_addI (by rw [hr, e25]; omega) (by rw [hr, e25]; omega), hr, e25]
      rw [hr] at hz
      rw [ht] at hz ⊢
      omega
/-- the ring's place of an hour -/
def hk_rg (h : Int32) : Nat := (h.toInt % 25).toNat
theorem hk_rg_lt (h : Int32) : hk_rg h < 25 := by unfold hk_rg; omega
theorem hk_fm_n (h : Int32) : F_floorMod h 25 = nI (hk_rg h) := hk_eqI (by rw [hk_fm]; unfold hk_rg; omega)
theorem hk_place_n (h : Int32) (k : Nat) : F_place h (nI k) = nI (hk_rg h * 6 + k) := by
  unfold F_place
  rw [hk_fm_n, show (6 : Int32) = nI 6 from rfl, pk_mul, nI_add]
theorem hk_place_j (h : Int32) {k : Nat} (hk : k < 6) : vp_in (F_place h (nI k)) 150 := by
  have := hk_rg_lt h
  rw [hk_place_n]
  exact vp_in_nI (by omega) (by omega)
theorem hk_place_in {h g : Int32} (hg : ¬ hk_in g 0 5 = 0) : vp_in (F_place h g) 150 := by
  obtain ⟨h1, h2⟩ := hk_in_ix (n := 5) rfl (by decide) hg
  rw [h2]
  exact hk_place_j h (by omega)
end
section
theorem ymS_X5_place : hk_mS yX5_place cX5_place 2 (some FieldType.int) 2 := ⟨tw_507, tw_506, tw_38, by decide, by decide, by decide +kernel⟩
def T_glay (τ : hk_v) (h : Int32) (g : Int32) (b : Int32) : hk_v := (if (hk_in g 0 5) = 0 then τ else (hk_u (hk_u τ (3, 1) ((F_place h g).toNatClampNeg) ((τ (3, 1) ((F_place h g).toNatClampNeg)) + b)) (3, 0) 1 ((τ (3, 0) 1) + b)))
set_option maxHeartbeats 4000000 in
set_option maxRecDepth 100000 in
theorem c_glay (l : Launch) (D : hk_D) (G : hk_G) (Z : hk_Z) (τ σ : hk_v) (h : Int32) (g : Int32) (b : Int32) (hG : hk_Y D G Z)  : Met l yX5_lay (hk_ws yX5_lay cX5_lay 4 none) ({ frames := 2, cells := 0, slots := 0, locals := 43 }) (hk_P D G (hk_cm τ σ) [.ref (G.1 (.inl (3, 0))), .int h, .int g, .int b]) (hk_Q D (hk_e G (none) (hk_cm (T_glay τ h g b) σ))) 0 0 (hk_A D) := by
  refine hk_met (by decide +kernel) (Nat.le_of_ble_eq_true rfl) (fun p e s m below meth c hx hb hr hml hlocks ht hown hin hK hH hS ls hl => ?_)
  have hl : lv_has ls 4 [(0, .ref (G.1 (.inl (3, 0)))), (1, .int h), (2, .int g), (3, .int b)] := hl
  refine lv_iload_n hx hb dX5_lay_0 rfl (lv_at hl 2 rfl) ?_
  refine lv_iconst (v := 0) hx hb dX5_lay_1 (by decide) ?_
  refine lv_iconst (v := 5) hx hb dX5_lay_2 (by decide) ?_
  refine hk_cSN (As := [.int g, .int 0, .int 5]) (rest := []) hx hb hml hl.1 ht hown hK hH hS (c_within l D G τ σ g 0 5) ymS_X10_within (List.mem_filter.mpr ⟨tw_504, rfl⟩) ⟨rfl, rfl⟩ ⟨Nat.le_of_ble_eq_true rfl, Nat.le_of_ble_eq_true rfl⟩ rfl rfl (Nat.le_of_ble_eq_true rfl) dX5_lay_3 ⟨Nat.le_of_ble_eq_true rfl, Nat.le_of_ble_eq_true rfl⟩ (hk_ea (fun H locs hH hS => ?_))
  refine lv_if_ne (tgt := 10) hx hb dX5_lay_6 (by decide) (fun c_1 => ?_) (fun c_1 => ?_)
  · refine lv_aload_n hx hb dX5_lay_10 rfl (lv_at hl 0 rfl) ?_
    refine hk_getr (L := (.inl (3, 0))) (v := .ref (G.1 (.inl (3, 1)))) hx hb ht hown hK hH kc_6 hG.k3_0 0 (by decide) rfl tw_95 rfl hG.r3 dX5_lay_11 ?_
    refine lv_iload_n hx hb dX5_lay_14 rfl (lv_at hl 1 rfl) ?_
    refine lv_iload_n hx hb dX5_lay_15 rfl (lv_at hl 2 rfl) ?_
    refine hk_cS (As := [.int h, .int g]) (rest := [.ref (G.1 (.inl (3, 1)))]) hx hb hml hl.1 ht hown hK hH hS (c_place l D G τ σ h g) ymS_X5_place tw_505 ⟨rfl, rfl⟩ ⟨Nat.le_of_ble_eq_true rfl, Nat.le_of_ble_eq_true rfl⟩ rfl rfl (Nat.le_of_ble_eq_true rfl) dX5_lay_16 ⟨Nat.le_of_ble_eq_true rfl, Nat.le_of_ble_eq_true rfl⟩ (hk_ea (fun H locs hH hS => ?_))
    refine lv_dup2_11 hx hb dX5_lay_19 rfl rfl ?_
    refine hk_ild (L := (.inl (3, 1))) (v := τ (3, 1) ((F_place h g).toNatClampNeg)) hx hb hK hH hG.k3_1 (hk_place_in c_1) rfl dX5_lay_20 ?_
    refine lv_iload_n hx hb dX5_lay_21 rfl (lv_at hl 3 rfl) ?_
    refine lv_iadd hx hb dX5_lay_22 ?_
    refine hk_ist (L := (.inl (3, 1))) hx hb hK hH hS hG.k3_1 (hk_place_in c_1) dX5_lay_23 (fun H locs hH hS => ?_)
    rw [hk_up_l] at hH
    refine lv_aload_n hx hb dX5_lay_24 rfl (lv_at hl 0 rfl) ?_
    refine lv_dup hx hb dX5_lay_25 rfl ?_
    refine hk_geti (L := (.inl (3, 0))) (v := τ (3, 0) 1) hx hb ht hown hK hH kc_6 hG.k3_0 1 (by decide) rfl tw_96 rfl (by simp [hk_cm, hk_u_ap]) dX5_lay_26 ?_
    refine lv_iload_n hx hb dX5_lay_29 rfl (lv_at hl 3 rfl) ?_
    refine lv_iadd hx hb dX5_lay_30 ?_
    refine hk_puti (L := (.inl (3, 0))) hx hb ht hown hK hH hS kc_6 hG.k3_0 1 (by decide) rfl tw_96 rfl (Or.inl rfl) rfl dX5_lay_31 (fun H locs hH hS => ?_)
    rw [hk_up_l] at hH
    exact hk_vret hx hb hr hlocks hH hS ⟨rfl, rfl, (by simp only [T_glay, if_neg c_1])⟩ dX5_lay_34
  · exact hk_vret hx hb hr hlocks hH hS ⟨rfl, rfl, (by simp only [T_glay, if_pos c_1])⟩ dX5_lay_9
def F_give (τ : hk_v) (h : Int32) (g : Int32) (b : Int32) : Int32 := (if (hk_in g 0 5) = 0 then 0 else if b < (τ (3, 1) ((F_place h g).toNatClampNeg)) then b else (τ (3, 1) ((F_place h g).toNatClampNeg)))
def T_give (τ : hk_v) (h : Int32) (g : Int32) (b : Int32) : hk_v := (if (hk_in g 0 5) = 0 then τ else (hk_u (hk_u τ (3, 1) ((F_place h g).toNatClampNeg) ((τ (3, 1) ((F_place h g).toNatClampNeg)) - (if b < (τ (3, 1) ((F_place h g).toNatClampNeg)) then b else (τ (3, 1) ((F_place h g).toNatClampNeg))))) (3, 0) 1 ((τ (3, 0) 1) - (if b < (τ (3, 1) ((F_place h g).toNatClampNeg)) then b else (τ (3, 1) ((F_place h g).toNatClampNeg))))))
set_option maxHeartbeats 4000000 in
set_option maxRecDepth 100000 in
theorem c_give (l : Launch) (D : hk_D) (G : hk_G) (Z : hk_Z) (τ σ : hk_v) (h : Int32) (g : Int32) (b : Int32) (hG : hk_Y D G Z)  : Met l yX5_give (hk_ws yX5_give cX5_give 6 (some FieldType.int)) ({ frames := 2, cells := 0, slots := 0, locals := 43 }) (hk_P D G (hk_cm τ σ) [.ref (G.1 (.inl (3, 0))), .int h, .int g, .int b]) (hk_Q D (hk_e G (some (.int (F_give τ h g b))) (hk_cm (T_give τ h g b) σ))) 0 0 (hk_A D) := by
  refine hk_met (by decide +kernel) (Nat.le_of_ble_eq_true rfl) (fun p e s m below meth c hx hb hr hml hlocks ht hown hin hK hH hS ls hl => ?_)
  have hl : lv_has ls 6 [(0, .ref (G.1 (.inl (3, 0)))), (1, .int h), (2, .int g), (3, .int b)] := hl
  refine lv_iload_n hx hb dX5_give_0 rfl (lv_at hl 2 rfl) ?_
  refine lv_iconst (v := 0) hx hb dX5_give_1 (by decide) ?_
  refine lv_iconst (v := 5) hx hb dX5_give_2 (by decide) ?_
  refine hk_cSN (As := [.int g, .int 0, .int 5]) (rest := []) hx hb hml hl.1 ht hown hK hH hS (c_within l D G τ σ g 0 5) ymS_X10_within (List.mem_filter.mpr ⟨tw_504, rfl⟩) ⟨rfl, rfl⟩ ⟨Nat.le_of_ble_eq_true rfl, Nat.le_of_ble_eq_true rfl⟩ rfl rfl (Nat.le_of_ble_eq_true rfl) dX5_give_3 ⟨Nat.le_of_ble_eq_true rfl, Nat.le_of_ble_eq_true rfl⟩ (hk_ea (fun H locs hH hS => ?_))
  refine lv_if_ne (tgt := 11) hx hb dX5_give_6 (by decide) (fun c_1 => ?_) (fun c_1 => ?_)
  · refine lv_iload_n hx hb dX5_give_11 rfl (lv_at hl 1 rfl) ?_
    refine lv_iload_n hx hb dX5_give_12 rfl (lv_at hl 2 rfl) ?_
    refine hk_cS (As := [.int h, .int g]) (rest := []) hx hb hml hl.1 ht hown hK hH hS (c_place l D G τ σ h g) ymS_X5_place tw_505 ⟨rfl, rfl⟩ ⟨Nat.le_of_ble_eq_true rfl, Nat.le_of_ble_eq_true rfl⟩ rfl rfl (Nat.le_of_ble_eq_true rfl) dX5_give_13 ⟨Nat.le_of_ble_eq_true rfl, Nat.le_of_ble_eq_true rfl⟩ (hk_ea (fun H locs hH hS => ?_))
    refine lv_istore (lv' := [(4, .int (F_place h g)), (0, .ref (G.1 (.inl (3, 0)))), (1, .int h), (2, .int g), (3, .int b)]) hx hb dX5_give_16 hl (by decide) rfl (fun ls hl => ?_)
    refine lv_aload_n hx hb dX5_give_18 rfl (lv_at hl 1 rfl) ?_
    refine hk_getr (L := (.inl (3, 0))) (v := .ref (G.1 (.inl (3, 1)))) hx hb ht hown hK hH kc_6 hG.k3_0 0 (by decide) rfl tw_95 rfl hG.r3 dX5_give_19 ?_
    refine lv_iload hx hb dX5_give_22 (lv_at hl 0 rfl) ?_
    refine hk_ild (L := (.inl (3, 1))) (v := τ (3, 1) ((F_place h g).toNatClampNeg)) hx hb hK hH hG.k3_1 (hk_place_in c_1) rfl dX5_give_24 ?_
    refine lv_iload_n hx hb dX5_give_25 rfl (lv_at hl 4 rfl) ?_
    refine va_mmin hx hb (hml.trans hl.1.symm) hown (ht _ tw_543) (ht _ tw_293) (ht _ tw_45) (ht _ tw_294) (Nat.le_of_ble_eq_true rfl) (Nat.le_of_ble_eq_true rfl) (Nat.zero_le _) (Nat.zero_le _) dX5_give_26 ?_
    refine lv_istore (lv' := [(5, .int (if b < (τ (3, 1) ((F_place h g).toNatClampNeg)) then b else (τ (3, 1) ((F_place h g).toNatClampNeg)))), (4, .int (F_place h g)), (0, .ref (G.1 (.inl (3, 0)))), (1, .int h), (2, .int g), (3, .int b)]) hx hb dX5_give_29 hl (by decide) rfl (fun ls hl => ?_)
    refine lv_aload_n hx hb dX5_give_31 rfl (lv_at hl 2 rfl) ?_
    refine hk_getr (L := (.inl (3, 0))) (v := .ref (G.1 (.inl (3, 1)))) hx hb ht hown hK hH kc_6 hG.k3_0 0 (by decide) rfl tw_95 rfl hG.r3 dX5_give_32 ?_
    refine lv_iload hx hb dX5_give_35 (lv_at hl 1 rfl) ?_
    refine lv_dup2_11 hx hb dX5_give_37 rfl rfl ?_
    refine hk_ild (L := (.inl (3, 1))) (v := τ (3, 1) ((F_place h g).toNatClampNeg)) hx hb hK hH hG.k3_1 (hk_place_in c_1) rfl dX5_give_38 ?_
    refine lv_iload hx hb dX5_give_39 (lv_at hl 0 rfl) ?_
    refine lv_isub hx hb dX5_give_41 ?_
    refine hk_ist (L := (.inl (3, 1))) hx hb hK hH hS hG.k3_1 (hk_place_in c_1) dX5_give_42 (fun H locs hH hS => ?_)
    rw [hk_up_l] at hH
    refine lv_aload_n hx hb dX5_give_43 rfl (lv_at hl 2 rfl) ?_
    refine lv_dup hx hb dX5_give_44 rfl ?_
    refine hk_geti (L := (.inl (3, 0))) (v := τ (3, 0) 1) hx hb ht hown hK hH kc_6 hG.k3_0 1 (by decide) rfl tw_96 rfl (by simp [hk_cm, hk_u_ap]) dX5_give_45 ?_
    refine lv_iload hx hb dX5_give_48 (lv_at hl 0 rfl) ?_
    refine lv_isub hx hb dX5_give_50 ?_
    refine hk_puti (L := (.inl (3, 0))) hx hb ht hown hK hH hS kc_6 hG.k3_0 1 (by decide) rfl tw_96 rfl (Or.inl rfl) rfl dX5_give_51 (fun H locs hH hS => ?_)
    rw [hk_up_l] at hH
    refine lv_iload hx hb dX5_give_54 (lv_at hl 0 rfl) ?_
    exact hk_iret hx hb hr hlocks hH hS ⟨(by simp only [F_give, if_neg c_1]), rfl, (by simp only [T_give, if_neg c_1])⟩ dX5_give_56
  · refine lv_iconst (v := 0) hx hb dX5_give_9 (by decide) ?_
    exact hk_iret hx hb hr hlocks hH hS ⟨(by simp only [F_give, if_pos c_1]), rfl, (by simp only [T_give, if_pos c_1])⟩ dX5_give_10
def B_ofHour (h : Int32) (τ : hk_v) (j : Nat) (sum : Int32) : Int32 := sum + (τ (3, 1) ((F_place h (nI j)).toNatClampNeg))
def F_ofHour (τ : hk_v) (h : Int32) : Int32 := (hk_it (B_ofHour h τ) 6 0 0)
set_option maxHeartbeats 4000000 in
set_option maxRecDepth 100000 in
theorem c_ofHour (l : Launch) (D : hk_D) (G : hk_G) (Z : hk_Z) (τ σ : hk_v) (h : Int32) (hG : hk_Y D G Z)  : Met l yX5_ofHour (hk_ws yX5_ofHour cX5_ofHour 4 (some FieldType.int)) ({ frames := 2, cells := 0, slots := 0, locals := 43 }) (hk_P D G (hk_cm τ σ) [.ref (G.1 (.inl (3, 0))), .int h]) (hk_Q D (hk_e G (some (.int (F_ofHour τ h))) (hk_cm τ σ))) 0 0 (hk_A D) := by
  refine hk_met (by decide +kernel) (Nat.le_of_ble_eq_true rfl) (fun p e s m below meth c hx hb hr hml hlocks ht hown hin hK hH hS ls hl => ?_)
  have hl : lv_has ls 4 [(0, .ref (G.1 (.inl (3, 0)))), (1, .int h)] := hl
  refine lv_iconst (v := 0) hx hb dX5_ofHour_0 (by decide) ?_
  refine lv_istore_n (lv' := [(2, .int 0), (0, .ref (G.1 (.inl (3, 0)))), (1, .int h)]) hx hb dX5_ofHour_1 rfl hl (by decide) rfl (fun ls hl => ?_)
  refine lv_iconst (v := 0) hx hb dX5_ofHour_2 (by decide) ?_
  refine lv_istore_n (lv' := [(3, .int 0), (2, .int 0), (0, .ref (G.1 (.inl (3, 0)))), (1, .int h)]) hx hb dX5_ofHour_3 rfl hl (by decide) rfl (fun ls hl => ?_)
  have LP_1 : ∀ (r j : Nat) (sum : Int32) (H : Heap) (locs : List Loc) (ls : Array Slot) (QQ : State → Prop), j + r = 6 → hk_H D G (hk_cm τ σ) H → va_S (hk_A D) s.heap H locs → lv_has ls 4 [(3, .int (nI j)), (2, .int sum), (0, .ref (G.1 (.inl (3, 0)))), (1, .int h)] → (∀ (H : Heap) (locs : List Loc) (ls : Array Slot), hk_H D G (hk_cm τ σ) H → va_S (hk_A D) s.heap H locs → lv_has ls 4 [(3, .int (nI 6)), (2, .int (hk_it (B_ofHour h τ) r j sum)), (0, .ref (G.1 (.inl (3, 0)))), (1, .int h)] → W p l e ({ frames := 2, cells := 0, slots := 0, locals := 43 }) s m ([.ref (G.1 (.inl (3, 0))), .int h] : List Value).toArray below meth c H locs 0 0 QQ (F0 m 29 ls [])) → W p l e ({ frames := 2, cells := 0, slots := 0, locals := 43 }) s m ([.ref (G.1 (.inl (3, 0))), .int h] : List Value).toArray below meth c H locs 0 0 QQ (F0 m 4 ls []) := by
    intro r
    induction r with
    | zero =>
      intro j sum H locs ls QQ hn_ofHour hH hS hl kk
      refine lv_iload_n hx hb dX5_ofHour_4 rfl (lv_at hl 0 rfl) ?_
      refine lv_bipush (v := 6) hx hb dX5_ofHour_5 (by decide) ?_
      refine lv_icmp_ge (tgt := 29) hx hb dX5_ofHour_7 (by decide) (fun c_2 => ?_) (fun c_2 => ?_)
      rotate_left
      · exfalso; rw [show (6 : Int32) = nI 6 from rfl] at c_2; first | exact nI_ge (by omega) (by omega) c_2 | exact c_2 (nI_le (by omega) (by omega)) | exact nI_nlt (by omega) (by omega) c_2 | exact c_2 (nI_lt (by omega) (by omega))
      have hiN : j = 6 := by omega
      rw [hiN] at hl
      exact kk H locs ls hH hS (lv_sub hl [0, 1, 2, 3] rfl)
    | succ r ih =>
      intro j sum H locs ls QQ hn_ofHour hH hS hl kk
      refine lv_iload_n hx hb dX5_ofHour_4 rfl (lv_at hl 0 rfl) ?_
      refine lv_bipush (v := 6) hx hb dX5_ofHour_5 (by decide) ?_
      refine lv_icmp_ge (tgt := 29) hx hb dX5_ofHour_7 (by decide) (fun c_3 => ?_) (fun c_3 => ?_)
      · exfalso; rw [show (6 : Int32) = nI 6 from rfl] at c_3; first | exact nI_ge (by omega) (by omega) c_3 | exact c_3 (nI_le (by omega) (by omega)) | exact nI_nlt (by omega) (by omega) c_3 | exact c_3 (nI_lt (by omega) (by omega))
      refine lv_iload_n hx hb dX5_ofHour_10 rfl (lv_at hl 1 rfl) ?_
      refine lv_aload_n hx hb dX5_ofHour_11 rfl (lv_at hl 2 rfl) ?_
      refine hk_getr (L := (.inl (3, 0))) (v := .ref (G.1 (.inl (3, 1)))) hx hb ht hown hK hH kc_6 hG.k3_0 0 (by decide) rfl tw_95 rfl hG.r3 dX5_ofHour_12 ?_
      refine lv_iload_n hx hb dX5_ofHour_15 rfl (lv_at hl 3 rfl) ?_
      refine lv_iload_n hx hb dX5_ofHour_16 rfl (lv_at hl 0 rfl) ?_
      refine hk_cS (As := [.int h, .int (nI j)]) (rest := [.ref (G.1 (.inl (3, 1))), .int sum]) hx hb hml hl.1 ht hown hK hH hS (c_place l D G τ σ h (nI j)) ymS_X5_place tw_505 ⟨rfl, rfl⟩ ⟨Nat.le_of_ble_eq_true rfl, Nat.le_of_ble_eq_true rfl⟩ rfl rfl (Nat.le_of_ble_eq_true rfl) dX5_ofHour_17 ⟨Nat.le_of_ble_eq_true rfl, Nat.le_of_ble_eq_true rfl⟩ (hk_ea (fun H locs hH hS => ?_))
      refine hk_ild (L := (.inl (3, 1))) (v := τ (3, 1) ((F_place h (nI j)).toNatClampNeg)) hx hb hK hH hG.k3_1 (hk_place_j _ (by omega)) rfl dX5_ofHour_20 ?_
      refine lv_iadd hx hb dX5_ofHour_21 ?_
      refine lv_istore_n (lv' := [(2, .int (sum + (τ (3, 1) ((F_place h (nI j)).toNatClampNeg)))), (3, .int (nI j)), (0, .ref (G.1 (.inl (3, 0)))), (1, .int h)]) hx hb dX5_ofHour_22 rfl hl (by decide) rfl (fun ls hl => ?_)
      refine lv_iinc (v := nI (j + 1)) (lv' := [(3, .int (nI (j + 1))), (2, .int (sum + (τ (3, 1) ((F_place h (nI j)).toNatClampNeg)))), (0, .ref (G.1 (.inl (3, 0)))), (1, .int h)]) hx hb dX5_ofHour_23 hl (k := 1) rfl (nI_1 _) (by decide) rfl (fun ls hl => ?_)
      refine lv_goto (tgt := 4) hx hb dX5_ofHour_26 (by decide) ?_
      have EB_4 : (B_ofHour h τ) j sum = sum + (τ (3, 1) ((F_place h (nI j)).toNatClampNeg)) := by simp only [B_ofHour]
      exact ih (j + 1) (sum + (τ (3, 1) ((F_place h (nI j)).toNatClampNeg))) _ _ _ QQ (by omega) hH hS (lv_sub hl [0, 1, 2, 3] rfl) (fun H locs ls hH hS hl => kk H locs ls hH hS (by rw [hk_it_s, EB_4]; exact hl))
  refine LP_1 6 0 0 _ _ _ _ (by omega) hH hS (lv_sub hl [0, 1, 2, 3] rfl) (fun H locs ls hH hS hl => ?_)
  refine lv_iload_n hx hb dX5_ofHour_29 rfl (lv_at hl 1 rfl) ?_
  exact hk_iret hx hb hr hlocks hH hS ⟨(by simp only [F_ofHour]), rfl, rfl⟩ dX5_ofHour_30
def B_gofGarden (g : Int32) (τ : hk_v) (j : Nat) (sum : Int32) : Int32 := sum + (τ (3, 1) ((F_place (nI j) g).toNatClampNeg))
def F_gofGarden (τ : hk_v) (g : Int32) : Int32 := (if (hk_in g 0 5) = 0 then 0 else (hk_it (B_gofGarden g τ) 25 0 0))
set_option maxHeartbeats 4000000 in
set_option maxRecDepth 100000 in
theorem c_gofGarden (l : Launch) (D : hk_D) (G : hk_G) (Z : hk_Z) (τ σ : hk_v) (g : Int32) (hG : hk_Y D G Z)  : Met l yX5_ofGarden (hk_ws yX5_ofGarden cX5_ofGarden 4 (some FieldType.int)) ({ frames := 2, cells := 0, slots := 0, locals := 43 }) (hk_P D G (hk_cm τ σ) [.ref (G.1 (.inl (3, 0))), .int g]) (hk_Q D (hk_e G (some (.int (F_gofGarden τ g))) (hk_cm τ σ))) 0 0 (hk_A D) := by
  refine hk_met (by decide +kernel) (Nat.le_of_ble_eq_true rfl) (fun p e s m below meth c hx hb hr hml hlocks ht hown hin hK hH hS ls hl => ?_)
  have hl : lv_has ls 4 [(0, .ref (G.1 (.inl (3, 0)))), (1, .int g)] := hl
  refine lv_iload_n hx hb dX5_ofGarden_0 rfl (lv_at hl 1 rfl) ?_
  refine lv_iconst (v := 0) hx hb dX5_ofGarden_1 (by decide) ?_
  refine lv_iconst (v := 5) hx hb dX5_ofGarden_2 (by decide) ?_
  refine hk_cSN (As := [.int g, .int 0, .int 5]) (rest := []) hx hb hml hl.1 ht hown hK hH hS (c_within l D G τ σ g 0 5) ymS_X10_within (List.mem_filter.mpr ⟨tw_504, rfl⟩) ⟨rfl, rfl⟩ ⟨Nat.le_of_ble_eq_true rfl, Nat.le_of_ble_eq_true rfl⟩ rfl rfl (Nat.le_of_ble_eq_true rfl) dX5_ofGarden_3 ⟨Nat.le_of_ble_eq_true rfl, Nat.le_of_ble_eq_true rfl⟩ (hk_ea (fun H locs hH hS => ?_))
  refine lv_if_ne (tgt := 11) hx hb dX5_ofGarden_6 (by decide) (fun c_1 => ?_) (fun c_1 => ?_)
  · refine lv_iconst (v := 0) hx hb dX5_ofGarden_11 (by decide) ?_
    refine lv_istore_n (lv' := [(2, .int 0), (0, .ref (G.1 (.inl (3, 0)))), (1, .int g)]) hx hb dX5_ofGarden_12 rfl hl (by decide) rfl (fun ls hl => ?_)
    refine lv_iconst (v := 0) hx hb dX5_ofGarden_13 (by decide) ?_
    refine lv_istore_n (lv' := [(3, .int 0), (2, .int 0), (0, .ref (G.1 (.inl (3, 0)))), (1, .int g)]) hx hb dX5_ofGarden_14 rfl hl (by decide) rfl (fun ls hl => ?_)
    have LP_2 : ∀ (r j : Nat) (sum : Int32) (H : Heap) (locs : List Loc) (ls : Array Slot) (QQ : State → Prop), j + r = 25 → hk_H D G (hk_cm τ σ) H → va_S (hk_A D) s.heap H locs → lv_has ls 4 [(3, .int (nI j)), (2, .int sum), (0, .ref (G.1 (.inl (3, 0)))), (1, .int g)] → (∀ (H : Heap) (locs : List Loc) (ls : Array Slot), hk_H D G (hk_cm τ σ) H → va_S (hk_A D) s.heap H locs → lv_has ls 4 [(3, .int (nI 25)), (2, .int (hk_it (B_gofGarden g τ) r j sum)), (0, .ref (G.1 (.inl (3, 0)))), (1, .int g)] → W p l e ({ frames := 2, cells := 0, slots := 0, locals := 43 }) s m ([.ref (G.1 (.inl (3, 0))), .int g] : List Value).toArray below meth c H locs 0 0 QQ (F0 m 40 ls [])) → W p l e ({ frames := 2, cells := 0, slots := 0, locals := 43 }) s m ([.ref (G.1 (.inl (3, 0))), .int g] : List Value).toArray below meth c H locs 0 0 QQ (F0 m 15 ls []) := by
      intro r
      induction r with
      | zero =>
        intro j sum H locs ls QQ hn_gofGarden hH hS hl kk
        refine lv_iload_n hx hb dX5_ofGarden_15 rfl (lv_at hl 0 rfl) ?_
        refine lv_bipush (v := 25) hx hb dX5_ofGarden_16 (by decide) ?_
        refine lv_icmp_ge (tgt := 40) hx hb dX5_ofGarden_18 (by decide) (fun c_3 => ?_) (fun c_3 => ?_)
        rotate_left
        · exfalso; rw [show (25 : Int32) = nI 25 from rfl] at c_3; first | exact nI_ge (by omega) (by omega) c_3 | exact c_3 (nI_le (by omega) (by omega)) | exact nI_nlt (by omega) (by omega) c_3 | exact c_3 (nI_lt (by omega) (by omega))
        have hiN : j = 25 := by omega
        rw [hiN] at hl
        exact kk H locs ls hH hS (lv_sub hl [0, 1, 2, 3] rfl)
      | succ r ih =>
        intro j sum H locs ls QQ hn_gofGarden hH hS hl kk
        refine lv_iload_n hx hb dX5_ofGarden_15 rfl (lv_at hl 0 rfl) ?_
        refine lv_bipush (v := 25) hx hb dX5_ofGarden_16 (by decide) ?_
        refine lv_icmp_ge (tgt := 40) hx hb dX5_ofGarden_18 (by decide) (fun c_4 => ?_) (fun c_4 => ?_)
        · exfalso; rw [show (25 : Int32) = nI 25 from rfl] at c_4; first | exact nI_ge (by omega) (by omega) c_4 | exact c_4 (nI_le (by omega) (by omega)) | exact nI_nlt (by omega) (by omega) c_4 | exact c_4 (nI_lt (by omega) (by omega))
        refine lv_iload_n hx hb dX5_ofGarden_21 rfl (lv_at hl 1 rfl) ?_
        refine lv_aload_n hx hb dX5_ofGarden_22 rfl (lv_at hl 2 rfl) ?_
        refine hk_getr (L := (.inl (3, 0))) (v := .ref (G.1 (.inl (3, 1)))) hx hb ht hown hK hH kc_6 hG.k3_0 0 (by decide) rfl tw_95 rfl hG.r3 dX5_ofGarden_23 ?_
        refine lv_iload_n hx hb dX5_ofGarden_26 rfl (lv_at hl 0 rfl) ?_
        refine lv_iload_n hx hb dX5_ofGarden_27 rfl (lv_at hl 3 rfl) ?_
        refine hk_cS (As := [.int (nI j), .int g]) (rest := [.ref (G.1 (.inl (3, 1))), .int sum]) hx hb hml hl.1 ht hown hK hH hS (c_place l D G τ σ (nI j) g) ymS_X5_place tw_505 ⟨rfl, rfl⟩ ⟨Nat.le_of_ble_eq_true rfl, Nat.le_of_ble_eq_true rfl⟩ rfl rfl (Nat.le_of_ble_eq_true rfl) dX5_ofGarden_28 ⟨Nat.le_of_ble_eq_true rfl, Nat.le_of_ble_eq_true rfl⟩ (hk_ea (fun H locs hH hS => ?_))
        refine hk_ild (L := (.inl (3, 1))) (v := τ (3, 1) ((F_place (nI j) g).toNatClampNeg)) hx hb hK hH hG.k3_1 (hk_place_in c_1) rfl dX5_ofGarden_31 ?_
        refine lv_iadd hx hb dX5_ofGarden_32 ?_
        refine lv_istore_n (lv' := [(2, .int (sum + (τ (3, 1) ((F_place (nI j) g).toNatClampNeg)))), (3, .int (nI j)), (0, .ref (G.1 (.inl (3, 0)))), (1, .int g)]) hx hb dX5_ofGarden_33 rfl hl (by decide) rfl (fun ls hl => ?_)
        refine lv_iinc (v := nI (j + 1)) (lv' := [(3, .int (nI (j + 1))), (2, .int (sum + (τ (3, 1) ((F_place (nI j) g).toNatClampNeg)))), (0, .ref (G.1 (.inl (3, 0)))), (1, .int g)]) hx hb dX5_ofGarden_34 hl (k := 1) rfl (nI_1 _) (by decide) rfl (fun ls hl => ?_)
        refine lv_goto (tgt := 15) hx hb dX5_ofGarden_37 (by decide) ?_
        have EB_5 : (B_gofGarden g τ) j sum = sum + (τ (3, 1) ((F_place (nI j) g).toNatClampNeg)) := by simp only [B_gofGarden]
        exact ih (j + 1) (sum + (τ (3, 1) ((F_place (nI j) g).toNatClampNeg))) _ _ _ QQ (by omega) hH hS (lv_sub hl [0, 1, 2, 3] rfl) (fun H locs ls hH hS hl => kk H locs ls hH hS (by rw [hk_it_s, EB_5]; exact hl))
    refine LP_2 25 0 0 _ _ _ _ (by omega) hH hS (lv_sub hl [0, 1, 2, 3] rfl) (fun H locs ls hH hS hl => ?_)
    refine lv_iload_n hx hb dX5_ofGarden_40 rfl (lv_at hl 1 rfl) ?_
    exact hk_iret hx hb hr hlocks hH hS ⟨(by simp only [F_gofGarden, if_neg c_1]), rfl, rfl⟩ dX5_ofGarden_41
  · refine lv_iconst (v := 0) hx hb dX5_ofGarden_9 (by decide) ?_
    exact hk_iret hx hb hr hlocks hH hS ⟨(by simp only [F_gofGarden, if_pos c_1]), rfl, rfl⟩ dX5_ofGarden_10
theorem pressOne_3 (t : hk_v) (d : Int32) : T_pressOne t d (4, 0) 3 = t (4, 0) 3 := by
  unfold T_pressOne
  split <;> simp [hk_u_ap]
theorem pressOne_2 (t : hk_v) (d : Int32) : T_pressOne t d (4, 0) 2 = t (4, 0) 2 + 1 := by
  unfold T_pressOne
  split <;> simp [hk_u_ap]
theorem plw_step {t : hk_v} (d : Int32) {k p n : Nat} (hk : t (4, 0) 3 = nI k) (hk20 : 20 ≤ k) (hkn : k < 20 * (n + 1)) (hp : t (4, 0) 2 = nI p) (hpn : p + (n + 1) < 2 ^ 30) : ∃ k p : Nat, T_pressOne t d (4, 0) 3 - 20 = nI k ∧ k < 20 * n ∧ T_pressOne t d (4, 0) 2 = nI p ∧ p + n < 2 ^ 30 := by
  refine ⟨k - 20, p + 1, ?_, by omega, ?_, by omega⟩
  · rw [pressOne_3, hk, show (20 : Int32) = nI 20 from rfl, pk_sub hk20]
  · rw [pressOne_2, hp, nI_1]
theorem ymV_X9_pressOne : hk_mV yX9_pressOne cX9_pressOne 2 none RX9 1 := ⟨tw_530, tw_528, tw_529, tw_39, rfl, by decide, by decide, by decide +kernel⟩
def B_plw (g : Int32) (day : Int32)  (t : hk_v) : Option hk_v := (if (t (4, 0) 3) < 20 then none else some (hk_u (hk_u (T_pressOne t day) (4, 0) 4 (1 <<< (g &&& 31))) (4, 0) 3 (((T_pressOne t day) (4, 0) 3) - 20)))
def T_play (τ : hk_v) (g : Int32) (b : Int32) (day : Int32) : hk_v := (if 0 < b then (if ((hk_wh (B_plw g day) 200 (hk_u (hk_u τ (4, 0) 4 ((τ (4, 0) 4) ||| (1 <<< (g &&& 31)))) (4, 0) 3 ((τ (4, 0) 3) + b))) (4, 0) 3) = 0 then (hk_u (hk_wh (B_plw g day) 200 (hk_u (hk_u τ (4, 0) 4 ((τ (4, 0) 4) ||| (1 <<< (g &&& 31)))) (4, 0) 3 ((τ (4, 0) 3) + b))) (4, 0) 4 0) else (hk_wh (B_plw g day) 200 (hk_u (hk_u τ (4, 0) 4 ((τ (4, 0) 4) ||| (1 <<< (g &&& 31)))) (4, 0) 3 ((τ (4, 0) 3) + b)))) else τ)
set_option maxHeartbeats 4000000 in
set_option maxRecDepth 100000 in
theorem c_play (l : Launch) (D : hk_D) (G : hk_G) (Z : hk_Z) (τ σ : hk_v) (g : Int32) (b : Int32) (day : Int32) (hG : hk_Y D G Z) (hI : ∃ k p : Nat, τ (4, 0) 3 + b = nI k ∧ k < 4000 ∧ τ (4, 0) 2 = nI p ∧ p + 200 < 2 ^ 30) : Met l yX9_lay (hk_ws yX9_lay cX9_lay 4 none) ({ frames := 1, cells := 0, slots := 0, locals := 21 }) (hk_P D G (hk_cm τ σ) [.ref (G.1 (.inl (4, 0))), .int g, .int b, .int day]) (hk_Q D (hk_e G (none) (hk_cm (T_play τ g b day) σ))) 0 0 (hk_A D) := by
  refine hk_met (by decide +kernel) (Nat.le_of_ble_eq_true rfl) (fun p e s m below meth c hx hb hr hml hlocks ht hown hin hK hH hS ls hl => ?_)
  have hl : lv_has ls 4 [(0, .ref (G.1 (.inl (4, 0)))), (1, .int g), (2, .int b), (3, .int day)] := hl
  refine lv_iload_n hx hb dX9_lay_0 rfl (lv_at hl 2 rfl) ?_
  refine lv_if_gt (tgt := 5) hx hb dX9_lay_1 (by decide) (fun c_1 => ?_) (fun c_1 => ?_)
  · refine lv_aload_n hx hb dX9_lay_5 rfl (lv_at hl 0 rfl) ?_
    refine lv_dup hx hb dX9_lay_6 rfl ?_
    refine hk_geti (L := (.inl (4, 0))) (v := τ (4, 0) 4) hx hb ht hown hK hH kc_10 hG.k4_0 4 (by decide) rfl tw_118 rfl rfl dX9_lay_7 ?_
    refine lv_iconst (v := 1) hx hb dX9_lay_10 (by decide) ?_
    refine lv_iload_n hx hb dX9_lay_11 rfl (lv_at hl 1 rfl) ?_
    refine lv_ishl hx hb dX9_lay_12 ?_
    refine lv_ior hx hb dX9_lay_13 ?_
    refine hk_puti (L := (.inl (4, 0))) hx hb ht hown hK hH hS kc_10 hG.k4_0 4 (by decide) rfl tw_118 rfl (Or.inl rfl) rfl dX9_lay_14 (fun H locs hH hS => ?_)
    rw [hk_up_l] at hH
    refine lv_aload_n hx hb dX9_lay_17 rfl (lv_at hl 0 rfl) ?_
    refine lv_dup hx hb dX9_lay_18 rfl ?_
    refine hk_geti (L := (.inl (4, 0))) (v := τ (4, 0) 3) hx hb ht hown hK hH kc_10 hG.k4_0 3 (by decide) rfl tw_116 rfl (by simp [hk_cm, hk_u_ap]) dX9_lay_19 ?_
    refine lv_iload_n hx hb dX9_lay_22 rfl (lv_at hl 2 rfl) ?_
    refine lv_iadd hx hb dX9_lay_23 ?_
    refine hk_puti (L := (.inl (4, 0))) hx hb ht hown hK hH hS kc_10 hG.k4_0 3 (by decide) rfl tw_116 rfl (Or.inl rfl) rfl dX9_lay_24 (fun H locs hH hS => ?_)
    rw [hk_up_l] at hH
    have LP_2 : ∀ (n : Nat) (t : hk_v) (H : Heap) (locs : List Loc) (ls : Array Slot) (QQ : State → Prop), (∃ k p : Nat, t (4, 0) 3 = nI k ∧ k < 20 * n ∧ t (4, 0) 2 = nI p ∧ p + n < 2 ^ 30) → hk_H D G (hk_cm t σ) H → va_S (hk_A D) s.heap H locs → lv_has ls 4 [(0, .ref (G.1 (.inl (4, 0)))), (1, .int g), (2, .int b), (3, .int day)] → (∀ (H : Heap) (locs : List Loc) (ls : Array Slot), hk_H D G (hk_cm (hk_wh (B_plw g day) n t) σ) H → va_S (hk_A D) s.heap H locs → lv_has ls 4 [(0, .ref (G.1 (.inl (4, 0)))), (1, .int g), (2, .int b), (3, .int day)] → W p l e ({ frames := 1, cells := 0, slots := 0, locals := 21 }) s m ([.ref (G.1 (.inl (4, 0))), .int g, .int b, .int day] : List Value).toArray below meth c H locs 0 0 QQ (F0 m 62 ls [])) → W p l e ({ frames := 1, cells := 0, slots := 0, locals := 21 }) s m ([.ref (G.1 (.inl (4, 0))), .int g, .int b, .int day] : List Value).toArray below meth c H locs 0 0 QQ (F0 m 27 ls []) := by
      intro n
      induction n with
      | zero =>
        intro t H locs ls QQ hI hH hS hl kk
        obtain ⟨k, p, -, hk, -⟩ := hI; omega
      | succ n ih =>
        intro t H locs ls QQ hI hH hS hl kk
        obtain ⟨k, pp, hk, hkn, hp, hpn⟩ := hI; have hp0 : ¬ t (4, 0) 2 < 0 := by rw [hp]; exact nI_pos (by omega)
        refine lv_aload_n hx hb dX9_lay_27 rfl (lv_at hl 0 rfl) ?_
        refine hk_geti (L := (.inl (4, 0))) (v := t (4, 0) 3) hx hb ht hown hK hH kc_10 hG.k4_0 3 (by decide) rfl tw_116 rfl rfl dX9_lay_28 ?_
        refine lv_bipush (v := 20) hx hb dX9_lay_31 (by decide) ?_
        refine lv_icmp_lt (tgt := 62) hx hb dX9_lay_33 (by decide) (fun c_3 => ?_) (fun c_3 => ?_)
        · have EB_4 : (B_plw g day) t = none := by simp only [B_plw, if_pos c_3]
          exact kk H locs ls (by rw [hk_wh_n EB_4]; exact hH) hS (lv_sub hl [0, 1, 2, 3] rfl)
        · refine lv_aload_n hx hb dX9_lay_36 rfl (lv_at hl 0 rfl) ?_
          refine lv_iload_n hx hb dX9_lay_37 rfl (lv_at hl 3 rfl) ?_
          refine hk_cV (L := (.inl (4, 0))) (As := [.int day]) (rest := []) hx hb hml hl.1 ht hown hK hH hS (c_pressOne l D G Z t σ day hG hp0) ymV_X9_pressOne kc_10 hG.k4_0 tw_527 ⟨rfl, rfl⟩ ⟨Nat.le_of_ble_eq_true rfl, Nat.le_of_ble_eq_true rfl⟩ rfl rfl (Nat.le_of_ble_eq_true rfl) dX9_lay_38 ⟨Nat.le_of_ble_eq_true rfl, Nat.le_of_ble_eq_true rfl⟩ (hk_ev (fun H locs hH hS => ?_))
          refine lv_aload_n hx hb dX9_lay_41 rfl (lv_at hl 0 rfl) ?_
          refine lv_iconst (v := 1) hx hb dX9_lay_42 (by decide) ?_
          refine lv_iload_n hx hb dX9_lay_43 rfl (lv_at hl 1 rfl) ?_
          refine lv_ishl hx hb dX9_lay_44 ?_
          refine hk_puti (L := (.inl (4, 0))) hx hb ht hown hK hH hS kc_10 hG.k4_0 4 (by decide) rfl tw_118 rfl (Or.inl rfl) rfl dX9_lay_45 (fun H locs hH hS => ?_)
          rw [hk_up_l] at hH
          refine lv_aload_n hx hb dX9_lay_48 rfl (lv_at hl 0 rfl) ?_
          refine lv_dup hx hb dX9_lay_49 rfl ?_
          refine hk_geti (L := (.inl (4, 0))) (v := (T_pressOne t day) (4, 0) 3) hx hb ht hown hK hH kc_10 hG.k4_0 3 (by decide) rfl tw_116 rfl (by simp [hk_cm, hk_u_ap]) dX9_lay_50 ?_
          refine lv_bipush (v := 20) hx hb dX9_lay_53 (by decide) ?_
          refine lv_isub hx hb dX9_lay_55 ?_
          refine hk_puti (L := (.inl (4, 0))) hx hb ht hown hK hH hS kc_10 hG.k4_0 3 (by decide) rfl tw_116 rfl (Or.inl rfl) rfl dX9_lay_56 (fun H locs hH hS => ?_)
          rw [hk_up_l] at hH
          refine lv_goto (tgt := 27) hx hb dX9_lay_59 (by decide) ?_
          have EB_5 : (B_plw g day) t = some (hk_u (hk_u (T_pressOne t day) (4, 0) 4 (1 <<< (g &&& 31))) (4, 0) 3 (((T_pressOne t day) (4, 0) 3) - 20)) := by simp only [B_plw, if_neg c_3]
          have hk20 : 20 ≤ k := by
            rcases Nat.lt_or_ge k 20 with q | q
            · exact absurd (by rw [hk]; exact (show nI k < nI 20 from nI_lt q (by omega))) c_3
            · exact q
          have hI2 := plw_step day hk hk20 hkn hp hpn
          exact ih (hk_u (hk_u (T_pressOne t day) (4, 0) 4 (1 <<< (g &&& 31))) (4, 0) 3 (((T_pressOne t day) (4, 0) 3) - 20)) _ _ _ QQ hI2 hH hS (lv_sub hl [0, 1, 2, 3] rfl) (fun H locs ls hH hS hl => kk H locs ls (by rw [hk_wh_s EB_5]; exact hH) hS hl)
    refine LP_2 200 (hk_u (hk_u τ (4, 0) 4 ((τ (4, 0) 4) ||| (1 <<< (g &&& 31)))) (4, 0) 3 ((τ (4, 0) 3) + b)) _ _ _ _ (by obtain ⟨k, p, h1, h2, h3, h4⟩ := hI; exact ⟨k, p, by simpa [hk_u_ap] using h1, by omega, by simpa [hk_u_ap] using h3, h4⟩) hH hS (lv_sub hl [0, 1, 2, 3] rfl) (fun H locs ls hH hS hl => ?_)
    refine lv_aload_n hx hb dX9_lay_62 rfl (lv_at hl 0 rfl) ?_
    refine hk_geti (L := (.inl (4, 0))) (v := (hk_wh (B_plw g day) 200 (hk_u (hk_u τ (4, 0) 4 ((τ (4, 0) 4) ||| (1 <<< (g &&& 31)))) (4, 0) 3 ((τ (4, 0) 3) + b))) (4, 0) 3) hx hb ht hown hK hH kc_10 hG.k4_0 3 (by decide) rfl tw_116 rfl rfl dX9_lay_63 ?_
    refine lv_if_ne (tgt := 74) hx hb dX9_lay_66 (by decide) (fun c_6 => ?_) (fun c_6 => ?_)
    · exact hk_vret hx hb hr hlocks hH hS ⟨rfl, rfl, (by simp only [T_play, if_pos c_1, if_neg c_6])⟩ dX9_lay_74
    · refine lv_aload_n hx hb dX9_lay_69 rfl (lv_at hl 0 rfl) ?_
      refine lv_iconst (v := 0) hx hb dX9_lay_70 (by decide) ?_
      refine hk_puti (L := (.inl (4, 0))) hx hb ht hown hK hH hS kc_10 hG.k4_0 4 (by decide) rfl tw_118 rfl (Or.inl rfl) rfl dX9_lay_71 (fun H locs hH hS => ?_)
      rw [hk_up_l] at hH
      exact hk_vret hx hb hr hlocks hH hS ⟨rfl, rfl, (by simp only [T_play, if_pos c_1, if_pos c_6])⟩ dX9_lay_74
  · exact hk_vret hx hb hr hlocks hH hS ⟨rfl, rfl, (by simp only [T_play, if_neg c_1])⟩ dX9_lay_4
end
section
theorem hk_max1 (x : Int32) : ¬ (if x < 1 then (1 : Int32) else x) = 0 := by
  split
  · decide
  · intro h; subst h; rename_i q; exact q (by decide)
def F_dries1 (i : Nat) (x : Int32) : Int32 := (if x < 40 then F_dries0 i x else (F_dries0 i x) + 3)
set_option maxHeartbeats 4000000 in
set_option maxRecDepth 100000 in
theorem c_dries1 (l : Launch) (D : hk_D) (G : hk_G) (Z : hk_Z) (τ σ : hk_v) (i : Nat) (x : Int32) (hG : hk_Y D G Z) (hi : i < Z.1 2) (ci : Nat) (C : String) (T : u_T) (N : Nat) (ty : Nat → FieldType) (hc : hk_cls ci C T N ty) (hk : G.2.1 (.inl (12, i)) = some (.inl ci)) : Met l yX2_dries (hk_ws yX2_dries cX2_dries 3 (some FieldType.int)) ({ frames := 1, cells := 0, slots := 0, locals := 21 }) (hk_P D G (hk_cm τ σ) [.ref (G.1 (.inl (12, i))), .int x]) (hk_Q D (hk_e G (some (.int (F_dries1 i x))) (hk_cm τ σ))) 0 0 (hk_A D) := by
  refine hk_met (by decide +kernel) (Nat.le_of_ble_eq_true rfl) (fun p e s m below meth c hx hb hr hml hlocks ht hown hin hK hH hS ls hl => ?_)
  have hl : lv_has ls 3 [(0, .ref (G.1 (.inl (12, i)))), (1, .int x)] := hl
  refine lv_aload_n hx hb dX2_dries_0 rfl (lv_at hl 0 rfl) ?_
  refine lv_iload_n hx hb dX2_dries_1 rfl (lv_at hl 1 rfl) ?_
  refine hk_cSU (n := 1) (L := (.inl (12, i))) (As := [.int x]) (rest := []) hx hb hml hl.1 ht hown hK hH hS (c_dries0 l D G Z τ σ i x hG hi) tw_465 tw_462 tw_455 tw_379 tw_453 tw_52 ⟨by decide, by decide +kernel⟩ hc hk ⟨rfl, rfl⟩ ⟨Nat.le_of_ble_eq_true rfl, Nat.le_of_ble_eq_true rfl⟩ rfl rfl (Nat.le_of_ble_eq_true rfl) dX2_dries_2 ⟨Nat.le_of_ble_eq_true rfl, Nat.le_of_ble_eq_true rfl⟩ (hk_ea (fun H locs hH hS => ?_))
  refine lv_istore_n (lv' := [(2, .int (F_dries0 i x)), (0, .ref (G.1 (.inl (12, i)))), (1, .int x)]) hx hb dX2_dries_5 rfl hl (by decide) rfl (fun ls hl => ?_)
  refine lv_iload_n hx hb dX2_dries_6 rfl (lv_at hl 2 rfl) ?_
  refine lv_bipush (v := 40) hx hb dX2_dries_7 (by decide) ?_
  refine lv_icmp_lt (tgt := 18) hx hb dX2_dries_9 (by decide) (fun c_1 => ?_) (fun c_1 => ?_)
  · refine lv_iload_n hx hb dX2_dries_18 rfl (lv_at hl 0 rfl) ?_
    exact hk_iret hx hb hr hlocks hH hS ⟨(by simp only [F_dries1, if_pos c_1]), rfl, rfl⟩ dX2_dries_19
  · refine lv_iload_n hx hb dX2_dries_12 rfl (lv_at hl 0 rfl) ?_
    refine lv_iconst (v := 3) hx hb dX2_dries_13 (by decide) ?_
    refine lv_iadd hx hb dX2_dries_14 ?_
    refine lv_goto (tgt := 19) hx hb dX2_dries_15 (by decide) ?_
    exact hk_iret hx hb hr hlocks hH hS ⟨(by simp only [F_dries1, if_neg c_1]), rfl, rfl⟩ dX2_dries_19
def F_marks1 (i : Nat) : Int32 := (F_marks0 i) + 10
set_option maxHeartbeats 4000000 in
set_option maxRecDepth 100000 in
theorem c_marks1 (l : Launch) (D : hk_D) (G : hk_G) (Z : hk_Z) (τ σ : hk_v) (i : Nat) (hG : hk_Y D G Z) (hi : i < Z.1 2) (ci : Nat) (C : String) (T : u_T) (N : Nat) (ty : Nat → FieldType) (hc : hk_cls ci C T N ty) (hk : G.2.1 (.inl (12, i)) = some (.inl ci)) : Met l yX2_marks (hk_ws yX2_marks cX2_marks 1 (some FieldType.int)) ({ frames := 1, cells := 0, slots := 0, locals := 20 }) (hk_P D G (hk_cm τ σ) [.ref (G.1 (.inl (12, i)))]) (hk_Q D (hk_e G (some (.int (F_marks1 i))) (hk_cm τ σ))) 0 0 (hk_A D) := by
  refine hk_met (by decide +kernel) (Nat.le_of_ble_eq_true rfl) (fun p e s m below meth c hx hb hr hml hlocks ht hown hin hK hH hS ls hl => ?_)
  have hl : lv_has ls 1 [(0, .ref (G.1 (.inl (12, i))))] := hl
  refine lv_aload_n hx hb dX2_marks_0 rfl (lv_at hl 0 rfl) ?_
  refine hk_cSU (n := 0) (L := (.inl (12, i))) (As := []) (rest := []) hx hb hml hl.1 ht hown hK hH hS (c_marks0 l D G Z τ σ i hG hi) tw_451 tw_449 tw_442 tw_379 tw_440 tw_52 ⟨by decide, by decide +kernel⟩ hc hk ⟨rfl, rfl⟩ ⟨Nat.le_of_ble_eq_true rfl, Nat.le_of_ble_eq_true rfl⟩ rfl rfl (Nat.le_of_ble_eq_true rfl) dX2_marks_1 ⟨Nat.le_of_ble_eq_true rfl, Nat.le_of_ble_eq_true rfl⟩ (hk_ea (fun H locs hH hS => ?_))
  refine lv_bipush (v := 10) hx hb dX2_marks_4 (by decide) ?_
  refine lv_iadd hx hb dX2_marks_6 ?_
  exact hk_iret hx hb hr hlocks hH hS ⟨(by simp only [F_marks1]), rfl, rfl⟩ dX2_marks_7
def F_dries2 (i : Nat) (x : Int32) : Int32 := if 40 < (2 * (F_dries1 i x)) then 40 else (2 * (F_dries1 i x))
set_option maxHeartbeats 4000000 in
set_option maxRecDepth 100000 in
theorem c_dries2 (l : Launch) (D : hk_D) (G : hk_G) (Z : hk_Z) (τ σ : hk_v) (i : Nat) (x : Int32) (hG : hk_Y D G Z) (hi : i < Z.1 2) (ci : Nat) (C : String) (T : u_T) (N : Nat) (ty : Nat → FieldType) (hc : hk_cls ci C T N ty) (hk : G.2.1 (.inl (12, i)) = some (.inl ci)) : Met l yX1_dries (hk_ws yX1_dries cX1_dries 2 (some FieldType.int)) ({ frames := 2, cells := 0, slots := 0, locals := 43 }) (hk_P D G (hk_cm τ σ) [.ref (G.1 (.inl (12, i))), .int x]) (hk_Q D (hk_e G (some (.int (F_dries2 i x))) (hk_cm τ σ))) 0 0 (hk_A D) := by
  refine hk_met (by decide +kernel) (Nat.le_of_ble_eq_true rfl) (fun p e s m below meth c hx hb hr hml hlocks ht hown hin hK hH hS ls hl => ?_)
  have hl : lv_has ls 2 [(0, .ref (G.1 (.inl (12, i)))), (1, .int x)] := hl
  refine lv_iconst (v := 2) hx hb dX1_dries_0 (by decide) ?_
  refine lv_aload_n hx hb dX1_dries_1 rfl (lv_at hl 0 rfl) ?_
  refine lv_iload_n hx hb dX1_dries_2 rfl (lv_at hl 1 rfl) ?_
  refine hk_cSU (n := 1) (L := (.inl (12, i))) (As := [.int x]) (rest := [.int 2]) hx hb hml hl.1 ht hown hK hH hS (c_dries1 l D G Z τ σ i x hG hi ci C T N ty hc hk) tw_461 tw_459 tw_961 tw_386 tw_460 tw_53 ⟨by decide, by decide +kernel⟩ hc hk ⟨rfl, rfl⟩ ⟨Nat.le_of_ble_eq_true rfl, Nat.le_of_ble_eq_true rfl⟩ rfl rfl (Nat.le_of_ble_eq_true rfl) dX1_dries_3 ⟨Nat.le_of_ble_eq_true rfl, Nat.le_of_ble_eq_true rfl⟩ (hk_ea (fun H locs hH hS => ?_))
  refine lv_imul hx hb dX1_dries_6 ?_
  refine lv_bipush (v := 40) hx hb dX1_dries_7 (by decide) ?_
  refine va_mmin hx hb (hml.trans hl.1.symm) hown (ht _ tw_463) (ht _ tw_293) (ht _ tw_45) (ht _ tw_294) (Nat.le_of_ble_eq_true rfl) (Nat.le_of_ble_eq_true rfl) (Nat.zero_le _) (Nat.zero_le _) dX1_dries_9 ?_
  exact hk_iret hx hb hr hlocks hH hS ⟨(by simp only [F_dries2]), rfl, rfl⟩ dX1_dries_12
def F_marks2 (i : Nat) : Int32 := (F_marks1 i) + 100
set_option maxHeartbeats 4000000 in
set_option maxRecDepth 100000 in
theorem c_marks2 (l : Launch) (D : hk_D) (G : hk_G) (Z : hk_Z) (τ σ : hk_v) (i : Nat) (hG : hk_Y D G Z) (hi : i < Z.1 2) (ci : Nat) (C : String) (T : u_T) (N : Nat) (ty : Nat → FieldType) (hc : hk_cls ci C T N ty) (hk : G.2.1 (.inl (12, i)) = some (.inl ci)) : Met l yX1_marks (hk_ws yX1_marks cX1_marks 1 (some FieldType.int)) ({ frames := 2, cells := 0, slots := 0, locals := 40 }) (hk_P D G (hk_cm τ σ) [.ref (G.1 (.inl (12, i)))]) (hk_Q D (hk_e G (some (.int (F_marks2 i))) (hk_cm τ σ))) 0 0 (hk_A D) := by
  refine hk_met (by decide +kernel) (Nat.le_of_ble_eq_true rfl) (fun p e s m below meth c hx hb hr hml hlocks ht hown hin hK hH hS ls hl => ?_)
  have hl : lv_has ls 1 [(0, .ref (G.1 (.inl (12, i))))] := hl
  refine lv_aload_n hx hb dX1_marks_0 rfl (lv_at hl 0 rfl) ?_
  refine hk_cSU (n := 0) (L := (.inl (12, i))) (As := []) (rest := []) hx hb hml hl.1 ht hown hK hH hS (c_marks1 l D G Z τ σ i hG hi ci C T N ty hc hk) tw_448 tw_446 tw_960 tw_386 tw_447 tw_53 ⟨by decide, by decide +kernel⟩ hc hk ⟨rfl, rfl⟩ ⟨Nat.le_of_ble_eq_true rfl, Nat.le_of_ble_eq_true rfl⟩ rfl rfl (Nat.le_of_ble_eq_true rfl) dX1_marks_1 ⟨Nat.le_of_ble_eq_true rfl, Nat.le_of_ble_eq_true rfl⟩ (hk_ea (fun H locs hH hS => ?_))
  refine lv_bipush (v := 100) hx hb dX1_marks_4 (by decide) ?_
  refine lv_iadd hx hb dX1_marks_6 ?_
  exact hk_iret hx hb hr hlocks hH hS ⟨(by simp only [F_marks2]), rfl, rfl⟩ dX1_marks_7
def hk_dries (c i : Nat) (x : Int32) : Int32 := if c = 9 then F_dries0 i x else if c = 3 then F_dries1 i x else F_dries2 i x
set_option maxHeartbeats 4000000 in
theorem hk_vdries {p : Program} {l : Launch} {e : Env} {R : Room} {s : State} {m : MethodId} {args : Array Value} {below : List Frame} {meth : Method} {c : Code} {H : Heap} {locs : List Loc} {Q : State → Prop} {cells slots : Nat} {cc : ByteArray} {pc nL index : Nat} {ls : Array Slot} {rest : List Value} {D : hk_D} {G : hk_G} {Z : hk_Z} {τ σ : hk_v} {own : String} {i : Nat} {x : Int32} (hG : hk_Y D G Z) (hi : i < Z.1 2) (hexec : p.tables.exec = Jvm.exec) (hb : c.code = cc) (hml : c.maxLocals = nL) (hlz : ls.size = nL) (ht : ∀ w ∈ lw_tg, w.before args s = true) (hown : s.vm.findClass own = some m.cls) (hK : hk_K D s) (hH : hk_H D G (hk_cm τ σ) H) (hS : va_S (hk_A D) s.heap H locs) (hl : Cond.methodLink own index yX8_dries ∈ lw_tg) (hR : 3 ≤ R.frames ∧ 64 ≤ R.locals) (hr : (rest.map fun v => v.category).sum ≤ 8) (hcs : cells ≤ R.cells ∧ slots ≤ R.slots) (hdg : decode cc pc = .ok (.invokevirtual index, 3))
    (kk : ∀ (H1 : Heap) (locs1 : List Loc), hk_H D G (hk_cm τ σ) H1 → va_S (hk_A D) s.heap H1 locs1 → W p l e R s m args below meth c H1 locs1 cells slots Q (F0 m (pc + 3) ls (.int (hk_dries (Z.2.1 i) i x) :: rest))) : W p l e R s m args below meth c H locs cells slots Q (F0 m pc ls (.int x :: .ref (G.1 (.inl (12, i))) :: rest)) := by
  rcases hG.kn i hi with h | h | h
  · refine hk_cO (n := 1) (L := (.inl (12, i))) (As := [.int x]) (rest := rest) hexec hb hml hlz ht hown hK hH hS (c_dries0 l D G Z τ σ i x hG hi) tw_465 hl tw_455 tw_453 tw_454 tw_453 tw_52 tw_465 ⟨by decide, by decide, by decide +kernel⟩ kc_9 (by rw [hG.k12 i hi, h]) ⟨rfl, rfl⟩ ⟨Nat.le_trans (Nat.le_of_ble_eq_true rfl) hR.1, Nat.le_trans (Nat.le_of_ble_eq_true rfl) hR.2⟩ rfl rfl hr hdg hcs (hk_ea (fun H locs hH hS => ?_))
    have h2 := kk H locs hH hS
    rw [h] at h2
    exact h2
  · refine hk_cO (n := 1) (L := (.inl (12, i))) (As := [.int x]) (rest := rest) hexec hb hml hlz ht hown hK hH hS (c_dries1 l D G Z τ σ i x hG hi 3 _ _ _ _ kc_3 (by rw [hG.k12 i hi, h])) tw_461 hl tw_455 tw_453 tw_464 tw_460 tw_53 tw_465 ⟨by decide, by decide, by decide +kernel⟩ kc_3 (by rw [hG.k12 i hi, h]) ⟨rfl, rfl⟩ ⟨Nat.le_trans (Nat.le_of_ble_eq_true rfl) hR.1, Nat.le_trans (Nat.le_of_ble_eq_true rfl) hR.2⟩ rfl rfl hr hdg hcs (hk_ea (fun H locs hH hS => ?_))
    have h2 := kk H locs hH hS
    rw [h] at h2
    exact h2
  · refine hk_cO (n := 1) (L := (.inl (12, i))) (As := [.int x]) (rest := rest) hexec hb hml hlz ht hown hK hH hS (c_dries2 l D G Z τ σ i x hG hi 2 _ _ _ _ kc_2 (by rw [hG.k12 i hi, h])) tw_458 hl tw_455 tw_453 tw_456 tw_457 tw_54 tw_465 ⟨by decide, by decide, by decide +kernel⟩ kc_2 (by rw [hG.k12 i hi, h]) ⟨rfl, rfl⟩ ⟨Nat.le_trans (Nat.le_of_ble_eq_true rfl) hR.1, Nat.le_trans (Nat.le_of_ble_eq_true rfl) hR.2⟩ rfl rfl hr hdg hcs (hk_ea (fun H locs hH hS => ?_))
    have h2 := kk H locs hH hS
    rw [h] at h2
    exact h2
def hk_marks (c i : Nat) : Int32 := if c = 9 then F_marks0 i else if c = 3 then F_marks1 i else F_marks2 i
set_option maxHeartbeats 4000000 in
theorem hk_vmarks {p : Program} {l : Launch} {e : Env} {R : Room} {s : State} {m : MethodId} {args : Array Value} {below : List Frame} {meth : Method} {c : Code} {H : Heap} {locs : List Loc} {Q : State → Prop} {cells slots : Nat} {cc : ByteArray} {pc nL index : Nat} {ls : Array Slot} {rest : List Value} {D : hk_D} {G : hk_G} {Z : hk_Z} {τ σ : hk_v} {own : String} {i : Nat} (hG : hk_Y D G Z) (hi : i < Z.1 2) (hexec : p.tables.exec = Jvm.exec) (hb : c.code = cc) (hml : c.maxLocals = nL) (hlz : ls.size = nL) (ht : ∀ w ∈ lw_tg, w.before args s = true) (hown : s.vm.findClass own = some m.cls) (hK : hk_K D s) (hH : hk_H D G (hk_cm τ σ) H) (hS : va_S (hk_A D) s.heap H locs) (hl : Cond.methodLink own index yX8_marks ∈ lw_tg) (hR : 3 ≤ R.frames ∧ 60 ≤ R.locals) (hr : (rest.map fun v => v.category).sum ≤ 8) (hcs : cells ≤ R.cells ∧ slots ≤ R.slots) (hdg : decode cc pc = .ok (.invokevirtual index, 3))
    (kk : ∀ (H1 : Heap) (locs1 : List Loc), hk_H D G (hk_cm τ σ) H1 → va_S (hk_A D) s.heap H1 locs1 → W p l e R s m args below meth c H1 locs1 cells slots Q (F0 m (pc + 3) ls (.int (hk_marks (Z.2.1 i) i) :: rest))) : W p l e R s m args below meth c H locs cells slots Q (F0 m pc ls (.ref (G.1 (.inl (12, i))) :: rest)) := by
  rcases hG.kn i hi with h | h | h
  · refine hk_cO (n := 0) (L := (.inl (12, i))) (As := []) (rest := rest) hexec hb hml hlz ht hown hK hH hS (c_marks0 l D G Z τ σ i hG hi) tw_451 hl tw_442 tw_440 tw_441 tw_440 tw_52 tw_451 ⟨by decide, by decide, by decide +kernel⟩ kc_9 (by rw [hG.k12 i hi, h]) ⟨rfl, rfl⟩ ⟨Nat.le_trans (Nat.le_of_ble_eq_true rfl) hR.1, Nat.le_trans (Nat.le_of_ble_eq_true rfl) hR.2⟩ rfl rfl hr hdg hcs (hk_ea (fun H locs hH hS => ?_))
    have h2 := kk H locs hH hS
    rw [h] at h2
    exact h2
  · refine hk_cO (n := 0) (L := (.inl (12, i))) (As := []) (rest := rest) hexec hb hml hlz ht hown hK hH hS (c_marks1 l D G Z τ σ i hG hi 3 _ _ _ _ kc_3 (by rw [hG.k12 i hi, h])) tw_448 hl tw_442 tw_440 tw_450 tw_447 tw_53 tw_451 ⟨by decide, by decide, by decide +kernel⟩ kc_3 (by rw [hG.k12 i hi, h]) ⟨rfl, rfl⟩ ⟨Nat.le_trans (Nat.le_of_ble_eq_true rfl) hR.1, Nat.le_trans (Nat.le_of_ble_eq_true rfl) hR.2⟩ rfl rfl hr hdg hcs (hk_ea (fun H locs hH hS => ?_))
    have h2 := kk H locs hH hS
    rw [h] at h2
    exact h2
  · refine hk_cO (n := 0) (L := (.inl (12, i))) (As := []) (rest := rest) hexec hb hml hlz ht hown hK hH hS (c_marks2 l D G Z τ σ i hG hi 2 _ _ _ _ kc_2 (by rw [hG.k12 i hi, h])) tw_445 hl tw_442 tw_440 tw_443 tw_444 tw_54 tw_451 ⟨by decide, by decide, by decide +kernel⟩ kc_2 (by rw [hG.k12 i hi, h]) ⟨rfl, rfl⟩ ⟨Nat.le_trans (Nat.le_of_ble_eq_true rfl) hR.1, Nat.le_trans (Nat.le_of_ble_eq_true rfl) hR.2⟩ rfl rfl hr hdg hcs (hk_ea (fun H locs hH hS => ?_))
    have h2 := kk H locs hH hS
    rw [h] at h2
    exact h2
def F_bears (Z : hk_Z) (τ : hk_v) (i : Nat) : Int32 := (if 0 < (hk_dries (Z.2.1 i) i (τ (11, i) 7)) then (τ (11, i) 1) / (if (((60 + (hk_dries (Z.2.1 i) i (τ (11, i) 7))) - 1) / (hk_dries (Z.2.1 i) i (τ (11, i) 7))) < 1 then 1 else (((60 + (hk_dries (Z.2.1 i) i (τ (11, i) 7))) - 1) / (hk_dries (Z.2.1 i) i (τ (11, i) 7)))) else 0)
set_option maxHeartbeats 4000000 in
set_option maxRecDepth 100000 in
theorem c_bears (l : Launch) (D : hk_D) (G : hk_G) (Z : hk_Z) (τ σ : hk_v) (i : Nat) (hG : hk_Y D G Z) (hi : i < Z.1 2) : Met l yX6_bears (hk_ws yX6_bears cX6_bears 3 (some FieldType.int)) ({ frames := 3, cells := 0, slots := 0, locals := 64 }) (hk_P D G (hk_cm τ σ) [.ref (G.1 (.inl (11, i)))]) (hk_Q D (hk_e G (some (.int (F_bears Z τ i))) (hk_cm τ σ))) 0 0 (hk_A D) := by
  refine hk_met (by decide +kernel) (Nat.le_of_ble_eq_true rfl) (fun p e s m below meth c hx hb hr hml hlocks ht hown hin hK hH hS ls hl => ?_)
  have hl : lv_has ls 3 [(0, .ref (G.1 (.inl (11, i))))] := hl
  refine lv_aload_n hx hb dX6_bears_0 rfl (lv_at hl 0 rfl) ?_
  refine hk_getr (L := (.inl (11, i))) (v := .ref (G.1 (.inl (12, i)))) hx hb ht hown hK hH kc_7 (hG.k11 i hi) 0 (by decide) rfl tw_395 rfl (hG.r11_0 i hi) dX6_bears_1 ?_
  refine lv_aload_n hx hb dX6_bears_4 rfl (lv_at hl 0 rfl) ?_
  refine hk_geti (L := (.inl (11, i))) (v := τ (11, i) 7) hx hb ht hown hK hH kc_7 (hG.k11 i hi) 7 (by decide) rfl tw_408 rfl rfl dX6_bears_5 ?_
  refine hk_vdries (i := i) hG hi hx hb hml hl.1 ht hown hK hH hS tw_649 ⟨Nat.le_of_ble_eq_true rfl, Nat.le_of_ble_eq_true rfl⟩ (Nat.le_of_ble_eq_true rfl) ⟨Nat.zero_le _, Nat.zero_le _⟩ dX6_bears_8 (fun H locs hH hS => ?_)
  refine lv_istore_n (lv' := [(1, .int (hk_dries (Z.2.1 i) i (τ (11, i) 7))), (0, .ref (G.1 (.inl (11, i))))]) hx hb dX6_bears_11 rfl hl (by decide) rfl (fun ls hl => ?_)
  refine lv_iload_n hx hb dX6_bears_12 rfl (lv_at hl 0 rfl) ?_
  refine lv_if_gt (tgt := 18) hx hb dX6_bears_13 (by decide) (fun c_1 => ?_) (fun c_1 => ?_)
  · refine lv_bipush (v := 60) hx hb dX6_bears_18 (by decide) ?_
    refine lv_iload_n hx hb dX6_bears_20 rfl (lv_at hl 0 rfl) ?_
    refine lv_iadd hx hb dX6_bears_21 ?_
    refine lv_iconst (v := 1) hx hb dX6_bears_22 (by decide) ?_
    refine lv_isub hx hb dX6_bears_23 ?_
    refine lv_iload_n hx hb dX6_bears_24 rfl (lv_at hl 0 rfl) ?_
    refine lv_idiv hx hb dX6_bears_25 (fun q => by rw [q] at c_1; exact absurd c_1 (by decide)) ?_
    refine lv_istore_n (lv' := [(2, .int (((60 + (hk_dries (Z.2.1 i) i (τ (11, i) 7))) - 1) / (hk_dries (Z.2.1 i) i (τ (11, i) 7)))), (1, .int (hk_dries (Z.2.1 i) i (τ (11, i) 7))), (0, .ref (G.1 (.inl (11, i))))]) hx hb dX6_bears_26 rfl hl (by decide) rfl (fun ls hl => ?_)
    refine lv_aload_n hx hb dX6_bears_27 rfl (lv_at hl 2 rfl) ?_
    refine hk_geti (L := (.inl (11, i))) (v := τ (11, i) 1) hx hb ht hown hK hH kc_7 (hG.k11 i hi) 1 (by decide) rfl tw_397 rfl rfl dX6_bears_28 ?_
    refine lv_iload_n hx hb dX6_bears_31 rfl (lv_at hl 0 rfl) ?_
    refine lv_iconst (v := 1) hx hb dX6_bears_32 (by decide) ?_
    refine va_mmax hx hb (hml.trans hl.1.symm) hown (ht _ tw_650) (ht _ tw_260) (ht _ tw_45) (ht _ tw_261) (Nat.le_of_ble_eq_true rfl) (Nat.le_of_ble_eq_true rfl) (Nat.zero_le _) (Nat.zero_le _) dX6_bears_33 ?_
    refine lv_idiv hx hb dX6_bears_36 (hk_max1 _) ?_
    exact hk_iret hx hb hr hlocks hH hS ⟨(by simp only [F_bears, if_pos c_1]), rfl, rfl⟩ dX6_bears_37
  · refine lv_iconst (v := 0) hx hb dX6_bears_16 (by decide) ?_
    exact hk_iret hx hb hr hlocks hH hS ⟨(by simp only [F_bears, if_neg c_1]), rfl, rfl⟩ dX6_bears_17
end
section
def hk_sz (Z : hk_Z) (τ : hk_v) : Prop := (τ (1, 0) 2 = nI (Z.1 0) ∧ τ (1, 1) 2 = nI (Z.1 1) ∧ τ (1, 2) 2 = nI (Z.1 2)) ∧ Z.1 0 ≤ 6 ∧ Z.1 1 ≤ 6 ∧ Z.1 2 ≤ 4
theorem hk_sz.of {Z : hk_Z} {τ τ' : hk_v} (h : hk_sz Z τ) (e : ∀ j, τ' (1, j) 2 = τ (1, j) 2) : hk_sz Z τ' := ⟨⟨by rw [e]; exact h.1.1, by rw [e]; exact h.1.2.1, by rw [e]; exact h.1.2.2⟩, h.2⟩
theorem hk_in_sz {x y : Int32} {n : Nat} (hy : y = nI n) (hn : n ≤ 6) (h : ¬ hk_in x 0 (y - 1) = 0) : x.toNatClampNeg < n ∧ x = nI x.toNatClampNeg := by
  subst hy
  rcases Nat.eq_zero_or_pos n with q | q
  · subst q
    obtain ⟨h1, h2⟩ := hk_in_ne h
    exfalso
    rw [show nI 0 - 1 = (-1 : Int32) from by decide] at h2
    obtain ⟨j, hj, rfl⟩ := nI_of h1
    apply h2
    rw [Int32.lt_iff_toInt_lt, nI_toInt hj, show (-1 : Int32).toInt = -1 from by decide]
    omega
  · have := hk_in_ix (x := x) (n := n - 1) (b := nI n - 1) (by rw [show (1 : Int32) = nI 1 from rfl, pk_sub q]) (by omega) h
    exact ⟨by omega, this.2⟩
theorem hk_in_sz' {n : Nat} {y : Int32} (hy : y = nI n) {j : Nat} (hj : j < n) (hn : n ≤ 6) : ¬ hk_in (nI j) 0 (y - 1) = 0 := by
  subst hy
  rw [show (1 : Int32) = nI 1 from rfl, pk_sub (show 1 ≤ n by omega)]
  unfold hk_in
  rw [if_neg (nI_pos (by omega)), if_neg (nI_nlt (by omega) (by omega))]
  decide
def F_size (τ : hk_v) (j : Nat) : Int32 := τ (1, j) 2
set_option maxHeartbeats 4000000 in
set_option maxRecDepth 100000 in
theorem c_size (l : Launch) (D : hk_D) (G : hk_G) (τ σ : hk_v) (j : Nat)  (hk1 : G.2.1 (.inl (1, j)) = some (.inl 0)) : Met l yJx4a65c_size_8abf5 (hk_ws yJx4a65c_size_8abf5 cJx4a65c_size_8abf5 1 (some FieldType.int)) ({ frames := 0, cells := 0, slots := 0, locals := 0 }) (hk_P D G (hk_cm τ σ) [.ref (G.1 (.inl (1, j)))]) (hk_Q D (hk_e G (some (.int (F_size τ j))) (hk_cm τ σ))) 0 0 (hk_A D) := by
  refine hk_met (by decide +kernel) (Nat.le_of_ble_eq_true rfl) (fun p e s m below meth c hx hb hr hml hlocks ht hown hin hK hH hS ls hl => ?_)
  have hl : lv_has ls 1 [(0, .ref (G.1 (.inl (1, j))))] := hl
  refine lv_aload_n hx hb dJx4a65c_size_8abf5_0 rfl (lv_at hl 0 rfl) ?_
  refine hk_geti (L := (.inl (1, j))) (v := τ (1, j) 2) hx hb ht hown hK hH kc_0 hk1 2 (by decide) rfl tw_78 rfl rfl dJx4a65c_size_8abf5_1 ?_
  exact hk_iret hx hb hr hlocks hH hS ⟨(by simp only [F_size]), rfl, rfl⟩ dJx4a65c_size_8abf5_4
set_option maxHeartbeats 4000000 in
set_option maxRecDepth 100000 in
theorem c_chk1 (l : Launch) (D : hk_D) (G : hk_G) (τ σ : hk_v) (x : Int32) (y : Int32)  (h0 : ¬ x < 0) (h1 : x < y) : Met l yJ3_checkIndex_8e157 (hk_ws yJ3_checkIndex_8e157 cJ3_checkIndex_8e157 3 (some FieldType.int)) ({ frames := 0, cells := 0, slots := 0, locals := 0 }) (hk_P D G (hk_cm τ σ) [.int x, .int y, .null]) (hk_Q D (hk_e G (some (.int x)) (hk_cm τ σ))) 0 0 (hk_A D) := by
  refine hk_met (by decide +kernel) (Nat.le_of_ble_eq_true rfl) (fun p e s m below meth c hx hb hr hml hlocks ht hown hin hK hH hS ls hl => ?_)
  have hl : lv_has ls 3 [(0, .int x), (1, .int y), (2, .null)] := hl
  refine lv_iload_n hx hb dJ3_checkIndex_8e157_0 rfl (lv_at hl 0 rfl) ?_
  refine lv_if_lt (tgt := 9) hx hb dJ3_checkIndex_8e157_1 (by decide) (fun c_1 => ?_) (fun c_1 => ?_)
  · exact absurd c_1 h0
  refine lv_iload_n hx hb dJ3_checkIndex_8e157_4 rfl (lv_at hl 0 rfl) ?_
  refine lv_iload_n hx hb dJ3_checkIndex_8e157_5 rfl (lv_at hl 1 rfl) ?_
  refine lv_icmp_lt (tgt := 16) hx hb dJ3_checkIndex_8e157_6 (by decide) (fun c_2 => ?_) (fun c_2 => ?_)
  rotate_left
  · exact absurd h1 c_2
  refine lv_iload_n hx hb dJ3_checkIndex_8e157_16 rfl (lv_at hl 0 rfl) ?_
  exact hk_iret hx hb hr hlocks hH hS ⟨rfl, rfl, rfl⟩ dJ3_checkIndex_8e157_17
theorem ymS_J3_checkIndex_8e157 : hk_mS yJ3_checkIndex_8e157 cJ3_checkIndex_8e157 3 (some FieldType.int) 3 := ⟨tw_352, tw_351, tw_50, by decide, by decide, by decide +kernel⟩
set_option maxHeartbeats 4000000 in
set_option maxRecDepth 100000 in
theorem c_chk (l : Launch) (D : hk_D) (G : hk_G) (τ σ : hk_v) (x : Int32) (y : Int32)  (h0 : ¬ x < 0) (h1 : x < y) : Met l yJ15_checkIndex_7cf53 (hk_ws yJ15_checkIndex_7cf53 cJ15_checkIndex_7cf53 2 (some FieldType.int)) ({ frames := 1, cells := 0, slots := 0, locals := 22 }) (hk_P D G (hk_cm τ σ) [.int x, .int y]) (hk_Q D (hk_e G (some (.int x)) (hk_cm τ σ))) 0 0 (hk_A D) := by
  refine hk_met (by decide +kernel) (Nat.le_of_ble_eq_true rfl) (fun p e s m below meth c hx hb hr hml hlocks ht hown hin hK hH hS ls hl => ?_)
  have hl : lv_has ls 2 [(0, .int x), (1, .int y)] := hl
  refine lv_iload_n hx hb dJ15_checkIndex_7cf53_0 rfl (lv_at hl 0 rfl) ?_
  refine lv_iload_n hx hb dJ15_checkIndex_7cf53_1 rfl (lv_at hl 1 rfl) ?_
  refine lv_null hx hb dJ15_checkIndex_7cf53_2 ?_
  refine hk_cS (As := [.int x, .int y, .null]) (rest := []) hx hb hml hl.1 ht hown hK hH hS (c_chk1 l D G τ σ x y h0 h1) ymS_J3_checkIndex_8e157 tw_350 ⟨rfl, rfl⟩ ⟨Nat.le_of_ble_eq_true rfl, Nat.le_of_ble_eq_true rfl⟩ rfl rfl (Nat.le_of_ble_eq_true rfl) dJ15_checkIndex_7cf53_3 ⟨Nat.le_of_ble_eq_true rfl, Nat.le_of_ble_eq_true rfl⟩ (hk_ea (fun H locs hH hS => ?_))
  exact hk_iret hx hb hr hlocks hH hS ⟨rfl, rfl, rfl⟩ dJ15_checkIndex_7cf53_6
set_option maxHeartbeats 4000000 in
set_option maxRecDepth 100000 in
theorem c_elem (l : Launch) (D : hk_D) (G : hk_G) (τ σ : hk_v) (j : Nat) (i : Nat) (n : Nat) (x : Int32) (v : Value)  (hk1 : G.2.1 (.inl (1, j)) = some (.inl 0)) (ha : G.2.2 (.inl (1, j)) 1 = .ref (G.1 (.inl (2, j)))) (hk2 : G.2.1 (.inl (2, j)) = some (.inr (.inr 10))) (hxi : x = nI i) (hi : i < n) (hn : n ≤ 6) (hv : G.2.2 (.inl (2, j)) i = v) (hva : ∃ a, v = .ref a) : Met l yJx4a65c_elementData_915e3 (hk_ws yJx4a65c_elementData_915e3 cJx4a65c_elementData_915e3 2 (some (FieldType.object "java/lang/Object"))) ({ frames := 0, cells := 0, slots := 0, locals := 0 }) (hk_P D G (hk_cm τ σ) [.ref (G.1 (.inl (1, j))), .int x]) (hk_Q D (hk_e G (some v) (hk_cm τ σ))) 0 0 (hk_A D) := by
  refine hk_met (by decide +kernel) (Nat.le_of_ble_eq_true rfl) (fun p e s m below meth c hx hb hr hml hlocks ht hown hin hK hH hS ls hl => ?_)
  have hl : lv_has ls 2 [(0, .ref (G.1 (.inl (1, j)))), (1, .int x)] := hl
  refine lv_aload_n hx hb dJx4a65c_elementData_915e3_0 rfl (lv_at hl 0 rfl) ?_
  refine hk_getr (L := (.inl (1, j))) (v := .ref (G.1 (.inl (2, j)))) hx hb ht hown hK hH kc_0 hk1 1 (by decide) rfl tw_77 rfl ha dJx4a65c_elementData_915e3_1 ?_
  refine lv_iload_n hx hb dJx4a65c_elementData_915e3_4 rfl (lv_at hl 1 rfl) ?_
  refine hk_qld (L := (.inl (2, j))) (v := v) hx hb hK hH hk2 (by rw [hxi]; exact vp_in_nI (by omega) (by omega)) (by rw [hxi, nI_clamp (by omega)]; exact hv) dJx4a65c_elementData_915e3_5 ?_
  exact hk_aret hx hb hr hlocks (Or.inl ⟨_, rfl⟩) (Or.inr hva) hH hS ⟨rfl, rfl, rfl⟩ dJx4a65c_elementData_915e3_6
theorem ymS_J15_checkIndex_7cf53 : hk_mS yJ15_checkIndex_7cf53 cJ15_checkIndex_7cf53 2 (some FieldType.int) 2 := ⟨tw_349, tw_348, tw_49, by decide, by decide, by decide +kernel⟩
theorem ymV_Jx4a65c_elementData_915e3 : hk_mV yJx4a65c_elementData_915e3 cJx4a65c_elementData_915e3 2 (some (FieldType.object "java/lang/Object")) RJx4a65c 1 := ⟨tw_356, tw_354, tw_355, tw_37, rfl, by decide, by decide, by decide +kernel⟩
set_option maxHeartbeats 4000000 in
set_option maxRecDepth 100000 in
theorem c_lget (l : Launch) (D : hk_D) (G : hk_G) (τ σ : hk_v) (j : Nat) (i : Nat) (n : Nat) (x : Int32) (v : Value)  (hk1 : G.2.1 (.inl (1, j)) = some (.inl 0)) (ha : G.2.2 (.inl (1, j)) 1 = .ref (G.1 (.inl (2, j)))) (hk2 : G.2.1 (.inl (2, j)) = some (.inr (.inr 10))) (hxi : x = nI i) (hi : i < n) (hn : n ≤ 6) (hv : G.2.2 (.inl (2, j)) i = v) (hva : ∃ a, v = .ref a) (hsz : τ (1, j) 2 = nI n) : Met l yJx4a65c_get_915e3 (hk_ws yJx4a65c_get_915e3 cJx4a65c_get_915e3 2 (some (FieldType.object "java/lang/Object"))) ({ frames := 2, cells := 0, slots := 0, locals := 43 }) (hk_P D G (hk_cm τ σ) [.ref (G.1 (.inl (1, j))), .int x]) (hk_Q D (hk_e G (some v) (hk_cm τ σ))) 0 0 (hk_A D) := by
  refine hk_met (by decide +kernel) (Nat.le_of_ble_eq_true rfl) (fun p e s m below meth c hx hb hr hml hlocks ht hown hin hK hH hS ls hl => ?_)
  have hl : lv_has ls 2 [(0, .ref (G.1 (.inl (1, j)))), (1, .int x)] := hl
  refine lv_iload_n hx hb dJx4a65c_get_915e3_0 rfl (lv_at hl 1 rfl) ?_
  refine lv_aload_n hx hb dJx4a65c_get_915e3_1 rfl (lv_at hl 0 rfl) ?_
  refine hk_geti (L := (.inl (1, j))) (v := τ (1, j) 2) hx hb ht hown hK hH kc_0 hk1 2 (by decide) rfl tw_78 rfl rfl dJx4a65c_get_915e3_2 ?_
  refine hk_cS (As := [.int x, .int (τ (1, j) 2)]) (rest := []) hx hb hml hl.1 ht hown hK hH hS (c_chk l D G τ σ x (τ (1, j) 2) (by rw [hxi]; exact nI_pos (by omega)) (by rw [hxi, hsz]; exact nI_lt (by omega) (by omega))) ymS_J15_checkIndex_7cf53 tw_347 ⟨rfl, rfl⟩ ⟨Nat.le_of_ble_eq_true rfl, Nat.le_of_ble_eq_true rfl⟩ rfl rfl (Nat.le_of_ble_eq_true rfl) dJx4a65c_get_915e3_5 ⟨Nat.le_of_ble_eq_true rfl, Nat.le_of_ble_eq_true rfl⟩ (hk_ea (fun H locs hH hS => ?_))
  refine lv_pop hx hb dJx4a65c_get_915e3_8 rfl ?_
  refine lv_aload_n hx hb dJx4a65c_get_915e3_9 rfl (lv_at hl 0 rfl) ?_
  refine lv_iload_n hx hb dJx4a65c_get_915e3_10 rfl (lv_at hl 1 rfl) ?_
  refine hk_cV (L := (.inl (1, j))) (As := [.int x]) (rest := []) hx hb hml hl.1 ht hown hK hH hS (c_elem l D G τ σ j i n x v hk1 ha hk2 hxi hi hn hv hva) ymV_Jx4a65c_elementData_915e3 kc_0 hk1 tw_353 ⟨rfl, rfl⟩ ⟨Nat.le_of_ble_eq_true rfl, Nat.le_of_ble_eq_true rfl⟩ rfl rfl (Nat.le_of_ble_eq_true rfl) dJx4a65c_get_915e3_11 ⟨Nat.le_of_ble_eq_true rfl, Nat.le_of_ble_eq_true rfl⟩ (hk_ea (fun H locs hH hS => ?_))
  exact hk_aret hx hb hr hlocks (Or.inl ⟨_, rfl⟩) (Or.inr hva) hH hS ⟨rfl, rfl, rfl⟩ dJx4a65c_get_915e3_14
theorem ymV_Jx4a65c_size_8abf5 : hk_mV yJx4a65c_size_8abf5 cJx4a65c_size_8abf5 1 (some FieldType.int) RJx4a65c 0 := ⟨tw_212, tw_210, tw_211, tw_37, rfl, by decide, by decide, by decide +kernel⟩
set_option maxHeartbeats 4000000 in
set_option maxRecDepth 100000 in
theorem c_gardenOf_out (l : Launch) (D : hk_D) (G : hk_G) (Z : hk_Z) (τ σ : hk_v) (x : Int32) (hG : hk_Y D G Z) (hs : hk_sz Z τ) (ho : hk_in x 0 (τ (1, 0) 2 - 1) = 0) : Met l yX10_gardenOf (hk_ws yX10_gardenOf cX10_gardenOf 2 (some (FieldType.object "HopYard$Garden"))) ({ frames := 1, cells := 0, slots := 0, locals := 22 }) (hk_P D G (hk_cm τ σ) [.ref (G.1 (.inl (0, 0))), .int x]) (hk_Q D (hk_e G (some .null) (hk_cm τ σ))) 0 0 (hk_A D) := by
  refine hk_met (by decide +kernel) (Nat.le_of_ble_eq_true rfl) (fun p e s m below meth c hx hb hr hml hlocks ht hown hin hK hH hS ls hl => ?_)
  have hl : lv_has ls 2 [(0, .ref (G.1 (.inl (0, 0)))), (1, .int x)] := hl
  refine lv_iload_n hx hb dX10_gardenOf_0 rfl (lv_at hl 1 rfl) ?_
  refine lv_iconst (v := 0) hx hb dX10_gardenOf_1 (by decide) ?_
  refine lv_aload_n hx hb dX10_gardenOf_2 rfl (lv_at hl 0 rfl) ?_
  refine hk_getr (L := (.inl (0, 0))) (v := .ref (G.1 (.inl (1, 0)))) hx hb ht hown hK hH kc_11 hG.k0 0 (by decide) rfl tw_168 rfl hG.r0_0 dX10_gardenOf_3 ?_
  refine hk_cV (L := (.inl (1, 0))) (As := []) (rest := [.int 0, .int x]) hx hb hml hl.1 ht hown hK hH hS (c_size l D G τ σ 0 hG.k1_0) ymV_Jx4a65c_size_8abf5 kc_0 hG.k1_0 tw_209 ⟨rfl, rfl⟩ ⟨Nat.le_of_ble_eq_true rfl, Nat.le_of_ble_eq_true rfl⟩ rfl rfl (Nat.le_of_ble_eq_true rfl) dX10_gardenOf_6 ⟨Nat.le_of_ble_eq_true rfl, Nat.le_of_ble_eq_true rfl⟩ (hk_ea (fun H locs hH hS => ?_))
  rw [show F_size τ 0 = τ (1, 0) 2 from rfl]
  refine lv_iconst (v := 1) hx hb dX10_gardenOf_9 (by decide) ?_
  refine lv_isub hx hb dX10_gardenOf_10 ?_
  refine hk_cS (As := [.int x, .int 0, .int ((τ (1, 0) 2) - 1)]) (rest := []) hx hb hml hl.1 ht hown hK hH hS (c_within l D G τ σ x 0 ((τ (1, 0) 2) - 1)) ymS_X10_within tw_206 ⟨rfl, rfl⟩ ⟨Nat.le_of_ble_eq_true rfl, Nat.le_of_ble_eq_true rfl⟩ rfl rfl (Nat.le_of_ble_eq_true rfl) dX10_gardenOf_11 ⟨Nat.le_of_ble_eq_true rfl, Nat.le_of_ble_eq_true rfl⟩ (hk_ea (fun H locs hH hS => ?_))
  refine lv_if_eq (tgt := 31) hx hb dX10_gardenOf_14 (by decide) (fun c_1 => ?_) (fun c_1 => ?_)
  rotate_left
  · exact absurd ho c_1
  refine lv_null hx hb dX10_gardenOf_31 ?_
  exact hk_aret hx hb hr hlocks (Or.inl ⟨_, rfl⟩) (Or.inl rfl) hH hS ⟨rfl, rfl, rfl⟩ dX10_gardenOf_32
theorem ymV_Jx4a65c_get_915e3 : hk_mV yJx4a65c_get_915e3 cJx4a65c_get_915e3 2 (some (FieldType.object "java/lang/Object")) RJx4a65c 1 := ⟨tw_346, tw_344, tw_345, tw_37, rfl, by decide, by decide, by decide +kernel⟩
set_option maxHeartbeats 4000000 in
set_option maxRecDepth 100000 in
theorem c_gardenOf_in (l : Launch) (D : hk_D) (G : hk_G) (Z : hk_Z) (τ σ : hk_v) (x : Int32) (hG : hk_Y D G Z) (hs : hk_sz Z τ) (ho : ¬ hk_in x 0 (τ (1, 0) 2 - 1) = 0) : Met l yX10_gardenOf (hk_ws yX10_gardenOf cX10_gardenOf 2 (some (FieldType.object "HopYard$Garden"))) ({ frames := 3, cells := 0, slots := 0, locals := 64 }) (hk_P D G (hk_cm τ σ) [.ref (G.1 (.inl (0, 0))), .int x]) (hk_Q D (hk_e G (some (.ref (G.1 (.inl (9, x.toNatClampNeg))))) (hk_cm τ σ))) 0 0 (hk_A D) := by
  refine hk_met (by decide +kernel) (Nat.le_of_ble_eq_true rfl) (fun p e s m below meth c hx hb hr hml hlocks ht hown hin hK hH hS ls hl => ?_)
  have hl : lv_has ls 2 [(0, .ref (G.1 (.inl (0, 0)))), (1, .int x)] := hl
  refine lv_iload_n hx hb dX10_gardenOf_0 rfl (lv_at hl 1 rfl) ?_
  refine lv_iconst (v := 0) hx hb dX10_gardenOf_1 (by decide) ?_
  refine lv_aload_n hx hb dX10_gardenOf_2 rfl (lv_at hl 0 rfl) ?_
  refine hk_getr (L := (.inl (0, 0))) (v := .ref (G.1 (.inl (1, 0)))) hx hb ht hown hK hH kc_11 hG.k0 0 (by decide) rfl tw_168 rfl hG.r0_0 dX10_gardenOf_3 ?_
  refine hk_cV (L := (.inl (1, 0))) (As := []) (rest := [.int 0, .int x]) hx hb hml hl.1 ht hown hK hH hS (c_size l D G τ σ 0 hG.k1_0) ymV_Jx4a65c_size_8abf5 kc_0 hG.k1_0 tw_209 ⟨rfl, rfl⟩ ⟨Nat.le_of_ble_eq_true rfl, Nat.le_of_ble_eq_true rfl⟩ rfl rfl (Nat.le_of_ble_eq_true rfl) dX10_gardenOf_6 ⟨Nat.le_of_ble_eq_true rfl, Nat.le_of_ble_eq_true rfl⟩ (hk_ea (fun H locs hH hS => ?_))
  rw [show F_size τ 0 = τ (1, 0) 2 from rfl]
  refine lv_iconst (v := 1) hx hb dX10_gardenOf_9 (by decide) ?_
  refine lv_isub hx hb dX10_gardenOf_10 ?_
  refine hk_cS (As := [.int x, .int 0, .int ((τ (1, 0) 2) - 1)]) (rest := []) hx hb hml hl.1 ht hown hK hH hS (c_within l D G τ σ x 0 ((τ (1, 0) 2) - 1)) ymS_X10_within tw_206 ⟨rfl, rfl⟩ ⟨Nat.le_of_ble_eq_true rfl, Nat.le_of_ble_eq_true rfl⟩ rfl rfl (Nat.le_of_ble_eq_true rfl) dX10_gardenOf_11 ⟨Nat.le_of_ble_eq_true rfl, Nat.le_of_ble_eq_true rfl⟩ (hk_ea (fun H locs hH hS => ?_))
  refine lv_if_eq (tgt := 31) hx hb dX10_gardenOf_14 (by decide) (fun c_1 => ?_) (fun c_1 => ?_)
  · exact absurd c_1 ho
  refine lv_aload_n hx hb dX10_gardenOf_17 rfl (lv_at hl 0 rfl) ?_
  refine hk_getr (L := (.inl (0, 0))) (v := .ref (G.1 (.inl (1, 0)))) hx hb ht hown hK hH kc_11 hG.k0 0 (by decide) rfl tw_168 rfl hG.r0_0 dX10_gardenOf_18 ?_
  refine lv_iload_n hx hb dX10_gardenOf_21 rfl (lv_at hl 1 rfl) ?_
  refine hk_cV (L := (.inl (1, 0))) (As := [.int x]) (rest := []) hx hb hml hl.1 ht hown hK hH hS (c_lget l D G τ σ 0 x.toNatClampNeg (Z.1 0) x (.ref (G.1 (.inl (9, x.toNatClampNeg)))) hG.k1_0 (hG.a1_0 (by have h9 := (hk_in_sz hs.1.1 (by have := hs.2; omega) ho).1; omega)) (hG.k2_0 (by have h9 := (hk_in_sz hs.1.1 (by have := hs.2; omega) ho).1; omega)) (hk_in_sz hs.1.1 (by have := hs.2; omega) ho).2 (hk_in_sz hs.1.1 (by have := hs.2; omega) ho).1 (by have := hs.2; omega) (hG.a2_0 _ (hk_in_sz hs.1.1 (by have := hs.2; omega) ho).1) ⟨_, rfl⟩ hs.1.1) ymV_Jx4a65c_get_915e3 kc_0 hG.k1_0 tw_343 ⟨rfl, rfl⟩ ⟨Nat.le_of_ble_eq_true rfl, Nat.le_of_ble_eq_true rfl⟩ rfl rfl (Nat.le_of_ble_eq_true rfl) dX10_gardenOf_22 ⟨Nat.le_of_ble_eq_true rfl, Nat.le_of_ble_eq_true rfl⟩ (hk_ea (fun H locs hH hS => ?_))
  refine hk_cast (L := (.inl (9, x.toNatClampNeg))) hx hb ht hown hK hH kc_5 (hG.k9 x.toNatClampNeg (hk_in_sz hs.1.1 (by have := hs.2; omega) ho).1) tw_213 dX10_gardenOf_25 ?_
  refine lv_goto (tgt := 32) hx hb dX10_gardenOf_28 (by decide) ?_
  exact hk_aret hx hb hr hlocks (Or.inl ⟨_, rfl⟩) (Or.inr ⟨_, rfl⟩) hH hS ⟨rfl, rfl, rfl⟩ dX10_gardenOf_32
set_option maxHeartbeats 4000000 in
set_option maxRecDepth 100000 in
theorem c_gangOf_out (l : Launch) (D : hk_D) (G : hk_G) (Z : hk_Z) (τ σ : hk_v) (x : Int32) (hG : hk_Y D G Z) (hs : hk_sz Z τ) (ho : hk_in x 0 (τ (1, 1) 2 - 1) = 0) : Met l yX10_gangOf (hk_ws yX10_gangOf cX10_gangOf 2 (some (FieldType.object "HopYard$Gang"))) ({ frames := 1, cells := 0, slots := 0, locals := 22 }) (hk_P D G (hk_cm τ σ) [.ref (G.1 (.inl (0, 0))), .int x]) (hk_Q D (hk_e G (some .null) (hk_cm τ σ))) 0 0 (hk_A D) := by
  refine hk_met (by decide +kernel) (Nat.le_of_ble_eq_true rfl) (fun p e s m below meth c hx hb hr hml hlocks ht hown hin hK hH hS ls hl => ?_)
  have hl : lv_has ls 2 [(0, .ref (G.1 (.inl (0, 0)))), (1, .int x)] := hl
  refine lv_iload_n hx hb dX10_gangOf_0 rfl (lv_at hl 1 rfl) ?_
  refine lv_iconst (v := 0) hx hb dX10_gangOf_1 (by decide) ?_
  refine lv_aload_n hx hb dX10_gangOf_2 rfl (lv_at hl 0 rfl) ?_
  refine hk_getr (L := (.inl (0, 0))) (v := .ref (G.1 (.inl (1, 1)))) hx hb ht hown hK hH kc_11 hG.k0 1 (by decide) rfl tw_169 rfl hG.r0_1 dX10_gangOf_3 ?_
  refine hk_cV (L := (.inl (1, 1))) (As := []) (rest := [.int 0, .int x]) hx hb hml hl.1 ht hown hK hH hS (c_size l D G τ σ 1 hG.k1_1) ymV_Jx4a65c_size_8abf5 kc_0 hG.k1_1 tw_209 ⟨rfl, rfl⟩ ⟨Nat.le_of_ble_eq_true rfl, Nat.le_of_ble_eq_true rfl⟩ rfl rfl (Nat.le_of_ble_eq_true rfl) dX10_gangOf_6 ⟨Nat.le_of_ble_eq_true rfl, Nat.le_of_ble_eq_true rfl⟩ (hk_ea (fun H locs hH hS => ?_))
  rw [show F_size τ 1 = τ (1, 1) 2 from rfl]
  refine lv_iconst (v := 1) hx hb dX10_gangOf_9 (by decide) ?_
  refine lv_isub hx hb dX10_gangOf_10 ?_
  refine hk_cS (As := [.int x, .int 0, .int ((τ (1, 1) 2) - 1)]) (rest := []) hx hb hml hl.1 ht hown hK hH hS (c_within l D G τ σ x 0 ((τ (1, 1) 2) - 1)) ymS_X10_within tw_206 ⟨rfl, rfl⟩ ⟨Nat.le_of_ble_eq_true rfl, Nat.le_of_ble_eq_true rfl⟩ rfl rfl (Nat.le_of_ble_eq_true rfl) dX10_gangOf_11 ⟨Nat.le_of_ble_eq_true rfl, Nat.le_of_ble_eq_true rfl⟩ (hk_ea (fun H locs hH hS => ?_))
  refine lv_if_eq (tgt := 31) hx hb dX10_gangOf_14 (by decide) (fun c_1 => ?_) (fun c_1 => ?_)
  rotate_left
  · exact absurd ho c_1
  refine lv_null hx hb dX10_gangOf_31 ?_
  exact hk_aret hx hb hr hlocks (Or.inl ⟨_, rfl⟩) (Or.inl rfl) hH hS ⟨rfl, rfl, rfl⟩ dX10_gangOf_32
set_option maxHeartbeats 4000000 in
set_option maxRecDepth 100000 in
theorem c_gangOf_in (l : Launch) (D : hk_D) (G : hk_G) (Z : hk_Z) (τ σ : hk_v) (x : Int32) (hG : hk_Y D G Z) (hs : hk_sz Z τ) (ho : ¬ hk_in x 0 (τ (1, 1) 2 - 1) = 0) : Met l yX10_gangOf (hk_ws yX10_gangOf cX10_gangOf 2 (some (FieldType.object "HopYard$Gang"))) ({ frames := 3, cells := 0, slots := 0, locals := 64 }) (hk_P D G (hk_cm τ σ) [.ref (G.1 (.inl (0, 0))), .int x]) (hk_Q D (hk_e G (some (.ref (G.1 (.inl (10, x.toNatClampNeg))))) (hk_cm τ σ))) 0 0 (hk_A D) := by
  refine hk_met (by decide +kernel) (Nat.le_of_ble_eq_true rfl) (fun p e s m below meth c hx hb hr hml hlocks ht hown hin hK hH hS ls hl => ?_)
  have hl : lv_has ls 2 [(0, .ref (G.1 (.inl (0, 0)))), (1, .int x)] := hl
  refine lv_iload_n hx hb dX10_gangOf_0 rfl (lv_at hl 1 rfl) ?_
  refine lv_iconst (v := 0) hx hb dX10_gangOf_1 (by decide) ?_
  refine lv_aload_n hx hb dX10_gangOf_2 rfl (lv_at hl 0 rfl) ?_
  refine hk_getr (L := (.inl (0, 0))) (v := .ref (G.1 (.inl (1, 1)))) hx hb ht hown hK hH kc_11 hG.k0 1 (by decide) rfl tw_169 rfl hG.r0_1 dX10_gangOf_3 ?_
  refine hk_cV (L := (.inl (1, 1))) (As := []) (rest := [.int 0, .int x]) hx hb hml hl.1 ht hown hK hH hS (c_size l D G τ σ 1 hG.k1_1) ymV_Jx4a65c_size_8abf5 kc_0 hG.k1_1 tw_209 ⟨rfl, rfl⟩ ⟨Nat.le_of_ble_eq_true rfl, Nat.le_of_ble_eq_true rfl⟩ rfl rfl (Nat.le_of_ble_eq_true rfl) dX10_gangOf_6 ⟨Nat.le_of_ble_eq_true rfl, Nat.le_of_ble_eq_true rfl⟩ (hk_ea (fun H locs hH hS => ?_))
  rw [show F_size τ 1 = τ (1, 1) 2 from rfl]
  refine lv_iconst (v := 1) hx hb dX10_gangOf_9 (by decide) ?_
  refine lv_isub hx hb dX10_gangOf_10 ?_
  refine hk_cS (As := [.int x, .int 0, .int ((τ (1, 1) 2) - 1)]) (rest := []) hx hb hml hl.1 ht hown hK hH hS (c_within l D G τ σ x 0 ((τ (1, 1) 2) - 1)) ymS_X10_within tw_206 ⟨rfl, rfl⟩ ⟨Nat.le_of_ble_eq_true rfl, Nat.le_of_ble_eq_true rfl⟩ rfl rfl (Nat.le_of_ble_eq_true rfl) dX10_gangOf_11 ⟨Nat.le_of_ble_eq_true rfl, Nat.le_of_ble_eq_true rfl⟩ (hk_ea (fun H locs hH hS => ?_))
  refine lv_if_eq (tgt := 31) hx hb dX10_gangOf_14 (by decide) (fun c_1 => ?_) (fun c_1 => ?_)
  · exact absurd c_1 ho
  refine lv_aload_n hx hb dX10_gangOf_17 rfl (lv_at hl 0 rfl) ?_
  refine hk_getr (L := (.inl (0, 0))) (v := .ref (G.1 (.inl (1, 1)))) hx hb ht hown hK hH kc_11 hG.k0 1 (by decide) rfl tw_169 rfl hG.r0_1 dX10_gangOf_18 ?_
  refine lv_iload_n hx hb dX10_gangOf_21 rfl (lv_at hl 1 rfl) ?_
  refine hk_cV (L := (.inl (1, 1))) (As := [.int x]) (rest := []) hx hb hml hl.1 ht hown hK hH hS (c_lget l D G τ σ 1 x.toNatClampNeg (Z.1 1) x (.ref (G.1 (.inl (10, x.toNatClampNeg)))) hG.k1_1 (hG.a1_1 (by have h9 := (hk_in_sz hs.1.2.1 (by have := hs.2; omega) ho).1; omega)) (hG.k2_1 (by have h9 := (hk_in_sz hs.1.2.1 (by have := hs.2; omega) ho).1; omega)) (hk_in_sz hs.1.2.1 (by have := hs.2; omega) ho).2 (hk_in_sz hs.1.2.1 (by have := hs.2; omega) ho).1 (by have := hs.2; omega) (hG.a2_1 _ (hk_in_sz hs.1.2.1 (by have := hs.2; omega) ho).1) ⟨_, rfl⟩ hs.1.2.1) ymV_Jx4a65c_get_915e3 kc_0 hG.k1_1 tw_343 ⟨rfl, rfl⟩ ⟨Nat.le_of_ble_eq_true rfl, Nat.le_of_ble_eq_true rfl⟩ rfl rfl (Nat.le_of_ble_eq_true rfl) dX10_gangOf_22 ⟨Nat.le_of_ble_eq_true rfl, Nat.le_of_ble_eq_true rfl⟩ (hk_ea (fun H locs hH hS => ?_))
  refine hk_cast (L := (.inl (10, x.toNatClampNeg))) hx hb ht hown hK hH kc_4 (hG.k10 x.toNatClampNeg (hk_in_sz hs.1.2.1 (by have := hs.2; omega) ho).1) tw_304 dX10_gangOf_25 ?_
  refine lv_goto (tgt := 32) hx hb dX10_gangOf_28 (by decide) ?_
  exact hk_aret hx hb hr hlocks (Or.inl ⟨_, rfl⟩) (Or.inr ⟨_, rfl⟩) hH hS ⟨rfl, rfl, rfl⟩ dX10_gangOf_32
set_option maxHeartbeats 4000000 in
set_option maxRecDepth 100000 in
theorem c_kilnOf_out (l : Launch) (D : hk_D) (G : hk_G) (Z : hk_Z) (τ σ : hk_v) (x : Int32) (hG : hk_Y D G Z) (hs : hk_sz Z τ) (ho : hk_in x 0 (τ (1, 2) 2 - 1) = 0) : Met l yX10_kilnOf (hk_ws yX10_kilnOf cX10_kilnOf 2 (some (FieldType.object "HopYard$Kiln"))) ({ frames := 1, cells := 0, slots := 0, locals := 22 }) (hk_P D G (hk_cm τ σ) [.ref (G.1 (.inl (0, 0))), .int x]) (hk_Q D (hk_e G (some .null) (hk_cm τ σ))) 0 0 (hk_A D) := by
  refine hk_met (by decide +kernel) (Nat.le_of_ble_eq_true rfl) (fun p e s m below meth c hx hb hr hml hlocks ht hown hin hK hH hS ls hl => ?_)
  have hl : lv_has ls 2 [(0, .ref (G.1 (.inl (0, 0)))), (1, .int x)] := hl
  refine lv_iload_n hx hb dX10_kilnOf_0 rfl (lv_at hl 1 rfl) ?_
  refine lv_iconst (v := 0) hx hb dX10_kilnOf_1 (by decide) ?_
  refine lv_aload_n hx hb dX10_kilnOf_2 rfl (lv_at hl 0 rfl) ?_
  refine hk_getr (L := (.inl (0, 0))) (v := .ref (G.1 (.inl (1, 2)))) hx hb ht hown hK hH kc_11 hG.k0 2 (by decide) rfl tw_170 rfl hG.r0_2 dX10_kilnOf_3 ?_
  refine hk_cV (L := (.inl (1, 2))) (As := []) (rest := [.int 0, .int x]) hx hb hml hl.1 ht hown hK hH hS (c_size l D G τ σ 2 hG.k1_2) ymV_Jx4a65c_size_8abf5 kc_0 hG.k1_2 tw_209 ⟨rfl, rfl⟩ ⟨Nat.le_of_ble_eq_true rfl, Nat.le_of_ble_eq_true rfl⟩ rfl rfl (Nat.le_of_ble_eq_true rfl) dX10_kilnOf_6 ⟨Nat.le_of_ble_eq_true rfl, Nat.le_of_ble_eq_true rfl⟩ (hk_ea (fun H locs hH hS => ?_))
  rw [show F_size τ 2 = τ (1, 2) 2 from rfl]
  refine lv_iconst (v := 1) hx hb dX10_kilnOf_9 (by decide) ?_
  refine lv_isub hx hb dX10_kilnOf_10 ?_
  refine hk_cS (As := [.int x, .int 0, .int ((τ (1, 2) 2) - 1)]) (rest := []) hx hb hml hl.1 ht hown hK hH hS (c_within l D G τ σ x 0 ((τ (1, 2) 2) - 1)) ymS_X10_within tw_206 ⟨rfl, rfl⟩ ⟨Nat.le_of_ble_eq_true rfl, Nat.le_of_ble_eq_true rfl⟩ rfl rfl (Nat.le_of_ble_eq_true rfl) dX10_kilnOf_11 ⟨Nat.le_of_ble_eq_true rfl, Nat.le_of_ble_eq_true rfl⟩ (hk_ea (fun H locs hH hS => ?_))
  refine lv_if_eq (tgt := 31) hx hb dX10_kilnOf_14 (by decide) (fun c_1 => ?_) (fun c_1 => ?_)
  rotate_left
  · exact absurd ho c_1
  refine lv_null hx hb dX10_kilnOf_31 ?_
  exact hk_aret hx hb hr hlocks (Or.inl ⟨_, rfl⟩) (Or.inl rfl) hH hS ⟨rfl, rfl, rfl⟩ dX10_kilnOf_32
set_option maxHeartbeats 4000000 in
set_option maxRecDepth 100000 in
theorem c_kilnOf_in (l : Launch) (D : hk_D) (G : hk_G) (Z : hk_Z) (τ σ : hk_v) (x : Int32) (hG : hk_Y D G Z) (hs : hk_sz Z τ) (ho : ¬ hk_in x 0 (τ (1, 2) 2 - 1) = 0) : Met l yX10_kilnOf (hk_ws yX10_kilnOf cX10_kilnOf 2 (some (FieldType.object "HopYard$Kiln"))) ({ frames := 3, cells := 0, slots := 0, locals := 64 }) (hk_P D G (hk_cm τ σ) [.ref (G.1 (.inl (0, 0))), .int x]) (hk_Q D (hk_e G (some (.ref (G.1 (.inl (11, x.toNatClampNeg))))) (hk_cm τ σ))) 0 0 (hk_A D) := by
  refine hk_met (by decide +kernel) (Nat.le_of_ble_eq_true rfl) (fun p e s m below meth c hx hb hr hml hlocks ht hown hin hK hH hS ls hl => ?_)
  have hl : lv_has ls 2 [(0, .ref (G.1 (.inl (0, 0)))), (1, .int x)] := hl
  refine lv_iload_n hx hb dX10_kilnOf_0 rfl (lv_at hl 1 rfl) ?_
  refine lv_iconst (v := 0) hx hb dX10_kilnOf_1 (by decide) ?_
  refine lv_aload_n hx hb dX10_kilnOf_2 rfl (lv_at hl 0 rfl) ?_
  refine hk_getr (L := (.inl (0, 0))) (v := .ref (G.1 (.inl (1, 2)))) hx hb ht hown hK hH kc_11 hG.k0 2 (by decide) rfl tw_170 rfl hG.r0_2 dX10_kilnOf_3 ?_
  refine hk_cV (L := (.inl (1, 2))) (As := []) (rest := [.int 0, .int x]) hx hb hml hl.1 ht hown hK hH hS (c_size l D G τ σ 2 hG.k1_2) ymV_Jx4a65c_size_8abf5 kc_0 hG.k1_2 tw_209 ⟨rfl, rfl⟩ ⟨Nat.le_of_ble_eq_true rfl, Nat.le_of_ble_eq_true rfl⟩ rfl rfl (Nat.le_of_ble_eq_true rfl) dX10_kilnOf_6 ⟨Nat.le_of_ble_eq_true rfl, Nat.le_of_ble_eq_true rfl⟩ (hk_ea (fun H locs hH hS => ?_))
  rw [show F_size τ 2 = τ (1, 2) 2 from rfl]
  refine lv_iconst (v := 1) hx hb dX10_kilnOf_9 (by decide) ?_
  refine lv_isub hx hb dX10_kilnOf_10 ?_
  refine hk_cS (As := [.int x, .int 0, .int ((τ (1, 2) 2) - 1)]) (rest := []) hx hb hml hl.1 ht hown hK hH hS (c_within l D G τ σ x 0 ((τ (1, 2) 2) - 1)) ymS_X10_within tw_206 ⟨rfl, rfl⟩ ⟨Nat.le_of_ble_eq_true rfl, Nat.le_of_ble_eq_true rfl⟩ rfl rfl (Nat.le_of_ble_eq_true rfl) dX10_kilnOf_11 ⟨Nat.le_of_ble_eq_true rfl, Nat.le_of_ble_eq_true rfl⟩ (hk_ea (fun H locs hH hS => ?_))
  refine lv_if_eq (tgt := 31) hx hb dX10_kilnOf_14 (by decide) (fun c_1 => ?_) (fun c_1 => ?_)
  · exact absurd c_1 ho
  refine lv_aload_n hx hb dX10_kilnOf_17 rfl (lv_at hl 0 rfl) ?_
  refine hk_getr (L := (.inl (0, 0))) (v := .ref (G.1 (.inl (1, 2)))) hx hb ht hown hK hH kc_11 hG.k0 2 (by decide) rfl tw_170 rfl hG.r0_2 dX10_kilnOf_18 ?_
  refine lv_iload_n hx hb dX10_kilnOf_21 rfl (lv_at hl 1 rfl) ?_
  refine hk_cV (L := (.inl (1, 2))) (As := [.int x]) (rest := []) hx hb hml hl.1 ht hown hK hH hS (c_lget l D G τ σ 2 x.toNatClampNeg (Z.1 2) x (.ref (G.1 (.inl (11, x.toNatClampNeg)))) hG.k1_2 (hG.a1_2 (by have h9 := (hk_in_sz hs.1.2.2 (by have := hs.2; omega) ho).1; omega)) (hG.k2_2 (by have h9 := (hk_in_sz hs.1.2.2 (by have := hs.2; omega) ho).1; omega)) (hk_in_sz hs.1.2.2 (by have := hs.2; omega) ho).2 (hk_in_sz hs.1.2.2 (by have := hs.2; omega) ho).1 (by have := hs.2; omega) (hG.a2_2 _ (hk_in_sz hs.1.2.2 (by have := hs.2; omega) ho).1) ⟨_, rfl⟩ hs.1.2.2) ymV_Jx4a65c_get_915e3 kc_0 hG.k1_2 tw_343 ⟨rfl, rfl⟩ ⟨Nat.le_of_ble_eq_true rfl, Nat.le_of_ble_eq_true rfl⟩ rfl rfl (Nat.le_of_ble_eq_true rfl) dX10_kilnOf_22 ⟨Nat.le_of_ble_eq_true rfl, Nat.le_of_ble_eq_true rfl⟩ (hk_ea (fun H locs hH hS => ?_))
  refine hk_cast (L := (.inl (11, x.toNatClampNeg))) hx hb ht hown hK hH kc_7 (hG.k11 x.toNatClampNeg (hk_in_sz hs.1.2.2 (by have := hs.2; omega) ho).1) tw_365 dX10_kilnOf_25 ?_
  refine lv_goto (tgt := 32) hx hb dX10_kilnOf_28 (by decide) ?_
  exact hk_aret hx hb hr hlocks (Or.inl ⟨_, rfl⟩) (Or.inr ⟨_, rfl⟩) hH hS ⟨rfl, rfl, rfl⟩ dX10_kilnOf_32
end
section
def hk_nt (τ : hk_v) (i : Nat) : Prop := τ (5, i) 3 = nI (τ (5, i) 3).toNatClampNeg ∧ (τ (5, i) 3).toNatClampNeg ≤ 20
theorem hk_nt.pos {τ : hk_v} {i : Nat} (h : hk_nt τ i) : ¬ τ (5, i) 3 < 0 := by rw [h.1]; exact nI_pos (by have := h.2; omega)
def hk_lo (Z : hk_Z) (τ : hk_v) : Prop := ∀ k, k < Z.1 2 → τ (11, k) 4 = nI (τ (11, k) 4).toNatClampNeg ∧ (τ (11, k) 4).toNatClampNeg ≤ Z.2.2 k ∧ Z.2.2 k ≤ 200
def hk_pr (τ : hk_v) : Prop := τ (4, 0) 2 = nI (τ (4, 0) 2).toNatClampNeg ∧ (τ (4, 0) 2).toNatClampNeg < 2 ^ 30
theorem hk_led_n {τ : hk_v} (h : hk_pr τ) : ∃ n, n ≤ 100 ∧ F_led τ = nI n := by
  unfold F_led
  rw [h.1]
  split
  · exact ⟨100, by omega, rfl⟩
  · rename_i q
    refine ⟨_, ?_, rfl⟩
    rcases Nat.lt_or_ge 100 (τ (4, 0) 2).toNatClampNeg with q2 | q2
    · exact absurd (show nI 100 < _ from nI_lt q2 (by have := h.2; omega)) q
    · exact q2
theorem hk_pk_in {τ : hk_v} {x : Int32} (h : hk_pr τ) (hc : ¬ hk_in x 0 (F_led τ - 1) = 0) : vp_in x 100 := by
  obtain ⟨n, hn, e⟩ := hk_led_n h
  obtain ⟨h1, h2⟩ := hk_in_ne hc
  obtain ⟨j, hj, rfl⟩ := nI_of h1
  rw [e] at h2
  rcases Nat.eq_zero_or_pos n with q | q
  · subst q
    exfalso
    apply h2
    rw [Int32.lt_iff_toInt_lt, nI_toInt hj, show (nI 0 - 1 : Int32).toInt = -1 from by decide]
    omega
  · rw [show (1 : Int32) = nI 1 from rfl, pk_sub q] at h2
    rcases Nat.lt_or_ge j 100 with q2 | q2
    · exact vp_in_nI q2 (by omega)
    · exact absurd (nI_lt (by omega) hj) h2
def F_waits (τ : hk_v) (v : Int32) : Int32 := (if (hk_in v 1 24) = 0 then (-1) else τ (0, 0) 9)
def T_waits (τ : hk_v) (v : Int32) : hk_v := (if (hk_in v 1 24) = 0 then τ else (hk_u τ (0, 0) 9 v))
set_option maxHeartbeats 4000000 in
set_option maxRecDepth 100000 in
theorem c_waits (l : Launch) (D : hk_D) (G : hk_G) (Z : hk_Z) (τ σ : hk_v) (v : Int32) (hG : hk_Y D G Z)  : Met l yX10_waits (hk_ws yX10_waits cX10_waits 3 (some FieldType.int)) ({ frames := 1, cells := 0, slots := 0, locals := 22 }) (hk_P D G (hk_cm τ σ) [.ref (G.1 (.inl (0, 0))), .int v]) (hk_Q D (hk_e G (some (.int (F_waits τ v))) (hk_cm (T_waits τ v) σ))) 0 0 (hk_A D) := by
  refine hk_met (by decide +kernel) (Nat.le_of_ble_eq_true rfl) (fun p e s m below meth c hx hb hr hml hlocks ht hown hin hK hH hS ls hl => ?_)
  have hl : lv_has ls 3 [(0, .ref (G.1 (.inl (0, 0)))), (1, .int v)] := hl
  refine lv_iload_n hx hb dX10_waits_0 rfl (lv_at hl 1 rfl) ?_
  refine lv_iconst (v := 1) hx hb dX10_waits_1 (by decide) ?_
  refine lv_bipush (v := 24) hx hb dX10_waits_2 (by decide) ?_
  refine hk_cS (As := [.int v, .int 1, .int 24]) (rest := []) hx hb hml hl.1 ht hown hK hH hS (c_within l D G τ σ v 1 24) ymS_X10_within tw_206 ⟨rfl, rfl⟩ ⟨Nat.le_of_ble_eq_true rfl, Nat.le_of_ble_eq_true rfl⟩ rfl rfl (Nat.le_of_ble_eq_true rfl) dX10_waits_4 ⟨Nat.le_of_ble_eq_true rfl, Nat.le_of_ble_eq_true rfl⟩ (hk_ea (fun H locs hH hS => ?_))
  refine lv_if_ne (tgt := 12) hx hb dX10_waits_7 (by decide) (fun c_1 => ?_) (fun c_1 => ?_)
  · refine lv_aload_n hx hb dX10_waits_12 rfl (lv_at hl 0 rfl) ?_
    refine hk_geti (L := (.inl (0, 0))) (v := τ (0, 0) 9) hx hb ht hown hK hH kc_11 hG.k0 9 (by decide) rfl tw_177 rfl rfl dX10_waits_13 ?_
    refine lv_istore_n (lv' := [(2, .int (τ (0, 0) 9)), (0, .ref (G.1 (.inl (0, 0)))), (1, .int v)]) hx hb dX10_waits_16 rfl hl (by decide) rfl (fun ls hl => ?_)
    refine lv_aload_n hx hb dX10_waits_17 rfl (lv_at hl 1 rfl) ?_
    refine lv_iload_n hx hb dX10_waits_18 rfl (lv_at hl 2 rfl) ?_
    refine hk_puti (L := (.inl (0, 0))) hx hb ht hown hK hH hS kc_11 hG.k0 9 (by decide) rfl tw_177 rfl (Or.inl rfl) rfl dX10_waits_19 (fun H locs hH hS => ?_)
    rw [hk_up_l] at hH
    refine lv_iload_n hx hb dX10_waits_22 rfl (lv_at hl 0 rfl) ?_
    exact hk_iret hx hb hr hlocks hH hS ⟨(by simp only [F_waits, if_neg c_1]), rfl, (by simp only [T_waits, if_neg c_1])⟩ dX10_waits_23
  · refine lv_iconst (v := -1) hx hb dX10_waits_10 (by decide) ?_
    exact hk_iret hx hb hr hlocks hH hS ⟨(by simp only [F_waits, if_pos c_1]), rfl, (by simp only [T_waits, if_pos c_1])⟩ dX10_waits_11
theorem ymV_X10_gangOf : hk_mV yX10_gangOf cX10_gangOf 2 (some (FieldType.object "HopYard$Gang")) RX10 1 := ⟨tw_342, tw_341, tw_3, tw_34, rfl, by decide, by decide, by decide +kernel⟩
theorem ymV_X10_gardenOf : hk_mV yX10_gardenOf cX10_gardenOf 2 (some (FieldType.object "HopYard$Garden")) RX10 1 := ⟨tw_360, tw_359, tw_4, tw_34, rfl, by decide, by decide, by decide +kernel⟩
def F_sends (τ : hk_v) (g : Int32) (d : Int32) : Int32 := (if hk_in g 0 (τ (1, 1) 2 - 1) = 0 then (-2) else (if d = (-9) then τ (10, g.toNatClampNeg) 2 else (if hk_in d 0 (τ (1, 0) 2 - 1) = 0 then (-2) else τ (10, g.toNatClampNeg) 2)))
def T_sends (τ : hk_v) (g : Int32) (d : Int32) : hk_v := (if hk_in g 0 (τ (1, 1) 2 - 1) = 0 then τ else (if d = (-9) then (hk_u τ (10, g.toNatClampNeg) 2 d) else (if hk_in d 0 (τ (1, 0) 2 - 1) = 0 then τ else (hk_u τ (10, g.toNatClampNeg) 2 d))))
set_option maxHeartbeats 4000000 in
set_option maxRecDepth 100000 in
theorem c_sends (l : Launch) (D : hk_D) (G : hk_G) (Z : hk_Z) (τ σ : hk_v) (g : Int32) (d : Int32) (hG : hk_Y D G Z) (hs : hk_sz Z τ) : Met l yX10_sends (hk_ws yX10_sends cX10_sends 5 (some FieldType.int)) ({ frames := 4, cells := 0, slots := 0, locals := 85 }) (hk_P D G (hk_cm τ σ) [.ref (G.1 (.inl (0, 0))), .int g, .int d]) (hk_Q D (hk_e G (some (.int (F_sends τ g d))) (hk_cm (T_sends τ g d) σ))) 0 0 (hk_A D) := by
  refine hk_met (by decide +kernel) (Nat.le_of_ble_eq_true rfl) (fun p e s m below meth c hx hb hr hml hlocks ht hown hin hK hH hS ls hl => ?_)
  have hl : lv_has ls 5 [(0, .ref (G.1 (.inl (0, 0)))), (1, .int g), (2, .int d)] := hl
  refine lv_aload_n hx hb dX10_sends_0 rfl (lv_at hl 0 rfl) ?_
  refine lv_iload_n hx hb dX10_sends_1 rfl (lv_at hl 1 rfl) ?_
  by_cases ho_1 : hk_in g 0 (τ (1, 1) 2 - 1) = 0
  · refine hk_cV (L := (.inl (0, 0))) (As := [.int g]) (rest := []) hx hb hml hl.1 ht hown hK hH hS (c_gangOf_out l D G Z τ σ g hG hs ho_1) ymV_X10_gangOf kc_11 hG.k0 tw_339 ⟨rfl, rfl⟩ ⟨Nat.le_of_ble_eq_true rfl, Nat.le_of_ble_eq_true rfl⟩ rfl rfl (Nat.le_of_ble_eq_true rfl) dX10_sends_2 ⟨Nat.le_of_ble_eq_true rfl, Nat.le_of_ble_eq_true rfl⟩ (hk_ea (fun H locs hH hS => ?_))
    refine lv_astore_nN (lv' := [(3, .null), (0, .ref (G.1 (.inl (0, 0)))), (1, .int g), (2, .int d)]) hx hb dX10_sends_5 rfl hl (by decide) rfl (fun ls hl => ?_)
    refine lv_aload_nN hx hb dX10_sends_6 rfl (lv_at hl 0 rfl) ?_
    refine lv_ifnonnullN hx hb dX10_sends_7 ?_
    refine lv_bipush (v := -2) hx hb dX10_sends_10 (by decide) ?_
    exact hk_iret hx hb hr hlocks hH hS ⟨(by simp only [F_sends, if_pos ho_1]), rfl, (by simp only [T_sends, if_pos ho_1])⟩ dX10_sends_12
  · refine hk_cV (L := (.inl (0, 0))) (As := [.int g]) (rest := []) hx hb hml hl.1 ht hown hK hH hS (c_gangOf_in l D G Z τ σ g hG hs ho_1) ymV_X10_gangOf kc_11 hG.k0 tw_339 ⟨rfl, rfl⟩ ⟨Nat.le_of_ble_eq_true rfl, Nat.le_of_ble_eq_true rfl⟩ rfl rfl (Nat.le_of_ble_eq_true rfl) dX10_sends_2 ⟨Nat.le_of_ble_eq_true rfl, Nat.le_of_ble_eq_true rfl⟩ (hk_ea (fun H locs hH hS => ?_))
    refine lv_astore_n (lv' := [(3, .ref (G.1 (.inl (10, g.toNatClampNeg)))), (0, .ref (G.1 (.inl (0, 0)))), (1, .int g), (2, .int d)]) hx hb dX10_sends_5 rfl hl (by decide) rfl (fun ls hl => ?_)
    refine lv_aload_n hx hb dX10_sends_6 rfl (lv_at hl 0 rfl) ?_
    refine lv_ifnonnull (tgt := 13) hx hb dX10_sends_7 (by decide) ?_
    refine lv_iload_n hx hb dX10_sends_13 rfl (lv_at hl 3 rfl) ?_
    refine lv_bipush (v := -9) hx hb dX10_sends_14 (by decide) ?_
    refine lv_icmp_eq (tgt := 30) hx hb dX10_sends_16 (by decide) (fun c_2 => ?_) (fun c_2 => ?_)
    · refine lv_aload_n hx hb dX10_sends_30 rfl (lv_at hl 0 rfl) ?_
      refine hk_geti (L := (.inl (10, g.toNatClampNeg))) (v := τ (10, g.toNatClampNeg) 2) hx hb ht hown hK hH kc_4 (hG.k10 g.toNatClampNeg (hk_in_sz hs.1.2.1 (by have := hs.2; omega) ho_1).1) 2 (by decide) rfl tw_315 rfl rfl dX10_sends_31 ?_
      refine lv_istore (lv' := [(4, .int (τ (10, g.toNatClampNeg) 2)), (3, .ref (G.1 (.inl (10, g.toNatClampNeg)))), (0, .ref (G.1 (.inl (0, 0)))), (1, .int g), (2, .int d)]) hx hb dX10_sends_34 hl (by decide) rfl (fun ls hl => ?_)
      refine lv_aload_n hx hb dX10_sends_36 rfl (lv_at hl 1 rfl) ?_
      refine lv_iload_n hx hb dX10_sends_37 rfl (lv_at hl 4 rfl) ?_
      refine hk_puti (L := (.inl (10, g.toNatClampNeg))) hx hb ht hown hK hH hS kc_4 (hG.k10 g.toNatClampNeg (hk_in_sz hs.1.2.1 (by have := hs.2; omega) ho_1).1) 2 (by decide) rfl tw_315 rfl (Or.inl rfl) rfl dX10_sends_38 (fun H locs hH hS => ?_)
      rw [hk_up_l] at hH
      refine lv_iload hx hb dX10_sends_41 (lv_at hl 0 rfl) ?_
      exact hk_iret hx hb hr hlocks hH hS ⟨(by simp only [F_sends, if_neg ho_1, if_pos c_2]), rfl, (by simp only [T_sends, if_neg ho_1, if_pos c_2])⟩ dX10_sends_43
    · refine lv_aload_n hx hb dX10_sends_19 rfl (lv_at hl 1 rfl) ?_
      refine lv_iload_n hx hb dX10_sends_20 rfl (lv_at hl 3 rfl) ?_
      by_cases ho_3 : hk_in d 0 (τ (1, 0) 2 - 1) = 0
      · refine hk_cV (L := (.inl (0, 0))) (As := [.int d]) (rest := []) hx hb hml hl.1 ht hown hK hH hS (c_gardenOf_out l D G Z τ σ d hG hs ho_3) ymV_X10_gardenOf kc_11 hG.k0 tw_357 ⟨rfl, rfl⟩ ⟨Nat.le_of_ble_eq_true rfl, Nat.le_of_ble_eq_true rfl⟩ rfl rfl (Nat.le_of_ble_eq_true rfl) dX10_sends_21 ⟨Nat.le_of_ble_eq_true rfl, Nat.le_of_ble_eq_true rfl⟩ (hk_ea (fun H locs hH hS => ?_))
        refine lv_ifnonnullN hx hb dX10_sends_24 ?_
        refine lv_bipush (v := -2) hx hb dX10_sends_27 (by decide) ?_
        exact hk_iret hx hb hr hlocks hH hS ⟨(by simp only [F_sends, if_neg ho_1, if_neg c_2, if_pos ho_3]), rfl, (by simp only [T_sends, if_neg ho_1, if_neg c_2, if_pos ho_3])⟩ dX10_sends_29
      · refine hk_cV (L := (.inl (0, 0))) (As := [.int d]) (rest := []) hx hb hml hl.1 ht hown hK hH hS (c_gardenOf_in l D G Z τ σ d hG hs ho_3) ymV_X10_gardenOf kc_11 hG.k0 tw_357 ⟨rfl, rfl⟩ ⟨Nat.le_of_ble_eq_true rfl, Nat.le_of_ble_eq_true rfl⟩ rfl rfl (Nat.le_of_ble_eq_true rfl) dX10_sends_21 ⟨Nat.le_of_ble_eq_true rfl, Nat.le_of_ble_eq_true rfl⟩ (hk_ea (fun H locs hH hS => ?_))
        refine lv_ifnonnull (tgt := 30) hx hb dX10_sends_24 (by decide) ?_
        refine lv_aload_n hx hb dX10_sends_30 rfl (lv_at hl 0 rfl) ?_
        refine hk_geti (L := (.inl (10, g.toNatClampNeg))) (v := τ (10, g.toNatClampNeg) 2) hx hb ht hown hK hH kc_4 (hG.k10 g.toNatClampNeg (hk_in_sz hs.1.2.1 (by have := hs.2; omega) ho_1).1) 2 (by decide) rfl tw_315 rfl rfl dX10_sends_31 ?_
        refine lv_istore (lv' := [(4, .int (τ (10, g.toNatClampNeg) 2)), (3, .ref (G.1 (.inl (10, g.toNatClampNeg)))), (0, .ref (G.1 (.inl (0, 0)))), (1, .int g), (2, .int d)]) hx hb dX10_sends_34 hl (by decide) rfl (fun ls hl => ?_)
        refine lv_aload_n hx hb dX10_sends_36 rfl (lv_at hl 1 rfl) ?_
        refine lv_iload_n hx hb dX10_sends_37 rfl (lv_at hl 4 rfl) ?_
        refine hk_puti (L := (.inl (10, g.toNatClampNeg))) hx hb ht hown hK hH hS kc_4 (hG.k10 g.toNatClampNeg (hk_in_sz hs.1.2.1 (by have := hs.2; omega) ho_1).1) 2 (by decide) rfl tw_315 rfl (Or.inl rfl) rfl dX10_sends_38 (fun H locs hH hS => ?_)
        rw [hk_up_l] at hH
        refine lv_iload hx hb dX10_sends_41 (lv_at hl 0 rfl) ?_
        exact hk_iret hx hb hr hlocks hH hS ⟨(by simp only [F_sends, if_neg ho_1, if_neg c_2, if_neg ho_3]), rfl, (by simp only [T_sends, if_neg ho_1, if_neg c_2, if_neg ho_3])⟩ dX10_sends_43
theorem ymV_X10_kilnOf : hk_mV yX10_kilnOf cX10_kilnOf 2 (some (FieldType.object "HopYard$Kiln")) RX10 1 := ⟨tw_434, tw_433, tw_5, tw_34, rfl, by decide, by decide, by decide +kernel⟩
def F_read (τ : hk_v) (k : Int32) (x : Int32) : Int32 := (if hk_in k 0 (τ (1, 2) 2 - 1) = 0 then (-1) else (if x = (-9) then τ (11, k.toNatClampNeg) 7 else (if (hk_in x 0 100) = 0 then (-1) else τ (11, k.toNatClampNeg) 7)))
def T_read (τ : hk_v) (k : Int32) (x : Int32) : hk_v := (if hk_in k 0 (τ (1, 2) 2 - 1) = 0 then τ else (if x = (-9) then τ else (if (hk_in x 0 100) = 0 then τ else (hk_u τ (11, k.toNatClampNeg) 7 x))))
set_option maxHeartbeats 4000000 in
set_option maxRecDepth 100000 in
theorem c_read (l : Launch) (D : hk_D) (G : hk_G) (Z : hk_Z) (τ σ : hk_v) (k : Int32) (x : Int32) (hG : hk_Y D G Z) (hs : hk_sz Z τ) : Met l yX10_read (hk_ws yX10_read cX10_read 5 (some FieldType.int)) ({ frames := 4, cells := 0, slots := 0, locals := 85 }) (hk_P D G (hk_cm τ σ) [.ref (G.1 (.inl (0, 0))), .int k, .int x]) (hk_Q D (hk_e G (some (.int (F_read τ k x))) (hk_cm (T_read τ k x) σ))) 0 0 (hk_A D) := by
  refine hk_met (by decide +kernel) (Nat.le_of_ble_eq_true rfl) (fun p e s m below meth c hx hb hr hml hlocks ht hown hin hK hH hS ls hl => ?_)
  have hl : lv_has ls 5 [(0, .ref (G.1 (.inl (0, 0)))), (1, .int k), (2, .int x)] := hl
  refine lv_aload_n hx hb dX10_read_0 rfl (lv_at hl 0 rfl) ?_
  refine lv_iload_n hx hb dX10_read_1 rfl (lv_at hl 1 rfl) ?_
  by_cases ho_1 : hk_in k 0 (τ (1, 2) 2 - 1) = 0
  · refine hk_cV (L := (.inl (0, 0))) (As := [.int k]) (rest := []) hx hb hml hl.1 ht hown hK hH hS (c_kilnOf_out l D G Z τ σ k hG hs ho_1) ymV_X10_kilnOf kc_11 hG.k0 tw_431 ⟨rfl, rfl⟩ ⟨Nat.le_of_ble_eq_true rfl, Nat.le_of_ble_eq_true rfl⟩ rfl rfl (Nat.le_of_ble_eq_true rfl) dX10_read_2 ⟨Nat.le_of_ble_eq_true rfl, Nat.le_of_ble_eq_true rfl⟩ (hk_ea (fun H locs hH hS => ?_))
    refine lv_astore_nN (lv' := [(3, .null), (0, .ref (G.1 (.inl (0, 0)))), (1, .int k), (2, .int x)]) hx hb dX10_read_5 rfl hl (by decide) rfl (fun ls hl => ?_)
    refine lv_aload_nN hx hb dX10_read_6 rfl (lv_at hl 0 rfl) ?_
    refine lv_ifnonnullN hx hb dX10_read_7 ?_
    refine lv_iconst (v := -1) hx hb dX10_read_10 (by decide) ?_
    exact hk_iret hx hb hr hlocks hH hS ⟨(by simp only [F_read, if_pos ho_1]), rfl, (by simp only [T_read, if_pos ho_1])⟩ dX10_read_11
  · refine hk_cV (L := (.inl (0, 0))) (As := [.int k]) (rest := []) hx hb hml hl.1 ht hown hK hH hS (c_kilnOf_in l D G Z τ σ k hG hs ho_1) ymV_X10_kilnOf kc_11 hG.k0 tw_431 ⟨rfl, rfl⟩ ⟨Nat.le_of_ble_eq_true rfl, Nat.le_of_ble_eq_true rfl⟩ rfl rfl (Nat.le_of_ble_eq_true rfl) dX10_read_2 ⟨Nat.le_of_ble_eq_true rfl, Nat.le_of_ble_eq_true rfl⟩ (hk_ea (fun H locs hH hS => ?_))
    refine lv_astore_n (lv' := [(3, .ref (G.1 (.inl (11, k.toNatClampNeg)))), (0, .ref (G.1 (.inl (0, 0)))), (1, .int k), (2, .int x)]) hx hb dX10_read_5 rfl hl (by decide) rfl (fun ls hl => ?_)
    refine lv_aload_n hx hb dX10_read_6 rfl (lv_at hl 0 rfl) ?_
    refine lv_ifnonnull (tgt := 12) hx hb dX10_read_7 (by decide) ?_
    refine lv_iload_n hx hb dX10_read_12 rfl (lv_at hl 3 rfl) ?_
    refine lv_bipush (v := -9) hx hb dX10_read_13 (by decide) ?_
    refine lv_icmp_eq (tgt := 30) hx hb dX10_read_15 (by decide) (fun c_2 => ?_) (fun c_2 => ?_)
    · refine lv_aload_n hx hb dX10_read_30 rfl (lv_at hl 0 rfl) ?_
      refine hk_geti (L := (.inl (11, k.toNatClampNeg))) (v := τ (11, k.toNatClampNeg) 7) hx hb ht hown hK hH kc_7 (hG.k11 k.toNatClampNeg (hk_in_sz hs.1.2.2 (by have := hs.2; omega) ho_1).1) 7 (by decide) rfl tw_409 rfl rfl dX10_read_31 ?_
      refine lv_istore (lv' := [(4, .int (τ (11, k.toNatClampNeg) 7)), (3, .ref (G.1 (.inl (11, k.toNatClampNeg)))), (0, .ref (G.1 (.inl (0, 0)))), (1, .int k), (2, .int x)]) hx hb dX10_read_34 hl (by decide) rfl (fun ls hl => ?_)
      refine lv_iload_n hx hb dX10_read_36 rfl (lv_at hl 4 rfl) ?_
      refine lv_bipush (v := -9) hx hb dX10_read_37 (by decide) ?_
      refine lv_icmp_eq (tgt := 47) hx hb dX10_read_39 (by decide) (fun c_3 => ?_) (fun c_3 => ?_)
      rotate_left
      · exfalso; first | exact absurd c_3 c_2 | exact absurd c_2 c_3
      refine lv_iload hx hb dX10_read_47 (lv_at hl 0 rfl) ?_
      exact hk_iret hx hb hr hlocks hH hS ⟨(by simp only [F_read, if_neg ho_1, if_pos c_2]), rfl, (by simp only [T_read, if_neg ho_1, if_pos c_2])⟩ dX10_read_49
    · refine lv_iload_n hx hb dX10_read_18 rfl (lv_at hl 3 rfl) ?_
      refine lv_iconst (v := 0) hx hb dX10_read_19 (by decide) ?_
      refine lv_bipush (v := 100) hx hb dX10_read_20 (by decide) ?_
      refine hk_cS (As := [.int x, .int 0, .int 100]) (rest := []) hx hb hml hl.1 ht hown hK hH hS (c_within l D G τ σ x 0 100) ymS_X10_within tw_206 ⟨rfl, rfl⟩ ⟨Nat.le_of_ble_eq_true rfl, Nat.le_of_ble_eq_true rfl⟩ rfl rfl (Nat.le_of_ble_eq_true rfl) dX10_read_22 ⟨Nat.le_of_ble_eq_true rfl, Nat.le_of_ble_eq_true rfl⟩ (hk_ea (fun H locs hH hS => ?_))
      refine lv_if_ne (tgt := 30) hx hb dX10_read_25 (by decide) (fun c_4 => ?_) (fun c_4 => ?_)
      · refine lv_aload_n hx hb dX10_read_30 rfl (lv_at hl 0 rfl) ?_
        refine hk_geti (L := (.inl (11, k.toNatClampNeg))) (v := τ (11, k.toNatClampNeg) 7) hx hb ht hown hK hH kc_7 (hG.k11 k.toNatClampNeg (hk_in_sz hs.1.2.2 (by have := hs.2; omega) ho_1).1) 7 (by decide) rfl tw_409 rfl rfl dX10_read_31 ?_
        refine lv_istore (lv' := [(4, .int (τ (11, k.toNatClampNeg) 7)), (3, .ref (G.1 (.inl (11, k.toNatClampNeg)))), (0, .ref (G.1 (.inl (0, 0)))), (1, .int k), (2, .int x)]) hx hb dX10_read_34 hl (by decide) rfl (fun ls hl => ?_)
        refine lv_iload_n hx hb dX10_read_36 rfl (lv_at hl 4 rfl) ?_
        refine lv_bipush (v := -9) hx hb dX10_read_37 (by decide) ?_
        refine lv_icmp_eq (tgt := 47) hx hb dX10_read_39 (by decide) (fun c_5 => ?_) (fun c_5 => ?_)
        · exfalso; first | exact absurd c_5 c_2 | exact absurd c_2 c_5
        refine lv_aload_n hx hb dX10_read_42 rfl (lv_at hl 1 rfl) ?_
        refine lv_iload_n hx hb dX10_read_43 rfl (lv_at hl 4 rfl) ?_
        refine hk_puti (L := (.inl (11, k.toNatClampNeg))) hx hb ht hown hK hH hS kc_7 (hG.k11 k.toNatClampNeg (hk_in_sz hs.1.2.2 (by have := hs.2; omega) ho_1).1) 7 (by decide) rfl tw_409 rfl (Or.inl rfl) rfl dX10_read_44 (fun H locs hH hS => ?_)
        rw [hk_up_l] at hH
        refine lv_iload hx hb dX10_read_47 (lv_at hl 0 rfl) ?_
        exact hk_iret hx hb hr hlocks hH hS ⟨(by simp only [F_read, if_neg ho_1, if_neg c_2, if_neg c_4]), rfl, (by simp only [T_read, if_neg ho_1, if_neg c_2, if_neg c_4])⟩ dX10_read_49
      · refine lv_iconst (v := -1) hx hb dX10_read_28 (by decide) ?_
        exact hk_iret hx hb hr hlocks hH hS ⟨(by simp only [F_read, if_neg ho_1, if_neg c_2, if_pos c_4]), rfl, (by simp only [T_read, if_neg ho_1, if_neg c_2, if_pos c_4])⟩ dX10_read_29
theorem ymV_X7_tell : hk_mV yX7_tell cX7_tell 3 (some FieldType.boolean) RX7 2 := ⟨tw_628, tw_626, tw_627, tw_40, rfl, by decide, by decide, by decide +kernel⟩
def F_price (τ : hk_v) (h : Int32) (v : Int32) : Int32 := (if (hk_in h (τ (0, 0) 8) 480) = 0 then (-1) else (if (hk_in v 1 50) = 0 then (-1) else (if (F_tell τ 0 h v) = 0 then (-3) else 1)))
def T_price (τ : hk_v) (h : Int32) (v : Int32) : hk_v := (if (hk_in h (τ (0, 0) 8) 480) = 0 then τ else (if (hk_in v 1 50) = 0 then τ else (T_tell τ 0 h v)))
set_option maxHeartbeats 4000000 in
set_option maxRecDepth 100000 in
theorem c_price (l : Launch) (D : hk_D) (G : hk_G) (Z : hk_Z) (τ σ : hk_v) (h : Int32) (v : Int32) (hG : hk_Y D G Z) (hn0 : hk_nt τ 0) : Met l yX10_price (hk_ws yX10_price cX10_price 3 (some FieldType.int)) ({ frames := 1, cells := 0, slots := 0, locals := 22 }) (hk_P D G (hk_cm τ σ) [.ref (G.1 (.inl (0, 0))), .int h, .int v]) (hk_Q D (hk_e G (some (.int (F_price τ h v))) (hk_cm (T_price τ h v) σ))) 0 0 (hk_A D) := by
  refine hk_met (by decide +kernel) (Nat.le_of_ble_eq_true rfl) (fun p e s m below meth c hx hb hr hml hlocks ht hown hin hK hH hS ls hl => ?_)
  have hl : lv_has ls 3 [(0, .ref (G.1 (.inl (0, 0)))), (1, .int h), (2, .int v)] := hl
  refine lv_iload_n hx hb dX10_price_0 rfl (lv_at hl 1 rfl) ?_
  refine lv_aload_n hx hb dX10_price_1 rfl (lv_at hl 0 rfl) ?_
  refine hk_geti (L := (.inl (0, 0))) (v := τ (0, 0) 8) hx hb ht hown hK hH kc_11 hG.k0 8 (by decide) rfl tw_176 rfl rfl dX10_price_2 ?_
  refine lv_sipush (v := 480) hx hb dX10_price_5 (by decide) ?_
  refine hk_cS (As := [.int h, .int (τ (0, 0) 8), .int 480]) (rest := []) hx hb hml hl.1 ht hown hK hH hS (c_within l D G τ σ h (τ (0, 0) 8) 480) ymS_X10_within tw_206 ⟨rfl, rfl⟩ ⟨Nat.le_of_ble_eq_true rfl, Nat.le_of_ble_eq_true rfl⟩ rfl rfl (Nat.le_of_ble_eq_true rfl) dX10_price_8 ⟨Nat.le_of_ble_eq_true rfl, Nat.le_of_ble_eq_true rfl⟩ (hk_ea (fun H locs hH hS => ?_))
  refine lv_if_eq (tgt := 24) hx hb dX10_price_11 (by decide) (fun c_1 => ?_) (fun c_1 => ?_)
  · refine lv_iconst (v := -1) hx hb dX10_price_24 (by decide) ?_
    exact hk_iret hx hb hr hlocks hH hS ⟨(by simp only [F_price, if_pos c_1]), rfl, (by simp only [T_price, if_pos c_1])⟩ dX10_price_25
  · refine lv_iload_n hx hb dX10_price_14 rfl (lv_at hl 2 rfl) ?_
    refine lv_iconst (v := 1) hx hb dX10_price_15 (by decide) ?_
    refine lv_bipush (v := 50) hx hb dX10_price_16 (by decide) ?_
    refine hk_cS (As := [.int v, .int 1, .int 50]) (rest := []) hx hb hml hl.1 ht hown hK hH hS (c_within l D G τ σ v 1 50) ymS_X10_within tw_206 ⟨rfl, rfl⟩ ⟨Nat.le_of_ble_eq_true rfl, Nat.le_of_ble_eq_true rfl⟩ rfl rfl (Nat.le_of_ble_eq_true rfl) dX10_price_18 ⟨Nat.le_of_ble_eq_true rfl, Nat.le_of_ble_eq_true rfl⟩ (hk_ea (fun H locs hH hS => ?_))
    refine lv_if_ne (tgt := 26) hx hb dX10_price_21 (by decide) (fun c_2 => ?_) (fun c_2 => ?_)
    · refine lv_aload_n hx hb dX10_price_26 rfl (lv_at hl 0 rfl) ?_
      refine hk_getr (L := (.inl (0, 0))) (v := .ref (G.1 (.inl (5, 0)))) hx hb ht hown hK hH kc_11 hG.k0 5 (by decide) rfl tw_173 rfl hG.r0_5 dX10_price_27 ?_
      refine lv_iload_n hx hb dX10_price_30 rfl (lv_at hl 1 rfl) ?_
      refine lv_iload_n hx hb dX10_price_31 rfl (lv_at hl 2 rfl) ?_
      refine hk_cV (L := (.inl (5, 0))) (As := [.int h, .int v]) (rest := []) hx hb hml hl.1 ht hown hK hH hS (c_tell l D G Z τ σ 0 h v hG (by decide) hn0.pos) ymV_X7_tell kc_8 (hG.k5 0 (by decide)) tw_625 ⟨rfl, rfl⟩ ⟨Nat.le_of_ble_eq_true rfl, Nat.le_of_ble_eq_true rfl⟩ rfl rfl (Nat.le_of_ble_eq_true rfl) dX10_price_32 ⟨Nat.le_of_ble_eq_true rfl, Nat.le_of_ble_eq_true rfl⟩ (hk_ea (fun H locs hH hS => ?_))
      refine lv_if_eq (tgt := 42) hx hb dX10_price_35 (by decide) (fun c_3 => ?_) (fun c_3 => ?_)
      · refine lv_bipush (v := -3) hx hb dX10_price_42 (by decide) ?_
        exact hk_iret hx hb hr hlocks hH hS ⟨(by simp only [F_price, if_neg c_1, if_neg c_2, if_pos c_3]), rfl, (by simp only [T_price, if_neg c_1, if_neg c_2, if_pos c_3])⟩ dX10_price_44
      · refine lv_iconst (v := 1) hx hb dX10_price_38 (by decide) ?_
        refine lv_goto (tgt := 44) hx hb dX10_price_39 (by decide) ?_
        exact hk_iret hx hb hr hlocks hH hS ⟨(by simp only [F_price, if_neg c_1, if_neg c_2, if_neg c_3]), rfl, (by simp only [T_price, if_neg c_1, if_neg c_2, if_neg c_3])⟩ dX10_price_44
    · refine lv_iconst (v := -1) hx hb dX10_price_24 (by decide) ?_
      exact hk_iret hx hb hr hlocks hH hS ⟨(by simp only [F_price, if_neg c_1, if_pos c_2]), rfl, (by simp only [T_price, if_neg c_1, if_pos c_2])⟩ dX10_price_25
def F_act (τ : hk_v) (d : Int32) (v : Int32) : Int32 := (if (hk_in d 0 40) = 0 then (-1) else (if (hk_in v 0 100) = 0 then (-1) else (if (τ (0, 0) 8) < (d * 12) then (if (F_tell τ 1 d v) = 0 then (-3) else 1) else (-2))))
def T_act (τ : hk_v) (d : Int32) (v : Int32) : hk_v := (if (hk_in d 0 40) = 0 then τ else (if (hk_in v 0 100) = 0 then τ else (if (τ (0, 0) 8) < (d * 12) then (T_tell τ 1 d v) else τ)))
set_option maxHeartbeats 4000000 in
set_option maxRecDepth 100000 in
theorem c_act (l : Launch) (D : hk_D) (G : hk_G) (Z : hk_Z) (τ σ : hk_v) (d : Int32) (v : Int32) (hG : hk_Y D G Z) (hn1 : hk_nt τ 1) : Met l yX10_act (hk_ws yX10_act cX10_act 3 (some FieldType.int)) ({ frames := 1, cells := 0, slots := 0, locals := 22 }) (hk_P D G (hk_cm τ σ) [.ref (G.1 (.inl (0, 0))), .int d, .int v]) (hk_Q D (hk_e G (some (.int (F_act τ d v))) (hk_cm (T_act τ d v) σ))) 0 0 (hk_A D) := by
  refine hk_met (by decide +kernel) (Nat.le_of_ble_eq_true rfl) (fun p e s m below meth c hx hb hr hml hlocks ht hown hin hK hH hS ls hl => ?_)
  have hl : lv_has ls 3 [(0, .ref (G.1 (.inl (0, 0)))), (1, .int d), (2, .int v)] := hl
  refine lv_iload_n hx hb dX10_act_0 rfl (lv_at hl 1 rfl) ?_
  refine lv_iconst (v := 0) hx hb dX10_act_1 (by decide) ?_
  refine lv_bipush (v := 40) hx hb dX10_act_2 (by decide) ?_
  refine hk_cS (As := [.int d, .int 0, .int 40]) (rest := []) hx hb hml hl.1 ht hown hK hH hS (c_within l D G τ σ d 0 40) ymS_X10_within tw_206 ⟨rfl, rfl⟩ ⟨Nat.le_of_ble_eq_true rfl, Nat.le_of_ble_eq_true rfl⟩ rfl rfl (Nat.le_of_ble_eq_true rfl) dX10_act_4 ⟨Nat.le_of_ble_eq_true rfl, Nat.le_of_ble_eq_true rfl⟩ (hk_ea (fun H locs hH hS => ?_))
  refine lv_if_eq (tgt := 20) hx hb dX10_act_7 (by decide) (fun c_1 => ?_) (fun c_1 => ?_)
  · refine lv_iconst (v := -1) hx hb dX10_act_20 (by decide) ?_
    exact hk_iret hx hb hr hlocks hH hS ⟨(by simp only [F_act, if_pos c_1]), rfl, (by simp only [T_act, if_pos c_1])⟩ dX10_act_21
  · refine lv_iload_n hx hb dX10_act_10 rfl (lv_at hl 2 rfl) ?_
    refine lv_iconst (v := 0) hx hb dX10_act_11 (by decide) ?_
    refine lv_bipush (v := 100) hx hb dX10_act_12 (by decide) ?_
    refine hk_cS (As := [.int v, .int 0, .int 100]) (rest := []) hx hb hml hl.1 ht hown hK hH hS (c_within l D G τ σ v 0 100) ymS_X10_within tw_206 ⟨rfl, rfl⟩ ⟨Nat.le_of_ble_eq_true rfl, Nat.le_of_ble_eq_true rfl⟩ rfl rfl (Nat.le_of_ble_eq_true rfl) dX10_act_14 ⟨Nat.le_of_ble_eq_true rfl, Nat.le_of_ble_eq_true rfl⟩ (hk_ea (fun H locs hH hS => ?_))
    refine lv_if_ne (tgt := 22) hx hb dX10_act_17 (by decide) (fun c_2 => ?_) (fun c_2 => ?_)
    · refine lv_iload_n hx hb dX10_act_22 rfl (lv_at hl 1 rfl) ?_
      refine lv_bipush (v := 12) hx hb dX10_act_23 (by decide) ?_
      refine lv_imul hx hb dX10_act_25 ?_
      refine lv_aload_n hx hb dX10_act_26 rfl (lv_at hl 0 rfl) ?_
      refine hk_geti (L := (.inl (0, 0))) (v := τ (0, 0) 8) hx hb ht hown hK hH kc_11 hG.k0 8 (by decide) rfl tw_176 rfl rfl dX10_act_27 ?_
      refine lv_icmp_gt (tgt := 36) hx hb dX10_act_30 (by decide) (fun c_3 => ?_) (fun c_3 => ?_)
      · refine lv_aload_n hx hb dX10_act_36 rfl (lv_at hl 0 rfl) ?_
        refine hk_getr (L := (.inl (0, 0))) (v := .ref (G.1 (.inl (5, 1)))) hx hb ht hown hK hH kc_11 hG.k0 6 (by decide) rfl tw_174 rfl hG.r0_6 dX10_act_37 ?_
        refine lv_iload_n hx hb dX10_act_40 rfl (lv_at hl 1 rfl) ?_
        refine lv_iload_n hx hb dX10_act_41 rfl (lv_at hl 2 rfl) ?_
        refine hk_cV (L := (.inl (5, 1))) (As := [.int d, .int v]) (rest := []) hx hb hml hl.1 ht hown hK hH hS (c_tell l D G Z τ σ 1 d v hG (by decide) hn1.pos) ymV_X7_tell kc_8 (hG.k5 1 (by decide)) tw_625 ⟨rfl, rfl⟩ ⟨Nat.le_of_ble_eq_true rfl, Nat.le_of_ble_eq_true rfl⟩ rfl rfl (Nat.le_of_ble_eq_true rfl) dX10_act_42 ⟨Nat.le_of_ble_eq_true rfl, Nat.le_of_ble_eq_true rfl⟩ (hk_ea (fun H locs hH hS => ?_))
        refine lv_if_eq (tgt := 52) hx hb dX10_act_45 (by decide) (fun c_4 => ?_) (fun c_4 => ?_)
        · refine lv_bipush (v := -3) hx hb dX10_act_52 (by decide) ?_
          exact hk_iret hx hb hr hlocks hH hS ⟨(by simp only [F_act, if_neg c_1, if_neg c_2, if_pos c_3, if_pos c_4]), rfl, (by simp only [T_act, if_neg c_1, if_neg c_2, if_pos c_3, if_pos c_4])⟩ dX10_act_54
        · refine lv_iconst (v := 1) hx hb dX10_act_48 (by decide) ?_
          refine lv_goto (tgt := 54) hx hb dX10_act_49 (by decide) ?_
          exact hk_iret hx hb hr hlocks hH hS ⟨(by simp only [F_act, if_neg c_1, if_neg c_2, if_pos c_3, if_neg c_4]), rfl, (by simp only [T_act, if_neg c_1, if_neg c_2, if_pos c_3, if_neg c_4])⟩ dX10_act_54
      · refine lv_bipush (v := -2) hx hb dX10_act_33 (by decide) ?_
        exact hk_iret hx hb hr hlocks hH hS ⟨(by simp only [F_act, if_neg c_1, if_neg c_2, if_neg c_3]), rfl, (by simp only [T_act, if_neg c_1, if_neg c_2, if_neg c_3])⟩ dX10_act_35
    · refine lv_iconst (v := -1) hx hb dX10_act_20 (by decide) ?_
      exact hk_iret hx hb hr hlocks hH hS ⟨(by simp only [F_act, if_neg c_1, if_pos c_2]), rfl, (by simp only [T_act, if_neg c_1, if_pos c_2])⟩ dX10_act_21
theorem ymV_X7_inForce : hk_mV yX7_inForce cX7_inForce 5 (some FieldType.int) RX7 1 := ⟨tw_485, tw_483, tw_484, tw_40, rfl, by decide, by decide, by decide +kernel⟩
def F_priced (τ : hk_v) (h : Int32) : Int32 := (if (hk_in h 0 480) = 0 then (-1) else F_inForce τ 0 (τ (5, 0) 3).toNatClampNeg h)
set_option maxHeartbeats 4000000 in
set_option maxRecDepth 100000 in
theorem c_priced (l : Launch) (D : hk_D) (G : hk_G) (Z : hk_Z) (τ σ : hk_v) (h : Int32) (hG : hk_Y D G Z) (hn0 : hk_nt τ 0) : Met l yX10_priced (hk_ws yX10_priced cX10_priced 2 (some FieldType.int)) ({ frames := 1, cells := 0, slots := 0, locals := 24 }) (hk_P D G (hk_cm τ σ) [.ref (G.1 (.inl (0, 0))), .int h]) (hk_Q D (hk_e G (some (.int (F_priced τ h))) (hk_cm τ σ))) 0 0 (hk_A D) := by
  refine hk_met (by decide +kernel) (Nat.le_of_ble_eq_true rfl) (fun p e s m below meth c hx hb hr hml hlocks ht hown hin hK hH hS ls hl => ?_)
  have hl : lv_has ls 2 [(0, .ref (G.1 (.inl (0, 0)))), (1, .int h)] := hl
  refine lv_iload_n hx hb dX10_priced_0 rfl (lv_at hl 1 rfl) ?_
  refine lv_iconst (v := 0) hx hb dX10_priced_1 (by decide) ?_
  refine lv_sipush (v := 480) hx hb dX10_priced_2 (by decide) ?_
  refine hk_cS (As := [.int h, .int 0, .int 480]) (rest := []) hx hb hml hl.1 ht hown hK hH hS (c_within l D G τ σ h 0 480) ymS_X10_within tw_206 ⟨rfl, rfl⟩ ⟨Nat.le_of_ble_eq_true rfl, Nat.le_of_ble_eq_true rfl⟩ rfl rfl (Nat.le_of_ble_eq_true rfl) dX10_priced_5 ⟨Nat.le_of_ble_eq_true rfl, Nat.le_of_ble_eq_true rfl⟩ (hk_ea (fun H locs hH hS => ?_))
  refine lv_if_ne (tgt := 13) hx hb dX10_priced_8 (by decide) (fun c_1 => ?_) (fun c_1 => ?_)
  · refine lv_aload_n hx hb dX10_priced_13 rfl (lv_at hl 0 rfl) ?_
    refine hk_getr (L := (.inl (0, 0))) (v := .ref (G.1 (.inl (5, 0)))) hx hb ht hown hK hH kc_11 hG.k0 5 (by decide) rfl tw_173 rfl hG.r0_5 dX10_priced_14 ?_
    refine lv_iload_n hx hb dX10_priced_17 rfl (lv_at hl 1 rfl) ?_
    refine hk_cV (L := (.inl (5, 0))) (As := [.int h]) (rest := []) hx hb hml hl.1 ht hown hK hH hS (c_inForce l D G Z τ σ 0 (τ (5, 0) 3).toNatClampNeg h hG (by decide) hn0.1 hn0.2) ymV_X7_inForce kc_8 (hG.k5 0 (by decide)) tw_482 ⟨rfl, rfl⟩ ⟨Nat.le_of_ble_eq_true rfl, Nat.le_of_ble_eq_true rfl⟩ rfl rfl (Nat.le_of_ble_eq_true rfl) dX10_priced_18 ⟨Nat.le_of_ble_eq_true rfl, Nat.le_of_ble_eq_true rfl⟩ (hk_ea (fun H locs hH hS => ?_))
    exact hk_iret hx hb hr hlocks hH hS ⟨(by simp only [F_priced, if_neg c_1]), rfl, rfl⟩ dX10_priced_21
  · refine lv_iconst (v := -1) hx hb dX10_priced_11 (by decide) ?_
    exact hk_iret hx hb hr hlocks hH hS ⟨(by simp only [F_priced, if_pos c_1]), rfl, rfl⟩ dX10_priced_12
def F_duty (τ : hk_v) (d : Int32) : Int32 := (if (hk_in d 0 40) = 0 then (-1) else F_inForce τ 1 (τ (5, 1) 3).toNatClampNeg d)
set_option maxHeartbeats 4000000 in
set_option maxRecDepth 100000 in
theorem c_duty (l : Launch) (D : hk_D) (G : hk_G) (Z : hk_Z) (τ σ : hk_v) (d : Int32) (hG : hk_Y D G Z) (hn1 : hk_nt τ 1) : Met l yX10_duty (hk_ws yX10_duty cX10_duty 2 (some FieldType.int)) ({ frames := 1, cells := 0, slots := 0, locals := 24 }) (hk_P D G (hk_cm τ σ) [.ref (G.1 (.inl (0, 0))), .int d]) (hk_Q D (hk_e G (some (.int (F_duty τ d))) (hk_cm τ σ))) 0 0 (hk_A D) := by
  refine hk_met (by decide +kernel) (Nat.le_of_ble_eq_true rfl) (fun p e s m below meth c hx hb hr hml hlocks ht hown hin hK hH hS ls hl => ?_)
  have hl : lv_has ls 2 [(0, .ref (G.1 (.inl (0, 0)))), (1, .int d)] := hl
  refine lv_iload_n hx hb dX10_duty_0 rfl (lv_at hl 1 rfl) ?_
  refine lv_iconst (v := 0) hx hb dX10_duty_1 (by decide) ?_
  refine lv_bipush (v := 40) hx hb dX10_duty_2 (by decide) ?_
  refine hk_cS (As := [.int d, .int 0, .int 40]) (rest := []) hx hb hml hl.1 ht hown hK hH hS (c_within l D G τ σ d 0 40) ymS_X10_within tw_206 ⟨rfl, rfl⟩ ⟨Nat.le_of_ble_eq_true rfl, Nat.le_of_ble_eq_true rfl⟩ rfl rfl (Nat.le_of_ble_eq_true rfl) dX10_duty_4 ⟨Nat.le_of_ble_eq_true rfl, Nat.le_of_ble_eq_true rfl⟩ (hk_ea (fun H locs hH hS => ?_))
  refine lv_if_ne (tgt := 12) hx hb dX10_duty_7 (by decide) (fun c_1 => ?_) (fun c_1 => ?_)
  · refine lv_aload_n hx hb dX10_duty_12 rfl (lv_at hl 0 rfl) ?_
    refine hk_getr (L := (.inl (0, 0))) (v := .ref (G.1 (.inl (5, 1)))) hx hb ht hown hK hH kc_11 hG.k0 6 (by decide) rfl tw_174 rfl hG.r0_6 dX10_duty_13 ?_
    refine lv_iload_n hx hb dX10_duty_16 rfl (lv_at hl 1 rfl) ?_
    refine hk_cV (L := (.inl (5, 1))) (As := [.int d]) (rest := []) hx hb hml hl.1 ht hown hK hH hS (c_inForce l D G Z τ σ 1 (τ (5, 1) 3).toNatClampNeg d hG (by decide) hn1.1 hn1.2) ymV_X7_inForce kc_8 (hG.k5 1 (by decide)) tw_482 ⟨rfl, rfl⟩ ⟨Nat.le_of_ble_eq_true rfl, Nat.le_of_ble_eq_true rfl⟩ rfl rfl (Nat.le_of_ble_eq_true rfl) dX10_duty_17 ⟨Nat.le_of_ble_eq_true rfl, Nat.le_of_ble_eq_true rfl⟩ (hk_ea (fun H locs hH hS => ?_))
    exact hk_iret hx hb hr hlocks hH hS ⟨(by simp only [F_duty, if_neg c_1]), rfl, rfl⟩ dX10_duty_20
  · refine lv_iconst (v := -1) hx hb dX10_duty_10 (by decide) ?_
    exact hk_iret hx hb hr hlocks hH hS ⟨(by simp only [F_duty, if_pos c_1]), rfl, rfl⟩ dX10_duty_11
theorem ymV_X5_ofHour : hk_mV yX5_ofHour cX5_ofHour 4 (some FieldType.int) RX5 1 := ⟨tw_595, tw_593, tw_594, tw_38, rfl, by decide, by decide, by decide +kernel⟩
def F_green (τ : hk_v) (h : Int32) : Int32 := (if (hk_in h 0 23) = 0 then (-1) else F_ofHour τ (((τ (0, 0) 8) - 1) - h))
set_option maxHeartbeats 4000000 in
set_option maxRecDepth 100000 in
theorem c_green (l : Launch) (D : hk_D) (G : hk_G) (Z : hk_Z) (τ σ : hk_v) (h : Int32) (hG : hk_Y D G Z)  : Met l yX10_green (hk_ws yX10_green cX10_green 2 (some FieldType.int)) ({ frames := 3, cells := 0, slots := 0, locals := 66 }) (hk_P D G (hk_cm τ σ) [.ref (G.1 (.inl (0, 0))), .int h]) (hk_Q D (hk_e G (some (.int (F_green τ h))) (hk_cm τ σ))) 0 0 (hk_A D) := by
  refine hk_met (by decide +kernel) (Nat.le_of_ble_eq_true rfl) (fun p e s m below meth c hx hb hr hml hlocks ht hown hin hK hH hS ls hl => ?_)
  have hl : lv_has ls 2 [(0, .ref (G.1 (.inl (0, 0)))), (1, .int h)] := hl
  refine lv_iload_n hx hb dX10_green_0 rfl (lv_at hl 1 rfl) ?_
  refine lv_iconst (v := 0) hx hb dX10_green_1 (by decide) ?_
  refine lv_bipush (v := 23) hx hb dX10_green_2 (by decide) ?_
  refine hk_cS (As := [.int h, .int 0, .int 23]) (rest := []) hx hb hml hl.1 ht hown hK hH hS (c_within l D G τ σ h 0 23) ymS_X10_within tw_206 ⟨rfl, rfl⟩ ⟨Nat.le_of_ble_eq_true rfl, Nat.le_of_ble_eq_true rfl⟩ rfl rfl (Nat.le_of_ble_eq_true rfl) dX10_green_4 ⟨Nat.le_of_ble_eq_true rfl, Nat.le_of_ble_eq_true rfl⟩ (hk_ea (fun H locs hH hS => ?_))
  refine lv_if_ne (tgt := 12) hx hb dX10_green_7 (by decide) (fun c_1 => ?_) (fun c_1 => ?_)
  · refine lv_aload_n hx hb dX10_green_12 rfl (lv_at hl 0 rfl) ?_
    refine hk_getr (L := (.inl (0, 0))) (v := .ref (G.1 (.inl (3, 0)))) hx hb ht hown hK hH kc_11 hG.k0 3 (by decide) rfl tw_171 rfl hG.r0_3 dX10_green_13 ?_
    refine lv_aload_n hx hb dX10_green_16 rfl (lv_at hl 0 rfl) ?_
    refine hk_geti (L := (.inl (0, 0))) (v := τ (0, 0) 8) hx hb ht hown hK hH kc_11 hG.k0 8 (by decide) rfl tw_176 rfl rfl dX10_green_17 ?_
    refine lv_iconst (v := 1) hx hb dX10_green_20 (by decide) ?_
    refine lv_isub hx hb dX10_green_21 ?_
    refine lv_iload_n hx hb dX10_green_22 rfl (lv_at hl 1 rfl) ?_
    refine lv_isub hx hb dX10_green_23 ?_
    refine hk_cV (L := (.inl (3, 0))) (As := [.int (((τ (0, 0) 8) - 1) - h)]) (rest := []) hx hb hml hl.1 ht hown hK hH hS (c_ofHour l D G Z τ σ (((τ (0, 0) 8) - 1) - h) hG) ymV_X5_ofHour kc_6 hG.k3_0 tw_592 ⟨rfl, rfl⟩ ⟨Nat.le_of_ble_eq_true rfl, Nat.le_of_ble_eq_true rfl⟩ rfl rfl (Nat.le_of_ble_eq_true rfl) dX10_green_24 ⟨Nat.le_of_ble_eq_true rfl, Nat.le_of_ble_eq_true rfl⟩ (hk_ea (fun H locs hH hS => ?_))
    exact hk_iret hx hb hr hlocks hH hS ⟨(by simp only [F_green, if_neg c_1]), rfl, rfl⟩ dX10_green_27
  · refine lv_iconst (v := -1) hx hb dX10_green_10 (by decide) ?_
    exact hk_iret hx hb hr hlocks hH hS ⟨(by simp only [F_green, if_pos c_1]), rfl, rfl⟩ dX10_green_11
theorem ymV_X9_led : hk_mV yX9_led cX9_led 1 (some FieldType.int) RX9 0 := ⟨tw_603, tw_601, tw_602, tw_39, rfl, by decide, by decide, by decide +kernel⟩
def F_pocket (τ : hk_v) (x : Int32) (w : Int32) : Int32 := (if (hk_in x 0 ((F_led τ) - 1)) = 0 then (-1) else (if w = 0 then τ (4, 1) x.toNatClampNeg else (if w = 1 then τ (4, 2) x.toNatClampNeg else (if w = 2 then F_inForce τ 1 (τ (5, 1) 3).toNatClampNeg (τ (4, 2) x.toNatClampNeg) else (-1)))))
set_option maxHeartbeats 4000000 in
set_option maxRecDepth 100000 in
theorem c_pocket (l : Launch) (D : hk_D) (G : hk_G) (Z : hk_Z) (τ σ : hk_v) (x : Int32) (w : Int32) (hG : hk_Y D G Z) (hn1 : hk_nt τ 1) (hpr : hk_pr τ) : Met l yX10_pocket (hk_ws yX10_pocket cX10_pocket 3 (some FieldType.int)) ({ frames := 2, cells := 0, slots := 0, locals := 33 }) (hk_P D G (hk_cm τ σ) [.ref (G.1 (.inl (0, 0))), .int x, .int w]) (hk_Q D (hk_e G (some (.int (F_pocket τ x w))) (hk_cm τ σ))) 0 0 (hk_A D) := by
  refine hk_met (by decide +kernel) (Nat.le_of_ble_eq_true rfl) (fun p e s m below meth c hx hb hr hml hlocks ht hown hin hK hH hS ls hl => ?_)
  have hl : lv_has ls 3 [(0, .ref (G.1 (.inl (0, 0)))), (1, .int x), (2, .int w)] := hl
  refine lv_iload_n hx hb dX10_pocket_0 rfl (lv_at hl 1 rfl) ?_
  refine lv_iconst (v := 0) hx hb dX10_pocket_1 (by decide) ?_
  refine lv_aload_n hx hb dX10_pocket_2 rfl (lv_at hl 0 rfl) ?_
  refine hk_getr (L := (.inl (0, 0))) (v := .ref (G.1 (.inl (4, 0)))) hx hb ht hown hK hH kc_11 hG.k0 4 (by decide) rfl tw_172 rfl hG.r0_4 dX10_pocket_3 ?_
  refine hk_cV (L := (.inl (4, 0))) (As := []) (rest := [.int 0, .int x]) hx hb hml hl.1 ht hown hK hH hS (c_led l D G Z τ σ hG) ymV_X9_led kc_10 hG.k4_0 tw_600 ⟨rfl, rfl⟩ ⟨Nat.le_of_ble_eq_true rfl, Nat.le_of_ble_eq_true rfl⟩ rfl rfl (Nat.le_of_ble_eq_true rfl) dX10_pocket_6 ⟨Nat.le_of_ble_eq_true rfl, Nat.le_of_ble_eq_true rfl⟩ (hk_ea (fun H locs hH hS => ?_))
  refine lv_iconst (v := 1) hx hb dX10_pocket_9 (by decide) ?_
  refine lv_isub hx hb dX10_pocket_10 ?_
  refine hk_cS (As := [.int x, .int 0, .int ((F_led τ) - 1)]) (rest := []) hx hb hml hl.1 ht hown hK hH hS (c_within l D G τ σ x 0 ((F_led τ) - 1)) ymS_X10_within tw_206 ⟨rfl, rfl⟩ ⟨Nat.le_of_ble_eq_true rfl, Nat.le_of_ble_eq_true rfl⟩ rfl rfl (Nat.le_of_ble_eq_true rfl) dX10_pocket_11 ⟨Nat.le_of_ble_eq_true rfl, Nat.le_of_ble_eq_true rfl⟩ (hk_ea (fun H locs hH hS => ?_))
  refine lv_if_ne (tgt := 19) hx hb dX10_pocket_14 (by decide) (fun c_1 => ?_) (fun c_1 => ?_)
  · refine lv_iload_n hx hb dX10_pocket_19 rfl (lv_at hl 2 rfl) ?_
    rcases hk_sw2 w with (rfl | rfl | rfl) | hsw
    · refine lv_tableIn (x := 0) (tgt := 48) hx hb dX10_pocket_20 (by decide) (by decide) rfl (by decide) ?_
      refine lv_aload_n hx hb dX10_pocket_48 rfl (lv_at hl 0 rfl) ?_
      refine hk_getr (L := (.inl (0, 0))) (v := .ref (G.1 (.inl (4, 0)))) hx hb ht hown hK hH kc_11 hG.k0 4 (by decide) rfl tw_172 rfl hG.r0_4 dX10_pocket_49 ?_
      refine hk_getr (L := (.inl (4, 0))) (v := .ref (G.1 (.inl (4, 1)))) hx hb ht hown hK hH kc_10 hG.k4_0 0 (by decide) rfl tw_111 rfl hG.r4_0 dX10_pocket_52 ?_
      refine lv_iload_n hx hb dX10_pocket_55 rfl (lv_at hl 1 rfl) ?_
      refine hk_ild (L := (.inl (4, 1))) (v := τ (4, 1) x.toNatClampNeg) hx hb hK hH hG.k4_1 (hk_pk_in hpr c_1) rfl dX10_pocket_56 ?_
      exact hk_iret hx hb hr hlocks hH hS ⟨(by simp [F_pocket, if_neg c_1]), rfl, rfl⟩ dX10_pocket_57
    · refine lv_tableIn (x := 1) (tgt := 58) hx hb dX10_pocket_20 (by decide) (by decide) rfl (by decide) ?_
      refine lv_aload_n hx hb dX10_pocket_58 rfl (lv_at hl 0 rfl) ?_
      refine hk_getr (L := (.inl (0, 0))) (v := .ref (G.1 (.inl (4, 0)))) hx hb ht hown hK hH kc_11 hG.k0 4 (by decide) rfl tw_172 rfl hG.r0_4 dX10_pocket_59 ?_
      refine hk_getr (L := (.inl (4, 0))) (v := .ref (G.1 (.inl (4, 2)))) hx hb ht hown hK hH kc_10 hG.k4_0 1 (by decide) rfl tw_113 rfl hG.r4_1 dX10_pocket_62 ?_
      refine lv_iload_n hx hb dX10_pocket_65 rfl (lv_at hl 1 rfl) ?_
      refine hk_ild (L := (.inl (4, 2))) (v := τ (4, 2) x.toNatClampNeg) hx hb hK hH hG.k4_2 (hk_pk_in hpr c_1) rfl dX10_pocket_66 ?_
      exact hk_iret hx hb hr hlocks hH hS ⟨(by simp [F_pocket, if_neg c_1]), rfl, rfl⟩ dX10_pocket_67
    · refine lv_tableIn (x := 2) (tgt := 68) hx hb dX10_pocket_20 (by decide) (by decide) rfl (by decide) ?_
      refine lv_aload_n hx hb dX10_pocket_68 rfl (lv_at hl 0 rfl) ?_
      refine hk_getr (L := (.inl (0, 0))) (v := .ref (G.1 (.inl (5, 1)))) hx hb ht hown hK hH kc_11 hG.k0 6 (by decide) rfl tw_174 rfl hG.r0_6 dX10_pocket_69 ?_
      refine lv_aload_n hx hb dX10_pocket_72 rfl (lv_at hl 0 rfl) ?_
      refine hk_getr (L := (.inl (0, 0))) (v := .ref (G.1 (.inl (4, 0)))) hx hb ht hown hK hH kc_11 hG.k0 4 (by decide) rfl tw_172 rfl hG.r0_4 dX10_pocket_73 ?_
      refine hk_getr (L := (.inl (4, 0))) (v := .ref (G.1 (.inl (4, 2)))) hx hb ht hown hK hH kc_10 hG.k4_0 1 (by decide) rfl tw_113 rfl hG.r4_1 dX10_pocket_76 ?_
      refine lv_iload_n hx hb dX10_pocket_79 rfl (lv_at hl 1 rfl) ?_
      refine hk_ild (L := (.inl (4, 2))) (v := τ (4, 2) x.toNatClampNeg) hx hb hK hH hG.k4_2 (hk_pk_in hpr c_1) rfl dX10_pocket_80 ?_
      refine hk_cV (L := (.inl (5, 1))) (As := [.int (τ (4, 2) x.toNatClampNeg)]) (rest := []) hx hb hml hl.1 ht hown hK hH hS (c_inForce l D G Z τ σ 1 (τ (5, 1) 3).toNatClampNeg (τ (4, 2) x.toNatClampNeg) hG (by decide) hn1.1 hn1.2) ymV_X7_inForce kc_8 (hG.k5 1 (by decide)) tw_482 ⟨rfl, rfl⟩ ⟨Nat.le_of_ble_eq_true rfl, Nat.le_of_ble_eq_true rfl⟩ rfl rfl (Nat.le_of_ble_eq_true rfl) dX10_pocket_81 ⟨Nat.le_of_ble_eq_true rfl, Nat.le_of_ble_eq_true rfl⟩ (hk_ea (fun H locs hH hS => ?_))
      exact hk_iret hx hb hr hlocks hH hS ⟨(by simp [F_pocket, if_neg c_1]), rfl, rfl⟩ dX10_pocket_84
    · refine lv_tableOut (tgt := 85) hx hb dX10_pocket_20 hsw.1 (by decide) ?_
      refine lv_iconst (v := -1) hx hb dX10_pocket_85 (by decide) ?_
      exact hk_iret hx hb hr hlocks hH hS ⟨(by simp [F_pocket, if_neg c_1, hsw]), rfl, rfl⟩ dX10_pocket_86
  · refine lv_iconst (v := -1) hx hb dX10_pocket_17 (by decide) ?_
    exact hk_iret hx hb hr hlocks hH hS ⟨(by simp only [F_pocket, if_pos c_1]), rfl, rfl⟩ dX10_pocket_18
def F_tally (τ : hk_v) (g : Int32) (w : Int32) : Int32 := (if hk_in g 0 (τ (1, 1) 2 - 1) = 0 then (-2) else (if w = 0 then τ (10, g.toNatClampNeg) 3 else (if w = 1 then τ (10, g.toNatClampNeg) 4 else (if w = 2 then τ (10, g.toNatClampNeg) 5 else (if w = 3 then τ (10, g.toNatClampNeg) 2 else (-2))))))
set_option maxHeartbeats 4000000 in
set_option maxRecDepth 100000 in
theorem c_tally (l : Launch) (D : hk_D) (G : hk_G) (Z : hk_Z) (τ σ : hk_v) (g : Int32) (w : Int32) (hG : hk_Y D G Z) (hs : hk_sz Z τ) : Met l yX10_tally (hk_ws yX10_tally cX10_tally 4 (some FieldType.int)) ({ frames := 4, cells := 0, slots := 0, locals := 85 }) (hk_P D G (hk_cm τ σ) [.ref (G.1 (.inl (0, 0))), .int g, .int w]) (hk_Q D (hk_e G (some (.int (F_tally τ g w))) (hk_cm τ σ))) 0 0 (hk_A D) := by
  refine hk_met (by decide +kernel) (Nat.le_of_ble_eq_true rfl) (fun p e s m below meth c hx hb hr hml hlocks ht hown hin hK hH hS ls hl => ?_)
  have hl : lv_has ls 4 [(0, .ref (G.1 (.inl (0, 0)))), (1, .int g), (2, .int w)] := hl
  refine lv_aload_n hx hb dX10_tally_0 rfl (lv_at hl 0 rfl) ?_
  refine lv_iload_n hx hb dX10_tally_1 rfl (lv_at hl 1 rfl) ?_
  by_cases ho_1 : hk_in g 0 (τ (1, 1) 2 - 1) = 0
  · refine hk_cV (L := (.inl (0, 0))) (As := [.int g]) (rest := []) hx hb hml hl.1 ht hown hK hH hS (c_gangOf_out l D G Z τ σ g hG hs ho_1) ymV_X10_gangOf kc_11 hG.k0 tw_339 ⟨rfl, rfl⟩ ⟨Nat.le_of_ble_eq_true rfl, Nat.le_of_ble_eq_true rfl⟩ rfl rfl (Nat.le_of_ble_eq_true rfl) dX10_tally_2 ⟨Nat.le_of_ble_eq_true rfl, Nat.le_of_ble_eq_true rfl⟩ (hk_ea (fun H locs hH hS => ?_))
    refine lv_astore_nN (lv' := [(3, .null), (0, .ref (G.1 (.inl (0, 0)))), (1, .int g), (2, .int w)]) hx hb dX10_tally_5 rfl hl (by decide) rfl (fun ls hl => ?_)
    refine lv_aload_nN hx hb dX10_tally_6 rfl (lv_at hl 0 rfl) ?_
    refine lv_ifnonnullN hx hb dX10_tally_7 ?_
    refine lv_bipush (v := -2) hx hb dX10_tally_10 (by decide) ?_
    exact hk_iret hx hb hr hlocks hH hS ⟨(by simp only [F_tally, if_pos ho_1]), rfl, rfl⟩ dX10_tally_12
  · refine hk_cV (L := (.inl (0, 0))) (As := [.int g]) (rest := []) hx hb hml hl.1 ht hown hK hH hS (c_gangOf_in l D G Z τ σ g hG hs ho_1) ymV_X10_gangOf kc_11 hG.k0 tw_339 ⟨rfl, rfl⟩ ⟨Nat.le_of_ble_eq_true rfl, Nat.le_of_ble_eq_true rfl⟩ rfl rfl (Nat.le_of_ble_eq_true rfl) dX10_tally_2 ⟨Nat.le_of_ble_eq_true rfl, Nat.le_of_ble_eq_true rfl⟩ (hk_ea (fun H locs hH hS => ?_))
    refine lv_astore_n (lv' := [(3, .ref (G.1 (.inl (10, g.toNatClampNeg)))), (0, .ref (G.1 (.inl (0, 0)))), (1, .int g), (2, .int w)]) hx hb dX10_tally_5 rfl hl (by decide) rfl (fun ls hl => ?_)
    refine lv_aload_n hx hb dX10_tally_6 rfl (lv_at hl 0 rfl) ?_
    refine lv_ifnonnull (tgt := 13) hx hb dX10_tally_7 (by decide) ?_
    refine lv_iload_n hx hb dX10_tally_13 rfl (lv_at hl 3 rfl) ?_
    rcases hk_sw3 w with (rfl | rfl | rfl | rfl) | hsw
    · refine lv_tableIn (x := 0) (tgt := 44) hx hb dX10_tally_14 (by decide) (by decide) rfl (by decide) ?_
      refine lv_aload_n hx hb dX10_tally_44 rfl (lv_at hl 0 rfl) ?_
      refine hk_geti (L := (.inl (10, g.toNatClampNeg))) (v := τ (10, g.toNatClampNeg) 3) hx hb ht hown hK hH kc_4 (hG.k10 g.toNatClampNeg (hk_in_sz hs.1.2.1 (by have := hs.2; omega) ho_1).1) 3 (by decide) rfl tw_317 rfl rfl dX10_tally_45 ?_
      exact hk_iret hx hb hr hlocks hH hS ⟨(by simp [F_tally, if_neg ho_1]), rfl, rfl⟩ dX10_tally_48
    · refine lv_tableIn (x := 1) (tgt := 49) hx hb dX10_tally_14 (by decide) (by decide) rfl (by decide) ?_
      refine lv_aload_n hx hb dX10_tally_49 rfl (lv_at hl 0 rfl) ?_
      refine hk_geti (L := (.inl (10, g.toNatClampNeg))) (v := τ (10, g.toNatClampNeg) 4) hx hb ht hown hK hH kc_4 (hG.k10 g.toNatClampNeg (hk_in_sz hs.1.2.1 (by have := hs.2; omega) ho_1).1) 4 (by decide) rfl tw_319 rfl rfl dX10_tally_50 ?_
      exact hk_iret hx hb hr hlocks hH hS ⟨(by simp [F_tally, if_neg ho_1]), rfl, rfl⟩ dX10_tally_53
    · refine lv_tableIn (x := 2) (tgt := 54) hx hb dX10_tally_14 (by decide) (by decide) rfl (by decide) ?_
      refine lv_aload_n hx hb dX10_tally_54 rfl (lv_at hl 0 rfl) ?_
      refine hk_geti (L := (.inl (10, g.toNatClampNeg))) (v := τ (10, g.toNatClampNeg) 5) hx hb ht hown hK hH kc_4 (hG.k10 g.toNatClampNeg (hk_in_sz hs.1.2.1 (by have := hs.2; omega) ho_1).1) 5 (by decide) rfl tw_321 rfl rfl dX10_tally_55 ?_
      exact hk_iret hx hb hr hlocks hH hS ⟨(by simp [F_tally, if_neg ho_1]), rfl, rfl⟩ dX10_tally_58
    · refine lv_tableIn (x := 3) (tgt := 59) hx hb dX10_tally_14 (by decide) (by decide) rfl (by decide) ?_
      refine lv_aload_n hx hb dX10_tally_59 rfl (lv_at hl 0 rfl) ?_
      refine hk_geti (L := (.inl (10, g.toNatClampNeg))) (v := τ (10, g.toNatClampNeg) 2) hx hb ht hown hK hH kc_4 (hG.k10 g.toNatClampNeg (hk_in_sz hs.1.2.1 (by have := hs.2; omega) ho_1).1) 2 (by decide) rfl tw_315 rfl rfl dX10_tally_60 ?_
      exact hk_iret hx hb hr hlocks hH hS ⟨(by simp [F_tally, if_neg ho_1]), rfl, rfl⟩ dX10_tally_63
    · refine lv_tableOut (tgt := 64) hx hb dX10_tally_14 hsw.1 (by decide) ?_
      refine lv_bipush (v := -2) hx hb dX10_tally_64 (by decide) ?_
      exact hk_iret hx hb hr hlocks hH hS ⟨(by simp [F_tally, if_neg ho_1, hsw]), rfl, rfl⟩ dX10_tally_66
theorem ymV_X6_gardenBits : hk_mV yX6_gardenBits cX6_gardenBits 3 (some FieldType.int) RX6 0 := ⟨tw_587, tw_585, tw_586, tw_51, rfl, by decide, by decide, by decide +kernel⟩
def F_inn (τ : hk_v) (k : Int32) (w : Int32) : Int32 := (if hk_in k 0 (τ (1, 2) 2 - 1) = 0 then (-1) else (if w = 0 then τ (11, k.toNatClampNeg) 5 else (if w = 1 then τ (11, k.toNatClampNeg) 6 else (if w = 2 then τ (11, k.toNatClampNeg) 7 else (if w = 3 then F_gardenBits τ k.toNatClampNeg (τ (11, k.toNatClampNeg) 4).toNatClampNeg else (-1))))))
set_option maxHeartbeats 4000000 in
set_option maxRecDepth 100000 in
theorem c_inn (l : Launch) (D : hk_D) (G : hk_G) (Z : hk_Z) (τ σ : hk_v) (k : Int32) (w : Int32) (hG : hk_Y D G Z) (hs : hk_sz Z τ) (hlo : hk_lo Z τ) : Met l yX10_in (hk_ws yX10_in cX10_in 4 (some FieldType.int)) ({ frames := 4, cells := 0, slots := 0, locals := 85 }) (hk_P D G (hk_cm τ σ) [.ref (G.1 (.inl (0, 0))), .int k, .int w]) (hk_Q D (hk_e G (some (.int (F_inn τ k w))) (hk_cm τ σ))) 0 0 (hk_A D) := by
  refine hk_met (by decide +kernel) (Nat.le_of_ble_eq_true rfl) (fun p e s m below meth c hx hb hr hml hlocks ht hown hin hK hH hS ls hl => ?_)
  have hl : lv_has ls 4 [(0, .ref (G.1 (.inl (0, 0)))), (1, .int k), (2, .int w)] := hl
  refine lv_aload_n hx hb dX10_in_0 rfl (lv_at hl 0 rfl) ?_
  refine lv_iload_n hx hb dX10_in_1 rfl (lv_at hl 1 rfl) ?_
  by_cases ho_1 : hk_in k 0 (τ (1, 2) 2 - 1) = 0
  · refine hk_cV (L := (.inl (0, 0))) (As := [.int k]) (rest := []) hx hb hml hl.1 ht hown hK hH hS (c_kilnOf_out l D G Z τ σ k hG hs ho_1) ymV_X10_kilnOf kc_11 hG.k0 tw_431 ⟨rfl, rfl⟩ ⟨Nat.le_of_ble_eq_true rfl, Nat.le_of_ble_eq_true rfl⟩ rfl rfl (Nat.le_of_ble_eq_true rfl) dX10_in_2 ⟨Nat.le_of_ble_eq_true rfl, Nat.le_of_ble_eq_true rfl⟩ (hk_ea (fun H locs hH hS => ?_))
    refine lv_astore_nN (lv' := [(3, .null), (0, .ref (G.1 (.inl (0, 0)))), (1, .int k), (2, .int w)]) hx hb dX10_in_5 rfl hl (by decide) rfl (fun ls hl => ?_)
    refine lv_aload_nN hx hb dX10_in_6 rfl (lv_at hl 0 rfl) ?_
    refine lv_ifnonnullN hx hb dX10_in_7 ?_
    refine lv_iconst (v := -1) hx hb dX10_in_10 (by decide) ?_
    exact hk_iret hx hb hr hlocks hH hS ⟨(by simp only [F_inn, if_pos ho_1]), rfl, rfl⟩ dX10_in_11
  · refine hk_cV (L := (.inl (0, 0))) (As := [.int k]) (rest := []) hx hb hml hl.1 ht hown hK hH hS (c_kilnOf_in l D G Z τ σ k hG hs ho_1) ymV_X10_kilnOf kc_11 hG.k0 tw_431 ⟨rfl, rfl⟩ ⟨Nat.le_of_ble_eq_true rfl, Nat.le_of_ble_eq_true rfl⟩ rfl rfl (Nat.le_of_ble_eq_true rfl) dX10_in_2 ⟨Nat.le_of_ble_eq_true rfl, Nat.le_of_ble_eq_true rfl⟩ (hk_ea (fun H locs hH hS => ?_))
    refine lv_astore_n (lv' := [(3, .ref (G.1 (.inl (11, k.toNatClampNeg)))), (0, .ref (G.1 (.inl (0, 0)))), (1, .int k), (2, .int w)]) hx hb dX10_in_5 rfl hl (by decide) rfl (fun ls hl => ?_)
    refine lv_aload_n hx hb dX10_in_6 rfl (lv_at hl 0 rfl) ?_
    refine lv_ifnonnull (tgt := 12) hx hb dX10_in_7 (by decide) ?_
    refine lv_iload_n hx hb dX10_in_12 rfl (lv_at hl 3 rfl) ?_
    rcases hk_sw3 w with (rfl | rfl | rfl | rfl) | hsw
    · refine lv_tableIn (x := 0) (tgt := 44) hx hb dX10_in_13 (by decide) (by decide) rfl (by decide) ?_
      refine lv_aload_n hx hb dX10_in_44 rfl (lv_at hl 0 rfl) ?_
      refine hk_geti (L := (.inl (11, k.toNatClampNeg))) (v := τ (11, k.toNatClampNeg) 5) hx hb ht hown hK hH kc_7 (hG.k11 k.toNatClampNeg (hk_in_sz hs.1.2.2 (by have := hs.2; omega) ho_1).1) 5 (by decide) rfl tw_405 rfl rfl dX10_in_45 ?_
      exact hk_iret hx hb hr hlocks hH hS ⟨(by simp [F_inn, if_neg ho_1]), rfl, rfl⟩ dX10_in_48
    · refine lv_tableIn (x := 1) (tgt := 49) hx hb dX10_in_13 (by decide) (by decide) rfl (by decide) ?_
      refine lv_aload_n hx hb dX10_in_49 rfl (lv_at hl 0 rfl) ?_
      refine hk_geti (L := (.inl (11, k.toNatClampNeg))) (v := τ (11, k.toNatClampNeg) 6) hx hb ht hown hK hH kc_7 (hG.k11 k.toNatClampNeg (hk_in_sz hs.1.2.2 (by have := hs.2; omega) ho_1).1) 6 (by decide) rfl tw_407 rfl rfl dX10_in_50 ?_
      exact hk_iret hx hb hr hlocks hH hS ⟨(by simp [F_inn, if_neg ho_1]), rfl, rfl⟩ dX10_in_53
    · refine lv_tableIn (x := 2) (tgt := 54) hx hb dX10_in_13 (by decide) (by decide) rfl (by decide) ?_
      refine lv_aload_n hx hb dX10_in_54 rfl (lv_at hl 0 rfl) ?_
      refine hk_geti (L := (.inl (11, k.toNatClampNeg))) (v := τ (11, k.toNatClampNeg) 7) hx hb ht hown hK hH kc_7 (hG.k11 k.toNatClampNeg (hk_in_sz hs.1.2.2 (by have := hs.2; omega) ho_1).1) 7 (by decide) rfl tw_409 rfl rfl dX10_in_55 ?_
      exact hk_iret hx hb hr hlocks hH hS ⟨(by simp [F_inn, if_neg ho_1]), rfl, rfl⟩ dX10_in_58
    · refine lv_tableIn (x := 3) (tgt := 59) hx hb dX10_in_13 (by decide) (by decide) rfl (by decide) ?_
      refine lv_aload_n hx hb dX10_in_59 rfl (lv_at hl 0 rfl) ?_
      refine hk_cV (L := (.inl (11, k.toNatClampNeg))) (As := []) (rest := []) hx hb hml hl.1 ht hown hK hH hS (c_gardenBits l D G Z τ σ k.toNatClampNeg (τ (11, k.toNatClampNeg) 4).toNatClampNeg hG (hk_in_sz hs.1.2.2 (by have := hs.2; omega) ho_1).1 (hlo k.toNatClampNeg (hk_in_sz hs.1.2.2 (by have := hs.2; omega) ho_1).1).1 (hlo k.toNatClampNeg (hk_in_sz hs.1.2.2 (by have := hs.2; omega) ho_1).1).2.1 (by have := (hlo k.toNatClampNeg (hk_in_sz hs.1.2.2 (by have := hs.2; omega) ho_1).1).2.2; omega)) ymV_X6_gardenBits kc_7 (hG.k11 k.toNatClampNeg (hk_in_sz hs.1.2.2 (by have := hs.2; omega) ho_1).1) tw_584 ⟨rfl, rfl⟩ ⟨Nat.le_of_ble_eq_true rfl, Nat.le_of_ble_eq_true rfl⟩ rfl rfl (Nat.le_of_ble_eq_true rfl) dX10_in_60 ⟨Nat.le_of_ble_eq_true rfl, Nat.le_of_ble_eq_true rfl⟩ (hk_ea (fun H locs hH hS => ?_))
      exact hk_iret hx hb hr hlocks hH hS ⟨(by simp [F_inn, if_neg ho_1]), rfl, rfl⟩ dX10_in_63
    · refine lv_tableOut (tgt := 64) hx hb dX10_in_13 hsw.1 (by decide) ?_
      refine lv_iconst (v := -1) hx hb dX10_in_64 (by decide) ?_
      exact hk_iret hx hb hr hlocks hH hS ⟨(by simp [F_inn, if_neg ho_1, hsw]), rfl, rfl⟩ dX10_in_65
end
section
theorem ymV_X6_ofGarden : hk_mV yX6_ofGarden cX6_ofGarden 4 (some FieldType.int) RX6 1 := ⟨tw_575, tw_573, tw_574, tw_51, rfl, by decide, by decide, by decide +kernel⟩
def B_inKilnsOf (g : Int32) (Z : hk_Z) (τ : hk_v) (j : Nat) (sum : Int32) : Int32 := sum + (F_ofGarden τ j (τ (11, j) 4).toNatClampNeg g)
def F_inKilnsOf (Z : hk_Z) (τ : hk_v) (g : Int32) : Int32 := (hk_it (B_inKilnsOf g Z τ) (Z.1 2) 0 0)
set_option maxHeartbeats 4000000 in
set_option maxRecDepth 100000 in
theorem c_inKilnsOf (l : Launch) (D : hk_D) (G : hk_G) (Z : hk_Z) (τ σ : hk_v) (g : Int32) (hG : hk_Y D G Z) (hs : hk_sz Z τ) (hlo : hk_lo Z τ) : Met l yX10_inKilnsOf (hk_ws yX10_inKilnsOf cX10_inKilnsOf 4 (some FieldType.int)) ({ frames := 3, cells := 0, slots := 0, locals := 64 }) (hk_P D G (hk_cm τ σ) [.ref (G.1 (.inl (0, 0))), .int g]) (hk_Q D (hk_e G (some (.int (F_inKilnsOf Z τ g))) (hk_cm τ σ))) 0 0 (hk_A D) := by
  refine hk_met (by decide +kernel) (Nat.le_of_ble_eq_true rfl) (fun p e s m below meth c hx hb hr hml hlocks ht hown hin hK hH hS ls hl => ?_)
  have hl : lv_has ls 4 [(0, .ref (G.1 (.inl (0, 0)))), (1, .int g)] := hl
  refine lv_iconst (v := 0) hx hb dX10_inKilnsOf_0 (by decide) ?_
  refine lv_istore_n (lv' := [(2, .int 0), (0, .ref (G.1 (.inl (0, 0)))), (1, .int g)]) hx hb dX10_inKilnsOf_1 rfl hl (by decide) rfl (fun ls hl => ?_)
  refine lv_iconst (v := 0) hx hb dX10_inKilnsOf_2 (by decide) ?_
  refine lv_istore_n (lv' := [(3, .int 0), (2, .int 0), (0, .ref (G.1 (.inl (0, 0)))), (1, .int g)]) hx hb dX10_inKilnsOf_3 rfl hl (by decide) rfl (fun ls hl => ?_)
  have LP_1 : ∀ (r j : Nat) (sum : Int32) (H : Heap) (locs : List Loc) (ls : Array Slot) (QQ : State → Prop), j + r = Z.1 2 → hk_H D G (hk_cm τ σ) H → va_S (hk_A D) s.heap H locs → lv_has ls 4 [(3, .int (nI j)), (2, .int sum), (0, .ref (G.1 (.inl (0, 0)))), (1, .int g)] → (∀ (H : Heap) (locs : List Loc) (ls : Array Slot), hk_H D G (hk_cm τ σ) H → va_S (hk_A D) s.heap H locs → lv_has ls 4 [(3, .int (nI (Z.1 2))), (2, .int (hk_it (B_inKilnsOf g Z τ) r j sum)), (0, .ref (G.1 (.inl (0, 0)))), (1, .int g)] → W p l e ({ frames := 3, cells := 0, slots := 0, locals := 64 }) s m ([.ref (G.1 (.inl (0, 0))), .int g] : List Value).toArray below meth c H locs 0 0 QQ (F0 m 39 ls [])) → W p l e ({ frames := 3, cells := 0, slots := 0, locals := 64 }) s m ([.ref (G.1 (.inl (0, 0))), .int g] : List Value).toArray below meth c H locs 0 0 QQ (F0 m 4 ls []) := by
    intro r
    induction r with
    | zero =>
      intro j sum H locs ls QQ hn_inKilnsOf hH hS hl kk
      have hz6 := hs.2
      refine lv_iload_n hx hb dX10_inKilnsOf_4 rfl (lv_at hl 0 rfl) ?_
      refine lv_aload_n hx hb dX10_inKilnsOf_5 rfl (lv_at hl 2 rfl) ?_
      refine hk_getr (L := (.inl (0, 0))) (v := .ref (G.1 (.inl (1, 2)))) hx hb ht hown hK hH kc_11 hG.k0 2 (by decide) rfl tw_170 rfl hG.r0_2 dX10_inKilnsOf_6 ?_
      refine hk_cV (L := (.inl (1, 2))) (As := []) (rest := [.int (nI j)]) hx hb hml hl.1 ht hown hK hH hS (c_size l D G τ σ 2 hG.k1_2) ymV_Jx4a65c_size_8abf5 kc_0 hG.k1_2 tw_209 ⟨rfl, rfl⟩ ⟨Nat.le_of_ble_eq_true rfl, Nat.le_of_ble_eq_true rfl⟩ rfl rfl (Nat.le_of_ble_eq_true rfl) dX10_inKilnsOf_9 ⟨Nat.le_of_ble_eq_true rfl, Nat.le_of_ble_eq_true rfl⟩ (hk_ea (fun H locs hH hS => ?_))
      rw [show F_size τ 2 = τ (1, 2) 2 from rfl]
      refine lv_icmp_ge (tgt := 39) hx hb dX10_inKilnsOf_12 (by decide) (fun c_2 => ?_) (fun c_2 => ?_)
      rotate_left
      · exfalso; rw [hs.1.2.2] at c_2; first | exact nI_ge (by omega) (by omega) c_2 | exact c_2 (nI_le (by omega) (by omega)) | exact nI_nlt (by omega) (by omega) c_2 | exact c_2 (nI_lt (by omega) (by omega))
      have hiN : j = Z.1 2 := by omega
      rw [hiN] at hl
      exact kk H locs ls hH hS (lv_sub hl [0, 1, 2, 3] rfl)
    | succ r ih =>
      intro j sum H locs ls QQ hn_inKilnsOf hH hS hl kk
      have hz6 := hs.2
      refine lv_iload_n hx hb dX10_inKilnsOf_4 rfl (lv_at hl 0 rfl) ?_
      refine lv_aload_n hx hb dX10_inKilnsOf_5 rfl (lv_at hl 2 rfl) ?_
      refine hk_getr (L := (.inl (0, 0))) (v := .ref (G.1 (.inl (1, 2)))) hx hb ht hown hK hH kc_11 hG.k0 2 (by decide) rfl tw_170 rfl hG.r0_2 dX10_inKilnsOf_6 ?_
      refine hk_cV (L := (.inl (1, 2))) (As := []) (rest := [.int (nI j)]) hx hb hml hl.1 ht hown hK hH hS (c_size l D G τ σ 2 hG.k1_2) ymV_Jx4a65c_size_8abf5 kc_0 hG.k1_2 tw_209 ⟨rfl, rfl⟩ ⟨Nat.le_of_ble_eq_true rfl, Nat.le_of_ble_eq_true rfl⟩ rfl rfl (Nat.le_of_ble_eq_true rfl) dX10_inKilnsOf_9 ⟨Nat.le_of_ble_eq_true rfl, Nat.le_of_ble_eq_true rfl⟩ (hk_ea (fun H locs hH hS => ?_))
      rw [show F_size τ 2 = τ (1, 2) 2 from rfl]
      refine lv_icmp_ge (tgt := 39) hx hb dX10_inKilnsOf_12 (by decide) (fun c_3 => ?_) (fun c_3 => ?_)
      · exfalso; rw [hs.1.2.2] at c_3; first | exact nI_ge (by omega) (by omega) c_3 | exact c_3 (nI_le (by omega) (by omega)) | exact nI_nlt (by omega) (by omega) c_3 | exact c_3 (nI_lt (by omega) (by omega))
      refine lv_iload_n hx hb dX10_inKilnsOf_15 rfl (lv_at hl 1 rfl) ?_
      refine lv_aload_n hx hb dX10_inKilnsOf_16 rfl (lv_at hl 2 rfl) ?_
      refine hk_getr (L := (.inl (0, 0))) (v := .ref (G.1 (.inl (1, 2)))) hx hb ht hown hK hH kc_11 hG.k0 2 (by decide) rfl tw_170 rfl hG.r0_2 dX10_inKilnsOf_17 ?_
      refine lv_iload_n hx hb dX10_inKilnsOf_20 rfl (lv_at hl 0 rfl) ?_
      refine hk_cV (L := (.inl (1, 2))) (As := [.int (nI j)]) (rest := [.int sum]) hx hb hml hl.1 ht hown hK hH hS (c_lget l D G τ σ 2 j (Z.1 2) (nI j) (.ref (G.1 (.inl (11, j)))) hG.k1_2 (hG.a1_2 (by omega)) (hG.k2_2 (by omega)) rfl (by omega) (by have := hs.2; omega) (hG.a2_2 _ (by omega)) ⟨_, rfl⟩ hs.1.2.2) ymV_Jx4a65c_get_915e3 kc_0 hG.k1_2 tw_343 ⟨rfl, rfl⟩ ⟨Nat.le_of_ble_eq_true rfl, Nat.le_of_ble_eq_true rfl⟩ rfl rfl (Nat.le_of_ble_eq_true rfl) dX10_inKilnsOf_21 ⟨Nat.le_of_ble_eq_true rfl, Nat.le_of_ble_eq_true rfl⟩ (hk_ea (fun H locs hH hS => ?_))
      refine hk_cast (L := (.inl (11, j))) hx hb ht hown hK hH kc_7 (hG.k11 j (by omega)) tw_365 dX10_inKilnsOf_24 ?_
      refine lv_iload_n hx hb dX10_inKilnsOf_27 rfl (lv_at hl 3 rfl) ?_
      refine hk_cV (L := (.inl (11, j))) (As := [.int g]) (rest := [.int sum]) hx hb hml hl.1 ht hown hK hH hS (c_ofGarden l D G Z τ σ j (τ (11, j) 4).toNatClampNeg g hG (by omega) (hlo j (by omega)).1 (hlo j (by omega)).2.1 (by have := (hlo j (by omega)).2.2; omega)) ymV_X6_ofGarden kc_7 (hG.k11 j (by omega)) tw_572 ⟨rfl, rfl⟩ ⟨Nat.le_of_ble_eq_true rfl, Nat.le_of_ble_eq_true rfl⟩ rfl rfl (Nat.le_of_ble_eq_true rfl) dX10_inKilnsOf_28 ⟨Nat.le_of_ble_eq_true rfl, Nat.le_of_ble_eq_true rfl⟩ (hk_ea (fun H locs hH hS => ?_))
      refine lv_iadd hx hb dX10_inKilnsOf_31 ?_
      refine lv_istore_n (lv' := [(2, .int (sum + (F_ofGarden τ j (τ (11, j) 4).toNatClampNeg g))), (3, .int (nI j)), (0, .ref (G.1 (.inl (0, 0)))), (1, .int g)]) hx hb dX10_inKilnsOf_32 rfl hl (by decide) rfl (fun ls hl => ?_)
      refine lv_iinc (v := nI (j + 1)) (lv' := [(3, .int (nI (j + 1))), (2, .int (sum + (F_ofGarden τ j (τ (11, j) 4).toNatClampNeg g))), (0, .ref (G.1 (.inl (0, 0)))), (1, .int g)]) hx hb dX10_inKilnsOf_33 hl (k := 1) rfl (nI_1 _) (by decide) rfl (fun ls hl => ?_)
      refine lv_goto (tgt := 4) hx hb dX10_inKilnsOf_36 (by decide) ?_
      have EB_4 : (B_inKilnsOf g Z τ) j sum = sum + (F_ofGarden τ j (τ (11, j) 4).toNatClampNeg g) := by simp only [B_inKilnsOf]
      exact ih (j + 1) (sum + (F_ofGarden τ j (τ (11, j) 4).toNatClampNeg g)) _ _ _ QQ (by omega) hH hS (lv_sub hl [0, 1, 2, 3] rfl) (fun H locs ls hH hS hl => kk H locs ls hH hS (by rw [hk_it_s, EB_4]; exact hl))
  refine LP_1 (Z.1 2) 0 0 _ _ _ _ (by omega) hH hS (lv_sub hl [0, 1, 2, 3] rfl) (fun H locs ls hH hS hl => ?_)
  refine lv_iload_n hx hb dX10_inKilnsOf_39 rfl (lv_at hl 1 rfl) ?_
  exact hk_iret hx hb hr hlocks hH hS ⟨(by simp only [F_inKilnsOf]), rfl, rfl⟩ dX10_inKilnsOf_40
def B_lostInAll (Z : hk_Z) (τ : hk_v) (j : Nat) (sum : Int32) : Int32 := sum + (τ (9, j) 4)
def F_lostInAll (Z : hk_Z) (τ : hk_v)  : Int32 := (hk_it (B_lostInAll Z τ) (Z.1 0) 0 0)
set_option maxHeartbeats 4000000 in
set_option maxRecDepth 100000 in
theorem c_lostInAll (l : Launch) (D : hk_D) (G : hk_G) (Z : hk_Z) (τ σ : hk_v)  (hG : hk_Y D G Z) (hs : hk_sz Z τ) : Met l yX10_lostInAll (hk_ws yX10_lostInAll cX10_lostInAll 3 (some FieldType.int)) ({ frames := 3, cells := 0, slots := 0, locals := 64 }) (hk_P D G (hk_cm τ σ) [.ref (G.1 (.inl (0, 0)))]) (hk_Q D (hk_e G (some (.int (F_lostInAll Z τ))) (hk_cm τ σ))) 0 0 (hk_A D) := by
  refine hk_met (by decide +kernel) (Nat.le_of_ble_eq_true rfl) (fun p e s m below meth c hx hb hr hml hlocks ht hown hin hK hH hS ls hl => ?_)
  have hl : lv_has ls 3 [(0, .ref (G.1 (.inl (0, 0))))] := hl
  refine lv_iconst (v := 0) hx hb dX10_lostInAll_0 (by decide) ?_
  refine lv_istore_n (lv' := [(1, .int 0), (0, .ref (G.1 (.inl (0, 0))))]) hx hb dX10_lostInAll_1 rfl hl (by decide) rfl (fun ls hl => ?_)
  refine lv_iconst (v := 0) hx hb dX10_lostInAll_2 (by decide) ?_
  refine lv_istore_n (lv' := [(2, .int 0), (1, .int 0), (0, .ref (G.1 (.inl (0, 0))))]) hx hb dX10_lostInAll_3 rfl hl (by decide) rfl (fun ls hl => ?_)
  have LP_1 : ∀ (r j : Nat) (sum : Int32) (H : Heap) (locs : List Loc) (ls : Array Slot) (QQ : State → Prop), j + r = Z.1 0 → hk_H D G (hk_cm τ σ) H → va_S (hk_A D) s.heap H locs → lv_has ls 3 [(2, .int (nI j)), (1, .int sum), (0, .ref (G.1 (.inl (0, 0))))] → (∀ (H : Heap) (locs : List Loc) (ls : Array Slot), hk_H D G (hk_cm τ σ) H → va_S (hk_A D) s.heap H locs → lv_has ls 3 [(2, .int (nI (Z.1 0))), (1, .int (hk_it (B_lostInAll Z τ) r j sum)), (0, .ref (G.1 (.inl (0, 0))))] → W p l e ({ frames := 3, cells := 0, slots := 0, locals := 64 }) s m ([.ref (G.1 (.inl (0, 0)))] : List Value).toArray below meth c H locs 0 0 QQ (F0 m 38 ls [])) → W p l e ({ frames := 3, cells := 0, slots := 0, locals := 64 }) s m ([.ref (G.1 (.inl (0, 0)))] : List Value).toArray below meth c H locs 0 0 QQ (F0 m 4 ls []) := by
    intro r
    induction r with
    | zero =>
      intro j sum H locs ls QQ hn_lostInAll hH hS hl kk
      have hz6 := hs.2
      refine lv_iload_n hx hb dX10_lostInAll_4 rfl (lv_at hl 0 rfl) ?_
      refine lv_aload_n hx hb dX10_lostInAll_5 rfl (lv_at hl 2 rfl) ?_
      refine hk_getr (L := (.inl (0, 0))) (v := .ref (G.1 (.inl (1, 0)))) hx hb ht hown hK hH kc_11 hG.k0 0 (by decide) rfl tw_168 rfl hG.r0_0 dX10_lostInAll_6 ?_
      refine hk_cV (L := (.inl (1, 0))) (As := []) (rest := [.int (nI j)]) hx hb hml hl.1 ht hown hK hH hS (c_size l D G τ σ 0 hG.k1_0) ymV_Jx4a65c_size_8abf5 kc_0 hG.k1_0 tw_209 ⟨rfl, rfl⟩ ⟨Nat.le_of_ble_eq_true rfl, Nat.le_of_ble_eq_true rfl⟩ rfl rfl (Nat.le_of_ble_eq_true rfl) dX10_lostInAll_9 ⟨Nat.le_of_ble_eq_true rfl, Nat.le_of_ble_eq_true rfl⟩ (hk_ea (fun H locs hH hS => ?_))
      rw [show F_size τ 0 = τ (1, 0) 2 from rfl]
      refine lv_icmp_ge (tgt := 38) hx hb dX10_lostInAll_12 (by decide) (fun c_2 => ?_) (fun c_2 => ?_)
      rotate_left
      · exfalso; rw [hs.1.1] at c_2; first | exact nI_ge (by omega) (by omega) c_2 | exact c_2 (nI_le (by omega) (by omega)) | exact nI_nlt (by omega) (by omega) c_2 | exact c_2 (nI_lt (by omega) (by omega))
      have hiN : j = Z.1 0 := by omega
      rw [hiN] at hl
      exact kk H locs ls hH hS (lv_sub hl [0, 1, 2] rfl)
    | succ r ih =>
      intro j sum H locs ls QQ hn_lostInAll hH hS hl kk
      have hz6 := hs.2
      refine lv_iload_n hx hb dX10_lostInAll_4 rfl (lv_at hl 0 rfl) ?_
      refine lv_aload_n hx hb dX10_lostInAll_5 rfl (lv_at hl 2 rfl) ?_
      refine hk_getr (L := (.inl (0, 0))) (v := .ref (G.1 (.inl (1, 0)))) hx hb ht hown hK hH kc_11 hG.k0 0 (by decide) rfl tw_168 rfl hG.r0_0 dX10_lostInAll_6 ?_
      refine hk_cV (L := (.inl (1, 0))) (As := []) (rest := [.int (nI j)]) hx hb hml hl.1 ht hown hK hH hS (c_size l D G τ σ 0 hG.k1_0) ymV_Jx4a65c_size_8abf5 kc_0 hG.k1_0 tw_209 ⟨rfl, rfl⟩ ⟨Nat.le_of_ble_eq_true rfl, Nat.le_of_ble_eq_true rfl⟩ rfl rfl (Nat.le_of_ble_eq_true rfl) dX10_lostInAll_9 ⟨Nat.le_of_ble_eq_true rfl, Nat.le_of_ble_eq_true rfl⟩ (hk_ea (fun H locs hH hS => ?_))
      rw [show F_size τ 0 = τ (1, 0) 2 from rfl]
      refine lv_icmp_ge (tgt := 38) hx hb dX10_lostInAll_12 (by decide) (fun c_3 => ?_) (fun c_3 => ?_)
      · exfalso; rw [hs.1.1] at c_3; first | exact nI_ge (by omega) (by omega) c_3 | exact c_3 (nI_le (by omega) (by omega)) | exact nI_nlt (by omega) (by omega) c_3 | exact c_3 (nI_lt (by omega) (by omega))
      refine lv_iload_n hx hb dX10_lostInAll_15 rfl (lv_at hl 1 rfl) ?_
      refine lv_aload_n hx hb dX10_lostInAll_16 rfl (lv_at hl 2 rfl) ?_
      refine hk_getr (L := (.inl (0, 0))) (v := .ref (G.1 (.inl (1, 0)))) hx hb ht hown hK hH kc_11 hG.k0 0 (by decide) rfl tw_168 rfl hG.r0_0 dX10_lostInAll_17 ?_
      refine lv_iload_n hx hb dX10_lostInAll_20 rfl (lv_at hl 0 rfl) ?_
      refine hk_cV (L := (.inl (1, 0))) (As := [.int (nI j)]) (rest := [.int sum]) hx hb hml hl.1 ht hown hK hH hS (c_lget l D G τ σ 0 j (Z.1 0) (nI j) (.ref (G.1 (.inl (9, j)))) hG.k1_0 (hG.a1_0 (by omega)) (hG.k2_0 (by omega)) rfl (by omega) (by have := hs.2; omega) (hG.a2_0 _ (by omega)) ⟨_, rfl⟩ hs.1.1) ymV_Jx4a65c_get_915e3 kc_0 hG.k1_0 tw_343 ⟨rfl, rfl⟩ ⟨Nat.le_of_ble_eq_true rfl, Nat.le_of_ble_eq_true rfl⟩ rfl rfl (Nat.le_of_ble_eq_true rfl) dX10_lostInAll_21 ⟨Nat.le_of_ble_eq_true rfl, Nat.le_of_ble_eq_true rfl⟩ (hk_ea (fun H locs hH hS => ?_))
      refine hk_cast (L := (.inl (9, j))) hx hb ht hown hK hH kc_5 (hG.k9 j (by omega)) tw_213 dX10_lostInAll_24 ?_
      refine hk_geti (L := (.inl (9, j))) (v := τ (9, j) 4) hx hb ht hown hK hH kc_5 (hG.k9 j (by omega)) 4 (by decide) rfl tw_225 rfl rfl dX10_lostInAll_27 ?_
      refine lv_iadd hx hb dX10_lostInAll_30 ?_
      refine lv_istore_n (lv' := [(1, .int (sum + (τ (9, j) 4))), (2, .int (nI j)), (0, .ref (G.1 (.inl (0, 0))))]) hx hb dX10_lostInAll_31 rfl hl (by decide) rfl (fun ls hl => ?_)
      refine lv_iinc (v := nI (j + 1)) (lv' := [(2, .int (nI (j + 1))), (1, .int (sum + (τ (9, j) 4))), (0, .ref (G.1 (.inl (0, 0))))]) hx hb dX10_lostInAll_32 hl (k := 1) rfl (nI_1 _) (by decide) rfl (fun ls hl => ?_)
      refine lv_goto (tgt := 4) hx hb dX10_lostInAll_35 (by decide) ?_
      have EB_4 : (B_lostInAll Z τ) j sum = sum + (τ (9, j) 4) := by simp only [B_lostInAll]
      exact ih (j + 1) (sum + (τ (9, j) 4)) _ _ _ QQ (by omega) hH hS (lv_sub hl [0, 1, 2] rfl) (fun H locs ls hH hS hl => kk H locs ls hH hS (by rw [hk_it_s, EB_4]; exact hl))
  refine LP_1 (Z.1 0) 0 0 _ _ _ _ (by omega) hH hS (lv_sub hl [0, 1, 2] rfl) (fun H locs ls hH hS hl => ?_)
  refine lv_iload_n hx hb dX10_lostInAll_38 rfl (lv_at hl 1 rfl) ?_
  exact hk_iret hx hb hr hlocks hH hS ⟨(by simp only [F_lostInAll]), rfl, rfl⟩ dX10_lostInAll_39
def B_payInAll (Z : hk_Z) (τ : hk_v) (j : Nat) (sum : Int32) : Int32 := sum + (τ (10, j) 5)
def F_payInAll (Z : hk_Z) (τ : hk_v)  : Int32 := (hk_it (B_payInAll Z τ) (Z.1 1) 0 0)
set_option maxHeartbeats 4000000 in
set_option maxRecDepth 100000 in
theorem c_payInAll (l : Launch) (D : hk_D) (G : hk_G) (Z : hk_Z) (τ σ : hk_v)  (hG : hk_Y D G Z) (hs : hk_sz Z τ) : Met l yX10_payInAll (hk_ws yX10_payInAll cX10_payInAll 3 (some FieldType.int)) ({ frames := 3, cells := 0, slots := 0, locals := 64 }) (hk_P D G (hk_cm τ σ) [.ref (G.1 (.inl (0, 0)))]) (hk_Q D (hk_e G (some (.int (F_payInAll Z τ))) (hk_cm τ σ))) 0 0 (hk_A D) := by
  refine hk_met (by decide +kernel) (Nat.le_of_ble_eq_true rfl) (fun p e s m below meth c hx hb hr hml hlocks ht hown hin hK hH hS ls hl => ?_)
  have hl : lv_has ls 3 [(0, .ref (G.1 (.inl (0, 0))))] := hl
  refine lv_iconst (v := 0) hx hb dX10_payInAll_0 (by decide) ?_
  refine lv_istore_n (lv' := [(1, .int 0), (0, .ref (G.1 (.inl (0, 0))))]) hx hb dX10_payInAll_1 rfl hl (by decide) rfl (fun ls hl => ?_)
  refine lv_iconst (v := 0) hx hb dX10_payInAll_2 (by decide) ?_
  refine lv_istore_n (lv' := [(2, .int 0), (1, .int 0), (0, .ref (G.1 (.inl (0, 0))))]) hx hb dX10_payInAll_3 rfl hl (by decide) rfl (fun ls hl => ?_)
  have LP_1 : ∀ (r j : Nat) (sum : Int32) (H : Heap) (locs : List Loc) (ls : Array Slot) (QQ : State → Prop), j + r = Z.1 1 → hk_H D G (hk_cm τ σ) H → va_S (hk_A D) s.heap H locs → lv_has ls 3 [(2, .int (nI j)), (1, .int sum), (0, .ref (G.1 (.inl (0, 0))))] → (∀ (H : Heap) (locs : List Loc) (ls : Array Slot), hk_H D G (hk_cm τ σ) H → va_S (hk_A D) s.heap H locs → lv_has ls 3 [(2, .int (nI (Z.1 1))), (1, .int (hk_it (B_payInAll Z τ) r j sum)), (0, .ref (G.1 (.inl (0, 0))))] → W p l e ({ frames := 3, cells := 0, slots := 0, locals := 64 }) s m ([.ref (G.1 (.inl (0, 0)))] : List Value).toArray below meth c H locs 0 0 QQ (F0 m 38 ls [])) → W p l e ({ frames := 3, cells := 0, slots := 0, locals := 64 }) s m ([.ref (G.1 (.inl (0, 0)))] : List Value).toArray below meth c H locs 0 0 QQ (F0 m 4 ls []) := by
    intro r
    induction r with
    | zero =>
      intro j sum H locs ls QQ hn_payInAll hH hS hl kk
      have hz6 := hs.2
      refine lv_iload_n hx hb dX10_payInAll_4 rfl (lv_at hl 0 rfl) ?_
      refine lv_aload_n hx hb dX10_payInAll_5 rfl (lv_at hl 2 rfl) ?_
      refine hk_getr (L := (.inl (0, 0))) (v := .ref (G.1 (.inl (1, 1)))) hx hb ht hown hK hH kc_11 hG.k0 1 (by decide) rfl tw_169 rfl hG.r0_1 dX10_payInAll_6 ?_
      refine hk_cV (L := (.inl (1, 1))) (As := []) (rest := [.int (nI j)]) hx hb hml hl.1 ht hown hK hH hS (c_size l D G τ σ 1 hG.k1_1) ymV_Jx4a65c_size_8abf5 kc_0 hG.k1_1 tw_209 ⟨rfl, rfl⟩ ⟨Nat.le_of_ble_eq_true rfl, Nat.le_of_ble_eq_true rfl⟩ rfl rfl (Nat.le_of_ble_eq_true rfl) dX10_payInAll_9 ⟨Nat.le_of_ble_eq_true rfl, Nat.le_of_ble_eq_true rfl⟩ (hk_ea (fun H locs hH hS => ?_))
      rw [show F_size τ 1 = τ (1, 1) 2 from rfl]
      refine lv_icmp_ge (tgt := 38) hx hb dX10_payInAll_12 (by decide) (fun c_2 => ?_) (fun c_2 => ?_)
      rotate_left
      · exfalso; rw [hs.1.2.1] at c_2; first | exact nI_ge (by omega) (by omega) c_2 | exact c_2 (nI_le (by omega) (by omega)) | exact nI_nlt (by omega) (by omega) c_2 | exact c_2 (nI_lt (by omega) (by omega))
      have hiN : j = Z.1 1 := by omega
      rw [hiN] at hl
      exact kk H locs ls hH hS (lv_sub hl [0, 1, 2] rfl)
    | succ r ih =>
      intro j sum H locs ls QQ hn_payInAll hH hS hl kk
      have hz6 := hs.2
      refine lv_iload_n hx hb dX10_payInAll_4 rfl (lv_at hl 0 rfl) ?_
      refine lv_aload_n hx hb dX10_payInAll_5 rfl (lv_at hl 2 rfl) ?_
      refine hk_getr (L := (.inl (0, 0))) (v := .ref (G.1 (.inl (1, 1)))) hx hb ht hown hK hH kc_11 hG.k0 1 (by decide) rfl tw_169 rfl hG.r0_1 dX10_payInAll_6 ?_
      refine hk_cV (L := (.inl (1, 1))) (As := []) (rest := [.int (nI j)]) hx hb hml hl.1 ht hown hK hH hS (c_size l D G τ σ 1 hG.k1_1) ymV_Jx4a65c_size_8abf5 kc_0 hG.k1_1 tw_209 ⟨rfl, rfl⟩ ⟨Nat.le_of_ble_eq_true rfl, Nat.le_of_ble_eq_true rfl⟩ rfl rfl (Nat.le_of_ble_eq_true rfl) dX10_payInAll_9 ⟨Nat.le_of_ble_eq_true rfl, Nat.le_of_ble_eq_true rfl⟩ (hk_ea (fun H locs hH hS => ?_))
      rw [show F_size τ 1 = τ (1, 1) 2 from rfl]
      refine lv_icmp_ge (tgt := 38) hx hb dX10_payInAll_12 (by decide) (fun c_3 => ?_) (fun c_3 => ?_)
      · exfalso; rw [hs.1.2.1] at c_3; first | exact nI_ge (by omega) (by omega) c_3 | exact c_3 (nI_le (by omega) (by omega)) | exact nI_nlt (by omega) (by omega) c_3 | exact c_3 (nI_lt (by omega) (by omega))
      refine lv_iload_n hx hb dX10_payInAll_15 rfl (lv_at hl 1 rfl) ?_
      refine lv_aload_n hx hb dX10_payInAll_16 rfl (lv_at hl 2 rfl) ?_
      refine hk_getr (L := (.inl (0, 0))) (v := .ref (G.1 (.inl (1, 1)))) hx hb ht hown hK hH kc_11 hG.k0 1 (by decide) rfl tw_169 rfl hG.r0_1 dX10_payInAll_17 ?_
      refine lv_iload_n hx hb dX10_payInAll_20 rfl (lv_at hl 0 rfl) ?_
      refine hk_cV (L := (.inl (1, 1))) (As := [.int (nI j)]) (rest := [.int sum]) hx hb hml hl.1 ht hown hK hH hS (c_lget l D G τ σ 1 j (Z.1 1) (nI j) (.ref (G.1 (.inl (10, j)))) hG.k1_1 (hG.a1_1 (by omega)) (hG.k2_1 (by omega)) rfl (by omega) (by have := hs.2; omega) (hG.a2_1 _ (by omega)) ⟨_, rfl⟩ hs.1.2.1) ymV_Jx4a65c_get_915e3 kc_0 hG.k1_1 tw_343 ⟨rfl, rfl⟩ ⟨Nat.le_of_ble_eq_true rfl, Nat.le_of_ble_eq_true rfl⟩ rfl rfl (Nat.le_of_ble_eq_true rfl) dX10_payInAll_21 ⟨Nat.le_of_ble_eq_true rfl, Nat.le_of_ble_eq_true rfl⟩ (hk_ea (fun H locs hH hS => ?_))
      refine hk_cast (L := (.inl (10, j))) hx hb ht hown hK hH kc_4 (hG.k10 j (by omega)) tw_304 dX10_payInAll_24 ?_
      refine hk_geti (L := (.inl (10, j))) (v := τ (10, j) 5) hx hb ht hown hK hH kc_4 (hG.k10 j (by omega)) 5 (by decide) rfl tw_321 rfl rfl dX10_payInAll_27 ?_
      refine lv_iadd hx hb dX10_payInAll_30 ?_
      refine lv_istore_n (lv' := [(1, .int (sum + (τ (10, j) 5))), (2, .int (nI j)), (0, .ref (G.1 (.inl (0, 0))))]) hx hb dX10_payInAll_31 rfl hl (by decide) rfl (fun ls hl => ?_)
      refine lv_iinc (v := nI (j + 1)) (lv' := [(2, .int (nI (j + 1))), (1, .int (sum + (τ (10, j) 5))), (0, .ref (G.1 (.inl (0, 0))))]) hx hb dX10_payInAll_32 hl (k := 1) rfl (nI_1 _) (by decide) rfl (fun ls hl => ?_)
      refine lv_goto (tgt := 4) hx hb dX10_payInAll_35 (by decide) ?_
      have EB_4 : (B_payInAll Z τ) j sum = sum + (τ (10, j) 5) := by simp only [B_payInAll]
      exact ih (j + 1) (sum + (τ (10, j) 5)) _ _ _ QQ (by omega) hH hS (lv_sub hl [0, 1, 2] rfl) (fun H locs ls hH hS hl => kk H locs ls hH hS (by rw [hk_it_s, EB_4]; exact hl))
  refine LP_1 (Z.1 1) 0 0 _ _ _ _ (by omega) hH hS (lv_sub hl [0, 1, 2] rfl) (fun H locs ls hH hS hl => ?_)
  refine lv_iload_n hx hb dX10_payInAll_38 rfl (lv_at hl 1 rfl) ?_
  exact hk_iret hx hb hr hlocks hH hS ⟨(by simp only [F_payInAll]), rfl, rfl⟩ dX10_payInAll_39
theorem ymV_X6_bears : hk_mV yX6_bears cX6_bears 3 (some FieldType.int) RX6 0 := ⟨tw_648, tw_646, tw_647, tw_51, rfl, by decide, by decide, by decide +kernel⟩
def B_bound (Z : hk_Z) (τ : hk_v) (j : Nat) (sum : Int32) : Int32 := sum + (F_bears Z τ j)
def F_bound (Z : hk_Z) (τ : hk_v)  : Int32 := (hk_it (B_bound Z τ) (Z.1 2) 0 0)
set_option maxHeartbeats 4000000 in
set_option maxRecDepth 100000 in
theorem c_bound (l : Launch) (D : hk_D) (G : hk_G) (Z : hk_Z) (τ σ : hk_v)  (hG : hk_Y D G Z) (hs : hk_sz Z τ) : Met l yX10_bound (hk_ws yX10_bound cX10_bound 3 (some FieldType.int)) ({ frames := 4, cells := 0, slots := 0, locals := 86 }) (hk_P D G (hk_cm τ σ) [.ref (G.1 (.inl (0, 0)))]) (hk_Q D (hk_e G (some (.int (F_bound Z τ))) (hk_cm τ σ))) 0 0 (hk_A D) := by
  refine hk_met (by decide +kernel) (Nat.le_of_ble_eq_true rfl) (fun p e s m below meth c hx hb hr hml hlocks ht hown hin hK hH hS ls hl => ?_)
  have hl : lv_has ls 3 [(0, .ref (G.1 (.inl (0, 0))))] := hl
  refine lv_iconst (v := 0) hx hb dX10_bound_0 (by decide) ?_
  refine lv_istore_n (lv' := [(1, .int 0), (0, .ref (G.1 (.inl (0, 0))))]) hx hb dX10_bound_1 rfl hl (by decide) rfl (fun ls hl => ?_)
  refine lv_iconst (v := 0) hx hb dX10_bound_2 (by decide) ?_
  refine lv_istore_n (lv' := [(2, .int 0), (1, .int 0), (0, .ref (G.1 (.inl (0, 0))))]) hx hb dX10_bound_3 rfl hl (by decide) rfl (fun ls hl => ?_)
  have LP_1 : ∀ (r j : Nat) (sum : Int32) (H : Heap) (locs : List Loc) (ls : Array Slot) (QQ : State → Prop), j + r = Z.1 2 → hk_H D G (hk_cm τ σ) H → va_S (hk_A D) s.heap H locs → lv_has ls 3 [(2, .int (nI j)), (1, .int sum), (0, .ref (G.1 (.inl (0, 0))))] → (∀ (H : Heap) (locs : List Loc) (ls : Array Slot), hk_H D G (hk_cm τ σ) H → va_S (hk_A D) s.heap H locs → lv_has ls 3 [(2, .int (nI (Z.1 2))), (1, .int (hk_it (B_bound Z τ) r j sum)), (0, .ref (G.1 (.inl (0, 0))))] → W p l e ({ frames := 4, cells := 0, slots := 0, locals := 86 }) s m ([.ref (G.1 (.inl (0, 0)))] : List Value).toArray below meth c H locs 0 0 QQ (F0 m 38 ls [])) → W p l e ({ frames := 4, cells := 0, slots := 0, locals := 86 }) s m ([.ref (G.1 (.inl (0, 0)))] : List Value).toArray below meth c H locs 0 0 QQ (F0 m 4 ls []) := by
    intro r
    induction r with
    | zero =>
      intro j sum H locs ls QQ hn_bound hH hS hl kk
      have hz6 := hs.2
      refine lv_iload_n hx hb dX10_bound_4 rfl (lv_at hl 0 rfl) ?_
      refine lv_aload_n hx hb dX10_bound_5 rfl (lv_at hl 2 rfl) ?_
      refine hk_getr (L := (.inl (0, 0))) (v := .ref (G.1 (.inl (1, 2)))) hx hb ht hown hK hH kc_11 hG.k0 2 (by decide) rfl tw_170 rfl hG.r0_2 dX10_bound_6 ?_
      refine hk_cV (L := (.inl (1, 2))) (As := []) (rest := [.int (nI j)]) hx hb hml hl.1 ht hown hK hH hS (c_size l D G τ σ 2 hG.k1_2) ymV_Jx4a65c_size_8abf5 kc_0 hG.k1_2 tw_209 ⟨rfl, rfl⟩ ⟨Nat.le_of_ble_eq_true rfl, Nat.le_of_ble_eq_true rfl⟩ rfl rfl (Nat.le_of_ble_eq_true rfl) dX10_bound_9 ⟨Nat.le_of_ble_eq_true rfl, Nat.le_of_ble_eq_true rfl⟩ (hk_ea (fun H locs hH hS => ?_))
      rw [show F_size τ 2 = τ (1, 2) 2 from rfl]
      refine lv_icmp_ge (tgt := 38) hx hb dX10_bound_12 (by decide) (fun c_2 => ?_) (fun c_2 => ?_)
      rotate_left
      · exfalso; rw [hs.1.2.2] at c_2; first | exact nI_ge (by omega) (by omega) c_2 | exact c_2 (nI_le (by omega) (by omega)) | exact nI_nlt (by omega) (by omega) c_2 | exact c_2 (nI_lt (by omega) (by omega))
      have hiN : j = Z.1 2 := by omega
      rw [hiN] at hl
      exact kk H locs ls hH hS (lv_sub hl [0, 1, 2] rfl)
    | succ r ih =>
      intro j sum H locs ls QQ hn_bound hH hS hl kk
      have hz6 := hs.2
      refine lv_iload_n hx hb dX10_bound_4 rfl (lv_at hl 0 rfl) ?_
      refine lv_aload_n hx hb dX10_bound_5 rfl (lv_at hl 2 rfl) ?_
      refine hk_getr (L := (.inl (0, 0))) (v := .ref (G.1 (.inl (1, 2)))) hx hb ht hown hK hH kc_11 hG.k0 2 (by decide) rfl tw_170 rfl hG.r0_2 dX10_bound_6 ?_
      refine hk_cV (L := (.inl (1, 2))) (As := []) (rest := [.int (nI j)]) hx hb hml hl.1 ht hown hK hH hS (c_size l D G τ σ 2 hG.k1_2) ymV_Jx4a65c_size_8abf5 kc_0 hG.k1_2 tw_209 ⟨rfl, rfl⟩ ⟨Nat.le_of_ble_eq_true rfl, Nat.le_of_ble_eq_true rfl⟩ rfl rfl (Nat.le_of_ble_eq_true rfl) dX10_bound_9 ⟨Nat.le_of_ble_eq_true rfl, Nat.le_of_ble_eq_true rfl⟩ (hk_ea (fun H locs hH hS => ?_))
      rw [show F_size τ 2 = τ (1, 2) 2 from rfl]
      refine lv_icmp_ge (tgt := 38) hx hb dX10_bound_12 (by decide) (fun c_3 => ?_) (fun c_3 => ?_)
      · exfalso; rw [hs.1.2.2] at c_3; first | exact nI_ge (by omega) (by omega) c_3 | exact c_3 (nI_le (by omega) (by omega)) | exact nI_nlt (by omega) (by omega) c_3 | exact c_3 (nI_lt (by omega) (by omega))
      refine lv_iload_n hx hb dX10_bound_15 rfl (lv_at hl 1 rfl) ?_
      refine lv_aload_n hx hb dX10_bound_16 rfl (lv_at hl 2 rfl) ?_
      refine hk_getr (L := (.inl (0, 0))) (v := .ref (G.1 (.inl (1, 2)))) hx hb ht hown hK hH kc_11 hG.k0 2 (by decide) rfl tw_170 rfl hG.r0_2 dX10_bound_17 ?_
      refine lv_iload_n hx hb dX10_bound_20 rfl (lv_at hl 0 rfl) ?_
      refine hk_cV (L := (.inl (1, 2))) (As := [.int (nI j)]) (rest := [.int sum]) hx hb hml hl.1 ht hown hK hH hS (c_lget l D G τ σ 2 j (Z.1 2) (nI j) (.ref (G.1 (.inl (11, j)))) hG.k1_2 (hG.a1_2 (by omega)) (hG.k2_2 (by omega)) rfl (by omega) (by have := hs.2; omega) (hG.a2_2 _ (by omega)) ⟨_, rfl⟩ hs.1.2.2) ymV_Jx4a65c_get_915e3 kc_0 hG.k1_2 tw_343 ⟨rfl, rfl⟩ ⟨Nat.le_of_ble_eq_true rfl, Nat.le_of_ble_eq_true rfl⟩ rfl rfl (Nat.le_of_ble_eq_true rfl) dX10_bound_21 ⟨Nat.le_of_ble_eq_true rfl, Nat.le_of_ble_eq_true rfl⟩ (hk_ea (fun H locs hH hS => ?_))
      refine hk_cast (L := (.inl (11, j))) hx hb ht hown hK hH kc_7 (hG.k11 j (by omega)) tw_365 dX10_bound_24 ?_
      refine hk_cV (L := (.inl (11, j))) (As := []) (rest := [.int sum]) hx hb hml hl.1 ht hown hK hH hS (c_bears l D G Z τ σ j hG (by omega)) ymV_X6_bears kc_7 (hG.k11 j (by omega)) tw_645 ⟨rfl, rfl⟩ ⟨Nat.le_of_ble_eq_true rfl, Nat.le_of_ble_eq_true rfl⟩ rfl rfl (Nat.le_of_ble_eq_true rfl) dX10_bound_27 ⟨Nat.le_of_ble_eq_true rfl, Nat.le_of_ble_eq_true rfl⟩ (hk_ea (fun H locs hH hS => ?_))
      refine lv_iadd hx hb dX10_bound_30 ?_
      refine lv_istore_n (lv' := [(1, .int (sum + (F_bears Z τ j))), (2, .int (nI j)), (0, .ref (G.1 (.inl (0, 0))))]) hx hb dX10_bound_31 rfl hl (by decide) rfl (fun ls hl => ?_)
      refine lv_iinc (v := nI (j + 1)) (lv' := [(2, .int (nI (j + 1))), (1, .int (sum + (F_bears Z τ j))), (0, .ref (G.1 (.inl (0, 0))))]) hx hb dX10_bound_32 hl (k := 1) rfl (nI_1 _) (by decide) rfl (fun ls hl => ?_)
      refine lv_goto (tgt := 4) hx hb dX10_bound_35 (by decide) ?_
      have EB_4 : (B_bound Z τ) j sum = sum + (F_bears Z τ j) := by simp only [B_bound]
      exact ih (j + 1) (sum + (F_bears Z τ j)) _ _ _ QQ (by omega) hH hS (lv_sub hl [0, 1, 2] rfl) (fun H locs ls hH hS hl => kk H locs ls hH hS (by rw [hk_it_s, EB_4]; exact hl))
  refine LP_1 (Z.1 2) 0 0 _ _ _ _ (by omega) hH hS (lv_sub hl [0, 1, 2] rfl) (fun H locs ls hH hS hl => ?_)
  refine lv_iload_n hx hb dX10_bound_38 rfl (lv_at hl 1 rfl) ?_
  exact hk_iret hx hb hr hlocks hH hS ⟨(by simp only [F_bound]), rfl, rfl⟩ dX10_bound_39
theorem hk_led_c {τ : hk_v} (h : hk_pr τ) : F_led τ = nI (F_led τ).toNatClampNeg ∧ (F_led τ).toNatClampNeg ≤ 100 := by
  obtain ⟨n, hn, e⟩ := hk_led_n h
  rw [e, nI_clamp (by omega)]
  exact ⟨rfl, hn⟩
def B_chargedInAll (τ : hk_v) (j : Nat) (sum : Int32) : Int32 := sum + (F_inForce τ 1 (τ (5, 1) 3).toNatClampNeg (τ (4, 2) j))
def F_chargedInAll (τ : hk_v)  : Int32 := (hk_it (B_chargedInAll τ) ((F_led τ).toNatClampNeg) 0 0)
set_option maxHeartbeats 4000000 in
set_option maxRecDepth 100000 in
theorem c_chargedInAll (l : Launch) (D : hk_D) (G : hk_G) (Z : hk_Z) (τ σ : hk_v)  (hG : hk_Y D G Z) (hn1 : hk_nt τ 1) (hpr : hk_pr τ) : Met l yX10_chargedInAll (hk_ws yX10_chargedInAll cX10_chargedInAll 3 (some FieldType.int)) ({ frames := 2, cells := 0, slots := 0, locals := 33 }) (hk_P D G (hk_cm τ σ) [.ref (G.1 (.inl (0, 0)))]) (hk_Q D (hk_e G (some (.int (F_chargedInAll τ))) (hk_cm τ σ))) 0 0 (hk_A D) := by
  refine hk_met (by decide +kernel) (Nat.le_of_ble_eq_true rfl) (fun p e s m below meth c hx hb hr hml hlocks ht hown hin hK hH hS ls hl => ?_)
  have hl : lv_has ls 3 [(0, .ref (G.1 (.inl (0, 0))))] := hl
  refine lv_iconst (v := 0) hx hb dX10_chargedInAll_0 (by decide) ?_
  refine lv_istore_n (lv' := [(1, .int 0), (0, .ref (G.1 (.inl (0, 0))))]) hx hb dX10_chargedInAll_1 rfl hl (by decide) rfl (fun ls hl => ?_)
  refine lv_iconst (v := 0) hx hb dX10_chargedInAll_2 (by decide) ?_
  refine lv_istore_n (lv' := [(2, .int 0), (1, .int 0), (0, .ref (G.1 (.inl (0, 0))))]) hx hb dX10_chargedInAll_3 rfl hl (by decide) rfl (fun ls hl => ?_)
  have LP_1 : ∀ (r j : Nat) (sum : Int32) (H : Heap) (locs : List Loc) (ls : Array Slot) (QQ : State → Prop), j + r = (F_led τ).toNatClampNeg → hk_H D G (hk_cm τ σ) H → va_S (hk_A D) s.heap H locs → lv_has ls 3 [(2, .int (nI j)), (1, .int sum), (0, .ref (G.1 (.inl (0, 0))))] → (∀ (H : Heap) (locs : List Loc) (ls : Array Slot), hk_H D G (hk_cm τ σ) H → va_S (hk_A D) s.heap H locs → lv_has ls 3 [(2, .int (nI ((F_led τ).toNatClampNeg))), (1, .int (hk_it (B_chargedInAll τ) r j sum)), (0, .ref (G.1 (.inl (0, 0))))] → W p l e ({ frames := 2, cells := 0, slots := 0, locals := 33 }) s m ([.ref (G.1 (.inl (0, 0)))] : List Value).toArray below meth c H locs 0 0 QQ (F0 m 40 ls [])) → W p l e ({ frames := 2, cells := 0, slots := 0, locals := 33 }) s m ([.ref (G.1 (.inl (0, 0)))] : List Value).toArray below meth c H locs 0 0 QQ (F0 m 4 ls []) := by
    intro r
    induction r with
    | zero =>
      intro j sum H locs ls QQ hn_chargedInAll hH hS hl kk
      have hle := (hk_led_c hpr).2
      refine lv_iload_n hx hb dX10_chargedInAll_4 rfl (lv_at hl 0 rfl) ?_
      refine lv_aload_n hx hb dX10_chargedInAll_5 rfl (lv_at hl 2 rfl) ?_
      refine hk_getr (L := (.inl (0, 0))) (v := .ref (G.1 (.inl (4, 0)))) hx hb ht hown hK hH kc_11 hG.k0 4 (by decide) rfl tw_172 rfl hG.r0_4 dX10_chargedInAll_6 ?_
      refine hk_cV (L := (.inl (4, 0))) (As := []) (rest := [.int (nI j)]) hx hb hml hl.1 ht hown hK hH hS (c_led l D G Z τ σ hG) ymV_X9_led kc_10 hG.k4_0 tw_600 ⟨rfl, rfl⟩ ⟨Nat.le_of_ble_eq_true rfl, Nat.le_of_ble_eq_true rfl⟩ rfl rfl (Nat.le_of_ble_eq_true rfl) dX10_chargedInAll_9 ⟨Nat.le_of_ble_eq_true rfl, Nat.le_of_ble_eq_true rfl⟩ (hk_ea (fun H locs hH hS => ?_))
      refine lv_icmp_ge (tgt := 40) hx hb dX10_chargedInAll_12 (by decide) (fun c_2 => ?_) (fun c_2 => ?_)
      rotate_left
      · exfalso; rw [(hk_led_c hpr).1] at c_2; first | exact nI_ge (by omega) (by omega) c_2 | exact c_2 (nI_le (by omega) (by omega)) | exact nI_nlt (by omega) (by omega) c_2 | exact c_2 (nI_lt (by omega) (by omega))
      have hiN : j = (F_led τ).toNatClampNeg := by omega
      rw [hiN] at hl
      exact kk H locs ls hH hS (lv_sub hl [0, 1, 2] rfl)
    | succ r ih =>
      intro j sum H locs ls QQ hn_chargedInAll hH hS hl kk
      have hle := (hk_led_c hpr).2
      refine lv_iload_n hx hb dX10_chargedInAll_4 rfl (lv_at hl 0 rfl) ?_
      refine lv_aload_n hx hb dX10_chargedInAll_5 rfl (lv_at hl 2 rfl) ?_
      refine hk_getr (L := (.inl (0, 0))) (v := .ref (G.1 (.inl (4, 0)))) hx hb ht hown hK hH kc_11 hG.k0 4 (by decide) rfl tw_172 rfl hG.r0_4 dX10_chargedInAll_6 ?_
      refine hk_cV (L := (.inl (4, 0))) (As := []) (rest := [.int (nI j)]) hx hb hml hl.1 ht hown hK hH hS (c_led l D G Z τ σ hG) ymV_X9_led kc_10 hG.k4_0 tw_600 ⟨rfl, rfl⟩ ⟨Nat.le_of_ble_eq_true rfl, Nat.le_of_ble_eq_true rfl⟩ rfl rfl (Nat.le_of_ble_eq_true rfl) dX10_chargedInAll_9 ⟨Nat.le_of_ble_eq_true rfl, Nat.le_of_ble_eq_true rfl⟩ (hk_ea (fun H locs hH hS => ?_))
      refine lv_icmp_ge (tgt := 40) hx hb dX10_chargedInAll_12 (by decide) (fun c_3 => ?_) (fun c_3 => ?_)
      · exfalso; rw [(hk_led_c hpr).1] at c_3; first | exact nI_ge (by omega) (by omega) c_3 | exact c_3 (nI_le (by omega) (by omega)) | exact nI_nlt (by omega) (by omega) c_3 | exact c_3 (nI_lt (by omega) (by omega))
      refine lv_iload_n hx hb dX10_chargedInAll_15 rfl (lv_at hl 1 rfl) ?_
      refine lv_aload_n hx hb dX10_chargedInAll_16 rfl (lv_at hl 2 rfl) ?_
      refine hk_getr (L := (.inl (0, 0))) (v := .ref (G.1 (.inl (5, 1)))) hx hb ht hown hK hH kc_11 hG.k0 6 (by decide) rfl tw_174 rfl hG.r0_6 dX10_chargedInAll_17 ?_
      refine lv_aload_n hx hb dX10_chargedInAll_20 rfl (lv_at hl 2 rfl) ?_
      refine hk_getr (L := (.inl (0, 0))) (v := .ref (G.1 (.inl (4, 0)))) hx hb ht hown hK hH kc_11 hG.k0 4 (by decide) rfl tw_172 rfl hG.r0_4 dX10_chargedInAll_21 ?_
      refine hk_getr (L := (.inl (4, 0))) (v := .ref (G.1 (.inl (4, 2)))) hx hb ht hown hK hH kc_10 hG.k4_0 1 (by decide) rfl tw_113 rfl hG.r4_1 dX10_chargedInAll_24 ?_
      refine lv_iload_n hx hb dX10_chargedInAll_27 rfl (lv_at hl 0 rfl) ?_
      refine hk_ild (L := (.inl (4, 2))) (v := τ (4, 2) j) hx hb hK hH hG.k4_2 (vp_in_nI (by omega) (by omega)) (by rw [nI_clamp (by omega)]; rfl) dX10_chargedInAll_28 ?_
      refine hk_cV (L := (.inl (5, 1))) (As := [.int (τ (4, 2) j)]) (rest := [.int sum]) hx hb hml hl.1 ht hown hK hH hS (c_inForce l D G Z τ σ 1 (τ (5, 1) 3).toNatClampNeg (τ (4, 2) j) hG (by decide) hn1.1 hn1.2) ymV_X7_inForce kc_8 (hG.k5 1 (by decide)) tw_482 ⟨rfl, rfl⟩ ⟨Nat.le_of_ble_eq_true rfl, Nat.le_of_ble_eq_true rfl⟩ rfl rfl (Nat.le_of_ble_eq_true rfl) dX10_chargedInAll_29 ⟨Nat.le_of_ble_eq_true rfl, Nat.le_of_ble_eq_true rfl⟩ (hk_ea (fun H locs hH hS => ?_))
      refine lv_iadd hx hb dX10_chargedInAll_32 ?_
      refine lv_istore_n (lv' := [(1, .int (sum + (F_inForce τ 1 (τ (5, 1) 3).toNatClampNeg (τ (4, 2) j)))), (2, .int (nI j)), (0, .ref (G.1 (.inl (0, 0))))]) hx hb dX10_chargedInAll_33 rfl hl (by decide) rfl (fun ls hl => ?_)
      refine lv_iinc (v := nI (j + 1)) (lv' := [(2, .int (nI (j + 1))), (1, .int (sum + (F_inForce τ 1 (τ (5, 1) 3).toNatClampNeg (τ (4, 2) j)))), (0, .ref (G.1 (.inl (0, 0))))]) hx hb dX10_chargedInAll_34 hl (k := 1) rfl (nI_1 _) (by decide) rfl (fun ls hl => ?_)
      refine lv_goto (tgt := 4) hx hb dX10_chargedInAll_37 (by decide) ?_
      have EB_4 : (B_chargedInAll τ) j sum = sum + (F_inForce τ 1 (τ (5, 1) 3).toNatClampNeg (τ (4, 2) j)) := by simp only [B_chargedInAll]
      exact ih (j + 1) (sum + (F_inForce τ 1 (τ (5, 1) 3).toNatClampNeg (τ (4, 2) j))) _ _ _ QQ (by omega) hH hS (lv_sub hl [0, 1, 2] rfl) (fun H locs ls hH hS hl => kk H locs ls hH hS (by rw [hk_it_s, EB_4]; exact hl))
  refine LP_1 ((F_led τ).toNatClampNeg) 0 0 _ _ _ _ (by omega) hH hS (lv_sub hl [0, 1, 2] rfl) (fun H locs ls hH hS hl => ?_)
  refine lv_iload_n hx hb dX10_chargedInAll_40 rfl (lv_at hl 1 rfl) ?_
  exact hk_iret hx hb hr hlocks hH hS ⟨(by simp only [F_chargedInAll]), rfl, rfl⟩ dX10_chargedInAll_41
theorem ymV_X5_ofGarden : hk_mV yX5_ofGarden cX5_ofGarden 4 (some FieldType.int) RX5 1 := ⟨tw_567, tw_565, tw_566, tw_38, rfl, by decide, by decide, by decide +kernel⟩
theorem ymV_X10_inKilnsOf : hk_mV yX10_inKilnsOf cX10_inKilnsOf 4 (some FieldType.int) RX10 1 := ⟨tw_571, tw_570, tw_13, tw_34, rfl, by decide, by decide, by decide +kernel⟩
def F_about (Z : hk_Z) (τ : hk_v) (g : Int32) (w : Int32) : Int32 := (if hk_in g 0 (τ (1, 0) 2 - 1) = 0 then (-1) else (if w = 0 then τ (9, g.toNatClampNeg) 2 else (if w = 1 then τ (9, g.toNatClampNeg) 3 else (if w = 2 then F_gofGarden τ g else (if w = 3 then F_inKilnsOf Z τ g else (if w = 4 then τ (9, g.toNatClampNeg) 4 else (if w = 5 then τ (9, g.toNatClampNeg) 5 else (-1))))))))
set_option maxHeartbeats 4000000 in
set_option maxRecDepth 100000 in
theorem c_about (l : Launch) (D : hk_D) (G : hk_G) (Z : hk_Z) (τ σ : hk_v) (g : Int32) (w : Int32) (hG : hk_Y D G Z) (hs : hk_sz Z τ) (hlo : hk_lo Z τ) : Met l yX10_about (hk_ws yX10_about cX10_about 4 (some FieldType.int)) ({ frames := 4, cells := 0, slots := 0, locals := 87 }) (hk_P D G (hk_cm τ σ) [.ref (G.1 (.inl (0, 0))), .int g, .int w]) (hk_Q D (hk_e G (some (.int (F_about Z τ g w))) (hk_cm τ σ))) 0 0 (hk_A D) := by
  refine hk_met (by decide +kernel) (Nat.le_of_ble_eq_true rfl) (fun p e s m below meth c hx hb hr hml hlocks ht hown hin hK hH hS ls hl => ?_)
  have hl : lv_has ls 4 [(0, .ref (G.1 (.inl (0, 0)))), (1, .int g), (2, .int w)] := hl
  refine lv_aload_n hx hb dX10_about_0 rfl (lv_at hl 0 rfl) ?_
  refine lv_iload_n hx hb dX10_about_1 rfl (lv_at hl 1 rfl) ?_
  by_cases ho_1 : hk_in g 0 (τ (1, 0) 2 - 1) = 0
  · refine hk_cV (L := (.inl (0, 0))) (As := [.int g]) (rest := []) hx hb hml hl.1 ht hown hK hH hS (c_gardenOf_out l D G Z τ σ g hG hs ho_1) ymV_X10_gardenOf kc_11 hG.k0 tw_357 ⟨rfl, rfl⟩ ⟨Nat.le_of_ble_eq_true rfl, Nat.le_of_ble_eq_true rfl⟩ rfl rfl (Nat.le_of_ble_eq_true rfl) dX10_about_2 ⟨Nat.le_of_ble_eq_true rfl, Nat.le_of_ble_eq_true rfl⟩ (hk_ea (fun H locs hH hS => ?_))
    refine lv_astore_nN (lv' := [(3, .null), (0, .ref (G.1 (.inl (0, 0)))), (1, .int g), (2, .int w)]) hx hb dX10_about_5 rfl hl (by decide) rfl (fun ls hl => ?_)
    refine lv_aload_nN hx hb dX10_about_6 rfl (lv_at hl 0 rfl) ?_
    refine lv_ifnonnullN hx hb dX10_about_7 ?_
    refine lv_iconst (v := -1) hx hb dX10_about_10 (by decide) ?_
    exact hk_iret hx hb hr hlocks hH hS ⟨(by simp only [F_about, if_pos ho_1]), rfl, rfl⟩ dX10_about_11
  · refine hk_cV (L := (.inl (0, 0))) (As := [.int g]) (rest := []) hx hb hml hl.1 ht hown hK hH hS (c_gardenOf_in l D G Z τ σ g hG hs ho_1) ymV_X10_gardenOf kc_11 hG.k0 tw_357 ⟨rfl, rfl⟩ ⟨Nat.le_of_ble_eq_true rfl, Nat.le_of_ble_eq_true rfl⟩ rfl rfl (Nat.le_of_ble_eq_true rfl) dX10_about_2 ⟨Nat.le_of_ble_eq_true rfl, Nat.le_of_ble_eq_true rfl⟩ (hk_ea (fun H locs hH hS => ?_))
    refine lv_astore_n (lv' := [(3, .ref (G.1 (.inl (9, g.toNatClampNeg)))), (0, .ref (G.1 (.inl (0, 0)))), (1, .int g), (2, .int w)]) hx hb dX10_about_5 rfl hl (by decide) rfl (fun ls hl => ?_)
    refine lv_aload_n hx hb dX10_about_6 rfl (lv_at hl 0 rfl) ?_
    refine lv_ifnonnull (tgt := 12) hx hb dX10_about_7 (by decide) ?_
    refine lv_iload_n hx hb dX10_about_12 rfl (lv_at hl 3 rfl) ?_
    rcases hk_sw5 w with (rfl | rfl | rfl | rfl | rfl | rfl) | hsw
    · refine lv_tableIn (x := 0) (tgt := 52) hx hb dX10_about_13 (by decide) (by decide) rfl (by decide) ?_
      refine lv_aload_n hx hb dX10_about_52 rfl (lv_at hl 0 rfl) ?_
      refine hk_geti (L := (.inl (9, g.toNatClampNeg))) (v := τ (9, g.toNatClampNeg) 2) hx hb ht hown hK hH kc_5 (hG.k9 g.toNatClampNeg (hk_in_sz hs.1.1 (by have := hs.2; omega) ho_1).1) 2 (by decide) rfl tw_222 rfl rfl dX10_about_53 ?_
      exact hk_iret hx hb hr hlocks hH hS ⟨(by simp [F_about, if_neg ho_1]), rfl, rfl⟩ dX10_about_56
    · refine lv_tableIn (x := 1) (tgt := 57) hx hb dX10_about_13 (by decide) (by decide) rfl (by decide) ?_
      refine lv_aload_n hx hb dX10_about_57 rfl (lv_at hl 0 rfl) ?_
      refine hk_geti (L := (.inl (9, g.toNatClampNeg))) (v := τ (9, g.toNatClampNeg) 3) hx hb ht hown hK hH kc_5 (hG.k9 g.toNatClampNeg (hk_in_sz hs.1.1 (by have := hs.2; omega) ho_1).1) 3 (by decide) rfl tw_224 rfl rfl dX10_about_58 ?_
      exact hk_iret hx hb hr hlocks hH hS ⟨(by simp [F_about, if_neg ho_1]), rfl, rfl⟩ dX10_about_61
    · refine lv_tableIn (x := 2) (tgt := 62) hx hb dX10_about_13 (by decide) (by decide) rfl (by decide) ?_
      refine lv_aload_n hx hb dX10_about_62 rfl (lv_at hl 1 rfl) ?_
      refine hk_getr (L := (.inl (0, 0))) (v := .ref (G.1 (.inl (3, 0)))) hx hb ht hown hK hH kc_11 hG.k0 3 (by decide) rfl tw_171 rfl hG.r0_3 dX10_about_63 ?_
      refine lv_iload_n hx hb dX10_about_66 rfl (lv_at hl 2 rfl) ?_
      refine hk_cV (L := (.inl (3, 0))) (As := [.int g]) (rest := []) hx hb hml hl.1 ht hown hK hH hS (c_gofGarden l D G Z τ σ g hG) ymV_X5_ofGarden kc_6 hG.k3_0 tw_564 ⟨rfl, rfl⟩ ⟨Nat.le_of_ble_eq_true rfl, Nat.le_of_ble_eq_true rfl⟩ rfl rfl (Nat.le_of_ble_eq_true rfl) dX10_about_67 ⟨Nat.le_of_ble_eq_true rfl, Nat.le_of_ble_eq_true rfl⟩ (hk_ea (fun H locs hH hS => ?_))
      exact hk_iret hx hb hr hlocks hH hS ⟨(by simp [F_about, if_neg ho_1]), rfl, rfl⟩ dX10_about_70
    · refine lv_tableIn (x := 3) (tgt := 71) hx hb dX10_about_13 (by decide) (by decide) rfl (by decide) ?_
      refine lv_aload_n hx hb dX10_about_71 rfl (lv_at hl 1 rfl) ?_
      refine lv_iload_n hx hb dX10_about_72 rfl (lv_at hl 2 rfl) ?_
      refine hk_cV (L := (.inl (0, 0))) (As := [.int g]) (rest := []) hx hb hml hl.1 ht hown hK hH hS (c_inKilnsOf l D G Z τ σ g hG hs hlo) ymV_X10_inKilnsOf kc_11 hG.k0 tw_568 ⟨rfl, rfl⟩ ⟨Nat.le_of_ble_eq_true rfl, Nat.le_of_ble_eq_true rfl⟩ rfl rfl (Nat.le_of_ble_eq_true rfl) dX10_about_73 ⟨Nat.le_of_ble_eq_true rfl, Nat.le_of_ble_eq_true rfl⟩ (hk_ea (fun H locs hH hS => ?_))
      exact hk_iret hx hb hr hlocks hH hS ⟨(by simp [F_about, if_neg ho_1]), rfl, rfl⟩ dX10_about_76
    · refine lv_tableIn (x := 4) (tgt := 77) hx hb dX10_about_13 (by decide) (by decide) rfl (by decide) ?_
      refine lv_aload_n hx hb dX10_about_77 rfl (lv_at hl 0 rfl) ?_
      refine hk_geti (L := (.inl (9, g.toNatClampNeg))) (v := τ (9, g.toNatClampNeg) 4) hx hb ht hown hK hH kc_5 (hG.k9 g.toNatClampNeg (hk_in_sz hs.1.1 (by have := hs.2; omega) ho_1).1) 4 (by decide) rfl tw_225 rfl rfl dX10_about_78 ?_
      exact hk_iret hx hb hr hlocks hH hS ⟨(by simp [F_about, if_neg ho_1]), rfl, rfl⟩ dX10_about_81
    · refine lv_tableIn (x := 5) (tgt := 82) hx hb dX10_about_13 (by decide) (by decide) rfl (by decide) ?_
      refine lv_aload_n hx hb dX10_about_82 rfl (lv_at hl 0 rfl) ?_
      refine hk_geti (L := (.inl (9, g.toNatClampNeg))) (v := τ (9, g.toNatClampNeg) 5) hx hb ht hown hK hH kc_5 (hG.k9 g.toNatClampNeg (hk_in_sz hs.1.1 (by have := hs.2; omega) ho_1).1) 5 (by decide) rfl tw_226 rfl rfl dX10_about_83 ?_
      exact hk_iret hx hb hr hlocks hH hS ⟨(by simp [F_about, if_neg ho_1]), rfl, rfl⟩ dX10_about_86
    · refine lv_tableOut (tgt := 87) hx hb dX10_about_13 hsw.1 (by decide) ?_
      refine lv_iconst (v := -1) hx hb dX10_about_87 (by decide) ?_
      exact hk_iret hx hb hr hlocks hH hS ⟨(by simp [F_about, if_neg ho_1, hsw]), rfl, rfl⟩ dX10_about_88
theorem ymV_X10_chargedInAll : hk_mV yX10_chargedInAll cX10_chargedInAll 3 (some FieldType.int) RX10 0 := ⟨tw_612, tw_611, tw_14, tw_34, rfl, by decide, by decide, by decide +kernel⟩
theorem ymV_X10_lostInAll : hk_mV yX10_lostInAll cX10_lostInAll 3 (some FieldType.int) RX10 0 := ⟨tw_616, tw_615, tw_15, tw_34, rfl, by decide, by decide, by decide +kernel⟩
theorem ymV_X10_payInAll : hk_mV yX10_payInAll cX10_payInAll 3 (some FieldType.int) RX10 0 := ⟨tw_620, tw_619, tw_16, tw_34, rfl, by decide, by decide, by decide +kernel⟩
def F_count (Z : hk_Z) (τ : hk_v) (w : Int32) : Int32 := (if w = 0 then τ (0, 0) 8 else (if w = 1 then τ (1, 0) 2 else (if w = 2 then τ (1, 1) 2 else (if w = 3 then τ (1, 2) 2 else (if w = 4 then τ (4, 0) 2 else (if w = 5 then τ (4, 0) 3 else (if w = 6 then F_chargedInAll τ else (if w = 7 then F_lostInAll Z τ else (if w = 8 then τ (3, 0) 1 else (if w = 9 then F_payInAll Z τ else (-1)))))))))))
set_option maxHeartbeats 4000000 in
set_option maxRecDepth 100000 in
theorem c_count (l : Launch) (D : hk_D) (G : hk_G) (Z : hk_Z) (τ σ : hk_v) (w : Int32) (hG : hk_Y D G Z) (hs : hk_sz Z τ) (hn1 : hk_nt τ 1) (hpr : hk_pr τ) : Met l yX10_count (hk_ws yX10_count cX10_count 2 (some FieldType.int)) ({ frames := 4, cells := 0, slots := 0, locals := 86 }) (hk_P D G (hk_cm τ σ) [.ref (G.1 (.inl (0, 0))), .int w]) (hk_Q D (hk_e G (some (.int (F_count Z τ w))) (hk_cm τ σ))) 0 0 (hk_A D) := by
  refine hk_met (by decide +kernel) (Nat.le_of_ble_eq_true rfl) (fun p e s m below meth c hx hb hr hml hlocks ht hown hin hK hH hS ls hl => ?_)
  have hl : lv_has ls 2 [(0, .ref (G.1 (.inl (0, 0)))), (1, .int w)] := hl
  refine lv_iload_n hx hb dX10_count_0 rfl (lv_at hl 1 rfl) ?_
  rcases hk_sw9 w with (rfl | rfl | rfl | rfl | rfl | rfl | rfl | rfl | rfl | rfl) | hsw
  · refine lv_tableIn (x := 0) (tgt := 56) hx hb dX10_count_1 (by decide) (by decide) rfl (by decide) ?_
    refine lv_aload_n hx hb dX10_count_56 rfl (lv_at hl 0 rfl) ?_
    refine hk_geti (L := (.inl (0, 0))) (v := τ (0, 0) 8) hx hb ht hown hK hH kc_11 hG.k0 8 (by decide) rfl tw_176 rfl rfl dX10_count_57 ?_
    exact hk_iret hx hb hr hlocks hH hS ⟨(by simp [F_count]), rfl, rfl⟩ dX10_count_60
  · refine lv_tableIn (x := 1) (tgt := 61) hx hb dX10_count_1 (by decide) (by decide) rfl (by decide) ?_
    refine lv_aload_n hx hb dX10_count_61 rfl (lv_at hl 0 rfl) ?_
    refine hk_getr (L := (.inl (0, 0))) (v := .ref (G.1 (.inl (1, 0)))) hx hb ht hown hK hH kc_11 hG.k0 0 (by decide) rfl tw_168 rfl hG.r0_0 dX10_count_62 ?_
    refine hk_cV (L := (.inl (1, 0))) (As := []) (rest := []) hx hb hml hl.1 ht hown hK hH hS (c_size l D G τ σ 0 hG.k1_0) ymV_Jx4a65c_size_8abf5 kc_0 hG.k1_0 tw_209 ⟨rfl, rfl⟩ ⟨Nat.le_of_ble_eq_true rfl, Nat.le_of_ble_eq_true rfl⟩ rfl rfl (Nat.le_of_ble_eq_true rfl) dX10_count_65 ⟨Nat.le_of_ble_eq_true rfl, Nat.le_of_ble_eq_true rfl⟩ (hk_ea (fun H locs hH hS => ?_))
    rw [show F_size τ 0 = τ (1, 0) 2 from rfl]
    exact hk_iret hx hb hr hlocks hH hS ⟨(by simp [F_count]), rfl, rfl⟩ dX10_count_68
  · refine lv_tableIn (x := 2) (tgt := 69) hx hb dX10_count_1 (by decide) (by decide) rfl (by decide) ?_
    refine lv_aload_n hx hb dX10_count_69 rfl (lv_at hl 0 rfl) ?_
    refine hk_getr (L := (.inl (0, 0))) (v := .ref (G.1 (.inl (1, 1)))) hx hb ht hown hK hH kc_11 hG.k0 1 (by decide) rfl tw_169 rfl hG.r0_1 dX10_count_70 ?_
    refine hk_cV (L := (.inl (1, 1))) (As := []) (rest := []) hx hb hml hl.1 ht hown hK hH hS (c_size l D G τ σ 1 hG.k1_1) ymV_Jx4a65c_size_8abf5 kc_0 hG.k1_1 tw_209 ⟨rfl, rfl⟩ ⟨Nat.le_of_ble_eq_true rfl, Nat.le_of_ble_eq_true rfl⟩ rfl rfl (Nat.le_of_ble_eq_true rfl) dX10_count_73 ⟨Nat.le_of_ble_eq_true rfl, Nat.le_of_ble_eq_true rfl⟩ (hk_ea (fun H locs hH hS => ?_))
    rw [show F_size τ 1 = τ (1, 1) 2 from rfl]
    exact hk_iret hx hb hr hlocks hH hS ⟨(by simp [F_count]), rfl, rfl⟩ dX10_count_76
  · refine lv_tableIn (x := 3) (tgt := 77) hx hb dX10_count_1 (by decide) (by decide) rfl (by decide) ?_
    refine lv_aload_n hx hb dX10_count_77 rfl (lv_at hl 0 rfl) ?_
    refine hk_getr (L := (.inl (0, 0))) (v := .ref (G.1 (.inl (1, 2)))) hx hb ht hown hK hH kc_11 hG.k0 2 (by decide) rfl tw_170 rfl hG.r0_2 dX10_count_78 ?_
    refine hk_cV (L := (.inl (1, 2))) (As := []) (rest := []) hx hb hml hl.1 ht hown hK hH hS (c_size l D G τ σ 2 hG.k1_2) ymV_Jx4a65c_size_8abf5 kc_0 hG.k1_2 tw_209 ⟨rfl, rfl⟩ ⟨Nat.le_of_ble_eq_true rfl, Nat.le_of_ble_eq_true rfl⟩ rfl rfl (Nat.le_of_ble_eq_true rfl) dX10_count_81 ⟨Nat.le_of_ble_eq_true rfl, Nat.le_of_ble_eq_true rfl⟩ (hk_ea (fun H locs hH hS => ?_))
    rw [show F_size τ 2 = τ (1, 2) 2 from rfl]
    exact hk_iret hx hb hr hlocks hH hS ⟨(by simp [F_count]), rfl, rfl⟩ dX10_count_84
  · refine lv_tableIn (x := 4) (tgt := 85) hx hb dX10_count_1 (by decide) (by decide) rfl (by decide) ?_
    refine lv_aload_n hx hb dX10_count_85 rfl (lv_at hl 0 rfl) ?_
    refine hk_getr (L := (.inl (0, 0))) (v := .ref (G.1 (.inl (4, 0)))) hx hb ht hown hK hH kc_11 hG.k0 4 (by decide) rfl tw_172 rfl hG.r0_4 dX10_count_86 ?_
    refine hk_geti (L := (.inl (4, 0))) (v := τ (4, 0) 2) hx hb ht hown hK hH kc_10 hG.k4_0 2 (by decide) rfl tw_115 rfl rfl dX10_count_89 ?_
    exact hk_iret hx hb hr hlocks hH hS ⟨(by simp [F_count]), rfl, rfl⟩ dX10_count_92
  · refine lv_tableIn (x := 5) (tgt := 93) hx hb dX10_count_1 (by decide) (by decide) rfl (by decide) ?_
    refine lv_aload_n hx hb dX10_count_93 rfl (lv_at hl 0 rfl) ?_
    refine hk_getr (L := (.inl (0, 0))) (v := .ref (G.1 (.inl (4, 0)))) hx hb ht hown hK hH kc_11 hG.k0 4 (by decide) rfl tw_172 rfl hG.r0_4 dX10_count_94 ?_
    refine hk_geti (L := (.inl (4, 0))) (v := τ (4, 0) 3) hx hb ht hown hK hH kc_10 hG.k4_0 3 (by decide) rfl tw_117 rfl rfl dX10_count_97 ?_
    exact hk_iret hx hb hr hlocks hH hS ⟨(by simp [F_count]), rfl, rfl⟩ dX10_count_100
  · refine lv_tableIn (x := 6) (tgt := 101) hx hb dX10_count_1 (by decide) (by decide) rfl (by decide) ?_
    refine lv_aload_n hx hb dX10_count_101 rfl (lv_at hl 0 rfl) ?_
    refine hk_cV (L := (.inl (0, 0))) (As := []) (rest := []) hx hb hml hl.1 ht hown hK hH hS (c_chargedInAll l D G Z τ σ hG hn1 hpr) ymV_X10_chargedInAll kc_11 hG.k0 tw_609 ⟨rfl, rfl⟩ ⟨Nat.le_of_ble_eq_true rfl, Nat.le_of_ble_eq_true rfl⟩ rfl rfl (Nat.le_of_ble_eq_true rfl) dX10_count_102 ⟨Nat.le_of_ble_eq_true rfl, Nat.le_of_ble_eq_true rfl⟩ (hk_ea (fun H locs hH hS => ?_))
    exact hk_iret hx hb hr hlocks hH hS ⟨(by simp [F_count]), rfl, rfl⟩ dX10_count_105
  · refine lv_tableIn (x := 7) (tgt := 106) hx hb dX10_count_1 (by decide) (by decide) rfl (by decide) ?_
    refine lv_aload_n hx hb dX10_count_106 rfl (lv_at hl 0 rfl) ?_
    refine hk_cV (L := (.inl (0, 0))) (As := []) (rest := []) hx hb hml hl.1 ht hown hK hH hS (c_lostInAll l D G Z τ σ hG hs) ymV_X10_lostInAll kc_11 hG.k0 tw_613 ⟨rfl, rfl⟩ ⟨Nat.le_of_ble_eq_true rfl, Nat.le_of_ble_eq_true rfl⟩ rfl rfl (Nat.le_of_ble_eq_true rfl) dX10_count_107 ⟨Nat.le_of_ble_eq_true rfl, Nat.le_of_ble_eq_true rfl⟩ (hk_ea (fun H locs hH hS => ?_))
    exact hk_iret hx hb hr hlocks hH hS ⟨(by simp [F_count]), rfl, rfl⟩ dX10_count_110
  · refine lv_tableIn (x := 8) (tgt := 111) hx hb dX10_count_1 (by decide) (by decide) rfl (by decide) ?_
    refine lv_aload_n hx hb dX10_count_111 rfl (lv_at hl 0 rfl) ?_
    refine hk_getr (L := (.inl (0, 0))) (v := .ref (G.1 (.inl (3, 0)))) hx hb ht hown hK hH kc_11 hG.k0 3 (by decide) rfl tw_171 rfl hG.r0_3 dX10_count_112 ?_
    refine hk_geti (L := (.inl (3, 0))) (v := τ (3, 0) 1) hx hb ht hown hK hH kc_6 hG.k3_0 1 (by decide) rfl tw_97 rfl rfl dX10_count_115 ?_
    exact hk_iret hx hb hr hlocks hH hS ⟨(by simp [F_count]), rfl, rfl⟩ dX10_count_118
  · refine lv_tableIn (x := 9) (tgt := 119) hx hb dX10_count_1 (by decide) (by decide) rfl (by decide) ?_
    refine lv_aload_n hx hb dX10_count_119 rfl (lv_at hl 0 rfl) ?_
    refine hk_cV (L := (.inl (0, 0))) (As := []) (rest := []) hx hb hml hl.1 ht hown hK hH hS (c_payInAll l D G Z τ σ hG hs) ymV_X10_payInAll kc_11 hG.k0 tw_617 ⟨rfl, rfl⟩ ⟨Nat.le_of_ble_eq_true rfl, Nat.le_of_ble_eq_true rfl⟩ rfl rfl (Nat.le_of_ble_eq_true rfl) dX10_count_120 ⟨Nat.le_of_ble_eq_true rfl, Nat.le_of_ble_eq_true rfl⟩ (hk_ea (fun H locs hH hS => ?_))
    exact hk_iret hx hb hr hlocks hH hS ⟨(by simp [F_count]), rfl, rfl⟩ dX10_count_123
  · refine lv_tableOut (tgt := 124) hx hb dX10_count_1 hsw.1 (by decide) ?_
    refine lv_iconst (v := -1) hx hb dX10_count_124 (by decide) ?_
    exact hk_iret hx hb hr hlocks hH hS ⟨(by simp [F_count, hsw]), rfl, rfl⟩ dX10_count_125
end
section
theorem hk_u_o {τ : hk_v} {q q' : Nat × Nat} {k j : Nat} {x : Int32} (h : q'.1 ≠ q.1) : hk_u τ q k x q' j = τ q' j := if_neg (fun e => h (by rw [e.1]))
theorem hk_wh_inv {α : Type} {f : α → Option α} (I : α → Prop) (hs : ∀ s s2, I s → f s = some s2 → I s2) : ∀ (n : Nat) (s : α), I s → I (hk_wh f n s)
  | 0, _, h => h
  | n + 1, s, h => by
    cases e : f s with
    | none => rw [hk_wh_n e]; exact h
    | some s2 => rw [hk_wh_s e]; exact hk_wh_inv I hs n s2 (hs s s2 h e)
theorem T_yields_o {t : hk_v} {i : Nat} {r : Int32} {q : Nat × Nat} {k : Nat} (h : q.1 ≠ 9) : T_yields t i r q k = t q k := by
  unfold T_yields; rw [hk_u_o h, hk_u_o h]
theorem T_enter_o {t : hk_v} {i : Nat} {b p : Int32} {q : Nat × Nat} {k : Nat} (h : q.1 ≠ 10) : T_enter t i b p q k = t q k := by
  unfold T_enter; rw [hk_u_o h, hk_u_o h, hk_u_o h]
theorem T_enter_1 {t : hk_v} {i : Nat} {b p : Int32} {j : Nat} {k : Nat} (h : k < 3) : T_enter t i b p (10, j) k = t (10, j) k := by
  unfold T_enter
  simp only [hk_u_ap]
  rw [if_neg (by omega), if_neg (by omega), if_neg (by omega)]
theorem T_glay_o {t : hk_v} {h0 g b : Int32} {q : Nat × Nat} {k : Nat} (h : q.1 ≠ 3) : T_glay t h0 g b q k = t q k := by
  unfold T_glay
  split
  · rfl
  · rw [hk_u_o h, hk_u_o h]
theorem T_give_o {t : hk_v} {h0 g b : Int32} {q : Nat × Nat} {k : Nat} (h : q.1 ≠ 3) : T_give t h0 g b q k = t q k := by
  unfold T_give
  split
  · rfl
  · rw [hk_u_o h, hk_u_o h]
theorem T_take_o {Z : hk_Z} {t : hk_v} {i : Nat} {g b : Int32} {q : Nat × Nat} {k : Nat} (h1 : q.1 ≠ 11) (h2 : q.1 ≠ 13) (h3 : q.1 ≠ 14) : T_take Z t i g b q k = t q k := by
  unfold T_take
  split
  · rfl
  · split
    · rw [hk_u_o h1, hk_u_o h1, hk_u_o h3, hk_u_o h2]
    · rfl
theorem T_clear_o {t : hk_v} {i : Nat} {q : Nat × Nat} {k : Nat} (h1 : q.1 ≠ 11) : T_clear t i q k = t q k := by
  unfold T_clear; rw [hk_u_o h1, hk_u_o h1, hk_u_o h1]
theorem T_pressOne_o {t : hk_v} {d : Int32} {q : Nat × Nat} {k : Nat} (h : q.1 ≠ 4) : T_pressOne t d q k = t q k := by
  unfold T_pressOne
  split
  · rw [hk_u_o h]
  · rw [hk_u_o h, hk_u_o h, hk_u_o h]
theorem plw_o {g d : Int32} {n : Nat} {t : hk_v} {q : Nat × Nat} {k : Nat} (h : q.1 ≠ 4) : hk_wh (B_plw g d) n t q k = t q k := by
  refine hk_wh_inv (fun s => s q k = t q k) (fun s s2 hs e => ?_) n t rfl
  unfold B_plw at e
  split at e
  · cases e
  · have e2 := Option.some.inj e
    rw [← e2, hk_u_o h, hk_u_o h, T_pressOne_o h]
    exact hs
theorem T_play_o {t : hk_v} {g b d : Int32} {q : Nat × Nat} {k : Nat} (h : q.1 ≠ 4) : T_play t g b d q k = t q k := by
  unfold T_play
  split
  · split
    · rw [hk_u_o h, plw_o h, hk_u_o h, hk_u_o h]
    · rw [plw_o h, hk_u_o h, hk_u_o h]
  · rfl
/-- the press's numbers behind its loop -/
theorem plw_res (g d : Int32) : ∀ (n : Nat) (t : hk_v) (k p : Nat), t (4, 0) 3 = nI k → k < 20 * n → t (4, 0) 2 = nI p → p + n < 2 ^ 30 → k < 2 ^ 30 → hk_wh (B_plw g d) n t (4, 0) 3 = nI (k % 20) ∧ hk_wh (B_plw g d) n t (4, 0) 2 = nI (p + k / 20)
  | 0, _, _, _, _, h, _, _, _ => by omega
  | n + 1, t, k, p, hk, hn, hp, hpn, hb => by
    by_cases c : t (4, 0) 3 < 20
    · have e : B_plw g d t = none := by simp only [B_plw, if_pos c]
      rw [hk_wh_n e, hk, hp]
      have : k < 20 := by
        rcases Nat.lt_or_ge k 20 with q | q
        · exact q
        · rw [hk] at c; exact absurd c (show ¬ nI k < nI 20 from nI_nlt q (by omega))
      rw [Nat.mod_eq_of_lt this, Nat.div_eq_of_lt this]
      exact ⟨rfl, rfl⟩
    · have e : B_plw g d t = some (hk_u (hk_u (T_pressOne t d) (4, 0) 4 (1 <<< (g &&& 31))) (4, 0) 3 (T_pressOne t d (4, 0) 3 - 20)) := by simp only [B_plw, if_neg c]
      rw [hk_wh_s e]
      have h20 : 20 ≤ k := by
        rcases Nat.lt_or_ge k 20 with q | q
        · rw [hk] at c; exact absurd (show nI k < nI 20 from nI_lt q (by omega)) c
        · exact q
      have := plw_res g d n (hk_u (hk_u (T_pressOne t d) (4, 0) 4 (1 <<< (g &&& 31))) (4, 0) 3 (T_pressOne t d (4, 0) 3 - 20)) (k - 20) (p + 1) (by
          simp only [hk_u_ap, and_self, if_true]
          rw [pressOne_3, hk, show (20 : Int32) = nI 20 from rfl, pk_sub h20]) (by omega) (by
          simp only [hk_u_ap]
          rw [if_neg (by decide), if_neg (by decide), pressOne_2, hp, nI_1]) (by omega) (by omega)
      rw [this.1, this.2]
      refine ⟨congrArg nI (by omega), congrArg nI (by omega)⟩
def hk_ps (t : hk_v) (P : Nat) : Prop := ∃ k p : Nat, t (4, 0) 3 = nI k ∧ k < 20 ∧ t (4, 0) 2 = nI p ∧ p ≤ P
theorem hk_ps.le {t : hk_v} {P P' : Nat} (h : hk_ps t P) (hP : P ≤ P') : hk_ps t P' := by
  obtain ⟨k, p, h1, h2, h3, h4⟩ := h
  exact ⟨k, p, h1, h2, h3, by omega⟩
theorem hk_ps.of {t t' : hk_v} {P : Nat} (h : hk_ps t P) (e : ∀ k, t' (4, 0) k = t (4, 0) k) : hk_ps t' P := by
  obtain ⟨k, p, h1, h2, h3, h4⟩ := h
  exact ⟨k, p, by rw [e]; exact h1, h2, by rw [e]; exact h3, h4⟩
theorem play_pre {t : hk_v} {P : Nat} (h : hk_ps t P) (hP : P + 200 < 2 ^ 30) {x : Int32} (hb : ∃ b, b ≤ 200 ∧ x = nI b) : ∃ k p : Nat, t (4, 0) 3 + x = nI k ∧ k < 4000 ∧ t (4, 0) 2 = nI p ∧ p + 200 < 2 ^ 30 := by
  obtain ⟨k, p, h1, h2, h3, h4⟩ := h
  obtain ⟨b, hb, rfl⟩ := hb
  exact ⟨k + b, p, by rw [h1, nI_add], by omega, h3, by omega⟩
theorem play_ps {t : hk_v} {P : Nat} (h : hk_ps t P) (hP : P + 200 < 2 ^ 30) {x : Int32} (hb : ∃ b, b ≤ 200 ∧ x = nI b) (g d : Int32) : hk_ps (T_play t g x d) (P + 11) := by
  obtain ⟨k, p, h1, h2, h3, h4⟩ := h
  obtain ⟨b, hb, rfl⟩ := hb
  unfold T_play
  split
  · have := plw_res g d 200 (hk_u (hk_u t (4, 0) 4 (t (4, 0) 4 ||| 1 <<< (g &&& 31))) (4, 0) 3 (t (4, 0) 3 + nI b)) (k + b) p (by
      simp only [hk_u_ap, and_self, if_true]
      rw [h1, nI_add]) (by omega) (by
      simp only [hk_u_ap]
      rw [if_neg (by decide), if_neg (by decide), h3]) (by omega) (by omega)
    split
    · refine ⟨(k + b) % 20, p + (k + b) / 20, ?_, by omega, ?_, by omega⟩
      · rw [← this.1]; exact if_neg (by decide)
      · rw [← this.2]; exact if_neg (by decide)
    · exact ⟨(k + b) % 20, p + (k + b) / 20, this.1, by omega, this.2, by omega⟩
  · exact ⟨k, p, h1, h2, h3, by omega⟩
/-- a loop that counts down: to 0, to 1 -/
def hk_dn {α : Type} (f : Nat → α → α) : Nat → α → α
  | 0, s => s
  | r + 1, s => hk_dn f r (f r s)
def hk_dp {α : Type} (f : Nat → α → α) : Nat → α → α
  | 0, s => s
  | r + 1, s => hk_dp f r (f (r + 1) s)
theorem hk_dn_s {α : Type} (f : Nat → α → α) (r : Nat) (s : α) : hk_dn f (r + 1) s = hk_dn f r (f r s) := rfl
theorem hk_dp_s {α : Type} (f : Nat → α → α) (r : Nat) (s : α) : hk_dp f (r + 1) s = hk_dp f r (f (r + 1) s) := rfl
theorem hk_it_fix {α : Type} {f : Nat → α → α} {s : α} (h : ∀ i, f i s = s) : ∀ (n i : Nat), hk_it f n i s = s
  | 0, _ => rfl
  | n + 1, i => by rw [hk_it_s, h i]; exact hk_it_fix h n (i + 1)
theorem hk_dn_fix {α : Type} {f : Nat → α → α} {s : α} (h : ∀ i, f i s = s) : ∀ (n : Nat), hk_dn f n s = s
  | 0 => rfl
  | n + 1 => by rw [hk_dn_s, h n]; exact hk_dn_fix h n
theorem hk_dn_inv {α : Type} {f : Nat → α → α} (I : Nat → α → Prop) : ∀ (n : Nat) (s : α), I n s → (∀ j t, j < n → I (j + 1) t → I j (f j t)) → I 0 (hk_dn f n s)
  | 0, _, h, _ => h
  | n + 1, s, h, hs => by
    rw [hk_dn_s]
    exact hk_dn_inv I n (f n s) (hs n s (Nat.lt_succ_self n) h) (fun j t hj => hs j t (by omega))
theorem hk_m1 (x : Int32) : x + Int32.ofInt (-1) = x - 1 := by
  rw [Int32.sub_eq_add_neg]; rfl
end
section
theorem pick_keep {Z : hk_Z} {τ t : hk_v} (h : hk_sz Z t ∧ (∀ i, i < Z.1 1 → ¬ t (10, i) 1 = 0) ∧ t (0, 0) 8 = τ (0, 0) 8) (g i : Nat) (r b p n a b2 : Int32) : hk_sz Z (T_glay (T_enter (T_yields t g r) i b p) n a b2) ∧ (∀ j, j < Z.1 1 → ¬ (T_glay (T_enter (T_yields t g r) i b p) n a b2) (10, j) 1 = 0) ∧ (T_glay (T_enter (T_yields t g r) i b p) n a b2) (0, 0) 8 = τ (0, 0) 8 := by
  refine ⟨h.1.of (fun j => ?_), fun j hj => ?_, ?_⟩
  · rw [T_glay_o (show (1 : Nat) ≠ 3 by decide), T_enter_o (show (1 : Nat) ≠ 10 by decide), T_yields_o (show (1 : Nat) ≠ 9 by decide)]
  · rw [T_glay_o (by show 10 ≠ 3; decide), T_enter_1 (by decide), T_yields_o (by show 10 ≠ 9; decide)]
    exact h.2.1 j hj
  · rw [T_glay_o (by decide), T_enter_o (by decide), T_yields_o (by decide)]
    exact h.2.2
theorem ymV_X4_isRipe : hk_mV yX4_isRipe cX4_isRipe 2 (some FieldType.boolean) RX4 1 := ⟨tw_489, tw_487, tw_488, tw_43, rfl, by decide, by decide, by decide +kernel⟩
theorem ymV_X4_yields : hk_mV yX4_yields cX4_yields 3 (some FieldType.int) RX4 1 := ⟨tw_494, tw_492, tw_493, tw_43, rfl, by decide, by decide, by decide +kernel⟩
theorem ymV_X3_enter : hk_mV yX3_enter cX3_enter 4 none RX3 2 := ⟨tw_499, tw_497, tw_498, tw_48, rfl, by decide, by decide, by decide +kernel⟩
theorem ymV_X5_lay : hk_mV yX5_lay cX5_lay 4 none RX5 3 := ⟨tw_503, tw_501, tw_502, tw_38, rfl, by decide, by decide, by decide +kernel⟩
def B_pick (τ : hk_v) (j : Nat) (t : hk_v) : hk_v := (if hk_in (t (10, j) 2) 0 (t (1, 0) 2 - 1) = 0 then t else (if (F_isRipe t ((t (10, j) 2).toNatClampNeg) ((t (0, 0) 8) / 12)) = 0 then t else (T_glay (T_enter (T_yields t ((t (10, j) 2).toNatClampNeg) (t (10, j) 0)) j (F_yields t ((t (10, j) 2).toNatClampNeg) (t (10, j) 0)) (F_inForce τ 0 (τ (5, 0) 3).toNatClampNeg (τ (0, 0) 8))) ((T_enter (T_yields t ((t (10, j) 2).toNatClampNeg) (t (10, j) 0)) j (F_yields t ((t (10, j) 2).toNatClampNeg) (t (10, j) 0)) (F_inForce τ 0 (τ (5, 0) 3).toNatClampNeg (τ (0, 0) 8))) (0, 0) 8) ((T_enter (T_yields t ((t (10, j) 2).toNatClampNeg) (t (10, j) 0)) j (F_yields t ((t (10, j) 2).toNatClampNeg) (t (10, j) 0)) (F_inForce τ 0 (τ (5, 0) 3).toNatClampNeg (τ (0, 0) 8))) (10, j) 2) (F_yields t ((t (10, j) 2).toNatClampNeg) (t (10, j) 0)))))
def T_pickHour (Z : hk_Z) (τ : hk_v)  : hk_v := (hk_it (B_pick τ) (Z.1 1) 0 τ)
set_option maxHeartbeats 4000000 in
set_option maxRecDepth 100000 in
theorem c_pickHour (l : Launch) (D : hk_D) (G : hk_G) (Z : hk_Z) (τ σ : hk_v)  (hG : hk_Y D G Z) (hs : hk_sz Z τ) (hn0 : hk_nt τ 0) (hm : ∀ i, i < Z.1 1 → ¬ τ (10, i) 1 = 0) : Met l yX10_pickHour (hk_ws yX10_pickHour cX10_pickHour 6 none) ({ frames := 4, cells := 0, slots := 0, locals := 85 }) (hk_P D G (hk_cm τ σ) [.ref (G.1 (.inl (0, 0)))]) (hk_Q D (hk_e G (none) (hk_cm (T_pickHour Z τ) σ))) 0 0 (hk_A D) := by
  refine hk_met (by decide +kernel) (Nat.le_of_ble_eq_true rfl) (fun p e s m below meth c hx hb hr hml hlocks ht hown hin hK hH hS ls hl => ?_)
  have hl : lv_has ls 6 [(0, .ref (G.1 (.inl (0, 0))))] := hl
  refine lv_aload_n hx hb dX10_pickHour_0 rfl (lv_at hl 0 rfl) ?_
  refine hk_getr (L := (.inl (0, 0))) (v := .ref (G.1 (.inl (5, 0)))) hx hb ht hown hK hH kc_11 hG.k0 5 (by decide) rfl tw_173 rfl hG.r0_5 dX10_pickHour_1 ?_
  refine lv_aload_n hx hb dX10_pickHour_4 rfl (lv_at hl 0 rfl) ?_
  refine hk_geti (L := (.inl (0, 0))) (v := τ (0, 0) 8) hx hb ht hown hK hH kc_11 hG.k0 8 (by decide) rfl tw_176 rfl rfl dX10_pickHour_5 ?_
  refine hk_cV (L := (.inl (5, 0))) (As := [.int (τ (0, 0) 8)]) (rest := []) hx hb hml hl.1 ht hown hK hH hS (c_inForce l D G Z τ σ 0 (τ (5, 0) 3).toNatClampNeg (τ (0, 0) 8) hG (by decide) hn0.1 hn0.2) ymV_X7_inForce kc_8 (hG.k5 0 (by decide)) tw_482 ⟨rfl, rfl⟩ ⟨Nat.le_of_ble_eq_true rfl, Nat.le_of_ble_eq_true rfl⟩ rfl rfl (Nat.le_of_ble_eq_true rfl) dX10_pickHour_8 ⟨Nat.le_of_ble_eq_true rfl, Nat.le_of_ble_eq_true rfl⟩ (hk_ea (fun H locs hH hS => ?_))
  refine lv_istore_n (lv' := [(1, .int (F_inForce τ 0 (τ (5, 0) 3).toNatClampNeg (τ (0, 0) 8))), (0, .ref (G.1 (.inl (0, 0))))]) hx hb dX10_pickHour_11 rfl hl (by decide) rfl (fun ls hl => ?_)
  refine lv_iconst (v := 0) hx hb dX10_pickHour_12 (by decide) ?_
  refine lv_istore_n (lv' := [(2, .int 0), (1, .int (F_inForce τ 0 (τ (5, 0) 3).toNatClampNeg (τ (0, 0) 8))), (0, .ref (G.1 (.inl (0, 0))))]) hx hb dX10_pickHour_13 rfl hl (by decide) rfl (fun ls hl => ?_)
  have LP_1 : ∀ (r j : Nat) (t : hk_v) (H : Heap) (locs : List Loc) (ls : Array Slot) (QQ : State → Prop), j + r = Z.1 1 → hk_sz Z t ∧ (∀ i, i < Z.1 1 → ¬ t (10, i) 1 = 0) ∧ t (0, 0) 8 = τ (0, 0) 8 → hk_H D G (hk_cm t σ) H → va_S (hk_A D) s.heap H locs → lv_has ls 6 [(2, .int (nI j)), (1, .int (F_inForce τ 0 (τ (5, 0) 3).toNatClampNeg (τ (0, 0) 8))), (0, .ref (G.1 (.inl (0, 0))))] → (∀ (H : Heap) (locs : List Loc) (ls : Array Slot), hk_H D G (hk_cm (hk_it (B_pick τ) r j t) σ) H → va_S (hk_A D) s.heap H locs → lv_has ls 6 [(2, .int (nI (Z.1 1))), (1, .int (F_inForce τ 0 (τ (5, 0) 3).toNatClampNeg (τ (0, 0) 8))), (0, .ref (G.1 (.inl (0, 0))))] → hk_sz Z (hk_it (B_pick τ) r j t) ∧ (∀ i, i < Z.1 1 → ¬ (hk_it (B_pick τ) r j t) (10, i) 1 = 0) ∧ (hk_it (B_pick τ) r j t) (0, 0) 8 = τ (0, 0) 8 → W p l e ({ frames := 4, cells := 0, slots := 0, locals := 85 }) s m ([.ref (G.1 (.inl (0, 0)))] : List Value).toArray below meth c H locs 0 0 QQ (F0 m 111 ls [])) → W p l e ({ frames := 4, cells := 0, slots := 0, locals := 85 }) s m ([.ref (G.1 (.inl (0, 0)))] : List Value).toArray below meth c H locs 0 0 QQ (F0 m 14 ls []) := by
    intro r
    induction r with
    | zero =>
      intro j t H locs ls QQ hn_pick hI_pick hH hS hl kk
      have hz6 := hI_pick.1.2
      refine lv_iload_n hx hb dX10_pickHour_14 rfl (lv_at hl 0 rfl) ?_
      refine lv_aload_n hx hb dX10_pickHour_15 rfl (lv_at hl 2 rfl) ?_
      refine hk_getr (L := (.inl (0, 0))) (v := .ref (G.1 (.inl (1, 1)))) hx hb ht hown hK hH kc_11 hG.k0 1 (by decide) rfl tw_169 rfl hG.r0_1 dX10_pickHour_16 ?_
      refine hk_cV (L := (.inl (1, 1))) (As := []) (rest := [.int (nI j)]) hx hb hml hl.1 ht hown hK hH hS (c_size l D G t σ 1 hG.k1_1) ymV_Jx4a65c_size_8abf5 kc_0 hG.k1_1 tw_209 ⟨rfl, rfl⟩ ⟨Nat.le_of_ble_eq_true rfl, Nat.le_of_ble_eq_true rfl⟩ rfl rfl (Nat.le_of_ble_eq_true rfl) dX10_pickHour_19 ⟨Nat.le_of_ble_eq_true rfl, Nat.le_of_ble_eq_true rfl⟩ (hk_ea (fun H locs hH hS => ?_))
      rw [show F_size t 1 = t (1, 1) 2 from rfl]
      refine lv_icmp_ge (tgt := 111) hx hb dX10_pickHour_22 (by decide) (fun c_2 => ?_) (fun c_2 => ?_)
      rotate_left
      · exfalso; rw [hI_pick.1.1.2.1] at c_2; first | exact nI_ge (by omega) (by omega) c_2 | exact c_2 (nI_le (by omega) (by omega)) | exact nI_nlt (by omega) (by omega) c_2 | exact c_2 (nI_lt (by omega) (by omega))
      have hiN : j = Z.1 1 := by omega
      rw [hiN] at hl
      exact kk H locs ls hH hS (lv_sub hl [0, 1, 2] rfl) hI_pick
    | succ r ih =>
      intro j t H locs ls QQ hn_pick hI_pick hH hS hl kk
      have hz6 := hI_pick.1.2
      refine lv_iload_n hx hb dX10_pickHour_14 rfl (lv_at hl 0 rfl) ?_
      refine lv_aload_n hx hb dX10_pickHour_15 rfl (lv_at hl 2 rfl) ?_
      refine hk_getr (L := (.inl (0, 0))) (v := .ref (G.1 (.inl (1, 1)))) hx hb ht hown hK hH kc_11 hG.k0 1 (by decide) rfl tw_169 rfl hG.r0_1 dX10_pickHour_16 ?_
      refine hk_cV (L := (.inl (1, 1))) (As := []) (rest := [.int (nI j)]) hx hb hml hl.1 ht hown hK hH hS (c_size l D G t σ 1 hG.k1_1) ymV_Jx4a65c_size_8abf5 kc_0 hG.k1_1 tw_209 ⟨rfl, rfl⟩ ⟨Nat.le_of_ble_eq_true rfl, Nat.le_of_ble_eq_true rfl⟩ rfl rfl (Nat.le_of_ble_eq_true rfl) dX10_pickHour_19 ⟨Nat.le_of_ble_eq_true rfl, Nat.le_of_ble_eq_true rfl⟩ (hk_ea (fun H locs hH hS => ?_))
      rw [show F_size t 1 = t (1, 1) 2 from rfl]
      refine lv_icmp_ge (tgt := 111) hx hb dX10_pickHour_22 (by decide) (fun c_3 => ?_) (fun c_3 => ?_)
      · exfalso; rw [hI_pick.1.1.2.1] at c_3; first | exact nI_ge (by omega) (by omega) c_3 | exact c_3 (nI_le (by omega) (by omega)) | exact nI_nlt (by omega) (by omega) c_3 | exact c_3 (nI_lt (by omega) (by omega))
      refine lv_aload_n hx hb dX10_pickHour_25 rfl (lv_at hl 2 rfl) ?_
      refine hk_getr (L := (.inl (0, 0))) (v := .ref (G.1 (.inl (1, 1)))) hx hb ht hown hK hH kc_11 hG.k0 1 (by decide) rfl tw_169 rfl hG.r0_1 dX10_pickHour_26 ?_
      refine lv_iload_n hx hb dX10_pickHour_29 rfl (lv_at hl 0 rfl) ?_
      refine hk_cV (L := (.inl (1, 1))) (As := [.int (nI j)]) (rest := []) hx hb hml hl.1 ht hown hK hH hS (c_lget l D G t σ 1 j (Z.1 1) (nI j) (.ref (G.1 (.inl (10, j)))) hG.k1_1 (hG.a1_1 (by omega)) (hG.k2_1 (by omega)) rfl (by omega) (by have := hs.2; omega) (hG.a2_1 _ (by omega)) ⟨_, rfl⟩ hI_pick.1.1.2.1) ymV_Jx4a65c_get_915e3 kc_0 hG.k1_1 tw_343 ⟨rfl, rfl⟩ ⟨Nat.le_of_ble_eq_true rfl, Nat.le_of_ble_eq_true rfl⟩ rfl rfl (Nat.le_of_ble_eq_true rfl) dX10_pickHour_30 ⟨Nat.le_of_ble_eq_true rfl, Nat.le_of_ble_eq_true rfl⟩ (hk_ea (fun H locs hH hS => ?_))
      refine hk_cast (L := (.inl (10, j))) hx hb ht hown hK hH kc_4 (hG.k10 j (by omega)) tw_304 dX10_pickHour_33 ?_
      refine lv_astore_n (lv' := [(3, .ref (G.1 (.inl (10, j)))), (2, .int (nI j)), (1, .int (F_inForce τ 0 (τ (5, 0) 3).toNatClampNeg (τ (0, 0) 8))), (0, .ref (G.1 (.inl (0, 0))))]) hx hb dX10_pickHour_36 rfl hl (by decide) rfl (fun ls hl => ?_)
      refine lv_aload_n hx hb dX10_pickHour_37 rfl (lv_at hl 3 rfl) ?_
      refine lv_aload_n hx hb dX10_pickHour_38 rfl (lv_at hl 0 rfl) ?_
      refine hk_geti (L := (.inl (10, j))) (v := t (10, j) 2) hx hb ht hown hK hH kc_4 (hG.k10 j (by omega)) 2 (by decide) rfl tw_315 rfl rfl dX10_pickHour_39 ?_
      by_cases ho_4 : hk_in (t (10, j) 2) 0 (t (1, 0) 2 - 1) = 0
      · refine hk_cV (L := (.inl (0, 0))) (As := [.int (t (10, j) 2)]) (rest := []) hx hb hml hl.1 ht hown hK hH hS (c_gardenOf_out l D G Z t σ (t (10, j) 2) hG hI_pick.1 ho_4) ymV_X10_gardenOf kc_11 hG.k0 tw_357 ⟨rfl, rfl⟩ ⟨Nat.le_of_ble_eq_true rfl, Nat.le_of_ble_eq_true rfl⟩ rfl rfl (Nat.le_of_ble_eq_true rfl) dX10_pickHour_42 ⟨Nat.le_of_ble_eq_true rfl, Nat.le_of_ble_eq_true rfl⟩ (hk_ea (fun H locs hH hS => ?_))
        refine lv_astoreN (lv' := [(4, .null), (3, .ref (G.1 (.inl (10, j)))), (2, .int (nI j)), (1, .int (F_inForce τ 0 (τ (5, 0) 3).toNatClampNeg (τ (0, 0) 8))), (0, .ref (G.1 (.inl (0, 0))))]) hx hb dX10_pickHour_45 hl (by decide) rfl (fun ls hl => ?_)
        refine lv_aloadN hx hb dX10_pickHour_47 (lv_at hl 0 rfl) ?_
        refine lv_ifnullN (tgt := 105) hx hb dX10_pickHour_49 (by decide) ?_
        refine lv_iinc (v := nI (j + 1)) (lv' := [(2, .int (nI (j + 1))), (4, .null), (3, .ref (G.1 (.inl (10, j)))), (1, .int (F_inForce τ 0 (τ (5, 0) 3).toNatClampNeg (τ (0, 0) 8))), (0, .ref (G.1 (.inl (0, 0))))]) hx hb dX10_pickHour_105 hl (k := 2) rfl (nI_1 _) (by decide) rfl (fun ls hl => ?_)
        refine lv_goto (tgt := 14) hx hb dX10_pickHour_108 (by decide) ?_
        have EB_5 : (B_pick τ) j t = t := by simp only [B_pick, if_pos ho_4]
        have hI2 : hk_sz Z t ∧ (∀ i, i < Z.1 1 → ¬ t (10, i) 1 = 0) ∧ t (0, 0) 8 = τ (0, 0) 8 := by
          first | exact hI_pick | exact pick_keep hI_pick _ _ _ _ _ _ _ _
        exact ih (j + 1) t _ _ _ QQ (by omega) hI2 hH hS (lv_sub hl [0, 3, 4] rfl) (fun H locs ls hH hS hl hI_pick => kk H locs ls (by rw [hk_it_s, EB_5]; exact hH) hS hl (by first | exact hI_pick | (rw [hk_it_s, EB_5]; exact hI_pick)))
      · refine hk_cV (L := (.inl (0, 0))) (As := [.int (t (10, j) 2)]) (rest := []) hx hb hml hl.1 ht hown hK hH hS (c_gardenOf_in l D G Z t σ (t (10, j) 2) hG hI_pick.1 ho_4) ymV_X10_gardenOf kc_11 hG.k0 tw_357 ⟨rfl, rfl⟩ ⟨Nat.le_of_ble_eq_true rfl, Nat.le_of_ble_eq_true rfl⟩ rfl rfl (Nat.le_of_ble_eq_true rfl) dX10_pickHour_42 ⟨Nat.le_of_ble_eq_true rfl, Nat.le_of_ble_eq_true rfl⟩ (hk_ea (fun H locs hH hS => ?_))
        refine lv_astore (lv' := [(4, .ref (G.1 (.inl (9, (t (10, j) 2).toNatClampNeg)))), (3, .ref (G.1 (.inl (10, j)))), (2, .int (nI j)), (1, .int (F_inForce τ 0 (τ (5, 0) 3).toNatClampNeg (τ (0, 0) 8))), (0, .ref (G.1 (.inl (0, 0))))]) hx hb dX10_pickHour_45 hl (by decide) rfl (fun ls hl => ?_)
        refine lv_aload hx hb dX10_pickHour_47 (lv_at hl 0 rfl) ?_
        refine lv_ifnull hx hb dX10_pickHour_49 ?_
        refine lv_aload hx hb dX10_pickHour_52 (lv_at hl 0 rfl) ?_
        refine lv_aload_n hx hb dX10_pickHour_54 rfl (lv_at hl 4 rfl) ?_
        refine hk_geti (L := (.inl (0, 0))) (v := t (0, 0) 8) hx hb ht hown hK hH kc_11 hG.k0 8 (by decide) rfl tw_176 rfl rfl dX10_pickHour_55 ?_
        refine lv_bipush (v := 12) hx hb dX10_pickHour_58 (by decide) ?_
        refine lv_idiv hx hb dX10_pickHour_60 (by decide) ?_
        refine hk_cV (L := (.inl (9, (t (10, j) 2).toNatClampNeg))) (As := [.int ((t (0, 0) 8) / 12)]) (rest := []) hx hb hml hl.1 ht hown hK hH hS (c_isRipe l D G Z t σ ((t (10, j) 2).toNatClampNeg) ((t (0, 0) 8) / 12) hG (hk_in_sz hI_pick.1.1.1 (by have := hI_pick.1.2; omega) ho_4).1) ymV_X4_isRipe kc_5 (hG.k9 ((t (10, j) 2).toNatClampNeg) (hk_in_sz hI_pick.1.1.1 (by have := hI_pick.1.2; omega) ho_4).1) tw_486 ⟨rfl, rfl⟩ ⟨Nat.le_of_ble_eq_true rfl, Nat.le_of_ble_eq_true rfl⟩ rfl rfl (Nat.le_of_ble_eq_true rfl) dX10_pickHour_61 ⟨Nat.le_of_ble_eq_true rfl, Nat.le_of_ble_eq_true rfl⟩ (hk_ea (fun H locs hH hS => ?_))
        refine lv_if_ne (tgt := 70) hx hb dX10_pickHour_64 (by decide) (fun c_6 => ?_) (fun c_6 => ?_)
        · refine lv_aload hx hb dX10_pickHour_70 (lv_at hl 0 rfl) ?_
          refine lv_aload_n hx hb dX10_pickHour_72 rfl (lv_at hl 1 rfl) ?_
          refine hk_geti (L := (.inl (10, j))) (v := t (10, j) 0) hx hb ht hown hK hH kc_4 (hG.k10 j (by omega)) 0 (by decide) rfl tw_312 rfl rfl dX10_pickHour_73 ?_
          refine hk_cV (L := (.inl (9, (t (10, j) 2).toNatClampNeg))) (As := [.int (t (10, j) 0)]) (rest := []) hx hb hml hl.1 ht hown hK hH hS (c_yields l D G Z t σ ((t (10, j) 2).toNatClampNeg) (t (10, j) 0) hG (hk_in_sz hI_pick.1.1.1 (by have := hI_pick.1.2; omega) ho_4).1) ymV_X4_yields kc_5 (hG.k9 ((t (10, j) 2).toNatClampNeg) (hk_in_sz hI_pick.1.1.1 (by have := hI_pick.1.2; omega) ho_4).1) tw_491 ⟨rfl, rfl⟩ ⟨Nat.le_of_ble_eq_true rfl, Nat.le_of_ble_eq_true rfl⟩ rfl rfl (Nat.le_of_ble_eq_true rfl) dX10_pickHour_76 ⟨Nat.le_of_ble_eq_true rfl, Nat.le_of_ble_eq_true rfl⟩ (hk_ea (fun H locs hH hS => ?_))
          refine lv_istore (lv' := [(5, .int (F_yields t ((t (10, j) 2).toNatClampNeg) (t (10, j) 0))), (4, .ref (G.1 (.inl (9, (t (10, j) 2).toNatClampNeg)))), (3, .ref (G.1 (.inl (10, j)))), (2, .int (nI j)), (1, .int (F_inForce τ 0 (τ (5, 0) 3).toNatClampNeg (τ (0, 0) 8))), (0, .ref (G.1 (.inl (0, 0))))]) hx hb dX10_pickHour_79 hl (by decide) rfl (fun ls hl => ?_)
          refine lv_aload_n hx hb dX10_pickHour_81 rfl (lv_at hl 2 rfl) ?_
          refine lv_iload hx hb dX10_pickHour_82 (lv_at hl 0 rfl) ?_
          refine lv_iload_n hx hb dX10_pickHour_84 rfl (lv_at hl 4 rfl) ?_
          refine hk_cV (L := (.inl (10, j))) (As := [.int (F_yields t ((t (10, j) 2).toNatClampNeg) (t (10, j) 0)), .int (F_inForce τ 0 (τ (5, 0) 3).toNatClampNeg (τ (0, 0) 8))]) (rest := []) hx hb hml hl.1 ht hown hK hH hS (c_enter l D G Z (T_yields t ((t (10, j) 2).toNatClampNeg) (t (10, j) 0)) σ j (F_yields t ((t (10, j) 2).toNatClampNeg) (t (10, j) 0)) (F_inForce τ 0 (τ (5, 0) 3).toNatClampNeg (τ (0, 0) 8)) hG (by omega) (by rw [T_yields_o (by show 10 ≠ 9; decide)]; exact hI_pick.2.1 j (by omega))) ymV_X3_enter kc_4 (hG.k10 j (by omega)) tw_496 ⟨rfl, rfl⟩ ⟨Nat.le_of_ble_eq_true rfl, Nat.le_of_ble_eq_true rfl⟩ rfl rfl (Nat.le_of_ble_eq_true rfl) dX10_pickHour_85 ⟨Nat.le_of_ble_eq_true rfl, Nat.le_of_ble_eq_true rfl⟩ (hk_ev (fun H locs hH hS => ?_))
          refine lv_aload_n hx hb dX10_pickHour_88 rfl (lv_at hl 5 rfl) ?_
          refine hk_getr (L := (.inl (0, 0))) (v := .ref (G.1 (.inl (3, 0)))) hx hb ht hown hK hH kc_11 hG.k0 3 (by decide) rfl tw_171 rfl hG.r0_3 dX10_pickHour_89 ?_
          refine lv_aload_n hx hb dX10_pickHour_92 rfl (lv_at hl 5 rfl) ?_
          refine hk_geti (L := (.inl (0, 0))) (v := (T_enter (T_yields t ((t (10, j) 2).toNatClampNeg) (t (10, j) 0)) j (F_yields t ((t (10, j) 2).toNatClampNeg) (t (10, j) 0)) (F_inForce τ 0 (τ (5, 0) 3).toNatClampNeg (τ (0, 0) 8))) (0, 0) 8) hx hb ht hown hK hH kc_11 hG.k0 8 (by decide) rfl tw_176 rfl rfl dX10_pickHour_93 ?_
          refine lv_aload_n hx hb dX10_pickHour_96 rfl (lv_at hl 2 rfl) ?_
          refine hk_geti (L := (.inl (10, j))) (v := (T_enter (T_yields t ((t (10, j) 2).toNatClampNeg) (t (10, j) 0)) j (F_yields t ((t (10, j) 2).toNatClampNeg) (t (10, j) 0)) (F_inForce τ 0 (τ (5, 0) 3).toNatClampNeg (τ (0, 0) 8))) (10, j) 2) hx hb ht hown hK hH kc_4 (hG.k10 j (by omega)) 2 (by decide) rfl tw_315 rfl rfl dX10_pickHour_97 ?_
          refine lv_iload hx hb dX10_pickHour_100 (lv_at hl 0 rfl) ?_
          refine hk_cV (L := (.inl (3, 0))) (As := [.int ((T_enter (T_yields t ((t (10, j) 2).toNatClampNeg) (t (10, j) 0)) j (F_yields t ((t (10, j) 2).toNatClampNeg) (t (10, j) 0)) (F_inForce τ 0 (τ (5, 0) 3).toNatClampNeg (τ (0, 0) 8))) (0, 0) 8), .int ((T_enter (T_yields t ((t (10, j) 2).toNatClampNeg) (t (10, j) 0)) j (F_yields t ((t (10, j) 2).toNatClampNeg) (t (10, j) 0)) (F_inForce τ 0 (τ (5, 0) 3).toNatClampNeg (τ (0, 0) 8))) (10, j) 2), .int (F_yields t ((t (10, j) 2).toNatClampNeg) (t (10, j) 0))]) (rest := []) hx hb hml hl.1 ht hown hK hH hS (c_glay l D G Z (T_enter (T_yields t ((t (10, j) 2).toNatClampNeg) (t (10, j) 0)) j (F_yields t ((t (10, j) 2).toNatClampNeg) (t (10, j) 0)) (F_inForce τ 0 (τ (5, 0) 3).toNatClampNeg (τ (0, 0) 8))) σ ((T_enter (T_yields t ((t (10, j) 2).toNatClampNeg) (t (10, j) 0)) j (F_yields t ((t (10, j) 2).toNatClampNeg) (t (10, j) 0)) (F_inForce τ 0 (τ (5, 0) 3).toNatClampNeg (τ (0, 0) 8))) (0, 0) 8) ((T_enter (T_yields t ((t (10, j) 2).toNatClampNeg) (t (10, j) 0)) j (F_yields t ((t (10, j) 2).toNatClampNeg) (t (10, j) 0)) (F_inForce τ 0 (τ (5, 0) 3).toNatClampNeg (τ (0, 0) 8))) (10, j) 2) (F_yields t ((t (10, j) 2).toNatClampNeg) (t (10, j) 0)) hG) ymV_X5_lay kc_6 hG.k3_0 tw_500 ⟨rfl, rfl⟩ ⟨Nat.le_of_ble_eq_true rfl, Nat.le_of_ble_eq_true rfl⟩ rfl rfl (Nat.le_of_ble_eq_true rfl) dX10_pickHour_102 ⟨Nat.le_of_ble_eq_true rfl, Nat.le_of_ble_eq_true rfl⟩ (hk_ev (fun H locs hH hS => ?_))
          refine lv_iinc (v := nI (j + 1)) (lv' := [(2, .int (nI (j + 1))), (5, .int (F_yields t ((t (10, j) 2).toNatClampNeg) (t (10, j) 0))), (4, .ref (G.1 (.inl (9, (t (10, j) 2).toNatClampNeg)))), (3, .ref (G.1 (.inl (10, j)))), (1, .int (F_inForce τ 0 (τ (5, 0) 3).toNatClampNeg (τ (0, 0) 8))), (0, .ref (G.1 (.inl (0, 0))))]) hx hb dX10_pickHour_105 hl (k := 3) rfl (nI_1 _) (by decide) rfl (fun ls hl => ?_)
          refine lv_goto (tgt := 14) hx hb dX10_pickHour_108 (by decide) ?_
          have EB_7 : (B_pick τ) j t = (T_glay (T_enter (T_yields t ((t (10, j) 2).toNatClampNeg) (t (10, j) 0)) j (F_yields t ((t (10, j) 2).toNatClampNeg) (t (10, j) 0)) (F_inForce τ 0 (τ (5, 0) 3).toNatClampNeg (τ (0, 0) 8))) ((T_enter (T_yields t ((t (10, j) 2).toNatClampNeg) (t (10, j) 0)) j (F_yields t ((t (10, j) 2).toNatClampNeg) (t (10, j) 0)) (F_inForce τ 0 (τ (5, 0) 3).toNatClampNeg (τ (0, 0) 8))) (0, 0) 8) ((T_enter (T_yields t ((t (10, j) 2).toNatClampNeg) (t (10, j) 0)) j (F_yields t ((t (10, j) 2).toNatClampNeg) (t (10, j) 0)) (F_inForce τ 0 (τ (5, 0) 3).toNatClampNeg (τ (0, 0) 8))) (10, j) 2) (F_yields t ((t (10, j) 2).toNatClampNeg) (t (10, j) 0))) := by simp only [B_pick, if_neg ho_4, if_neg c_6]
          have hI2 : hk_sz Z (T_glay (T_enter (T_yields t ((t (10, j) 2).toNatClampNeg) (t (10, j) 0)) j (F_yields t ((t (10, j) 2).toNatClampNeg) (t (10, j) 0)) (F_inForce τ 0 (τ (5, 0) 3).toNatClampNeg (τ (0, 0) 8))) ((T_enter (T_yields t ((t (10, j) 2).toNatClampNeg) (t (10, j) 0)) j (F_yields t ((t (10, j) 2).toNatClampNeg) (t (10, j) 0)) (F_inForce τ 0 (τ (5, 0) 3).toNatClampNeg (τ (0, 0) 8))) (0, 0) 8) ((T_enter (T_yields t ((t (10, j) 2).toNatClampNeg) (t (10, j) 0)) j (F_yields t ((t (10, j) 2).toNatClampNeg) (t (10, j) 0)) (F_inForce τ 0 (τ (5, 0) 3).toNatClampNeg (τ (0, 0) 8))) (10, j) 2) (F_yields t ((t (10, j) 2).toNatClampNeg) (t (10, j) 0))) ∧ (∀ i, i < Z.1 1 → ¬ (T_glay (T_enter (T_yields t ((t (10, j) 2).toNatClampNeg) (t (10, j) 0)) j (F_yields t ((t (10, j) 2).toNatClampNeg) (t (10, j) 0)) (F_inForce τ 0 (τ (5, 0) 3).toNatClampNeg (τ (0, 0) 8))) ((T_enter (T_yields t ((t (10, j) 2).toNatClampNeg) (t (10, j) 0)) j (F_yields t ((t (10, j) 2).toNatClampNeg) (t (10, j) 0)) (F_inForce τ 0 (τ (5, 0) 3).toNatClampNeg (τ (0, 0) 8))) (0, 0) 8) ((T_enter (T_yields t ((t (10, j) 2).toNatClampNeg) (t (10, j) 0)) j (F_yields t ((t (10, j) 2).toNatClampNeg) (t (10, j) 0)) (F_inForce τ 0 (τ (5, 0) 3).toNatClampNeg (τ (0, 0) 8))) (10, j) 2) (F_yields t ((t (10, j) 2).toNatClampNeg) (t (10, j) 0))) (10, i) 1 = 0) ∧ (T_glay (T_enter (T_yields t ((t (10, j) 2).toNatClampNeg) (t (10, j) 0)) j (F_yields t ((t (10, j) 2).toNatClampNeg) (t (10, j) 0)) (F_inForce τ 0 (τ (5, 0) 3).toNatClampNeg (τ (0, 0) 8))) ((T_enter (T_yields t ((t (10, j) 2).toNatClampNeg) (t (10, j) 0)) j (F_yields t ((t (10, j) 2).toNatClampNeg) (t (10, j) 0)) (F_inForce τ 0 (τ (5, 0) 3).toNatClampNeg (τ (0, 0) 8))) (0, 0) 8) ((T_enter (T_yields t ((t (10, j) 2).toNatClampNeg) (t (10, j) 0)) j (F_yields t ((t (10, j) 2).toNatClampNeg) (t (10, j) 0)) (F_inForce τ 0 (τ (5, 0) 3).toNatClampNeg (τ (0, 0) 8))) (10, j) 2) (F_yields t ((t (10, j) 2).toNatClampNeg) (t (10, j) 0))) (0, 0) 8 = τ (0, 0) 8 := by
            first | exact hI_pick | exact pick_keep hI_pick _ _ _ _ _ _ _ _
          exact ih (j + 1) (T_glay (T_enter (T_yields t ((t (10, j) 2).toNatClampNeg) (t (10, j) 0)) j (F_yields t ((t (10, j) 2).toNatClampNeg) (t (10, j) 0)) (F_inForce τ 0 (τ (5, 0) 3).toNatClampNeg (τ (0, 0) 8))) ((T_enter (T_yields t ((t (10, j) 2).toNatClampNeg) (t (10, j) 0)) j (F_yields t ((t (10, j) 2).toNatClampNeg) (t (10, j) 0)) (F_inForce τ 0 (τ (5, 0) 3).toNatClampNeg (τ (0, 0) 8))) (0, 0) 8) ((T_enter (T_yields t ((t (10, j) 2).toNatClampNeg) (t (10, j) 0)) j (F_yields t ((t (10, j) 2).toNatClampNeg) (t (10, j) 0)) (F_inForce τ 0 (τ (5, 0) 3).toNatClampNeg (τ (0, 0) 8))) (10, j) 2) (F_yields t ((t (10, j) 2).toNatClampNeg) (t (10, j) 0))) _ _ _ QQ (by omega) hI2 hH hS (lv_sub hl [0, 4, 5] rfl) (fun H locs ls hH hS hl hI_pick => kk H locs ls (by rw [hk_it_s, EB_7]; exact hH) hS hl (by first | exact hI_pick | (rw [hk_it_s, EB_7]; exact hI_pick)))
        · refine lv_goto (tgt := 105) hx hb dX10_pickHour_67 (by decide) ?_
          refine lv_iinc (v := nI (j + 1)) (lv' := [(2, .int (nI (j + 1))), (4, .ref (G.1 (.inl (9, (t (10, j) 2).toNatClampNeg)))), (3, .ref (G.1 (.inl (10, j)))), (1, .int (F_inForce τ 0 (τ (5, 0) 3).toNatClampNeg (τ (0, 0) 8))), (0, .ref (G.1 (.inl (0, 0))))]) hx hb dX10_pickHour_105 hl (k := 2) rfl (nI_1 _) (by decide) rfl (fun ls hl => ?_)
          refine lv_goto (tgt := 14) hx hb dX10_pickHour_108 (by decide) ?_
          have EB_8 : (B_pick τ) j t = t := by simp only [B_pick, if_neg ho_4, if_pos c_6]
          have hI2 : hk_sz Z t ∧ (∀ i, i < Z.1 1 → ¬ t (10, i) 1 = 0) ∧ t (0, 0) 8 = τ (0, 0) 8 := by
            first | exact hI_pick | exact pick_keep hI_pick _ _ _ _ _ _ _ _
          exact ih (j + 1) t _ _ _ QQ (by omega) hI2 hH hS (lv_sub hl [0, 3, 4] rfl) (fun H locs ls hH hS hl hI_pick => kk H locs ls (by rw [hk_it_s, EB_8]; exact hH) hS hl (by first | exact hI_pick | (rw [hk_it_s, EB_8]; exact hI_pick)))
  refine LP_1 (Z.1 1) 0 τ _ _ _ _ (by omega) ⟨hs, hm, rfl⟩ hH hS (lv_sub hl [0, 1, 2] rfl) (fun H locs ls hH hS hl hI_pick => ?_)
  exact hk_vret hx hb hr hlocks hH hS ⟨rfl, rfl, (by simp only [T_pickHour])⟩ dX10_pickHour_111
end
