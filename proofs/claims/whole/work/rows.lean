section
-- ===== PART A: goes FIRST, ahead of the names: the tables' words, and 'selects' of the private methods out of them =====
/-- a private method of a class that the tables say can be made, by its rows of tables_1 -/
def lw_okq (q : MethodName × Nat) : Prop := (q.1.cls ≠ "java/lang/invoke/MethodHandle" ∧ q.1.cls ≠ "java/lang/invoke/VarHandle") ∧ Cond.instantiable q.1.cls q.2 ∈ tables_1 ∧ Cond.privateMethod q.1 ∈ tables_1 ∧ Cond.instanceMethod q.1 ∈ tables_1
theorem lw_p0 : lw_okq (⟨"TeleprinterTape$Puncher", "encode", "(I)V"⟩, 3) := ⟨⟨by decide +kernel, by decide +kernel⟩, List.mem_of_getElem? (i := 67) (by decide +kernel), List.mem_of_getElem? (i := 515) (by decide +kernel), List.mem_of_getElem? (i := 516) (by decide +kernel)⟩
theorem lw_p1 : lw_okq (⟨"TeleprinterTape$Puncher", "shiftFor", "(I)V"⟩, 3) := ⟨⟨by decide +kernel, by decide +kernel⟩, List.mem_of_getElem? (i := 67) (by decide +kernel), List.mem_of_getElem? (i := 519) (by decide +kernel), List.mem_of_getElem? (i := 520) (by decide +kernel)⟩
theorem lw_p2 : lw_okq (⟨"TeleprinterTape$Puncher", "put", "(I)V"⟩, 3) := ⟨⟨by decide +kernel, by decide +kernel⟩, List.mem_of_getElem? (i := 67) (by decide +kernel), List.mem_of_getElem? (i := 529) (by decide +kernel), List.mem_of_getElem? (i := 530) (by decide +kernel)⟩
theorem lw_p3 : lw_okq (⟨"TeleprinterTape", "takePunched", "()Z"⟩, 12) := ⟨⟨by decide +kernel, by decide +kernel⟩, List.mem_of_getElem? (i := 23) (by decide +kernel), List.mem_of_getElem? (i := 536) (by decide +kernel), List.mem_of_getElem? (i := 537) (by decide +kernel)⟩
theorem lw_p4 : lw_okq (⟨"TeleprinterTape$Puncher", "placeWord", "(III)I"⟩, 3) := ⟨⟨by decide +kernel, by decide +kernel⟩, List.mem_of_getElem? (i := 67) (by decide +kernel), List.mem_of_getElem? (i := 561) (by decide +kernel), List.mem_of_getElem? (i := 562) (by decide +kernel)⟩
theorem lw_p5 : lw_okq (⟨"TeleprinterTape$Tape", "isRedundant", "(I)Z"⟩, 5) := ⟨⟨by decide +kernel, by decide +kernel⟩, List.mem_of_getElem? (i := 31) (by decide +kernel), List.mem_of_getElem? (i := 593) (by decide +kernel), List.mem_of_getElem? (i := 594) (by decide +kernel)⟩
theorem lw_p6 : lw_okq (⟨"TeleprinterTape", "printPage", "()V"⟩, 12) := ⟨⟨by decide +kernel, by decide +kernel⟩, List.mem_of_getElem? (i := 23) (by decide +kernel), List.mem_of_getElem? (i := 654) (by decide +kernel), List.mem_of_getElem? (i := 655) (by decide +kernel)⟩
theorem lw_p7 : lw_okq (⟨"TeleprinterTape$Page", "printCharacter", "(II)V"⟩, 4) := ⟨⟨by decide +kernel, by decide +kernel⟩, List.mem_of_getElem? (i := 157) (by decide +kernel), List.mem_of_getElem? (i := 666) (by decide +kernel), List.mem_of_getElem? (i := 667) (by decide +kernel)⟩
theorem lw_p8 : lw_okq (⟨"TeleprinterTape$Page", "feedLine", "()V"⟩, 4) := ⟨⟨by decide +kernel, by decide +kernel⟩, List.mem_of_getElem? (i := 157) (by decide +kernel), List.mem_of_getElem? (i := 670) (by decide +kernel), List.mem_of_getElem? (i := 671) (by decide +kernel)⟩
theorem lw_p9 : lw_okq (⟨"TeleprinterTape$Page", "strike", "(I)V"⟩, 4) := ⟨⟨by decide +kernel, by decide +kernel⟩, List.mem_of_getElem? (i := 157) (by decide +kernel), List.mem_of_getElem? (i := 675) (by decide +kernel), List.mem_of_getElem? (i := 676) (by decide +kernel)⟩
theorem lw_p10 : lw_okq (⟨"TeleprinterTape", "reckonConfidence", "(II)I"⟩, 12) := ⟨⟨by decide +kernel, by decide +kernel⟩, List.mem_of_getElem? (i := 23) (by decide +kernel), List.mem_of_getElem? (i := 706) (by decide +kernel), List.mem_of_getElem? (i := 707) (by decide +kernel)⟩
theorem lw_p11 : lw_okq (⟨"TeleprinterTape$Confidence", "passShift", "(II)V"⟩, 4) := ⟨⟨by decide +kernel, by decide +kernel⟩, List.mem_of_getElem? (i := 197) (by decide +kernel), List.mem_of_getElem? (i := 716) (by decide +kernel), List.mem_of_getElem? (i := 717) (by decide +kernel)⟩
theorem lw_p12 : lw_okq (⟨"TeleprinterTape$Confidence", "reduce", "()V"⟩, 4) := ⟨⟨by decide +kernel, by decide +kernel⟩, List.mem_of_getElem? (i := 197) (by decide +kernel), List.mem_of_getElem? (i := 723) (by decide +kernel), List.mem_of_getElem? (i := 724) (by decide +kernel)⟩
theorem lw_p13 : lw_okq (⟨"TeleprinterTape$Text", "nextDistances", "(ILTeleprinterTape$Text;)V"⟩, 3) := ⟨⟨by decide +kernel, by decide +kernel⟩, List.mem_of_getElem? (i := 138) (by decide +kernel), List.mem_of_getElem? (i := 825) (by decide +kernel), List.mem_of_getElem? (i := 826) (by decide +kernel)⟩
theorem lw_p14 : lw_okq (⟨"TeleprinterTapeModel", "isIndex", "(I)Z"⟩, 24) := ⟨⟨by decide +kernel, by decide +kernel⟩, List.mem_of_getElem? (i := 830) (by decide +kernel), List.mem_of_getElem? (i := 941) (by decide +kernel), List.mem_of_getElem? (i := 942) (by decide +kernel)⟩
theorem lw_p15 : lw_okq (⟨"TeleprinterTapeModel", "layText", "([I)V"⟩, 24) := ⟨⟨by decide +kernel, by decide +kernel⟩, List.mem_of_getElem? (i := 830) (by decide +kernel), List.mem_of_getElem? (i := 949) (by decide +kernel), List.mem_of_getElem? (i := 950) (by decide +kernel)⟩
def lw_privs_1 : List (MethodName × Nat) := [(⟨"TeleprinterTape$Puncher", "encode", "(I)V"⟩, 3), (⟨"TeleprinterTape$Puncher", "shiftFor", "(I)V"⟩, 3), (⟨"TeleprinterTape$Puncher", "put", "(I)V"⟩, 3), (⟨"TeleprinterTape", "takePunched", "()Z"⟩, 12), (⟨"TeleprinterTape$Puncher", "placeWord", "(III)I"⟩, 3), (⟨"TeleprinterTape$Tape", "isRedundant", "(I)Z"⟩, 5), (⟨"TeleprinterTape", "printPage", "()V"⟩, 12), (⟨"TeleprinterTape$Page", "printCharacter", "(II)V"⟩, 4), (⟨"TeleprinterTape$Page", "feedLine", "()V"⟩, 4), (⟨"TeleprinterTape$Page", "strike", "(I)V"⟩, 4), (⟨"TeleprinterTape", "reckonConfidence", "(II)I"⟩, 12), (⟨"TeleprinterTape$Confidence", "passShift", "(II)V"⟩, 4), (⟨"TeleprinterTape$Confidence", "reduce", "()V"⟩, 4), (⟨"TeleprinterTape$Text", "nextDistances", "(ILTeleprinterTape$Text;)V"⟩, 3), (⟨"TeleprinterTapeModel", "isIndex", "(I)Z"⟩, 24), (⟨"TeleprinterTapeModel", "layText", "([I)V"⟩, 24)]
theorem lw_r1 : ∀ q ∈ lw_privs_1, lw_okq q := List.forall_mem_cons.mpr ⟨lw_p0, List.forall_mem_cons.mpr ⟨lw_p1, List.forall_mem_cons.mpr ⟨lw_p2, List.forall_mem_cons.mpr ⟨lw_p3, List.forall_mem_cons.mpr ⟨lw_p4, List.forall_mem_cons.mpr ⟨lw_p5, List.forall_mem_cons.mpr ⟨lw_p6, List.forall_mem_cons.mpr ⟨lw_p7, List.forall_mem_cons.mpr ⟨lw_p8, List.forall_mem_cons.mpr ⟨lw_p9, List.forall_mem_cons.mpr ⟨lw_p10, List.forall_mem_cons.mpr ⟨lw_p11, List.forall_mem_cons.mpr ⟨lw_p12, List.forall_mem_cons.mpr ⟨lw_p13, List.forall_mem_cons.mpr ⟨lw_p14, List.forall_mem_cons.mpr ⟨lw_p15, fun _ h => absurd h List.not_mem_nil⟩⟩⟩⟩⟩⟩⟩⟩⟩⟩⟩⟩⟩⟩⟩⟩
theorem lw_p16 : lw_okq (⟨"TeleprinterTapeModel", "note", "()V"⟩, 24) := ⟨⟨by decide +kernel, by decide +kernel⟩, List.mem_of_getElem? (i := 830) (by decide +kernel), List.mem_of_getElem? (i := 975) (by decide +kernel), List.mem_of_getElem? (i := 976) (by decide +kernel)⟩
theorem lw_p17 : lw_okq (⟨"TeleprinterTapeModel", "take", "(Z)I"⟩, 24) := ⟨⟨by decide +kernel, by decide +kernel⟩, List.mem_of_getElem? (i := 830) (by decide +kernel), List.mem_of_getElem? (i := 996) (by decide +kernel), List.mem_of_getElem? (i := 997) (by decide +kernel)⟩
theorem lw_p18 : lw_okq (⟨"TeleprinterTapeModel", "isBlank", "(I)Z"⟩, 24) := ⟨⟨by decide +kernel, by decide +kernel⟩, List.mem_of_getElem? (i := 830) (by decide +kernel), List.mem_of_getElem? (i := 1004) (by decide +kernel), List.mem_of_getElem? (i := 1005) (by decide +kernel)⟩
theorem lw_p19 : lw_okq (⟨"TeleprinterTapeModel", "laySecond", "([I)V"⟩, 24) := ⟨⟨by decide +kernel, by decide +kernel⟩, List.mem_of_getElem? (i := 830) (by decide +kernel), List.mem_of_getElem? (i := 1024) (by decide +kernel), List.mem_of_getElem? (i := 1025) (by decide +kernel)⟩
theorem lw_p20 : lw_okq (⟨"TeleprinterTapeModel", "isSameText", "()Z"⟩, 24) := ⟨⟨by decide +kernel, by decide +kernel⟩, List.mem_of_getElem? (i := 830) (by decide +kernel), List.mem_of_getElem? (i := 1028) (by decide +kernel), List.mem_of_getElem? (i := 1029) (by decide +kernel)⟩
theorem lw_p21 : lw_okq (⟨"TeleprinterTapeModel", "turn", "(IIII)I"⟩, 24) := ⟨⟨by decide +kernel, by decide +kernel⟩, List.mem_of_getElem? (i := 830) (by decide +kernel), List.mem_of_getElem? (i := 1043) (by decide +kernel), List.mem_of_getElem? (i := 1044) (by decide +kernel)⟩
theorem lw_p22 : lw_okq (⟨"TeleprinterTapeModel", "layPage", "()V"⟩, 24) := ⟨⟨by decide +kernel, by decide +kernel⟩, List.mem_of_getElem? (i := 830) (by decide +kernel), List.mem_of_getElem? (i := 1064) (by decide +kernel), List.mem_of_getElem? (i := 1065) (by decide +kernel)⟩
theorem lw_p23 : lw_okq (⟨"TeleprinterTapeModel", "unlike", "()I"⟩, 24) := ⟨⟨by decide +kernel, by decide +kernel⟩, List.mem_of_getElem? (i := 830) (by decide +kernel), List.mem_of_getElem? (i := 1080) (by decide +kernel), List.mem_of_getElem? (i := 1081) (by decide +kernel)⟩
theorem lw_p24 : lw_okq (⟨"TeleprinterTapeModel", "confidence", "(IIZ)I"⟩, 24) := ⟨⟨by decide +kernel, by decide +kernel⟩, List.mem_of_getElem? (i := 830) (by decide +kernel), List.mem_of_getElem? (i := 1088) (by decide +kernel), List.mem_of_getElem? (i := 1089) (by decide +kernel)⟩
theorem lw_p25 : lw_okq (⟨"TeleprinterTapeModel", "shiftsBelow", "(I)I"⟩, 24) := ⟨⟨by decide +kernel, by decide +kernel⟩, List.mem_of_getElem? (i := 830) (by decide +kernel), List.mem_of_getElem? (i := 1093) (by decide +kernel), List.mem_of_getElem? (i := 1094) (by decide +kernel)⟩
theorem lw_p26 : lw_okq (⟨"TeleprinterTapeModel", "caseBut", "(II)I"⟩, 24) := ⟨⟨by decide +kernel, by decide +kernel⟩, List.mem_of_getElem? (i := 830) (by decide +kernel), List.mem_of_getElem? (i := 1100) (by decide +kernel), List.mem_of_getElem? (i := 1101) (by decide +kernel)⟩
theorem lw_p27 : lw_okq (⟨"TeleprinterTapeModel", "command", "(II)Z"⟩, 24) := ⟨⟨by decide +kernel, by decide +kernel⟩, List.mem_of_getElem? (i := 830) (by decide +kernel), List.mem_of_getElem? (i := 1122) (by decide +kernel), List.mem_of_getElem? (i := 1123) (by decide +kernel)⟩
def lw_privs_2 : List (MethodName × Nat) := [(⟨"TeleprinterTapeModel", "note", "()V"⟩, 24), (⟨"TeleprinterTapeModel", "take", "(Z)I"⟩, 24), (⟨"TeleprinterTapeModel", "isBlank", "(I)Z"⟩, 24), (⟨"TeleprinterTapeModel", "laySecond", "([I)V"⟩, 24), (⟨"TeleprinterTapeModel", "isSameText", "()Z"⟩, 24), (⟨"TeleprinterTapeModel", "turn", "(IIII)I"⟩, 24), (⟨"TeleprinterTapeModel", "layPage", "()V"⟩, 24), (⟨"TeleprinterTapeModel", "unlike", "()I"⟩, 24), (⟨"TeleprinterTapeModel", "confidence", "(IIZ)I"⟩, 24), (⟨"TeleprinterTapeModel", "shiftsBelow", "(I)I"⟩, 24), (⟨"TeleprinterTapeModel", "caseBut", "(II)I"⟩, 24), (⟨"TeleprinterTapeModel", "command", "(II)Z"⟩, 24)]
theorem lw_r2 : ∀ q ∈ lw_privs_2, lw_okq q := List.forall_mem_cons.mpr ⟨lw_p16, List.forall_mem_cons.mpr ⟨lw_p17, List.forall_mem_cons.mpr ⟨lw_p18, List.forall_mem_cons.mpr ⟨lw_p19, List.forall_mem_cons.mpr ⟨lw_p20, List.forall_mem_cons.mpr ⟨lw_p21, List.forall_mem_cons.mpr ⟨lw_p22, List.forall_mem_cons.mpr ⟨lw_p23, List.forall_mem_cons.mpr ⟨lw_p24, List.forall_mem_cons.mpr ⟨lw_p25, List.forall_mem_cons.mpr ⟨lw_p26, List.forall_mem_cons.mpr ⟨lw_p27, fun _ h => absurd h List.not_mem_nil⟩⟩⟩⟩⟩⟩⟩⟩⟩⟩⟩⟩
def lw_privs : List (MethodName × Nat) := lw_privs_1 ++ (lw_privs_2)
def lw_tbl : List Cond := k2_sels lw_privs ++ tables_1
theorem lw_privs_ok : ∀ q ∈ lw_privs, lw_okq q := by
  show ∀ q ∈ lw_privs_1 ++ (lw_privs_2), lw_okq q
  exact List.forall_mem_append.mpr ⟨lw_r1, lw_r2⟩
end
section
def RX0 : String := "TeleprinterTape$Code"
def TX0 : u_T := fun k => match k with
  | _ => ("", "", "", false)
def tyX0 : Nat → FieldType := fun k => match k with
  | _ => .int
theorem nmX0 : ∀ a, a < 0 → ∀ b, b < 0 → a ≠ b → (TX0 a).2.1 ≠ (TX0 b).2.1 := by decide +kernel
theorem tyX0_ok : ∀ k, k < 0 → parseFieldDescriptor (TX0 k).2.2.1 = some (tyX0 k) := by decide +kernel
abbrev cX0_dependsOnCase : ByteArray := prog_2_method_2_code
def yX0_dependsOnCase : MethodName := ⟨RX0, "dependsOnCase", "(I)Z"⟩
abbrev cX0_isShift : ByteArray := prog_2_method_3_code
def yX0_isShift : MethodName := ⟨RX0, "isShift", "(I)Z"⟩
abbrev cX0_shiftTo : ByteArray := prog_2_method_4_code
def yX0_shiftTo : MethodName := ⟨RX0, "shiftTo", "(I)I"⟩
abbrev cX0_caseAfter : ByteArray := prog_2_method_5_code
def yX0_caseAfter : MethodName := ⟨RX0, "caseAfter", "(III)I"⟩
abbrev cX0_printed : ByteArray := prog_2_method_6_code
def yX0_printed : MethodName := ⟨RX0, "printed", "(II)I"⟩
abbrev cX0_of : ByteArray := prog_2_method_7_code
def yX0_of : MethodName := ⟨RX0, "of", "(I)I"⟩
abbrev cX0_caseFor : ByteArray := prog_2_method_8_code
def yX0_caseFor : MethodName := ⟨RX0, "caseFor", "(I)I"⟩
def RX1 : String := "TeleprinterTape$Confidence"
def TX1 : u_T := fun k => match k with
  | 0 => ("TeleprinterTape$Confidence", "numerator", "J", false)
  | 1 => ("TeleprinterTape$Confidence", "denominator", "J", false)
  | 2 => ("TeleprinterTape$Confidence", "letters", "J", false)
  | _ => ("TeleprinterTape$Confidence", "figures", "J", false)
def tyX1 : Nat → FieldType := fun k => match k with
  | 0 => .long
  | 1 => .long
  | 2 => .long
  | _ => .long
theorem nmX1 : ∀ a, a < 4 → ∀ b, b < 4 → a ≠ b → (TX1 a).2.1 ≠ (TX1 b).2.1 := by decide +kernel
theorem tyX1_ok : ∀ k, k < 4 → parseFieldDescriptor (TX1 k).2.2.1 = some (tyX1 k) := by decide +kernel
abbrev cX1_init : ByteArray := prog_3_method_1_code
def yX1_init : MethodName := ⟨RX1, "<init>", "()V"⟩
abbrev cX1_reckon : ByteArray := prog_3_method_2_code
def yX1_reckon : MethodName := ⟨RX1, "reckon", "(LTeleprinterTape$Tape;II)Z"⟩
abbrev cX1_passShift : ByteArray := prog_3_method_3_code
def yX1_passShift : MethodName := ⟨RX1, "passShift", "(II)V"⟩
abbrev cX1_reduce : ByteArray := prog_3_method_4_code
def yX1_reduce : MethodName := ⟨RX1, "reduce", "()V"⟩
def RX2 : String := "TeleprinterTape$History"
def TX2 : u_T := fun k => match k with
  | 0 => ("TeleprinterTape$History", "states", "[LTeleprinterTape$Tape;", true)
  | 1 => ("TeleprinterTape$History", "next", "I", false)
  | _ => ("TeleprinterTape$History", "count", "I", false)
def tyX2 : Nat → FieldType := fun k => match k with
  | 0 => .array (.object "TeleprinterTape$Tape")
  | 1 => .int
  | _ => .int
theorem nmX2 : ∀ a, a < 3 → ∀ b, b < 3 → a ≠ b → (TX2 a).2.1 ≠ (TX2 b).2.1 := by decide +kernel
theorem tyX2_ok : ∀ k, k < 3 → parseFieldDescriptor (TX2 k).2.2.1 = some (tyX2 k) := by decide +kernel
abbrev cX2_init : ByteArray := prog_4_method_1_code
def yX2_init : MethodName := ⟨RX2, "<init>", "()V"⟩
abbrev cX2_remember : ByteArray := prog_4_method_2_code
def yX2_remember : MethodName := ⟨RX2, "remember", "(LTeleprinterTape$Tape;)V"⟩
abbrev cX2_bringBack : ByteArray := prog_4_method_3_code
def yX2_bringBack : MethodName := ⟨RX2, "bringBack", "(LTeleprinterTape$Tape;)Z"⟩
abbrev cX2_forgetAll : ByteArray := prog_4_method_4_code
def yX2_forgetAll : MethodName := ⟨RX2, "forgetAll", "()V"⟩
def RX3 : String := "TeleprinterTape$Message"
def TX3 : u_T := fun k => match k with
  | 0 => ("TeleprinterTape$Message", "characters", "[I", true)
  | _ => ("TeleprinterTape$Message", "count", "I", false)
def tyX3 : Nat → FieldType := fun k => match k with
  | 0 => .array .int
  | _ => .int
theorem nmX3 : ∀ a, a < 2 → ∀ b, b < 2 → a ≠ b → (TX3 a).2.1 ≠ (TX3 b).2.1 := by decide +kernel
theorem tyX3_ok : ∀ k, k < 2 → parseFieldDescriptor (TX3 k).2.2.1 = some (tyX3 k) := by decide +kernel
abbrev cX3_init : ByteArray := prog_5_method_1_code
def yX3_init : MethodName := ⟨RX3, "<init>", "()V"⟩
abbrev cX3_add : ByteArray := prog_5_method_2_code
def yX3_add : MethodName := ⟨RX3, "add", "(I)Z"⟩
abbrev cX3_at : ByteArray := prog_5_method_3_code
def yX3_at : MethodName := ⟨RX3, "at", "(I)I"⟩
abbrev cX3_firstNotEncodable : ByteArray := prog_5_method_4_code
def yX3_firstNotEncodable : MethodName := ⟨RX3, "firstNotEncodable", "()I"⟩
abbrev cX3_isEncodable : ByteArray := prog_5_method_5_code
def yX3_isEncodable : MethodName := ⟨RX3, "isEncodable", "()Z"⟩
abbrev cX3_isBetweenWords : ByteArray := prog_5_method_6_code
def yX3_isBetweenWords : MethodName := ⟨RX3, "isBetweenWords", "(I)Z"⟩
abbrev cX3_beginsWord : ByteArray := prog_5_method_7_code
def yX3_beginsWord : MethodName := ⟨RX3, "beginsWord", "(I)Z"⟩
abbrev cX3_endOfWord : ByteArray := prog_5_method_8_code
def yX3_endOfWord : MethodName := ⟨RX3, "endOfWord", "(I)I"⟩
abbrev cX3_canBeReadFrom : ByteArray := prog_5_method_9_code
def yX3_canBeReadFrom : MethodName := ⟨RX3, "canBeReadFrom", "(LTeleprinterTape$Tape;I)Z"⟩
def RX4 : String := "TeleprinterTape$Observations"
def TX4 : u_T := fun k => match k with
  | 0 => ("TeleprinterTape$Observations", "indexes", "[I", true)
  | 1 => ("TeleprinterTape$Observations", "characters", "[I", true)
  | 2 => ("TeleprinterTape$Observations", "next", "I", false)
  | _ => ("TeleprinterTape$Observations", "count", "I", false)
def tyX4 : Nat → FieldType := fun k => match k with
  | 0 => .array .int
  | 1 => .array .int
  | 2 => .int
  | _ => .int
theorem nmX4 : ∀ a, a < 4 → ∀ b, b < 4 → a ≠ b → (TX4 a).2.1 ≠ (TX4 b).2.1 := by decide +kernel
theorem tyX4_ok : ∀ k, k < 4 → parseFieldDescriptor (TX4 k).2.2.1 = some (tyX4 k) := by decide +kernel
abbrev cX4_init : ByteArray := prog_6_method_1_code
def yX4_init : MethodName := ⟨RX4, "<init>", "()V"⟩
abbrev cX4_keep : ByteArray := prog_6_method_2_code
def yX4_keep : MethodName := ⟨RX4, "keep", "(II)V"⟩
abbrev cX4_holdFor : ByteArray := prog_6_method_3_code
def yX4_holdFor : MethodName := ⟨RX4, "holdFor", "(LTeleprinterTape$Text;)Z"⟩
def RX5 : String := "TeleprinterTape$Page"
def TX5 : u_T := fun k => match k with
  | 0 => ("TeleprinterTape$Page", "cells", "[I", true)
  | 1 => ("TeleprinterTape$Page", "row", "I", false)
  | 2 => ("TeleprinterTape$Page", "column", "I", false)
  | _ => ("TeleprinterTape$Page", "struckOver", "I", false)
def tyX5 : Nat → FieldType := fun k => match k with
  | 0 => .array .int
  | 1 => .int
  | 2 => .int
  | _ => .int
theorem nmX5 : ∀ a, a < 4 → ∀ b, b < 4 → a ≠ b → (TX5 a).2.1 ≠ (TX5 b).2.1 := by decide +kernel
theorem tyX5_ok : ∀ k, k < 4 → parseFieldDescriptor (TX5 k).2.2.1 = some (tyX5 k) := by decide +kernel
abbrev cX5_init : ByteArray := prog_7_method_1_code
def yX5_init : MethodName := ⟨RX5, "<init>", "()V"⟩
abbrev cX5_print : ByteArray := prog_7_method_2_code
def yX5_print : MethodName := ⟨RX5, "print", "(LTeleprinterTape$Text;I)V"⟩
abbrev cX5_at : ByteArray := prog_7_method_3_code
def yX5_at : MethodName := ⟨RX5, "at", "(II)I"⟩
abbrev cX5_printCharacter : ByteArray := prog_7_method_4_code
def yX5_printCharacter : MethodName := ⟨RX5, "printCharacter", "(II)V"⟩
abbrev cX5_feedLine : ByteArray := prog_7_method_5_code
def yX5_feedLine : MethodName := ⟨RX5, "feedLine", "()V"⟩
abbrev cX5_strike : ByteArray := prog_7_method_6_code
def yX5_strike : MethodName := ⟨RX5, "strike", "(I)V"⟩
def RX6 : String := "TeleprinterTape$Puncher"
def TX6 : u_T := fun k => match k with
  | 0 => ("TeleprinterTape$Puncher", "target", "LTeleprinterTape$Tape;", true)
  | 1 => ("TeleprinterTape$Puncher", "present", "I", false)
  | _ => ("TeleprinterTape$Puncher", "ranOut", "Z", false)
def tyX6 : Nat → FieldType := fun k => match k with
  | 0 => .object "TeleprinterTape$Tape"
  | 1 => .int
  | _ => .boolean
theorem nmX6 : ∀ a, a < 3 → ∀ b, b < 3 → a ≠ b → (TX6 a).2.1 ≠ (TX6 b).2.1 := by decide +kernel
theorem tyX6_ok : ∀ k, k < 3 → parseFieldDescriptor (TX6 k).2.2.1 = some (tyX6 k) := by decide +kernel
abbrev cX6_init : ByteArray := prog_8_method_1_code
def yX6_init : MethodName := ⟨RX6, "<init>", "()V"⟩
abbrev cX6_beginBehind : ByteArray := prog_8_method_2_code
def yX6_beginBehind : MethodName := ⟨RX6, "beginBehind", "(LTeleprinterTape$Tape;)V"⟩
abbrev cX6_beginAnew : ByteArray := prog_8_method_3_code
def yX6_beginAnew : MethodName := ⟨RX6, "beginAnew", "(LTeleprinterTape$Tape;)V"⟩
abbrev cX6_put : ByteArray := prog_8_method_4_code
def yX6_put : MethodName := ⟨RX6, "put", "(I)V"⟩
abbrev cX6_shiftFor : ByteArray := prog_8_method_5_code
def yX6_shiftFor : MethodName := ⟨RX6, "shiftFor", "(I)V"⟩
abbrev cX6_encode : ByteArray := prog_8_method_6_code
def yX6_encode : MethodName := ⟨RX6, "encode", "(I)V"⟩
abbrev cX6_encodeRun : ByteArray := prog_8_method_7_code
def yX6_encodeRun : MethodName := ⟨RX6, "encodeRun", "(LTeleprinterTape$Message;II)V"⟩
abbrev cX6_encodeWords : ByteArray := prog_8_method_8_code
def yX6_encodeWords : MethodName := ⟨RX6, "encodeWords", "(LTeleprinterTape$Message;I)V"⟩
abbrev cX6_placeWord : ByteArray := prog_8_method_9_code
def yX6_placeWord : MethodName := ⟨RX6, "placeWord", "(III)I"⟩
abbrev cX6_punchRepaired : ByteArray := prog_8_method_10_code
def yX6_punchRepaired : MethodName := ⟨RX6, "punchRepaired", "(LTeleprinterTape$Tape;LTeleprinterTape$Message;)V"⟩
def RX7 : String := "TeleprinterTape$Script"
def TX7 : u_T := fun k => match k with
  | 0 => ("TeleprinterTape$Script", "groups", "[I", true)
  | _ => ("TeleprinterTape$Script", "count", "I", false)
def tyX7 : Nat → FieldType := fun k => match k with
  | 0 => .array .int
  | _ => .int
theorem nmX7 : ∀ a, a < 2 → ∀ b, b < 2 → a ≠ b → (TX7 a).2.1 ≠ (TX7 b).2.1 := by decide +kernel
theorem tyX7_ok : ∀ k, k < 2 → parseFieldDescriptor (TX7 k).2.2.1 = some (tyX7 k) := by decide +kernel
abbrev cX7_init : ByteArray := prog_9_method_1_code
def yX7_init : MethodName := ⟨RX7, "<init>", "()V"⟩
abbrev cX7_split : ByteArray := prog_9_method_2_code
def yX7_split : MethodName := ⟨RX7, "split", "(IJ)Z"⟩
abbrev cX7_firstFailure : ByteArray := prog_9_method_3_code
def yX7_firstFailure : MethodName := ⟨RX7, "firstFailure", "(LTeleprinterTape$Tape;LTeleprinterTape$Text;)I"⟩
abbrev cX7_succeeds : ByteArray := prog_9_method_4_code
def yX7_succeeds : MethodName := ⟨RX7, "succeeds", "(ILTeleprinterTape$Tape;LTeleprinterTape$Text;)Z"⟩
abbrev cX7_setsOption : ByteArray := prog_9_method_5_code
def yX7_setsOption : MethodName := ⟨RX7, "setsOption", "(LTeleprinterTape$Tape;I)Z"⟩
abbrev cX7_setsStartCase : ByteArray := prog_9_method_6_code
def yX7_setsStartCase : MethodName := ⟨RX7, "setsStartCase", "(LTeleprinterTape$Tape;I)Z"⟩
def RX8 : String := "TeleprinterTape$Slots"
def TX8 : u_T := fun k => match k with
  | 0 => ("TeleprinterTape$Slots", "states", "[LTeleprinterTape$Tape;", true)
  | _ => ("TeleprinterTape$Slots", "used", "[Z", true)
def tyX8 : Nat → FieldType := fun k => match k with
  | 0 => .array (.object "TeleprinterTape$Tape")
  | _ => .array .boolean
theorem nmX8 : ∀ a, a < 2 → ∀ b, b < 2 → a ≠ b → (TX8 a).2.1 ≠ (TX8 b).2.1 := by decide +kernel
theorem tyX8_ok : ∀ k, k < 2 → parseFieldDescriptor (TX8 k).2.2.1 = some (tyX8 k) := by decide +kernel
abbrev cX8_init : ByteArray := prog_10_method_1_code
def yX8_init : MethodName := ⟨RX8, "<init>", "()V"⟩
abbrev cX8_has : ByteArray := prog_10_method_2_code
def yX8_has : MethodName := ⟨RX8, "has", "(I)Z"⟩
abbrev cX8_keep : ByteArray := prog_10_method_3_code
def yX8_keep : MethodName := ⟨RX8, "keep", "(ILTeleprinterTape$Tape;)V"⟩
abbrev cX8_bringBack : ByteArray := prog_10_method_4_code
def yX8_bringBack : MethodName := ⟨RX8, "bringBack", "(ILTeleprinterTape$Tape;)Z"⟩
def RX9 : String := "TeleprinterTape$Tape"
def TX9 : u_T := fun k => match k with
  | 0 => ("TeleprinterTape$Tape", "codes", "[I", true)
  | 1 => ("TeleprinterTape$Tape", "count", "I", false)
  | 2 => ("TeleprinterTape$Tape", "startCase", "I", false)
  | 3 => ("TeleprinterTape$Tape", "unshift", "I", false)
  | _ => ("TeleprinterTape$Tape", "width", "I", false)
def tyX9 : Nat → FieldType := fun k => match k with
  | 0 => .array .int
  | 1 => .int
  | 2 => .int
  | 3 => .int
  | _ => .int
theorem nmX9 : ∀ a, a < 5 → ∀ b, b < 5 → a ≠ b → (TX9 a).2.1 ≠ (TX9 b).2.1 := by decide +kernel
theorem tyX9_ok : ∀ k, k < 5 → parseFieldDescriptor (TX9 k).2.2.1 = some (tyX9 k) := by decide +kernel
abbrev cX9_init : ByteArray := prog_11_method_1_code
def yX9_init : MethodName := ⟨RX9, "<init>", "()V"⟩
abbrev cX9_become : ByteArray := prog_11_method_2_code
def yX9_become : MethodName := ⟨RX9, "become", "(LTeleprinterTape$Tape;)V"⟩
abbrev cX9_takeSettings : ByteArray := prog_11_method_3_code
def yX9_takeSettings : MethodName := ⟨RX9, "takeSettings", "(LTeleprinterTape$Tape;)V"⟩
abbrev cX9_has : ByteArray := prog_11_method_4_code
def yX9_has : MethodName := ⟨RX9, "has", "(I)Z"⟩
abbrev cX9_isFull : ByteArray := prog_11_method_5_code
def yX9_isFull : MethodName := ⟨RX9, "isFull", "()Z"⟩
abbrev cX9_at : ByteArray := prog_11_method_6_code
def yX9_at : MethodName := ⟨RX9, "at", "(I)I"⟩
abbrev cX9_add : ByteArray := prog_11_method_7_code
def yX9_add : MethodName := ⟨RX9, "add", "(I)Z"⟩
abbrev cX9_takeOut : ByteArray := prog_11_method_8_code
def yX9_takeOut : MethodName := ⟨RX9, "takeOut", "(I)I"⟩
abbrev cX9_turnBit : ByteArray := prog_11_method_9_code
def yX9_turnBit : MethodName := ⟨RX9, "turnBit", "(II)V"⟩
abbrev cX9_caseAfter : ByteArray := prog_11_method_10_code
def yX9_caseAfter : MethodName := ⟨RX9, "caseAfter", "(II)I"⟩
abbrev cX9_caseBefore : ByteArray := prog_11_method_11_code
def yX9_caseBefore : MethodName := ⟨RX9, "caseBefore", "(I)I"⟩
abbrev cX9_lossDamage : ByteArray := prog_11_method_12_code
def yX9_lossDamage : MethodName := ⟨RX9, "lossDamage", "(I)I"⟩
abbrev cX9_differences : ByteArray := prog_11_method_13_code
def yX9_differences : MethodName := ⟨RX9, "differences", "(LTeleprinterTape$Tape;)I"⟩
abbrev cX9_dropRedundant : ByteArray := prog_11_method_14_code
def yX9_dropRedundant : MethodName := ⟨RX9, "dropRedundant", "()I"⟩
abbrev cX9_isRedundant : ByteArray := prog_11_method_15_code
def yX9_isRedundant : MethodName := ⟨RX9, "isRedundant", "(I)Z"⟩
abbrev cX9_disturb : ByteArray := prog_11_method_16_code
def yX9_disturb : MethodName := ⟨RX9, "disturb", "(JI)V"⟩
def RX10 : String := "TeleprinterTape$Text"
def TX10 : u_T := fun k => match k with
  | 0 => ("TeleprinterTape$Text", "characters", "[I", true)
  | 1 => ("TeleprinterTape$Text", "distances", "[I", true)
  | _ => ("TeleprinterTape$Text", "count", "I", false)
def tyX10 : Nat → FieldType := fun k => match k with
  | 0 => .array .int
  | 1 => .array .int
  | _ => .int
theorem nmX10 : ∀ a, a < 3 → ∀ b, b < 3 → a ≠ b → (TX10 a).2.1 ≠ (TX10 b).2.1 := by decide +kernel
theorem tyX10_ok : ∀ k, k < 3 → parseFieldDescriptor (TX10 k).2.2.1 = some (tyX10 k) := by decide +kernel
abbrev cX10_init : ByteArray := prog_12_method_1_code
def yX10_init : MethodName := ⟨RX10, "<init>", "()V"⟩
abbrev cX10_read : ByteArray := prog_12_method_2_code
def yX10_read : MethodName := ⟨RX10, "read", "(LTeleprinterTape$Tape;)V"⟩
abbrev cX10_has : ByteArray := prog_12_method_3_code
def yX10_has : MethodName := ⟨RX10, "has", "(I)Z"⟩
abbrev cX10_at : ByteArray := prog_12_method_4_code
def yX10_at : MethodName := ⟨RX10, "at", "(I)I"⟩
abbrev cX10_distanceTo : ByteArray := prog_12_method_5_code
def yX10_distanceTo : MethodName := ⟨RX10, "distanceTo", "(LTeleprinterTape$Text;)I"⟩
abbrev cX10_nextDistances : ByteArray := prog_12_method_6_code
def yX10_nextDistances : MethodName := ⟨RX10, "nextDistances", "(ILTeleprinterTape$Text;)V"⟩
def RX11 : String := "TeleprinterTape"
def TX11 : u_T := fun k => match k with
  | 0 => ("TeleprinterTape", "tape", "LTeleprinterTape$Tape;", true)
  | 1 => ("TeleprinterTape", "copy", "LTeleprinterTape$Tape;", true)
  | 2 => ("TeleprinterTape", "puncher", "LTeleprinterTape$Puncher;", true)
  | 3 => ("TeleprinterTape", "message", "LTeleprinterTape$Message;", true)
  | 4 => ("TeleprinterTape", "history", "LTeleprinterTape$History;", true)
  | 5 => ("TeleprinterTape", "slots", "LTeleprinterTape$Slots;", true)
  | 6 => ("TeleprinterTape", "text", "LTeleprinterTape$Text;", true)
  | 7 => ("TeleprinterTape", "otherText", "LTeleprinterTape$Text;", true)
  | 8 => ("TeleprinterTape", "page", "LTeleprinterTape$Page;", true)
  | 9 => ("TeleprinterTape", "observations", "LTeleprinterTape$Observations;", true)
  | 10 => ("TeleprinterTape", "confidence", "LTeleprinterTape$Confidence;", true)
  | _ => ("TeleprinterTape", "program", "LTeleprinterTape$Script;", true)
def tyX11 : Nat → FieldType := fun k => match k with
  | 0 => .object "TeleprinterTape$Tape"
  | 1 => .object "TeleprinterTape$Tape"
  | 2 => .object "TeleprinterTape$Puncher"
  | 3 => .object "TeleprinterTape$Message"
  | 4 => .object "TeleprinterTape$History"
  | 5 => .object "TeleprinterTape$Slots"
  | 6 => .object "TeleprinterTape$Text"
  | 7 => .object "TeleprinterTape$Text"
  | 8 => .object "TeleprinterTape$Page"
  | 9 => .object "TeleprinterTape$Observations"
  | 10 => .object "TeleprinterTape$Confidence"
  | _ => .object "TeleprinterTape$Script"
theorem nmX11 : ∀ a, a < 12 → ∀ b, b < 12 → a ≠ b → (TX11 a).2.1 ≠ (TX11 b).2.1 := by decide +kernel
theorem tyX11_ok : ∀ k, k < 12 → parseFieldDescriptor (TX11 k).2.2.1 = some (tyX11 k) := by decide +kernel
abbrev cX11_init : ByteArray := prog_1_method_1_code
def yX11_init : MethodName := ⟨RX11, "<init>", "()V"⟩
abbrev cX11_append : ByteArray := prog_1_method_2_code
def yX11_append : MethodName := ⟨RX11, "append", "(I)I"⟩
abbrev cX11_clearMessage : ByteArray := prog_1_method_3_code
def yX11_clearMessage : MethodName := ⟨RX11, "clearMessage", "()I"⟩
abbrev cX11_errorPosition : ByteArray := prog_1_method_4_code
def yX11_errorPosition : MethodName := ⟨RX11, "errorPosition", "()I"⟩
abbrev cX11_length : ByteArray := prog_1_method_5_code
def yX11_length : MethodName := ⟨RX11, "length", "()I"⟩
abbrev cX11_codeAt : ByteArray := prog_1_method_6_code
def yX11_codeAt : MethodName := ⟨RX11, "codeAt", "(I)I"⟩
abbrev cX11_caseAt : ByteArray := prog_1_method_7_code
def yX11_caseAt : MethodName := ⟨RX11, "caseAt", "(I)I"⟩
abbrev cX11_printedLength : ByteArray := prog_1_method_8_code
def yX11_printedLength : MethodName := ⟨RX11, "printedLength", "()I"⟩
abbrev cX11_printedAt : ByteArray := prog_1_method_9_code
def yX11_printedAt : MethodName := ⟨RX11, "printedAt", "(I)I"⟩
abbrev cX11_punch : ByteArray := prog_1_method_10_code
def yX11_punch : MethodName := ⟨RX11, "punch", "(I)I"⟩
abbrev cX11_encodeMessage : ByteArray := prog_1_method_11_code
def yX11_encodeMessage : MethodName := ⟨RX11, "encodeMessage", "()I"⟩
abbrev cX11_encodeWrapped : ByteArray := prog_1_method_12_code
def yX11_encodeWrapped : MethodName := ⟨RX11, "encodeWrapped", "()I"⟩
abbrev cX11_remove : ByteArray := prog_1_method_13_code
def yX11_remove : MethodName := ⟨RX11, "remove", "(I)I"⟩
abbrev cX11_flip : ByteArray := prog_1_method_14_code
def yX11_flip : MethodName := ⟨RX11, "flip", "(II)I"⟩
abbrev cX11_compact : ByteArray := prog_1_method_15_code
def yX11_compact : MethodName := ⟨RX11, "compact", "()I"⟩
abbrev cX11_repair : ByteArray := prog_1_method_16_code
def yX11_repair : MethodName := ⟨RX11, "repair", "()I"⟩
abbrev cX11_setStartCase : ByteArray := prog_1_method_17_code
def yX11_setStartCase : MethodName := ⟨RX11, "setStartCase", "(I)I"⟩
abbrev cX11_setUnshiftOnSpace : ByteArray := prog_1_method_18_code
def yX11_setUnshiftOnSpace : MethodName := ⟨RX11, "setUnshiftOnSpace", "(I)I"⟩
abbrev cX11_setWidth : ByteArray := prog_1_method_19_code
def yX11_setWidth : MethodName := ⟨RX11, "setWidth", "(I)I"⟩
abbrev cX11_undo : ByteArray := prog_1_method_20_code
def yX11_undo : MethodName := ⟨RX11, "undo", "()I"⟩
abbrev cX11_cell : ByteArray := prog_1_method_21_code
def yX11_cell : MethodName := ⟨RX11, "cell", "(II)I"⟩
abbrev cX11_overstrikes : ByteArray := prog_1_method_22_code
def yX11_overstrikes : MethodName := ⟨RX11, "overstrikes", "()I"⟩
abbrev cX11_damageIfLost : ByteArray := prog_1_method_23_code
def yX11_damageIfLost : MethodName := ⟨RX11, "damageIfLost", "(I)I"⟩
abbrev cX11_damageIfFlipped : ByteArray := prog_1_method_24_code
def yX11_damageIfFlipped : MethodName := ⟨RX11, "damageIfFlipped", "(II)I"⟩
abbrev cX11_confidenceNumerator : ByteArray := prog_1_method_25_code
def yX11_confidenceNumerator : MethodName := ⟨RX11, "confidenceNumerator", "(II)I"⟩
abbrev cX11_confidenceDenominator : ByteArray := prog_1_method_26_code
def yX11_confidenceDenominator : MethodName := ⟨RX11, "confidenceDenominator", "(II)I"⟩
abbrev cX11_runScript : ByteArray := prog_1_method_27_code
def yX11_runScript : MethodName := ⟨RX11, "runScript", "(IJ)I"⟩
abbrev cX11_observe : ByteArray := prog_1_method_28_code
def yX11_observe : MethodName := ⟨RX11, "observe", "(II)I"⟩
abbrev cX11_possibleSettings : ByteArray := prog_1_method_29_code
def yX11_possibleSettings : MethodName := ⟨RX11, "possibleSettings", "()I"⟩
abbrev cX11_noise : ByteArray := prog_1_method_30_code
def yX11_noise : MethodName := ⟨RX11, "noise", "(JI)I"⟩
abbrev cX11_save : ByteArray := prog_1_method_31_code
def yX11_save : MethodName := ⟨RX11, "save", "(I)I"⟩
abbrev cX11_restore : ByteArray := prog_1_method_32_code
def yX11_restore : MethodName := ⟨RX11, "restore", "(I)I"⟩
abbrev cX11_editDistance : ByteArray := prog_1_method_33_code
def yX11_editDistance : MethodName := ⟨RX11, "editDistance", "(I)I"⟩
abbrev cX11_isWithin : ByteArray := prog_1_method_34_code
def yX11_isWithin : MethodName := ⟨RX11, "isWithin", "(III)Z"⟩
abbrev cX11_isBit : ByteArray := prog_1_method_35_code
def yX11_isBit : MethodName := ⟨RX11, "isBit", "(I)Z"⟩
abbrev cX11_takePunched : ByteArray := prog_1_method_36_code
def yX11_takePunched : MethodName := ⟨RX11, "takePunched", "()Z"⟩
abbrev cX11_printPage : ByteArray := prog_1_method_37_code
def yX11_printPage : MethodName := ⟨RX11, "printPage", "()V"⟩
abbrev cX11_reckonConfidence : ByteArray := prog_1_method_38_code
def yX11_reckonConfidence : MethodName := ⟨RX11, "reckonConfidence", "(II)I"⟩
def RX12 : String := "TeleprinterTapeModel"
def TX12 : u_T := fun k => match k with
  | 0 => ("TeleprinterTapeModel", "message", "[I", true)
  | 1 => ("TeleprinterTapeModel", "length", "I", false)
  | 2 => ("TeleprinterTapeModel", "now", "[I", true)
  | 3 => ("TeleprinterTapeModel", "trial", "[I", true)
  | 4 => ("TeleprinterTapeModel", "diary", "[I", true)
  | 5 => ("TeleprinterTapeModel", "acts", "I", false)
  | 6 => ("TeleprinterTapeModel", "next", "I", false)
  | 7 => ("TeleprinterTapeModel", "kept", "[I", true)
  | 8 => ("TeleprinterTapeModel", "isKept", "[Z", true)
  | 9 => ("TeleprinterTapeModel", "seenAt", "[I", true)
  | 10 => ("TeleprinterTapeModel", "seenIs", "[I", true)
  | 11 => ("TeleprinterTapeModel", "seen", "I", false)
  | 12 => ("TeleprinterTapeModel", "seenNext", "I", false)
  | 13 => ("TeleprinterTapeModel", "prints", "[I", true)
  | 14 => ("TeleprinterTapeModel", "cases", "[I", true)
  | 15 => ("TeleprinterTapeModel", "other", "[I", true)
  | 16 => ("TeleprinterTapeModel", "otherCases", "[I", true)
  | 17 => ("TeleprinterTapeModel", "text", "[I", true)
  | 18 => ("TeleprinterTapeModel", "textLength", "I", false)
  | 19 => ("TeleprinterTapeModel", "second", "[I", true)
  | 20 => ("TeleprinterTapeModel", "secondLength", "I", false)
  | 21 => ("TeleprinterTapeModel", "page", "[I", true)
  | 22 => ("TeleprinterTapeModel", "strikes", "I", false)
  | _ => ("TeleprinterTapeModel", "distance", "[I", true)
def tyX12 : Nat → FieldType := fun k => match k with
  | 0 => .array .int
  | 1 => .int
  | 2 => .array .int
  | 3 => .array .int
  | 4 => .array .int
  | 5 => .int
  | 6 => .int
  | 7 => .array .int
  | 8 => .array .boolean
  | 9 => .array .int
  | 10 => .array .int
  | 11 => .int
  | 12 => .int
  | 13 => .array .int
  | 14 => .array .int
  | 15 => .array .int
  | 16 => .array .int
  | 17 => .array .int
  | 18 => .int
  | 19 => .array .int
  | 20 => .int
  | 21 => .array .int
  | 22 => .int
  | _ => .array .int
theorem nmX12 : ∀ a, a < 24 → ∀ b, b < 24 → a ≠ b → (TX12 a).2.1 ≠ (TX12 b).2.1 := by decide +kernel
theorem tyX12_ok : ∀ k, k < 24 → parseFieldDescriptor (TX12 k).2.2.1 = some (tyX12 k) := by decide +kernel
abbrev cX12_init : ByteArray := prog_14_method_1_code
def yX12_init : MethodName := ⟨RX12, "<init>", "()V"⟩
abbrev cX12_copy : ByteArray := prog_14_method_3_code
def yX12_copy : MethodName := ⟨RX12, "copy", "([I[I)V"⟩
abbrev cX12_in : ByteArray := prog_14_method_4_code
def yX12_in : MethodName := ⟨RX12, "in", "(JJJ)Z"⟩
abbrev cX12_has : ByteArray := prog_14_method_5_code
def yX12_has : MethodName := ⟨RX12, "has", "(II)Z"⟩
abbrev cX12_figureOf : ByteArray := prog_14_method_6_code
def yX12_figureOf : MethodName := ⟨RX12, "figureOf", "(I)I"⟩
abbrev cX12_printOf : ByteArray := prog_14_method_7_code
def yX12_printOf : MethodName := ⟨RX12, "printOf", "(II)I"⟩
abbrev cX12_caseAfter : ByteArray := prog_14_method_8_code
def yX12_caseAfter : MethodName := ⟨RX12, "caseAfter", "(III)I"⟩
abbrev cX12_codeOf : ByteArray := prog_14_method_9_code
def yX12_codeOf : MethodName := ⟨RX12, "codeOf", "(I)I"⟩
abbrev cX12_layPrints : ByteArray := prog_14_method_10_code
def yX12_layPrints : MethodName := ⟨RX12, "layPrints", "([I[I[I)V"⟩
abbrev cX12_layText : ByteArray := prog_14_method_11_code
def yX12_layText : MethodName := ⟨RX12, "layText", "([I)V"⟩
abbrev cX12_laySecond : ByteArray := prog_14_method_12_code
def yX12_laySecond : MethodName := ⟨RX12, "laySecond", "([I)V"⟩
abbrev cX12_isSameText : ByteArray := prog_14_method_13_code
def yX12_isSameText : MethodName := ⟨RX12, "isSameText", "()Z"⟩
abbrev cX12_append : ByteArray := prog_14_method_14_code
def yX12_append : MethodName := ⟨RX12, "append", "(I)I"⟩
abbrev cX12_clearMessage : ByteArray := prog_14_method_15_code
def yX12_clearMessage : MethodName := ⟨RX12, "clearMessage", "()I"⟩
abbrev cX12_errorPosition : ByteArray := prog_14_method_16_code
def yX12_errorPosition : MethodName := ⟨RX12, "errorPosition", "()I"⟩
abbrev cX12_length : ByteArray := prog_14_method_17_code
def yX12_length : MethodName := ⟨RX12, "length", "()I"⟩
abbrev cX12_isIndex : ByteArray := prog_14_method_18_code
def yX12_isIndex : MethodName := ⟨RX12, "isIndex", "(I)Z"⟩
abbrev cX12_codeAt : ByteArray := prog_14_method_19_code
def yX12_codeAt : MethodName := ⟨RX12, "codeAt", "(I)I"⟩
abbrev cX12_caseAt : ByteArray := prog_14_method_20_code
def yX12_caseAt : MethodName := ⟨RX12, "caseAt", "(I)I"⟩
abbrev cX12_printedLength : ByteArray := prog_14_method_21_code
def yX12_printedLength : MethodName := ⟨RX12, "printedLength", "()I"⟩
abbrev cX12_printedAt : ByteArray := prog_14_method_22_code
def yX12_printedAt : MethodName := ⟨RX12, "printedAt", "(I)I"⟩
abbrev cX12_note : ByteArray := prog_14_method_23_code
def yX12_note : MethodName := ⟨RX12, "note", "()V"⟩
abbrev cX12_put : ByteArray := prog_14_method_24_code
def yX12_put : MethodName := ⟨RX12, "put", "([II)Z"⟩
abbrev cX12_caseOfAll : ByteArray := prog_14_method_25_code
def yX12_caseOfAll : MethodName := ⟨RX12, "caseOfAll", "([I)I"⟩
abbrev cX12_encode : ByteArray := prog_14_method_26_code
def yX12_encode : MethodName := ⟨RX12, "encode", "([II)Z"⟩
abbrev cX12_punch : ByteArray := prog_14_method_27_code
def yX12_punch : MethodName := ⟨RX12, "punch", "(I)I"⟩
abbrev cX12_encodeMessage : ByteArray := prog_14_method_28_code
def yX12_encodeMessage : MethodName := ⟨RX12, "encodeMessage", "()I"⟩
abbrev cX12_take : ByteArray := prog_14_method_29_code
def yX12_take : MethodName := ⟨RX12, "take", "(Z)I"⟩
abbrev cX12_isBlank : ByteArray := prog_14_method_30_code
def yX12_isBlank : MethodName := ⟨RX12, "isBlank", "(I)Z"⟩
abbrev cX12_encodeWrapped : ByteArray := prog_14_method_31_code
def yX12_encodeWrapped : MethodName := ⟨RX12, "encodeWrapped", "()I"⟩
abbrev cX12_takeOut : ByteArray := prog_14_method_32_code
def yX12_takeOut : MethodName := ⟨RX12, "takeOut", "([II)V"⟩
abbrev cX12_remove : ByteArray := prog_14_method_33_code
def yX12_remove : MethodName := ⟨RX12, "remove", "(I)I"⟩
abbrev cX12_flip : ByteArray := prog_14_method_34_code
def yX12_flip : MethodName := ⟨RX12, "flip", "(II)I"⟩
abbrev cX12_compact : ByteArray := prog_14_method_35_code
def yX12_compact : MethodName := ⟨RX12, "compact", "()I"⟩
abbrev cX12_caseFor : ByteArray := prog_14_method_36_code
def yX12_caseFor : MethodName := ⟨RX12, "caseFor", "(III)I"⟩
abbrev cX12_repair : ByteArray := prog_14_method_37_code
def yX12_repair : MethodName := ⟨RX12, "repair", "()I"⟩
abbrev cX12_turn : ByteArray := prog_14_method_38_code
def yX12_turn : MethodName := ⟨RX12, "turn", "(IIII)I"⟩
abbrev cX12_setStartCase : ByteArray := prog_14_method_39_code
def yX12_setStartCase : MethodName := ⟨RX12, "setStartCase", "(I)I"⟩
abbrev cX12_setUnshiftOnSpace : ByteArray := prog_14_method_40_code
def yX12_setUnshiftOnSpace : MethodName := ⟨RX12, "setUnshiftOnSpace", "(I)I"⟩
abbrev cX12_setWidth : ByteArray := prog_14_method_41_code
def yX12_setWidth : MethodName := ⟨RX12, "setWidth", "(I)I"⟩
abbrev cX12_undo : ByteArray := prog_14_method_42_code
def yX12_undo : MethodName := ⟨RX12, "undo", "()I"⟩
abbrev cX12_layPage : ByteArray := prog_14_method_43_code
def yX12_layPage : MethodName := ⟨RX12, "layPage", "()V"⟩
abbrev cX12_cell : ByteArray := prog_14_method_44_code
def yX12_cell : MethodName := ⟨RX12, "cell", "(II)I"⟩
abbrev cX12_overstrikes : ByteArray := prog_14_method_45_code
def yX12_overstrikes : MethodName := ⟨RX12, "overstrikes", "()I"⟩
abbrev cX12_damageIfLost : ByteArray := prog_14_method_46_code
def yX12_damageIfLost : MethodName := ⟨RX12, "damageIfLost", "(I)I"⟩
abbrev cX12_unlike : ByteArray := prog_14_method_47_code
def yX12_unlike : MethodName := ⟨RX12, "unlike", "()I"⟩
abbrev cX12_damageIfFlipped : ByteArray := prog_14_method_48_code
def yX12_damageIfFlipped : MethodName := ⟨RX12, "damageIfFlipped", "(II)I"⟩
abbrev cX12_isShift : ByteArray := prog_14_method_49_code
def yX12_isShift : MethodName := ⟨RX12, "isShift", "(I)Z"⟩
abbrev cX12_shiftsBelow : ByteArray := prog_14_method_50_code
def yX12_shiftsBelow : MethodName := ⟨RX12, "shiftsBelow", "(I)I"⟩
abbrev cX12_power : ByteArray := prog_14_method_51_code
def yX12_power : MethodName := ⟨RX12, "power", "(II)I"⟩
abbrev cX12_caseBut : ByteArray := prog_14_method_52_code
def yX12_caseBut : MethodName := ⟨RX12, "caseBut", "(II)I"⟩
abbrev cX12_confidence : ByteArray := prog_14_method_53_code
def yX12_confidence : MethodName := ⟨RX12, "confidence", "(IIZ)I"⟩
abbrev cX12_confidenceNumerator : ByteArray := prog_14_method_54_code
def yX12_confidenceNumerator : MethodName := ⟨RX12, "confidenceNumerator", "(II)I"⟩
abbrev cX12_confidenceDenominator : ByteArray := prog_14_method_55_code
def yX12_confidenceDenominator : MethodName := ⟨RX12, "confidenceDenominator", "(II)I"⟩
abbrev cX12_command : ByteArray := prog_14_method_56_code
def yX12_command : MethodName := ⟨RX12, "command", "(II)Z"⟩
abbrev cX12_thousands : ByteArray := prog_14_method_57_code
def yX12_thousands : MethodName := ⟨RX12, "thousands", "(I)J"⟩
abbrev cX12_runScript : ByteArray := prog_14_method_58_code
def yX12_runScript : MethodName := ⟨RX12, "runScript", "(IJ)I"⟩
abbrev cX12_observe : ByteArray := prog_14_method_59_code
def yX12_observe : MethodName := ⟨RX12, "observe", "(II)I"⟩
abbrev cX12_possibleSettings : ByteArray := prog_14_method_60_code
def yX12_possibleSettings : MethodName := ⟨RX12, "possibleSettings", "()I"⟩
abbrev cX12_noise : ByteArray := prog_14_method_61_code
def yX12_noise : MethodName := ⟨RX12, "noise", "(JI)I"⟩
abbrev cX12_save : ByteArray := prog_14_method_62_code
def yX12_save : MethodName := ⟨RX12, "save", "(I)I"⟩
abbrev cX12_restore : ByteArray := prog_14_method_63_code
def yX12_restore : MethodName := ⟨RX12, "restore", "(I)I"⟩
abbrev cX12_editDistance : ByteArray := prog_14_method_64_code
def yX12_editDistance : MethodName := ⟨RX12, "editDistance", "(I)I"⟩
def RJ11 : String := "java/lang/Character"
abbrev cJ11_isValidCodePoint_9a6ad : ByteArray := prog_15_method_11_code
def yJ11_isValidCodePoint_9a6ad : MethodName := ⟨RJ11, "isValidCodePoint", "(I)Z"⟩
abbrev cJ11_highSurrogate_5068e : ByteArray := prog_15_method_28_code
def yJ11_highSurrogate_5068e : MethodName := ⟨RJ11, "highSurrogate", "(I)C"⟩
abbrev cJ11_lowSurrogate_5068e : ByteArray := prog_15_method_29_code
def yJ11_lowSurrogate_5068e : MethodName := ⟨RJ11, "lowSurrogate", "(I)C"⟩
def RJ9 : String := "java/lang/Math"
abbrev cJ9_max_7cf53 : ByteArray := prog_16_method_65_code
def yJ9_max_7cf53 : MethodName := ⟨RJ9, "max", "(II)I"⟩
abbrev cJ9_min_7cf53 : ByteArray := prog_16_method_69_code
def yJ9_min_7cf53 : MethodName := ⟨RJ9, "min", "(II)I"⟩
def RJ0 : String := "java/lang/String"
abbrev cJ0_length_8abf5 : ByteArray := prog_17_method_54_code
def yJ0_length_8abf5 : MethodName := ⟨RJ0, "length", "()I"⟩
abbrev cJ0_charAt_5068e : ByteArray := prog_17_method_56_code
def yJ0_charAt_5068e : MethodName := ⟨RJ0, "charAt", "(I)C"⟩
abbrev cJ0_indexOf_0f7a4 : ByteArray := prog_17_method_79_code
def yJ0_indexOf_0f7a4 : MethodName := ⟨RJ0, "indexOf", "(I)I"⟩
abbrev cJ0_indexOf_7cf53 : ByteArray := prog_17_method_80_code
def yJ0_indexOf_7cf53 : MethodName := ⟨RJ0, "indexOf", "(II)I"⟩
abbrev cJ0_coder_7d493 : ByteArray := prog_17_method_152_code
def yJ0_coder_7d493 : MethodName := ⟨RJ0, "coder", "()B"⟩
abbrev cJ0_isLatin1_aae02 : ByteArray := prog_17_method_154_code
def yJ0_isLatin1_aae02 : MethodName := ⟨RJ0, "isLatin1", "()Z"⟩
abbrev cJ0_checkIndex_df160 : ByteArray := prog_17_method_155_code
def yJ0_checkIndex_df160 : MethodName := ⟨RJ0, "checkIndex", "(II)V"⟩
abbrev cJ0_checkBoundsBeginEnd_23922 : ByteArray := prog_17_method_158_code
def yJ0_checkBoundsBeginEnd_23922 : MethodName := ⟨RJ0, "checkBoundsBeginEnd", "(III)V"⟩
def RJ1 : String := "java/lang/StringLatin1"
abbrev cJ1_charAt_3b067 : ByteArray := prog_18_method_2_code
def yJ1_charAt_3b067 : MethodName := ⟨RJ1, "charAt", "([BI)C"⟩
abbrev cJ1_canEncode_9a6ad : ByteArray := prog_18_method_4_code
def yJ1_canEncode_9a6ad : MethodName := ⟨RJ1, "canEncode", "(I)Z"⟩
abbrev cJ1_indexOf_4cfef : ByteArray := prog_18_method_22_code
def yJ1_indexOf_4cfef : MethodName := ⟨RJ1, "indexOf", "([BIII)I"⟩
abbrev cJ1_indexOfChar_4cfef : ByteArray := prog_18_method_23_code
def yJ1_indexOfChar_4cfef : MethodName := ⟨RJ1, "indexOfChar", "([BIII)I"⟩
def RJ2 : String := "java/lang/StringUTF16"
abbrev cJ2_getChar_3b067 : ByteArray := prog_19_method_5_code
def yJ2_getChar_3b067 : MethodName := ⟨RJ2, "getChar", "([BI)C"⟩
abbrev cJ2_length_9d52b : ByteArray := prog_19_method_6_code
def yJ2_length_9d52b : MethodName := ⟨RJ2, "length", "([B)I"⟩
abbrev cJ2_indexOf_4cfef : ByteArray := prog_19_method_40_code
def yJ2_indexOf_4cfef : MethodName := ⟨RJ2, "indexOf", "([BIII)I"⟩
abbrev cJ2_indexOfChar_4cfef : ByteArray := prog_19_method_47_code
def yJ2_indexOfChar_4cfef : MethodName := ⟨RJ2, "indexOfChar", "([BIII)I"⟩
abbrev cJ2_indexOfCharUnsafe_4cfef : ByteArray := prog_19_method_48_code
def yJ2_indexOfCharUnsafe_4cfef : MethodName := ⟨RJ2, "indexOfCharUnsafe", "([BIII)I"⟩
abbrev cJ2_indexOfSupplementary_4cfef : ByteArray := prog_19_method_49_code
def yJ2_indexOfSupplementary_4cfef : MethodName := ⟨RJ2, "indexOfSupplementary", "([BIII)I"⟩
abbrev cJ2_charAt_3b067 : ByteArray := prog_19_method_83_code
def yJ2_charAt_3b067 : MethodName := ⟨RJ2, "charAt", "([BI)C"⟩
abbrev cJ2_checkIndex_2214a : ByteArray := prog_19_method_91_code
def yJ2_checkIndex_2214a : MethodName := ⟨RJ2, "checkIndex", "(I[B)V"⟩
abbrev cJ2_checkBoundsBeginEnd_d044e : ByteArray := prog_19_method_93_code
def yJ2_checkBoundsBeginEnd_d044e : MethodName := ⟨RJ2, "checkBoundsBeginEnd", "(II[B)V"⟩
def RJ10 : String := "java/lang/System"
def RJ7 : String := "java/util/Arrays"
abbrev cJ7_fill_53178 : ByteArray := prog_21_method_103_code
def yJ7_fill_53178 : MethodName := ⟨RJ7, "fill", "([II)V"⟩
def RJ3 : String := "jdk/internal/util/Preconditions"
abbrev cJ3_checkIndex_8e157 : ByteArray := prog_22_method_11_code
def yJ3_checkIndex_8e157 : MethodName := ⟨RJ3, "checkIndex", "(IILjava/util/function/BiFunction;)I"⟩
abbrev cJ3_checkFromToIndex_8c36e : ByteArray := prog_22_method_12_code
def yJ3_checkFromToIndex_8c36e : MethodName := ⟨RJ3, "checkFromToIndex", "(IIILjava/util/function/BiFunction;)I"⟩
def RL : String := "TeleprinterTapeLaw"
abbrev cL_law : ByteArray := code
def yL_law : MethodName := ⟨RL, "law", "([I)Z"⟩
abbrev vwCl : List vw_C := [(RX1, TX1, 4), (RX2, TX2, 3), (RX3, TX3, 2), (RX4, TX4, 4), (RX5, TX5, 4), (RX6, TX6, 3), (RX7, TX7, 2), (RX8, TX8, 2), (RX9, TX9, 5), (RX10, TX10, 3), (RX11, TX11, 12), (RX12, TX12, 24)]
/-- the words that read the tables alone -/
def tgw (w : Cond) : Bool := w.onTables && (w.keeps || (match w with | .fieldLinkNest .. => true | .methodLinkNest .. => true | _ => false))
def lw_tg : List Cond := lw_tbl.filter tgw
theorem tg_len : lw_tg.length = 1145 := by decide +kernel
theorem tg_mem {w : Cond} (i : Nat) (h : lw_tg[i]? = some w) : w ∈ lw_tg := List.mem_of_getElem? h
theorem tg_mems {ws : List Cond} (ps : List Nat) (h : ws = ps.filterMap (fun i => lw_tg[i]?)) : ∀ w ∈ ws, w ∈ lw_tg := by
  intro w hw
  rw [h] at hw
  obtain ⟨i, -, hi⟩ := List.mem_filterMap.mp hw
  exact List.mem_of_getElem? hi
theorem iX1 : ∀ w ∈ u_ws RX1 TX1 4, w ∈ lw_tg := tg_mems [233, 235, 237, 239] (by decide +kernel)
theorem iX2 : ∀ w ∈ u_ws RX2 TX2 3, w ∈ lw_tg := tg_mems [140, 142, 144] (by decide +kernel)
theorem iX3 : ∀ w ∈ u_ws RX3 TX3 2, w ∈ lw_tg := tg_mems [123, 125] (by decide +kernel)
theorem iX4 : ∀ w ∈ u_ws RX4 TX4 4, w ∈ lw_tg := tg_mems [212, 214, 216, 218] (by decide +kernel)
theorem iX5 : ∀ w ∈ u_ws RX5 TX5 4, w ∈ lw_tg := tg_mems [192, 194, 196, 198] (by decide +kernel)
theorem iX6 : ∀ w ∈ u_ws RX6 TX6 3, w ∈ lw_tg := tg_mems [106, 108, 110] (by decide +kernel)
theorem iX7 : ∀ w ∈ u_ws RX7 TX7 2, w ∈ lw_tg := tg_mems [250, 252] (by decide +kernel)
theorem iX8 : ∀ w ∈ u_ws RX8 TX8 2, w ∈ lw_tg := tg_mems [157, 159] (by decide +kernel)
theorem iX9 : ∀ w ∈ u_ws RX9 TX9 5, w ∈ lw_tg := tg_mems [82, 84, 86, 88, 90] (by decide +kernel)
theorem iX10 : ∀ w ∈ u_ws RX10 TX10 3, w ∈ lw_tg := tg_mems [174, 176, 178] (by decide +kernel)
theorem iX11 : ∀ w ∈ u_ws RX11 TX11 12, w ∈ lw_tg := tg_mems [267, 269, 271, 273, 275, 277, 279, 281, 283, 285, 287, 289] (by decide +kernel)
theorem iX12 : ∀ w ∈ u_ws RX12 TX12 24, w ∈ lw_tg := tg_mems [862, 864, 866, 868, 870, 872, 874, 876, 878, 880, 882, 884, 886, 888, 890, 892, 894, 896, 898, 900, 902, 904, 906, 908] (by decide +kernel)
end
section
/-! THE PURE MACHINE'S STATE: a heap is a list of cells, a reference is a place in it; what lies outside (the script, the two texts and their bytes) is a 'retAddr'. -/
abbrev PE : Type := (Nat × vp_A) ⊕ (Nat × List Value)
abbrev HPt : Type := List PE
abbrev EX : Type := (Nat → Nat) × Nat × va_G × (Nat → ClassId) × Nat × (Nat → Int32)
def xc (X : EX) : Nat → Nat := X.1
def x0 (X : EX) : Nat := X.2.1
def xD (X : EX) : va_G := X.2.2.1
def xy (X : EX) : Nat → ClassId := X.2.2.2.1
def xL (X : EX) : Nat := X.2.2.2.2.1
def xs (X : EX) : Nat → Int32 := X.2.2.2.2.2
def xA (X : EX) : Nat → Prop := fun q => x0 X ≤ q
def xv (X : EX) : Value → Value
  | .ref i => .ref (x0 X + i)
  | .retAddr i => .ref (xc X i)
  | .int v => .int v
  | .long v => .long v
  | .float v => .float v
  | .double v => .double v
  | .null => .null
def xf (X : EX) : ((Nat → Int32) ⊕ (Nat → Int64) ⊕ (Nat → UInt32) ⊕ (Nat → UInt64) ⊕ (Nat → Option Nat)) → ((Nat → Int32) ⊕ (Nat → Int64) ⊕ (Nat → UInt32) ⊕ (Nat → UInt64) ⊕ (Nat → Option Nat))
  | .inl f => .inl f
  | .inr (.inl f) => .inr (.inl f)
  | .inr (.inr (.inl f)) => .inr (.inr (.inl f))
  | .inr (.inr (.inr (.inl f))) => .inr (.inr (.inr (.inl f)))
  | .inr (.inr (.inr (.inr f))) => .inr (.inr (.inr (.inr (fun j => (f j).map (x0 X + ·)))))
def xe (X : EX) : PE → va_E
  | .inl q => .inl (xy X q.1, q.2.1, xf X q.2.2)
  | .inr q => .inr (q.1, q.2.map (xv X))
def xw (X : EX) (hp : HPt) : va_W := hp.mapIdx (fun i e => (x0 X + i, xe X e))
abbrev ia (n : Nat) (f : Nat → Int32) : PE := .inl (0, n, .inl f)
abbrev za (n : Nat) (f : Nat → Int32) : PE := .inl (1, n, .inl f)
abbrev qa (n : Nat) (f : Nat → Option Nat) : PE := .inl (2, n, .inr (.inr (.inr (.inr f))))
abbrev ob (ci : Nat) (fs : List Value) : PE := .inr (ci, fs)
abbrev xt (X : EX) : List (ClassId × FieldType) := [(xy X 0, .int), (xy X 1, .boolean), (xy X 2, .object RX9)]
theorem xw_get (X : EX) (hp : HPt) (i : Nat) : (xw X hp)[i]? = (hp[i]?).map (fun e => (x0 X + i, xe X e)) := by
  unfold xw
  rw [List.getElem?_mapIdx]
theorem xw_at {X : EX} {hp : HPt} {i : Nat} {e : PE} (h : hp[i]? = some e) : (xw X hp)[i]? = some (x0 X + i, xe X e) := by
  rw [xw_get, h]; rfl
theorem xw_len (X : EX) (hp : HPt) : (xw X hp).length = hp.length := by
  unfold xw
  rw [List.length_mapIdx]
theorem xw_set (X : EX) (hp : HPt) (i : Nat) (e : PE) : (xw X hp).set i (x0 X + i, xe X e) = xw X (hp.set i e) := by
  apply List.ext_getElem?
  intro j
  rw [xw_get, List.getElem?_set, List.getElem?_set, xw_get, xw_len]
  by_cases hij : i = j
  · subst hij
    by_cases hl : i < hp.length <;> simp [hl]
  · simp [hij]
theorem xw_push (X : EX) (hp : HPt) (e : PE) : xw X hp ++ [(x0 X + hp.length, xe X e)] = xw X (hp ++ [e]) := by
  unfold xw
  rw [List.mapIdx_append]
  simp
theorem xw_D (X : EX) (hp : HPt) : va_D (xA X) (xw X hp) := by
  refine ⟨fun i j p q hi hj hpq => ?_, fun k q hk => ?_⟩
  · rw [xw_get] at hi hj
    cases h1 : hp[i]? with
    | none => rw [h1] at hi; cases hi
    | some a =>
      cases h2 : hp[j]? with
      | none => rw [h2] at hj; cases hj
      | some b =>
        rw [h1] at hi; rw [h2] at hj
        cases hi; cases hj
        have : x0 X + i = x0 X + j := hpq
        omega
  · rw [xw_get] at hk
    cases h1 : hp[k]? with
    | none => rw [h1] at hk; cases hk
    | some a => rw [h1] at hk; cases hk; exact Nat.le_add_right _ _
/-! the tables' words, at any state of the run -/
def TB (s : State) : Prop := ∀ w ∈ lw_tg, ∀ args : Array Value, w.before args s = true
theorem TB.warm {s U : State} (hW : s.WarmedH U.vm) (h : TB s) : TB U := by
  intro w hw args
  have hk := (List.mem_filter.mp hw).2
  have h0 := h w hw #[]
  unfold tgw at hk
  rw [Bool.and_eq_true, Bool.or_eq_true] at hk
  obtain ⟨h1, h2 | h2⟩ := hk
  · exact word_at hW (Or.inl (by rw [h1, h2]; rfl)) h0
  · cases w <;> first | exact va_Nw.use rfl (va_Nw.warmF hW h0) | exact va_Nw.use rfl (va_Nw.warmM hW h0) | exact absurd (show false = true from h2) Bool.false_ne_true
def slen : List Nat := [26, 26]
def sbyt : List (List Int32) := [[65, 66, 67, 68, 69, 70, 71, 72, 73, 74, 75, 76, 77, 78, 79, 80, 81, 82, 83, 84, 85, 86, 87, 88, 89, 90], [48, 49, 50, 51, 52, 53, 54, 55, 56, 57, 45, 63, 58, 40, 41, 46, 44, 47, 61, 39, 43, 33, 38, 37, 59, 36]]
def XS (X : EX) (s : State) (H : Heap) : Prop :=
  vk_R RX0 23 "ABCDEFGHIJKLMNOPQRSTUVWXYZ" (xc X 1) s ∧ vk_R RX0 15 "0123456789-?:().,/='+!&%;$" (xc X 2) s ∧ vk_S 2 slen sbyt (fun i => xc X (1 + i)) (fun i => xc X (3 + i)) (xA X) s H ∧ va_Z "java/lang/String" "COMPACT_STRINGS" "Z" (.int 1) (xA X) s H ∧
  (va_Z "jdk/internal/util/Preconditions" "SIOOBE_FORMATTER" "Ljava/util/function/BiFunction;" .null (xA X) s H ∨ va_Z "jdk/internal/util/Preconditions" "SIOOBE_FORMATTER" "Ljava/util/function/BiFunction;" (.ref (xc X 5)) (xA X) s H)
def XF (X : EX) (s : State) (H : Heap) : Prop :=
  TB s ∧ va_K (xD X) vwCl (xt X) s ∧ ((Cond.arrayClass .int).before #[] s = true ∧ (Cond.arrayClass .boolean).before #[] s = true ∧ va_AO RX9 s) ∧ (va_X (xc X 0) (xL X) (xs X) s H ∧ xc X 0 < x0 X) ∧ XS X s H
theorem XF.move {X : EX} {s U : State} {H H1 : Heap} (hW : s.WarmedH U.vm) (hq : ∀ q, q < x0 X → H1[q]? = H[q]?) (h : XF X s H) : XF X U H1 := by
  obtain ⟨h1, h2, ⟨h3, h4, h5⟩, ⟨h6, h7⟩, h8, h9, h10, h11, h12⟩ := h
  have hk : ∀ a : Nat, a < H.size → ¬ xA X a → H1[a]? = H[a]? := fun a _ hA => hq a (Nat.not_le.mp hA)
  refine ⟨h1.warm hW, h2.moved hW.alike, ⟨word_at hW (Or.inr ⟨_, rfl⟩) h3, word_at hW (Or.inr ⟨_, rfl⟩) h4, h5.moved hW.alike⟩, ⟨(h6.moved hW.alike).kept (hq _ h7), h7⟩, h8.warm hW, h9.warm hW, (h10.moved hW.alike).kept hk, (va_Z.moved hW.alike h11).kept hk, ?_⟩
  rcases h12 with h | h
  · exact Or.inl ((va_Z.moved hW.alike h).kept hk)
  · exact Or.inr ((va_Z.moved hW.alike h).kept hk)
/-- the heap H holds hp, k cells after the state s -/
def HR (X : EX) (hp : HPt) (k : Nat) (s : State) (H : Heap) : Prop := s.heap.size + k = x0 X + hp.length ∧ va_P (xD X) vwCl (xw X hp) H
/-! a method: its name, code, locals, answer, room -/
abbrev MT : Type := MethodName × ByteArray × Nat × Option FieldType × Room
def mY (M : MT) : MethodName := M.1
def mB (M : MT) : ByteArray := M.2.1
def mN (M : MT) : Nat := M.2.2.1
def mR (M : MT) : Option FieldType := M.2.2.2.1
def mM (M : MT) : Room := M.2.2.2.2
def CX (X : EX) (M : MT) (p : Program) (s : State) (m : MethodId) (meth : Method) (c : Code) : Prop :=
  p.tables.exec = Jvm.exec ∧ c.code = mB M ∧ c.maxLocals = mN M ∧ s.vm.findClass (mY M).cls = some m.cls ∧ meth.sig.returnType = mR M ∧ meth.locks = false ∧ meth.name = (mY M).name ∧ XF X s s.heap ∧ x0 X ≤ s.heap.size
def LV (X : EX) (ls : Array Slot) (nL : Nat) (lv : List (Option Value)) : Prop := ls.size = nL ∧ lv_wf ls ∧ ∀ (i : Nat) (v : Value), lv[i]? = some (some v) → ls[i]? = some (.val (xv X v))
abbrev ZT : Type := List Frame → Array Value → State → State → Prop
def PZ (l : Launch) (X : EX) (Z : ZT) (M : MT) (pc : Nat) (lv : List (Option Value)) (st : List Value) (hp : HPt) (k n : Nat) : Prop :=
  ∀ (p : Program) (e : Env) (s : State) (m : MethodId) (args : Array Value) (below : List Frame) (meth : Method) (c : Code) (H : Heap) (locs : List Loc) (ls : Array Slot), CX X M p s m meth c → HR X hp k s H → va_S (xA X) s.heap H locs → LV X ls (mN M) lv →
    W p l e (mM M) s m args below meth c H locs k n (Z below args s) (F0 m pc ls (st.map (xv X)))
def QC (X : EX) (k : Nat) (Q : Option Value → HPt → Prop) : Array Value → State → Outcome → State → Prop := fun _ st oc t =>
  (∃ (v : Option Value) (hp' : HPt), oc = .returned (v.map (xv X)) ∧ Q v hp' ∧ HR X hp' k st t.heap) ∧ st.heap.size ≤ t.heap.size ∧ ∀ q, q < x0 X → t.heap[q]? = st.heap[q]?
def MZ (X : EX) (M : MT) (Q : Option Value → HPt → Prop) : ZT := fun below args s => MQ below (QC X (mM M).cells Q) args s (mM M).cells (mM M).slots (xA X)
def PC (X : EX) (args : List Value) (hp : HPt) : Array Value → State → Prop := va_Pc (args.map (xv X)) (fun U => XF X U U.heap ∧ x0 X ≤ U.heap.size ∧ HR X hp 0 U U.heap)
def Sp (l : Launch) (X : EX) (M : MT) (args : List Value) (hp : HPt) (Q : Option Value → HPt → Prop) : Prop :=
  Met l (mY M) [Cond.code (mY M) (mB M) (mN M) (mR M)] (mM M) (PC X args hp) (QC X (mM M).cells Q) (mM M).cells (mM M).slots (xA X)
def DC (M : MT) (pc : Nat) (i : Instr) (len : Nat) : Prop := decode (mB M) pc = .ok (i, len)
/-! entry -/
def lvS : List Value → List (Option Value)
  | [] => []
  | .long x :: t => some (.long x) :: none :: lvS t
  | .double x :: t => some (.double x) :: none :: lvS t
  | v :: t => some v :: lvS t
def lvE (n : Nat) (args : List Value) : List (Option Value) := lvS args ++ List.replicate (n - (lvS args).length) none
theorem xv_cat (X : EX) (v : Value) : (xv X v).category = v.category := by cases v <;> rfl
theorem lvS_cons (v : Value) (t : List Value) : lvS (v :: t) = if v.category = 2 then some v :: none :: lvS t else some v :: lvS t := by
  cases v <;> simp [lvS, Value.category]
theorem lvS_args (X : EX) : ∀ (args : List Value) (o i : Nat) (v : Value), (lvS args)[i]? = some (some v) → (o + i, xv X v) ∈ lv_args o (args.map (xv X))
  | [], o, i, v, h => by simp [lvS] at h
  | a :: t, o, i, v, h => by
    rw [lvS_cons] at h
    show (o + i, xv X v) ∈ (o, xv X a) :: lv_args (if (xv X a).category = 2 then o + 2 else o + 1) (t.map (xv X))
    rw [xv_cat]
    by_cases hc : a.category = 2
    · rw [if_pos hc] at h ⊢
      match i, h with
      | 0, h =>
        cases h
        exact List.mem_cons_self
      | 1, h => cases h
      | i + 2, h =>
        have := lvS_args X t (o + 2) i v h
        rw [show o + 2 + i = o + (i + 2) by omega] at this
        exact List.mem_cons_of_mem _ this
    · rw [if_neg hc] at h ⊢
      match i, h with
      | 0, h =>
        cases h
        exact List.mem_cons_self
      | i + 1, h =>
        have := lvS_args X t (o + 1) i v h
        rw [show o + 1 + i = o + (i + 1) by omega] at this
        exact List.mem_cons_of_mem _ this
theorem LV.entry {X : EX} {ls : Array Slot} {n : Nat} {args : List Value} (h : lv_has ls n (lv_args 0 (args.map (xv X)))) : LV X ls n (lvE n args) := by
  refine ⟨h.1, h.2.1, fun i v hv => ?_⟩
  unfold lvE at hv
  by_cases hi : i < (lvS args).length
  · rw [List.getElem?_append_left hi] at hv
    have := lvS_args X args 0 i v hv
    rw [Nat.zero_add] at this
    exact h.2.2 _ this
  · rw [List.getElem?_append_right (by omega)] at hv
    have := List.eq_of_mem_replicate (List.mem_of_getElem? hv)
    cases this
theorem Sp.of {l : Launch} {X : EX} {M : MT} {args : List Value} {hp : HPt} {Q : Option Value → HPt → Prop} (hy : plainName (mY M).cls = true) (hlen : (lg_sl (args.map (xv X))).length ≤ mN M) {lv : List (Option Value)} (hlv : lvE (mN M) args = lv) (h : PZ l X (MZ X M Q) M 0 lv [] hp 0 0) : Sp l X M args hp Q := by
  refine Met.ofW (cc := mB M) (maxL := mN M) (ret := mR M) hy rfl ?_
  intro p e s m a below meth c s₁ B hml hv
  obtain ⟨rfl, hX, h0, hH⟩ := hv
  have hl := lv_entry (args.map (xv X)) (n := mN M) hlen
  rw [lg_entry_eq]
  generalize (lg_sl (args.map (xv X)) ++ List.replicate (mN M - (lg_sl (args.map (xv X))).length) Slot.unset).toArray = ls at hl ⊢
  subst hlv
  exact h p e s m _ below meth c s.heap [] ls ⟨B.exec, B.bytes, hml, findClass_of_methodNamed B.named, B.returns, B.notSynchronized, (name_of_methodNamed B.named B.method).1, hX, h0⟩ hH va_S.rf (LV.entry hl)
/-- what a method answers may be told weaker -/
theorem Sp.imp {l : Launch} {X : EX} {M : MT} {args : List Value} {hp : HPt} {Q Q' : Option Value → HPt → Prop} (h : Sp l X M args hp Q) (hq : ∀ v hp', Q v hp' → Q' v hp') : Sp l X M args hp Q' := by
  unfold Sp Met at h ⊢
  intro p e ha hc hk s m args below hf happ hP hT
  obtain ⟨kk, o, h1, h2, h3, ⟨⟨v, hp', e1, e2, e3⟩, e4⟩, h5⟩ := h p e ha hc hk s m args below hf happ hP hT
  exact ⟨kk, o, h1, h2, h3, ⟨⟨v, hp', e1, hq v hp' e2, e3⟩, e4⟩, h5⟩
end
section
/-! RULES of the pure machine, an instruction each: stack, locals, numbers, branches -/
section RU
variable {l : Launch} {X : EX} {Z : ZT} {M : MT} {pc : Nat} {lv lv' : List (Option Value)} {st : List Value} {hp : HPt} {k n : Nat}
theorem R_iconst {i : Int} {v : Int32} (hd : DC M pc (.iconst i) 1) (hv : Int32.ofInt i = v) (kk : PZ l X Z M (pc + 1) lv (.int v :: st) hp k n) : PZ l X Z M pc lv st hp k n :=
  fun p e s m args below meth c H locs ls C hH hS hl => lv_iconst C.1 C.2.1 hd hv (kk p e s m args below meth c H locs ls C hH hS hl)
theorem R_bipush {i : Int} {v : Int32} (hd : DC M pc (.bipush i) 2) (hv : (Int8.ofInt i).toInt32 = v) (kk : PZ l X Z M (pc + 2) lv (.int v :: st) hp k n) : PZ l X Z M pc lv st hp k n :=
  fun p e s m args below meth c H locs ls C hH hS hl => lv_bipush C.1 C.2.1 hd hv (kk p e s m args below meth c H locs ls C hH hS hl)
theorem R_sipush {i : Int} {v : Int32} (hd : DC M pc (.sipush i) 3) (hv : (Int16.ofInt i).toInt32 = v) (kk : PZ l X Z M (pc + 3) lv (.int v :: st) hp k n) : PZ l X Z M pc lv st hp k n :=
  fun p e s m args below meth c H locs ls C hH hS hl => lv_sipush C.1 C.2.1 hd hv (kk p e s m args below meth c H locs ls C hH hS hl)
theorem R_lconst {i : Fin 2} {v : Int64} (hd : DC M pc (.lconst i) 1) (hv : Int64.ofNat i.val = v) (kk : PZ l X Z M (pc + 1) lv (.long v :: st) hp k n) : PZ l X Z M pc lv st hp k n :=
  fun p e s m args below meth c H locs ls C hH hS hl => lv_lconst C.1 C.2.1 hd hv (kk p e s m args below meth c H locs ls C hH hS hl)
theorem R_ldc2 {i : Nat} {v : Int64} (hd : DC M pc (.ldc2_w i) 3) (hv : Cond.constantLong (mY M).cls i v ∈ lw_tg) (kk : PZ l X Z M (pc + 3) lv (.long v :: st) hp k n) : PZ l X Z M pc lv st hp k n :=
  fun p e s m args below meth c H locs ls C hH hS hl => lv_ldc2 C.1 C.2.1 C.2.2.2.1 (C.2.2.2.2.2.2.2.1.1 _ hv args) hd (kk p e s m args below meth c H locs ls C hH hS hl)
theorem R_iload_n {j : Fin 4} {i : Nat} {x : Int32} (hd : DC M pc (.iload_n j) 1) (hi : (j : Nat) = i) (hv : lv[i]? = some (some (.int x))) (kk : PZ l X Z M (pc + 1) lv (.int x :: st) hp k n) : PZ l X Z M pc lv st hp k n :=
  fun p e s m args below meth c H locs ls C hH hS hl => lv_iload_n C.1 C.2.1 hd hi (hl.2.2 _ _ hv) (kk p e s m args below meth c H locs ls C hH hS hl)
theorem R_iload {i : Nat} {x : Int32} (hd : DC M pc (.iload i) 2) (hv : lv[i]? = some (some (.int x))) (kk : PZ l X Z M (pc + 2) lv (.int x :: st) hp k n) : PZ l X Z M pc lv st hp k n :=
  fun p e s m args below meth c H locs ls C hH hS hl => lv_iload C.1 C.2.1 hd (hl.2.2 _ _ hv) (kk p e s m args below meth c H locs ls C hH hS hl)
theorem R_lload_n {j : Fin 4} {i : Nat} {x : Int64} (hd : DC M pc (.lload_n j) 1) (hi : (j : Nat) = i) (hv : lv[i]? = some (some (.long x))) (kk : PZ l X Z M (pc + 1) lv (.long x :: st) hp k n) : PZ l X Z M pc lv st hp k n :=
  fun p e s m args below meth c H locs ls C hH hS hl => lv_lload_n C.1 C.2.1 hd hi (hl.2.2 _ _ hv) (kk p e s m args below meth c H locs ls C hH hS hl)
theorem R_lload {i : Nat} {x : Int64} (hd : DC M pc (.lload i) 2) (hv : lv[i]? = some (some (.long x))) (kk : PZ l X Z M (pc + 2) lv (.long x :: st) hp k n) : PZ l X Z M pc lv st hp k n :=
  fun p e s m args below meth c H locs ls C hH hS hl => lv_lload C.1 C.2.1 hd (hl.2.2 _ _ hv) (kk p e s m args below meth c H locs ls C hH hS hl)
theorem R_aload_n {j : Fin 4} {i h : Nat} (hd : DC M pc (.aload_n j) 1) (hi : (j : Nat) = i) (hv : lv[i]? = some (some (.ref h))) (kk : PZ l X Z M (pc + 1) lv (.ref h :: st) hp k n) : PZ l X Z M pc lv st hp k n :=
  fun p e s m args below meth c H locs ls C hH hS hl => lv_aload_n C.1 C.2.1 hd hi (hl.2.2 _ _ hv) (kk p e s m args below meth c H locs ls C hH hS hl)
theorem R_aload {i h : Nat} (hd : DC M pc (.aload i) 2) (hv : lv[i]? = some (some (.ref h))) (kk : PZ l X Z M (pc + 2) lv (.ref h :: st) hp k n) : PZ l X Z M pc lv st hp k n :=
  fun p e s m args below meth c H locs ls C hH hS hl => lv_aload C.1 C.2.1 hd (hl.2.2 _ _ hv) (kk p e s m args below meth c H locs ls C hH hS hl)
/-- an outside cell -/
theorem R_xload_n {j : Fin 4} {i h : Nat} (hd : DC M pc (.aload_n j) 1) (hi : (j : Nat) = i) (hv : lv[i]? = some (some (.retAddr h))) (kk : PZ l X Z M (pc + 1) lv (.retAddr h :: st) hp k n) : PZ l X Z M pc lv st hp k n :=
  fun p e s m args below meth c H locs ls C hH hS hl => lv_aload_n C.1 C.2.1 hd hi (hl.2.2 _ _ hv) (kk p e s m args below meth c H locs ls C hH hS hl)
def clr2 : Option Value → Option Value
  | some (.long _) => none
  | some (.double _) => none
  | o => o
def lput : List (Option Value) → Nat → Value → List (Option Value)
  | [], _, _ => []
  | _ :: t, 0, v => some v :: t
  | o :: t, 1, v => clr2 o :: lput t 0 v
  | o :: t, i + 2, v => o :: lput t (i + 1) v
theorem lput_get : ∀ (lv : List (Option Value)) (i : Nat) (v : Value) (j : Nat) (w : Value), (lput lv i v)[j]? = some (some w) → (j = i ∧ w = v) ∨ (j ≠ i ∧ lv[j]? = some (some w) ∧ ¬ (j + 1 = i ∧ w.category = 2))
  | [], i, v, j, w, h => by simp [lput] at h
  | o :: t, 0, v, 0, w, h => by
    simp only [lput, List.getElem?_cons_zero, Option.some.injEq] at h
    exact Or.inl ⟨rfl, h.symm⟩
  | o :: t, 0, v, j + 1, w, h => by
    simp only [lput, List.getElem?_cons_succ] at h
    exact Or.inr ⟨by omega, by simpa using h, by omega⟩
  | o :: t, 1, v, 0, w, h => by
    simp only [lput, List.getElem?_cons_zero, Option.some.injEq] at h
    cases o with
    | none => cases h
    | some a => cases a <;> first | (simp only [clr2] at h; cases h; exact Or.inr ⟨by omega, rfl, by simp [Value.category]⟩) | cases h
  | o :: t, 1, v, j + 1, w, h => by
    simp only [lput, List.getElem?_cons_succ] at h
    rcases lput_get t 0 v j w h with ⟨h1, h2⟩ | ⟨h1, h2, h3⟩
    · exact Or.inl ⟨by omega, h2⟩
    · exact Or.inr ⟨by omega, by simpa using h2, by omega⟩
  | o :: t, i + 2, v, 0, w, h => by
    simp only [lput, List.getElem?_cons_zero, Option.some.injEq] at h
    exact Or.inr ⟨by omega, by simpa using h, by omega⟩
  | o :: t, i + 2, v, j + 1, w, h => by
    simp only [lput, List.getElem?_cons_succ] at h
    rcases lput_get t (i + 1) v j w h with ⟨h1, h2⟩ | ⟨h1, h2, h3⟩
    · exact Or.inl ⟨by omega, h2⟩
    · exact Or.inr ⟨by omega, by simpa using h2, fun z => h3 ⟨by omega, z.2⟩⟩
def lvA (X : EX) (nL : Nat) (lv : List (Option Value)) : List (Nat × Value) := (List.range nL).filterMap (fun i => match lv[i]? with | some (some v) => some (i, xv X v) | _ => none)
theorem lvA_mem {X : EX} {nL i : Nat} {lv : List (Option Value)} {v : Value} (hi : i < nL) (h : lv[i]? = some (some v)) : (i, xv X v) ∈ lvA X nL lv :=
  List.mem_filterMap.mpr ⟨i, List.mem_range.mpr hi, by rw [h]⟩
theorem LV.has {X : EX} {ls : Array Slot} {nL : Nat} {lv : List (Option Value)} (h : LV X ls nL lv) : lv_has ls nL (lvA X nL lv) := by
  refine ⟨h.1, h.2.1, fun q hq => ?_⟩
  obtain ⟨i, -, hi⟩ := List.mem_filterMap.mp hq
  cases hv : lv[i]? with
  | none => rw [hv] at hi; cases hi
  | some o =>
    cases o with
    | none => rw [hv] at hi; cases hi
    | some v => rw [hv] at hi; cases hi; exact h.2.2 i v hv
theorem LV.lt {X : EX} {ls : Array Slot} {nL i : Nat} {lv : List (Option Value)} {v : Value} (h : LV X ls nL lv) (hv : lv[i]? = some (some v)) : i < nL := by
  rw [← h.1]
  exact (Array.getElem?_eq_some_iff.mp (h.2.2 i v hv)).1
theorem LV.put {X : EX} {ls ls' : Array Slot} {nL i : Nat} {lv : List (Option Value)} {v : Value} (h : LV X ls nL lv) (h' : lv_has ls' nL ((i, xv X v) :: (lvA X nL lv).filter (fun q => !(q.1 == i) && !(q.1 + 1 == i && q.2.category == 2)))) : LV X ls' nL (lput lv i v) := by
  refine ⟨h'.1, h'.2.1, fun j w hj => ?_⟩
  rcases lput_get lv i v j w hj with ⟨rfl, rfl⟩ | ⟨h1, h2, h3⟩
  · exact h'.2.2 _ List.mem_cons_self
  · refine h'.2.2 (j, xv X w) (List.mem_cons_of_mem _ (List.mem_filter.mpr ⟨lvA_mem (h.lt h2) h2, ?_⟩))
    rw [xv_cat]
    simp only [Bool.and_eq_true, Bool.not_eq_true', beq_eq_false_iff_ne, ne_eq, Bool.and_eq_false_iff]
    refine ⟨h1, ?_⟩
    by_cases q : j + 1 = i
    · exact Or.inr (fun z => h3 ⟨q, z⟩)
    · exact Or.inl q
theorem LV.put2 {X : EX} {ls ls' : Array Slot} {nL i : Nat} {lv : List (Option Value)} {v : Value} (h : LV X ls nL lv) (h' : lv_has ls' nL ((i, xv X v) :: (lvA X nL lv).filter (fun q => !(q.1 == i) && (!(q.1 == i + 1) && !(q.1 + 1 == i && q.2.category == 2))))) : LV X ls' nL ((lput lv i v).set (i + 1) none) := by
  refine ⟨h'.1, h'.2.1, fun j w hj => ?_⟩
  rw [List.getElem?_set] at hj
  by_cases hij : i + 1 = j
  · rw [if_pos hij] at hj
    by_cases hl : i + 1 < (lput lv i v).length
    · rw [if_pos hl] at hj; cases hj
    · rw [if_neg hl] at hj; cases hj
  · rw [if_neg hij] at hj
    rcases lput_get lv i v j w hj with ⟨rfl, rfl⟩ | ⟨h1, h2, h3⟩
    · exact h'.2.2 _ List.mem_cons_self
    · refine h'.2.2 (j, xv X w) (List.mem_cons_of_mem _ (List.mem_filter.mpr ⟨lvA_mem (h.lt h2) h2, ?_⟩))
      rw [xv_cat]
      simp only [Bool.and_eq_true, Bool.not_eq_true', beq_eq_false_iff_ne, ne_eq, Bool.and_eq_false_iff]
      refine ⟨h1, fun z => hij z.symm, ?_⟩
      by_cases q : j + 1 = i
      · exact Or.inr (fun z => h3 ⟨q, z⟩)
      · exact Or.inl q
theorem R_istore_n {j : Fin 4} {i : Nat} {x : Int32} (hd : DC M pc (.istore_n j) 1) (hi : (j : Nat) = i) (hn : i < mN M) (hv : lput lv i (.int x) = lv') (kk : PZ l X Z M (pc + 1) lv' st hp k n) : PZ l X Z M pc lv (.int x :: st) hp k n :=
  fun p e s m args below meth c H locs ls C hH hS hl => lv_istore_n C.1 C.2.1 hd hi hl.has hn rfl (fun ls' h' => kk p e s m args below meth c H locs ls' C hH hS (hv ▸ LV.put (v := .int x) hl h'))
theorem R_istore {i : Nat} {x : Int32} (hd : DC M pc (.istore i) 2) (hn : i < mN M) (hv : lput lv i (.int x) = lv') (kk : PZ l X Z M (pc + 2) lv' st hp k n) : PZ l X Z M pc lv (.int x :: st) hp k n :=
  fun p e s m args below meth c H locs ls C hH hS hl => lv_istore C.1 C.2.1 hd hl.has hn rfl (fun ls' h' => kk p e s m args below meth c H locs ls' C hH hS (hv ▸ LV.put (v := .int x) hl h'))
theorem R_astore_n {j : Fin 4} {i h : Nat} (hd : DC M pc (.astore_n j) 1) (hi : (j : Nat) = i) (hn : i < mN M) (hv : lput lv i (.ref h) = lv') (kk : PZ l X Z M (pc + 1) lv' st hp k n) : PZ l X Z M pc lv (.ref h :: st) hp k n :=
  fun p e s m args below meth c H locs ls C hH hS hl => lv_astore_n C.1 C.2.1 hd hi hl.has hn rfl (fun ls' h' => kk p e s m args below meth c H locs ls' C hH hS (hv ▸ LV.put (v := .ref h) hl h'))
theorem R_lstore_n {j : Fin 4} {i : Nat} {x : Int64} (hd : DC M pc (.lstore_n j) 1) (hi : (j : Nat) = i) (hn : i + 1 < mN M) (hv : (lput lv i (.long x)).set (i + 1) none = lv') (kk : PZ l X Z M (pc + 1) lv' st hp k n) : PZ l X Z M pc lv (.long x :: st) hp k n :=
  fun p e s m args below meth c H locs ls C hH hS hl => lv_lstore_n C.1 C.2.1 hd hi hl.has hn rfl (fun ls' h' => kk p e s m args below meth c H locs ls' C hH hS (hv ▸ LV.put2 (v := .long x) hl h'))
theorem R_lstore {i : Nat} {x : Int64} (hd : DC M pc (.lstore i) 2) (hn : i + 1 < mN M) (hv : (lput lv i (.long x)).set (i + 1) none = lv') (kk : PZ l X Z M (pc + 2) lv' st hp k n) : PZ l X Z M pc lv (.long x :: st) hp k n :=
  fun p e s m args below meth c H locs ls C hH hS hl => lv_lstore C.1 C.2.1 hd hl.has hn rfl (fun ls' h' => kk p e s m args below meth c H locs ls' C hH hS (hv ▸ LV.put2 (v := .long x) hl h'))
theorem R_iinc {i : Nat} {d : Int} {x v : Int32} (hd : DC M pc (.iinc i d) 3) (hx : lv[i]? = some (some (.int x))) (hq : x + Int32.ofInt d = v) (hv : lput lv i (.int v) = lv') (kk : PZ l X Z M (pc + 3) lv' st hp k n) : PZ l X Z M pc lv st hp k n := by
  intro p e s m args below meth c H locs ls C hH hS hl
  obtain ⟨kx, hk⟩ := List.getElem?_of_mem (lvA_mem (X := X) (hl.lt hx) hx)
  exact lv_iinc C.1 C.2.1 hd hl.has (k := kx) hk hq (hl.lt hx) rfl (fun ls' h' => kk p e s m args below meth c H locs ls' C hH hS (hv ▸ LV.put (v := .int v) hl h'))
theorem R_iadd {x y : Int32} (hd : DC M pc .iadd 1) (kk : PZ l X Z M (pc + 1) lv (.int (x + y) :: st) hp k n) : PZ l X Z M pc lv (.int y :: .int x :: st) hp k n :=
  fun p e s m args below meth c H locs ls C hH hS hl => lv_iadd C.1 C.2.1 hd (kk p e s m args below meth c H locs ls C hH hS hl)
theorem R_isub {x y : Int32} (hd : DC M pc .isub 1) (kk : PZ l X Z M (pc + 1) lv (.int (x - y) :: st) hp k n) : PZ l X Z M pc lv (.int y :: .int x :: st) hp k n :=
  fun p e s m args below meth c H locs ls C hH hS hl => lv_isub C.1 C.2.1 hd (kk p e s m args below meth c H locs ls C hH hS hl)
theorem R_imul {x y : Int32} (hd : DC M pc .imul 1) (kk : PZ l X Z M (pc + 1) lv (.int (x * y) :: st) hp k n) : PZ l X Z M pc lv (.int y :: .int x :: st) hp k n :=
  fun p e s m args below meth c H locs ls C hH hS hl => lv_imul C.1 C.2.1 hd (kk p e s m args below meth c H locs ls C hH hS hl)
theorem R_iand {x y : Int32} (hd : DC M pc .iand 1) (kk : PZ l X Z M (pc + 1) lv (.int (x &&& y) :: st) hp k n) : PZ l X Z M pc lv (.int y :: .int x :: st) hp k n :=
  fun p e s m args below meth c H locs ls C hH hS hl => lv_iand C.1 C.2.1 hd (kk p e s m args below meth c H locs ls C hH hS hl)
theorem R_ior {x y : Int32} (hd : DC M pc .ior 1) (kk : PZ l X Z M (pc + 1) lv (.int (x ||| y) :: st) hp k n) : PZ l X Z M pc lv (.int y :: .int x :: st) hp k n :=
  fun p e s m args below meth c H locs ls C hH hS hl => lv_ior C.1 C.2.1 hd (kk p e s m args below meth c H locs ls C hH hS hl)
theorem R_ixor {x y : Int32} (hd : DC M pc .ixor 1) (kk : PZ l X Z M (pc + 1) lv (.int (x ^^^ y) :: st) hp k n) : PZ l X Z M pc lv (.int y :: .int x :: st) hp k n :=
  fun p e s m args below meth c H locs ls C hH hS hl => lv_ixor C.1 C.2.1 hd (kk p e s m args below meth c H locs ls C hH hS hl)
theorem R_ishl {x y : Int32} (hd : DC M pc .ishl 1) (kk : PZ l X Z M (pc + 1) lv (.int (x <<< (y &&& 31)) :: st) hp k n) : PZ l X Z M pc lv (.int y :: .int x :: st) hp k n :=
  fun p e s m args below meth c H locs ls C hH hS hl => lv_ishl C.1 C.2.1 hd (kk p e s m args below meth c H locs ls C hH hS hl)
theorem R_ishr {x y : Int32} (hd : DC M pc .ishr 1) (kk : PZ l X Z M (pc + 1) lv (.int (x >>> (y &&& 31)) :: st) hp k n) : PZ l X Z M pc lv (.int y :: .int x :: st) hp k n :=
  fun p e s m args below meth c H locs ls C hH hS hl => lv_ishr C.1 C.2.1 hd (kk p e s m args below meth c H locs ls C hH hS hl)
theorem R_idiv {x y : Int32} (hd : DC M pc .idiv 1) (hy : ¬ y = 0) (kk : PZ l X Z M (pc + 1) lv (.int (x / y) :: st) hp k n) : PZ l X Z M pc lv (.int y :: .int x :: st) hp k n :=
  fun p e s m args below meth c H locs ls C hH hS hl => lv_idiv C.1 C.2.1 hd hy (kk p e s m args below meth c H locs ls C hH hS hl)
theorem R_irem {x y : Int32} (hd : DC M pc .irem 1) (hy : ¬ y = 0) (kk : PZ l X Z M (pc + 1) lv (.int (x - x / y * y) :: st) hp k n) : PZ l X Z M pc lv (.int y :: .int x :: st) hp k n :=
  fun p e s m args below meth c H locs ls C hH hS hl => lv_irem C.1 C.2.1 hd hy (kk p e s m args below meth c H locs ls C hH hS hl)
theorem R_ladd {x y : Int64} (hd : DC M pc .ladd 1) (kk : PZ l X Z M (pc + 1) lv (.long (x + y) :: st) hp k n) : PZ l X Z M pc lv (.long y :: .long x :: st) hp k n :=
  fun p e s m args below meth c H locs ls C hH hS hl => lv_ladd C.1 C.2.1 hd (kk p e s m args below meth c H locs ls C hH hS hl)
theorem R_lsub {x y : Int64} (hd : DC M pc .lsub 1) (kk : PZ l X Z M (pc + 1) lv (.long (x - y) :: st) hp k n) : PZ l X Z M pc lv (.long y :: .long x :: st) hp k n :=
  fun p e s m args below meth c H locs ls C hH hS hl => lv_lsub C.1 C.2.1 hd (kk p e s m args below meth c H locs ls C hH hS hl)
theorem R_lmul {x y : Int64} (hd : DC M pc .lmul 1) (kk : PZ l X Z M (pc + 1) lv (.long (x * y) :: st) hp k n) : PZ l X Z M pc lv (.long y :: .long x :: st) hp k n :=
  fun p e s m args below meth c H locs ls C hH hS hl => lv_lmul C.1 C.2.1 hd (kk p e s m args below meth c H locs ls C hH hS hl)
theorem R_land {x y : Int64} (hd : DC M pc .land 1) (kk : PZ l X Z M (pc + 1) lv (.long (x &&& y) :: st) hp k n) : PZ l X Z M pc lv (.long y :: .long x :: st) hp k n :=
  fun p e s m args below meth c H locs ls C hH hS hl => lv_land C.1 C.2.1 hd (kk p e s m args below meth c H locs ls C hH hS hl)
theorem R_lor {x y : Int64} (hd : DC M pc .lor 1) (kk : PZ l X Z M (pc + 1) lv (.long (x ||| y) :: st) hp k n) : PZ l X Z M pc lv (.long y :: .long x :: st) hp k n :=
  fun p e s m args below meth c H locs ls C hH hS hl => lv_lor C.1 C.2.1 hd (kk p e s m args below meth c H locs ls C hH hS hl)
theorem R_ldiv {x y : Int64} (hd : DC M pc .ldiv 1) (hy : ¬ y = 0) (kk : PZ l X Z M (pc + 1) lv (.long (x / y) :: st) hp k n) : PZ l X Z M pc lv (.long y :: .long x :: st) hp k n :=
  fun p e s m args below meth c H locs ls C hH hS hl => lv_ldiv C.1 C.2.1 hd hy (kk p e s m args below meth c H locs ls C hH hS hl)
theorem R_lrem {x y : Int64} (hd : DC M pc .lrem 1) (hy : ¬ y = 0) (kk : PZ l X Z M (pc + 1) lv (.long (x - x / y * y) :: st) hp k n) : PZ l X Z M pc lv (.long y :: .long x :: st) hp k n :=
  fun p e s m args below meth c H locs ls C hH hS hl => lv_lrem C.1 C.2.1 hd hy (kk p e s m args below meth c H locs ls C hH hS hl)
theorem R_i2l {x : Int32} (hd : DC M pc .i2l 1) (kk : PZ l X Z M (pc + 1) lv (.long x.toInt64 :: st) hp k n) : PZ l X Z M pc lv (.int x :: st) hp k n :=
  fun p e s m args below meth c H locs ls C hH hS hl => lv_i2l C.1 C.2.1 hd rfl (kk p e s m args below meth c H locs ls C hH hS hl)
theorem R_l2i {x : Int64} (hd : DC M pc .l2i 1) (kk : PZ l X Z M (pc + 1) lv (.int x.toInt32 :: st) hp k n) : PZ l X Z M pc lv (.long x :: st) hp k n :=
  fun p e s m args below meth c H locs ls C hH hS hl => lv_l2i C.1 C.2.1 hd rfl (kk p e s m args below meth c H locs ls C hH hS hl)
theorem R_i2c {x v : Int32} (hd : DC M pc .i2c 1) (hv : (x.toUInt32 % 65536).toInt32 = v) (kk : PZ l X Z M (pc + 1) lv (.int v :: st) hp k n) : PZ l X Z M pc lv (.int x :: st) hp k n :=
  fun p e s m args below meth c H locs ls C hH hS hl => lv_i2c C.1 C.2.1 hd hv (kk p e s m args below meth c H locs ls C hH hS hl)
theorem R_i2b {x v : Int32} (hd : DC M pc .i2b 1) (hv : x.toInt8.toInt32 = v) (kk : PZ l X Z M (pc + 1) lv (.int v :: st) hp k n) : PZ l X Z M pc lv (.int x :: st) hp k n :=
  fun p e s m args below meth c H locs ls C hH hS hl => lv_i2b C.1 C.2.1 hd hv (kk p e s m args below meth c H locs ls C hH hS hl)
theorem R_lushr {x v : Int64} {y : Int32} (hd : DC M pc .lushr 1) (hv : (x.toUInt64 >>> (y.toInt64.toUInt64 &&& Int64.toUInt64 63)).toInt64 = v) (kk : PZ l X Z M (pc + 1) lv (.long v :: st) hp k n) : PZ l X Z M pc lv (.int y :: .long x :: st) hp k n :=
  fun p e s m args below meth c H locs ls C hH hS hl => lv_lushr C.1 C.2.1 hd hv (kk p e s m args below meth c H locs ls C hH hS hl)
theorem R_lshl {x v : Int64} {y : Int32} (hd : DC M pc .lshl 1) (hv : x <<< (y.toInt64 &&& 63) = v) (kk : PZ l X Z M (pc + 1) lv (.long v :: st) hp k n) : PZ l X Z M pc lv (.int y :: .long x :: st) hp k n :=
  fun p e s m args below meth c H locs ls C hH hS hl => lv_lshl C.1 C.2.1 hd hv (kk p e s m args below meth c H locs ls C hH hS hl)
theorem R_lcmp {x y : Int64} (hd : DC M pc .lcmp 1) (kk : PZ l X Z M (pc + 1) lv (.int (lg_cmp x y) :: st) hp k n) : PZ l X Z M pc lv (.long y :: .long x :: st) hp k n :=
  fun p e s m args below meth c H locs ls C hH hS hl => W.lcmp C.1 C.2.1 hd (kk p e s m args below meth c H locs ls C hH hS hl)
theorem R_dup {v : Value} (hd : DC M pc .dup 1) (hc : v.category = 1) (kk : PZ l X Z M (pc + 1) lv (v :: v :: st) hp k n) : PZ l X Z M pc lv (v :: st) hp k n :=
  fun p e s m args below meth c H locs ls C hH hS hl => lv_dup C.1 C.2.1 hd ((xv_cat X v).trans hc) (kk p e s m args below meth c H locs ls C hH hS hl)
theorem R_dup2 {v w : Value} (hd : DC M pc .dup2 1) (hc : v.category = 1) (hc2 : w.category = 1) (kk : PZ l X Z M (pc + 1) lv (v :: w :: v :: w :: st) hp k n) : PZ l X Z M pc lv (v :: w :: st) hp k n :=
  fun p e s m args below meth c H locs ls C hH hS hl => lv_dup2_11 C.1 C.2.1 hd ((xv_cat X v).trans hc) ((xv_cat X w).trans hc2) (kk p e s m args below meth c H locs ls C hH hS hl)
theorem R_pop {v : Value} (hd : DC M pc .pop 1) (hc : v.category = 1) (kk : PZ l X Z M (pc + 1) lv st hp k n) : PZ l X Z M pc lv (v :: st) hp k n :=
  fun p e s m args below meth c H locs ls C hH hS hl => lv_pop C.1 C.2.1 hd ((xv_cat X v).trans hc) (kk p e s m args below meth c H locs ls C hH hS hl)
theorem R_goto {off : Int} {tgt : Nat} (hd : DC M pc (.goto off) 3) (ht : (pc : Int) + off = (tgt : Int)) (kk : PZ l X Z M tgt lv st hp k n) : PZ l X Z M pc lv st hp k n :=
  fun p e s m args below meth c H locs ls C hH hS hl => lv_goto C.1 C.2.1 hd ht (kk p e s m args below meth c H locs ls C hH hS hl)
theorem R_if_eq {x : Int32} {off : Int} {tgt : Nat} (hd : DC M pc (.ifCond .eq off) 3) (ht : (pc : Int) + off = (tgt : Int)) (kt : x = 0 → PZ l X Z M tgt lv st hp k n) (kf : ¬ (x = 0) → PZ l X Z M (pc + 3) lv st hp k n) : PZ l X Z M pc lv (.int x :: st) hp k n :=
  fun p e s m args below meth c H locs ls C hH hS hl => lv_if_eq C.1 C.2.1 hd ht (fun h => kt h p e s m args below meth c H locs ls C hH hS hl) (fun h => kf h p e s m args below meth c H locs ls C hH hS hl)
theorem R_if_ne {x : Int32} {off : Int} {tgt : Nat} (hd : DC M pc (.ifCond .ne off) 3) (ht : (pc : Int) + off = (tgt : Int)) (kt : ¬ x = 0 → PZ l X Z M tgt lv st hp k n) (kf : x = 0 → PZ l X Z M (pc + 3) lv st hp k n) : PZ l X Z M pc lv (.int x :: st) hp k n :=
  fun p e s m args below meth c H locs ls C hH hS hl => lv_if_ne C.1 C.2.1 hd ht (fun h => kt h p e s m args below meth c H locs ls C hH hS hl) (fun h => kf h p e s m args below meth c H locs ls C hH hS hl)
theorem R_if_lt {x : Int32} {off : Int} {tgt : Nat} (hd : DC M pc (.ifCond .lt off) 3) (ht : (pc : Int) + off = (tgt : Int)) (kt : x < 0 → PZ l X Z M tgt lv st hp k n) (kf : ¬ (x < 0) → PZ l X Z M (pc + 3) lv st hp k n) : PZ l X Z M pc lv (.int x :: st) hp k n :=
  fun p e s m args below meth c H locs ls C hH hS hl => lv_if_lt C.1 C.2.1 hd ht (fun h => kt h p e s m args below meth c H locs ls C hH hS hl) (fun h => kf h p e s m args below meth c H locs ls C hH hS hl)
theorem R_if_ge {x : Int32} {off : Int} {tgt : Nat} (hd : DC M pc (.ifCond .ge off) 3) (ht : (pc : Int) + off = (tgt : Int)) (kt : 0 ≤ x → PZ l X Z M tgt lv st hp k n) (kf : ¬ (0 ≤ x) → PZ l X Z M (pc + 3) lv st hp k n) : PZ l X Z M pc lv (.int x :: st) hp k n :=
  fun p e s m args below meth c H locs ls C hH hS hl => lv_if_ge C.1 C.2.1 hd ht (fun h => kt h p e s m args below meth c H locs ls C hH hS hl) (fun h => kf h p e s m args below meth c H locs ls C hH hS hl)
theorem R_if_gt {x : Int32} {off : Int} {tgt : Nat} (hd : DC M pc (.ifCond .gt off) 3) (ht : (pc : Int) + off = (tgt : Int)) (kt : 0 < x → PZ l X Z M tgt lv st hp k n) (kf : ¬ (0 < x) → PZ l X Z M (pc + 3) lv st hp k n) : PZ l X Z M pc lv (.int x :: st) hp k n :=
  fun p e s m args below meth c H locs ls C hH hS hl => lv_if_gt C.1 C.2.1 hd ht (fun h => kt h p e s m args below meth c H locs ls C hH hS hl) (fun h => kf h p e s m args below meth c H locs ls C hH hS hl)
theorem R_if_le {x : Int32} {off : Int} {tgt : Nat} (hd : DC M pc (.ifCond .le off) 3) (ht : (pc : Int) + off = (tgt : Int)) (kt : x ≤ 0 → PZ l X Z M tgt lv st hp k n) (kf : ¬ (x ≤ 0) → PZ l X Z M (pc + 3) lv st hp k n) : PZ l X Z M pc lv (.int x :: st) hp k n :=
  fun p e s m args below meth c H locs ls C hH hS hl => lv_if_le C.1 C.2.1 hd ht (fun h => kt h p e s m args below meth c H locs ls C hH hS hl) (fun h => kf h p e s m args below meth c H locs ls C hH hS hl)
theorem R_icmp_eq {x y : Int32} {off : Int} {tgt : Nat} (hd : DC M pc (.if_icmp .eq off) 3) (ht : (pc : Int) + off = (tgt : Int)) (kt : x = y → PZ l X Z M tgt lv st hp k n) (kf : ¬ (x = y) → PZ l X Z M (pc + 3) lv st hp k n) : PZ l X Z M pc lv (.int y :: .int x :: st) hp k n :=
  fun p e s m args below meth c H locs ls C hH hS hl => lv_icmp_eq C.1 C.2.1 hd ht (fun h => kt h p e s m args below meth c H locs ls C hH hS hl) (fun h => kf h p e s m args below meth c H locs ls C hH hS hl)
theorem R_icmp_ne {x y : Int32} {off : Int} {tgt : Nat} (hd : DC M pc (.if_icmp .ne off) 3) (ht : (pc : Int) + off = (tgt : Int)) (kt : ¬ x = y → PZ l X Z M tgt lv st hp k n) (kf : x = y → PZ l X Z M (pc + 3) lv st hp k n) : PZ l X Z M pc lv (.int y :: .int x :: st) hp k n :=
  fun p e s m args below meth c H locs ls C hH hS hl => lv_icmp_ne C.1 C.2.1 hd ht (fun h => kt h p e s m args below meth c H locs ls C hH hS hl) (fun h => kf h p e s m args below meth c H locs ls C hH hS hl)
theorem R_icmp_lt {x y : Int32} {off : Int} {tgt : Nat} (hd : DC M pc (.if_icmp .lt off) 3) (ht : (pc : Int) + off = (tgt : Int)) (kt : x < y → PZ l X Z M tgt lv st hp k n) (kf : ¬ (x < y) → PZ l X Z M (pc + 3) lv st hp k n) : PZ l X Z M pc lv (.int y :: .int x :: st) hp k n :=
  fun p e s m args below meth c H locs ls C hH hS hl => lv_icmp_lt C.1 C.2.1 hd ht (fun h => kt h p e s m args below meth c H locs ls C hH hS hl) (fun h => kf h p e s m args below meth c H locs ls C hH hS hl)
theorem R_icmp_ge {x y : Int32} {off : Int} {tgt : Nat} (hd : DC M pc (.if_icmp .ge off) 3) (ht : (pc : Int) + off = (tgt : Int)) (kt : y ≤ x → PZ l X Z M tgt lv st hp k n) (kf : ¬ (y ≤ x) → PZ l X Z M (pc + 3) lv st hp k n) : PZ l X Z M pc lv (.int y :: .int x :: st) hp k n :=
  fun p e s m args below meth c H locs ls C hH hS hl => lv_icmp_ge C.1 C.2.1 hd ht (fun h => kt h p e s m args below meth c H locs ls C hH hS hl) (fun h => kf h p e s m args below meth c H locs ls C hH hS hl)
theorem R_icmp_gt {x y : Int32} {off : Int} {tgt : Nat} (hd : DC M pc (.if_icmp .gt off) 3) (ht : (pc : Int) + off = (tgt : Int)) (kt : y < x → PZ l X Z M tgt lv st hp k n) (kf : ¬ (y < x) → PZ l X Z M (pc + 3) lv st hp k n) : PZ l X Z M pc lv (.int y :: .int x :: st) hp k n :=
  fun p e s m args below meth c H locs ls C hH hS hl => lv_icmp_gt C.1 C.2.1 hd ht (fun h => kt h p e s m args below meth c H locs ls C hH hS hl) (fun h => kf h p e s m args below meth c H locs ls C hH hS hl)
theorem R_icmp_le {x y : Int32} {off : Int} {tgt : Nat} (hd : DC M pc (.if_icmp .le off) 3) (ht : (pc : Int) + off = (tgt : Int)) (kt : x ≤ y → PZ l X Z M tgt lv st hp k n) (kf : ¬ (x ≤ y) → PZ l X Z M (pc + 3) lv st hp k n) : PZ l X Z M pc lv (.int y :: .int x :: st) hp k n :=
  fun p e s m args below meth c H locs ls C hH hS hl => lv_icmp_le C.1 C.2.1 hd ht (fun h => kt h p e s m args below meth c H locs ls C hH hS hl) (fun h => kf h p e s m args below meth c H locs ls C hH hS hl)
theorem R_lookup {dflt : Int} {ps : Array (Int × Int)} {len : Nat} {x : Int32} {off : Int} {tgt : Nat} (hd : DC M pc (.lookupswitch dflt ps) len) (hp' : (ps.toList.zip (ps.toList.drop 1)).all (fun (a, next) => a.1 < next.1) = true) (ho : Op.lookupswitch.offset ps.toList dflt x.toInt = off) (ht : (pc : Int) + off = (tgt : Int)) (kk : PZ l X Z M tgt lv st hp k n) : PZ l X Z M pc lv (.int x :: st) hp k n :=
  fun p e s m args below meth c H locs ls C hH hS hl => lv_lookup C.1 C.2.1 hd hp' ho ht (kk p e s m args below meth c H locs ls C hH hS hl)
theorem R_tableOut {dflt lo hi : Int} {offs : Array Int} {len : Nat} {x : Int32} {tgt : Nat} (hd : DC M pc (.tableswitch dflt lo hi offs) len) (h : x.toInt < lo ∨ hi < x.toInt) (ht : (pc : Int) + dflt = (tgt : Int)) (kk : PZ l X Z M tgt lv st hp k n) : PZ l X Z M pc lv (.int x :: st) hp k n :=
  fun p e s m args below meth c H locs ls C hH hS hl => lv_tableOut C.1 C.2.1 hd h ht (kk p e s m args below meth c H locs ls C hH hS hl)
theorem R_tableIn {dflt lo hi : Int} {offs : Array Int} {len : Nat} {x : Int32} {off : Int} {tgt : Nat} (hd : DC M pc (.tableswitch dflt lo hi offs) len) (h1 : ¬ x.toInt < lo) (h2 : ¬ hi < x.toInt) (ho : offs[(x.toInt - lo).toNat]? = some off) (ht : (pc : Int) + off = (tgt : Int)) (kk : PZ l X Z M tgt lv st hp k n) : PZ l X Z M pc lv (.int x :: st) hp k n :=
  fun p e s m args below meth c H locs ls C hH hS hl => lv_tableIn C.1 C.2.1 hd h1 h2 ho ht (kk p e s m args below meth c H locs ls C hH hS hl)
end RU
end
section
/-! RULES of the pure machine: fields, arrays, new cells, what lies outside, returns, calls -/
section RH
variable {l : Launch} {X : EX} {Z : ZT} {M : MT} {pc : Nat} {lv lv' : List (Option Value)} {st : List Value} {hp : HPt} {k n : Nat}
def KC (ci : Nat) (C : String) (T : u_T) (N : Nat) (ty0 : Nat → FieldType) : Prop := vwCl[ci]? = some (C, T, N) ∧ (∀ w ∈ u_ws C T N, w ∈ lw_tg) ∧ (∀ k, k < N → parseFieldDescriptor (T k).2.2.1 = some (ty0 k)) ∧ ∀ a, a < N → ∀ b, b < N → a ≠ b → (T a).2.1 ≠ (T b).2.1
def FL (own : String) (idx : Nat) (T : u_T) (j : Nat) : Prop := Cond.fieldLink own idx (T j).1 (T j).2.1 (T j).2.2.1 ∈ lw_tg ∨ ∃ host, Cond.fieldLinkNest own idx (T j).1 (T j).2.1 (T j).2.2.1 host ∈ lw_tg
/-- the entry idx of own's pool is the field j of the class ci -/
def FG (own : String) (idx ci j : Nat) : Prop := ∃ (C : String) (T : u_T) (N : Nat) (ty0 : Nat → FieldType), KC ci C T N ty0 ∧ j < N ∧ FL own idx T j
/-- .. and it may be written, of type ty -/
def FP (own : String) (idx ci j : Nat) (ty : FieldType) : Prop := ∃ (C : String) (T : u_T) (N : Nat) (ty0 : Nat → FieldType), KC ci C T N ty0 ∧ j < N ∧ FL own idx T j ∧ (T j).2.2.2 = false ∧ ty0 j = ty
/-- .. it is final, and own's -/
def FQ (own : String) (idx ci j : Nat) (ty : FieldType) : Prop := ∃ (C : String) (T : u_T) (N : Nat) (ty0 : Nat → FieldType), KC ci C T N ty0 ∧ j < N ∧ Cond.fieldLink own idx (T j).1 (T j).2.1 (T j).2.2.1 ∈ lw_tg ∧ (T j).2.2.2 = true ∧ ty0 j = ty ∧ (T j).1 = own
theorem CX.ts {p : Program} {s : State} {m : MethodId} {meth : Method} {c : Code} (C : CX X M p s m meth c) (args : Array Value) : ∀ w ∈ lw_tg, w.before args s = true := fun w hw => C.2.2.2.2.2.2.2.1.1 w hw args
theorem CX.K {p : Program} {s : State} {m : MethodId} {meth : Method} {c : Code} (C : CX X M p s m meth c) : va_K (xD X) vwCl (xt X) s := C.2.2.2.2.2.2.2.1.2.1
theorem CX.own {p : Program} {s : State} {m : MethodId} {meth : Method} {c : Code} (C : CX X M p s m meth c) : s.vm.findClass (mY M).cls = some m.cls := C.2.2.2.1
theorem CX.xf {p : Program} {s : State} {m : MethodId} {meth : Method} {c : Code} (C : CX X M p s m meth c) : XF X s s.heap := C.2.2.2.2.2.2.2.1
theorem CX.ge {p : Program} {s : State} {m : MethodId} {meth : Method} {c : Code} (C : CX X M p s m meth c) : x0 X ≤ s.heap.size := C.2.2.2.2.2.2.2.2
theorem HR.set {s : State} {H H1 : Heap} {h : Nat} {e : PE} {e' : va_E} (hH : HR X hp k s H) (he : xe X e = e') (hP : va_P (xD X) vwCl ((xw X hp).set h (x0 X + h, e')) H1) : HR X (hp.set h e) k s H1 := by
  refine ⟨by rw [List.length_set]; exact hH.1, ?_⟩
  rw [← xw_set, he]
  exact hP
theorem R_getf {idx ci j h : Nat} {fs : List Value} {v : Value} (hd : DC M pc (.getfield idx) 3) (hf : FG (mY M).cls idx ci j) (hh : hp[h]? = some (.inr (ci, fs))) (hv : fs[j]? = some v) (kk : PZ l X Z M (pc + 3) lv (v :: st) hp k n) : PZ l X Z M pc lv (.ref h :: st) hp k n := by
  obtain ⟨C, T, N, ty0, ⟨h1, h2, h3, h4⟩, hj, hlink⟩ := hf
  intro p e s m args below meth c H locs ls Cx hH hS hl
  have he : (xw X hp)[h]? = some (x0 X + h, .inr (ci, fs.map (xv X))) := xw_at hh
  have hv' : (fs.map (xv X))[j]? = some (xv X v) := by rw [List.getElem?_map, hv]; rfl
  have kk' := kk p e s m args below meth c H locs ls Cx hH hS hl
  rcases hlink with hlink | ⟨host, hlink⟩
  · exact va_get Cx.1 Cx.2.1 (Cx.ts args) h2 Cx.own Cx.K hH.2 h he h1 j hj (Cx.ts args _ hlink) (fun _ z => z) hv' hd kk'
  · exact va_getN Cx.1 Cx.2.1 (Cx.ts args) h2 Cx.own Cx.K hH.2 h he h1 j hj (Cx.ts args _ hlink) (fun _ z => z) hv' hd kk'
theorem R_putf {idx ci j h : Nat} {ty : FieldType} {fs : List Value} {v : Value} (hd : DC M pc (.putfield idx) 3) (hf : FP (mY M).cls idx ci j ty) (hh : hp[h]? = some (.inr (ci, fs))) (hj' : j < fs.length) (hn : narrow ty (xv X v) = xv X v) (hfit : fits ty (xv X v) = true) (kk : PZ l X Z M (pc + 3) lv st (hp.set h (.inr (ci, fs.set j v))) k n) : PZ l X Z M pc lv (v :: .ref h :: st) hp k n := by
  obtain ⟨C, T, N, ty0, ⟨h1, h2, h3, h4⟩, hj, hlink, hfin, hty⟩ := hf
  intro p e s m args below meth c H locs ls Cx hH hS hl
  have he : (xw X hp)[h]? = some (x0 X + h, .inr (ci, fs.map (xv X))) := xw_at hh
  have hl' : j < (fs.map (xv X)).length := by rw [List.length_map]; exact hj'
  have kk' : ∀ (H1 : Heap) (locs1 : List Loc), va_P (xD X) vwCl ((xw X hp).set h (x0 X + h, .inr (ci, (fs.map (xv X)).set j (xv X v)))) H1 → va_D (xA X) ((xw X hp).set h (x0 X + h, .inr (ci, (fs.map (xv X)).set j (xv X v)))) → va_S (xA X) s.heap H1 locs1 → W p l e (mM M) s m args below meth c H1 locs1 k n (Z below args s) (F0 m (pc + 3) ls (st.map (xv X))) :=
    fun H1 locs1 hP1 _ hS1 => kk p e s m args below meth c H1 locs1 ls Cx (hH.set (by show Sum.inr _ = _; rw [List.map_set]) hP1) hS1 hl
  rcases hlink with hlink | ⟨host, hlink⟩
  · exact va_put Cx.1 Cx.2.1 (Cx.ts args) h2 ty0 h3 h4 Cx.own Cx.K hH.2 (xw_D X hp) hS h he h1 j hj (Cx.ts args _ hlink) (fun _ z => z) hfin (by rw [h3 j hj, hty]) hn hfit hl' hd kk'
  · exact va_putN Cx.1 Cx.2.1 (Cx.ts args) h2 ty0 h3 h4 Cx.own Cx.K hH.2 (xw_D X hp) hS h he h1 j hj (Cx.ts args _ hlink) (fun _ z => z) hfin (by rw [h3 j hj, hty]) hn hfit hl' hd kk'
theorem R_putF {idx ci j h : Nat} {ty : FieldType} {fs : List Value} {v : Value} (hd : DC M pc (.putfield idx) 3) (hf : FQ (mY M).cls idx ci j ty) (hi : (mY M).name = "<init>") (hh : hp[h]? = some (.inr (ci, fs))) (hj' : j < fs.length) (hn : narrow ty (xv X v) = xv X v) (hfit : fits ty (xv X v) = true) (kk : PZ l X Z M (pc + 3) lv st (hp.set h (.inr (ci, fs.set j v))) k n) : PZ l X Z M pc lv (v :: .ref h :: st) hp k n := by
  obtain ⟨C, T, N, ty0, ⟨h1, h2, h3, h4⟩, hj, hlink, hfin, hty, hdecl⟩ := hf
  intro p e s m args below meth c H locs ls Cx hH hS hl
  have he : (xw X hp)[h]? = some (x0 X + h, .inr (ci, fs.map (xv X))) := xw_at hh
  have hl' : j < (fs.map (xv X)).length := by rw [List.length_map]; exact hj'
  exact va_putF Cx.1 Cx.2.1 (Cx.ts args) h2 ty0 h3 h4 Cx.own Cx.K hH.2 (xw_D X hp) hS h he h1 j hj (Cx.ts args _ hlink) (fun _ z => z) hfin (Cx.2.2.2.2.2.2.1.trans hi) hdecl (by rw [h3 j hj, hty]) hn hfit hl' hd
    (fun H1 locs1 hP1 _ hS1 => kk p e s m args below meth c H1 locs1 ls Cx (hH.set (by show Sum.inr _ = _; rw [List.map_set]) hP1) hS1 hl)
theorem R_iaload {h N : Nat} {f : Nat → Int32} {i : Int32} (hd : DC M pc .iaload 1) (hh : hp[h]? = some (ia N f)) (hi : vp_in i N) (kk : PZ l X Z M (pc + 1) lv (.int (f i.toNatClampNeg) :: st) hp k n) : PZ l X Z M pc lv (.int i :: .ref h :: st) hp k n :=
  fun p e s m args below meth c H locs ls Cx hH hS hl => va_iald Cx.1 Cx.2.1 Cx.K hH.2 h 0 (xw_at hh) rfl hi hd (kk p e s m args below meth c H locs ls Cx hH hS hl)
theorem R_baload {h N : Nat} {f : Nat → Int32} {i : Int32} (hd : DC M pc .baload 1) (hh : hp[h]? = some (za N f)) (hi : vp_in i N) (kk : PZ l X Z M (pc + 1) lv (.int (f i.toNatClampNeg) :: st) hp k n) : PZ l X Z M pc lv (.int i :: .ref h :: st) hp k n :=
  fun p e s m args below meth c H locs ls Cx hH hS hl => va_zald Cx.1 Cx.2.1 Cx.K hH.2 h 1 (xw_at hh) rfl hi hd (kk p e s m args below meth c H locs ls Cx hH hS hl)
theorem R_iastore {h N : Nat} {f : Nat → Int32} {i x : Int32} (hd : DC M pc .iastore 1) (hh : hp[h]? = some (ia N f)) (hi : vp_in i N) (kk : PZ l X Z M (pc + 1) lv st (hp.set h (ia N (upd f i.toNatClampNeg x))) k n) : PZ l X Z M pc lv (.int x :: .int i :: .ref h :: st) hp k n :=
  fun p e s m args below meth c H locs ls Cx hH hS hl => va_iast Cx.1 Cx.2.1 Cx.K hH.2 (xw_D X hp) hS h 0 (xw_at hh) rfl hi hd (fun H1 locs1 hP1 _ hS1 => kk p e s m args below meth c H1 locs1 ls Cx (hH.set rfl hP1) hS1 hl)
theorem R_bastore {h N : Nat} {f : Nat → Int32} {i x : Int32} (hd : DC M pc .bastore 1) (hh : hp[h]? = some (za N f)) (hi : vp_in i N) (kk : PZ l X Z M (pc + 1) lv st (hp.set h (za N (upd f i.toNatClampNeg (vp_nar .boolean x)))) k n) : PZ l X Z M pc lv (.int x :: .int i :: .ref h :: st) hp k n :=
  fun p e s m args below meth c H locs ls Cx hH hS hl => va_zast Cx.1 Cx.2.1 Cx.K hH.2 (xw_D X hp) hS h 1 (xw_at hh) rfl hi hd (fun H1 locs1 hP1 _ hS1 => kk p e s m args below meth c H1 locs1 ls Cx (hH.set rfl hP1) hS1 hl)
theorem R_aaload {h N q : Nat} {f : Nat → Option Nat} {i : Int32} (hd : DC M pc .aaload 1) (hh : hp[h]? = some (qa N f)) (hi : vp_in i N) (hq : f i.toNatClampNeg = some q) (kk : PZ l X Z M (pc + 1) lv (.ref q :: st) hp k n) : PZ l X Z M pc lv (.int i :: .ref h :: st) hp k n := by
  intro p e s m args below meth c H locs ls Cx hH hS hl
  refine va_aldq Cx.1 Cx.2.1 Cx.K hH.2 h 2 (xw_at hh) rfl hi hd ?_
  have e1 : va_rf ((f i.toNatClampNeg).map (x0 X + ·)) = .ref (x0 X + q) := by rw [hq]; rfl
  rw [e1]
  exact kk p e s m args below meth c H locs ls Cx hH hS hl
theorem R_aastore {h N q : Nat} {f : Nat → Option Nat} {i : Int32} {fs : List Value} (hd : DC M pc .aastore 1) (hh : hp[h]? = some (qa N f)) (hi : vp_in i N) (hq : hp[q]? = some (.inr (8, fs))) (kk : PZ l X Z M (pc + 1) lv st (hp.set h (qa N (va_up f i.toNatClampNeg (some q)))) k n) : PZ l X Z M pc lv (.ref q :: .int i :: .ref h :: st) hp k n := by
  intro p e s m args below meth c H locs ls Cx hH hS hl
  have hu : (fun j => (va_up f i.toNatClampNeg (some q) j).map (x0 X + ·)) = va_up (fun j => (f j).map (x0 X + ·)) i.toNatClampNeg (some (x0 X + q)) := by
    funext j
    unfold va_up
    by_cases hj : j = i.toNatClampNeg <;> simp [hj]
  exact va_astq Cx.1 Cx.2.1 Cx.K hH.2 (xw_D X hp) hS h 2 q 8 (r := (RX9, TX9, 5)) (xw_at hh) rfl (xw_at hq) rfl hi hd (fun H1 locs1 hP1 _ hS1 => kk p e s m args below meth c H1 locs1 ls Cx (hH.set (by show Sum.inl _ = _; simp only [xf, hu]) hP1) hS1 hl)
theorem R_alen {h : Nat} {kd N : Nat} {v : vp_A} {x : Int32} (hd : DC M pc .arraylength 1) (hh : hp[h]? = some (.inl (kd, v))) (hkd : kd < 3) (hx : Int32.ofNat v.1 = x) (kk : PZ l X Z M (pc + 1) lv (.int x :: st) hp k n) : PZ l X Z M pc lv (.ref h :: st) hp k n := by
  intro p e s m args below meth c H locs ls Cx hH hS hl
  have kk' := kk p e s m args below meth c H locs ls Cx hH hS hl
  have he : (xw X hp)[h]? = some (x0 X + h, .inl (xy X kd, (v.1, xf X v.2))) := xw_at hh
  rcases (show kd = 0 ∨ kd = 1 ∨ kd = 2 by omega) with rfl | rfl | rfl
  · exact va_alen Cx.1 Cx.2.1 Cx.K hH.2 h 0 he rfl hx hd kk'
  · exact va_alen Cx.1 Cx.2.1 Cx.K hH.2 h 1 he rfl hx hd kk'
  · exact va_alen Cx.1 Cx.2.1 Cx.K hH.2 h 2 he rfl hx hd kk'
/-- the script -/
theorem R_sload {i : Int32} (hd : DC M pc .iaload 1) (hi : vp_in i (xL X)) (kk : PZ l X Z M (pc + 1) lv (.int (xs X i.toNatClampNeg) :: st) hp k n) : PZ l X Z M pc lv (.int i :: .retAddr 0 :: st) hp k n :=
  fun p e s m args below meth c H locs ls Cx hH hS hl => va_sld Cx.1 Cx.2.1 Cx.xf.2.2.2.1.1 (Nat.lt_of_lt_of_le Cx.xf.2.2.2.1.2 Cx.ge) (Nat.not_le.mpr Cx.xf.2.2.2.1.2) hS hi hd (kk p e s m args below meth c H locs ls Cx hH hS hl)
theorem R_slen (hd : DC M pc .arraylength 1) (kk : PZ l X Z M (pc + 1) lv (.int (Int32.ofNat (xL X)) :: st) hp k n) : PZ l X Z M pc lv (.retAddr 0 :: st) hp k n :=
  fun p e s m args below meth c H locs ls Cx hH hS hl => va_slen Cx.1 Cx.2.1 Cx.xf.2.2.2.1.1 (Nat.lt_of_lt_of_le Cx.xf.2.2.2.1.2 Cx.ge) (Nat.not_le.mpr Cx.xf.2.2.2.1.2) hS hd (kk p e s m args below meth c H locs ls Cx hH hS hl)
/-- System.arraycopy between rows of ints -/
theorem R_copy {idx h0 h1 n0 n1 : Nat} {f g : Nat → Int32} {sp dp c' : Int32} (hd : DC M pc (.invokestatic idx) 3) (hlk : Cond.methodLink (mY M).cls idx arraycopyName ∈ lw_tg) (hh0 : hp[h0]? = some (ia n0 f)) (hh1 : hp[h1]? = some (ia n1 g)) (a1 : ¬ sp < 0) (a2 : ¬ dp < 0) (a3 : ¬ c' < 0) (a4 : sp.toNatClampNeg + c'.toNatClampNeg ≤ n0) (a5 : dp.toNatClampNeg + c'.toNatClampNeg ≤ n1)
    (hw : (st.map fun v => v.category).sum + (nativeFrameWords "java/lang/System" "arraycopy" 5 + 11) ≤ (mM M).locals) (hfr : 1 ≤ (mM M).frames) (hni : Cond.native arraycopyName ∈ lw_tg) (hsi : Cond.static arraycopyName ∈ lw_tg) (hii : Cond.initialized "java/lang/System" ∈ lw_tg)
    (kk : PZ l X Z M (pc + 3) lv st (hp.set h1 (ia n1 (va_cpy f g sp.toNatClampNeg dp.toNatClampNeg c'.toNatClampNeg))) k n) : PZ l X Z M pc lv (.int c' :: .int dp :: .ref h1 :: .int sp :: .ref h0 :: st) hp k n := by
  intro p e s m args below meth c H locs ls Cx hH hS hl
  have hw' : ((st.map (xv X)).map fun v => v.category).sum + (nativeFrameWords "java/lang/System" "arraycopy" 5 + 11) ≤ (mM M).locals := by
    rw [List.map_map]
    have : ((fun v : Value => v.category) ∘ xv X) = fun v : Value => v.category := funext fun v => xv_cat X v
    rw [this]; exact hw
  exact va_copyi Cx.1 Cx.2.1 (Cx.2.2.1.trans hl.1.symm) Cx.own (Cx.ts args _ hlk) (Cx.ts args _ hni) (Cx.ts args _ hsi) (Cx.ts args _ hii) Cx.K hH.2 (xw_D X hp) hS h0 h1 0 0 (ty := .int) (xw_at hh0) (xw_at hh1) rfl rfl rfl a1 a2 a3 a4 a5 (fun _ _ => rfl) hfr hw' hd
    (fun H1 locs1 hP1 _ hS1 => kk p e s m args below meth c H1 locs1 ls Cx (hH.set rfl hP1) hS1 hl)
/-! returns -/
theorem HR.done {s t : State} {H : Heap} {locs : List Loc} {Q : Option Value → HPt → Prop} {v : Option Value} {a : Array Value} (hH : HR X hp k s H) (hS : va_S (xA X) s.heap H locs) (h0 : x0 X ≤ s.heap.size) (ht : t.heap = H) (hq : Q v hp) : QC X k Q a s (.returned (v.map (xv X))) t :=
  ⟨⟨v, hp, rfl, hq, by rw [ht]; exact hH⟩, by rw [ht]; exact hS.1, fun q hq => by rw [ht]; exact hS.2.1 q (Nat.lt_of_lt_of_le hq h0) (Nat.not_le.mpr hq)⟩
theorem R_iret {v : Int32} {Q : Option Value → HPt → Prop} (hd : DC M pc .ireturn 1) (hr : mR M = some .int) (hk : k = (mM M).cells) (hn : n = (mM M).slots) (hq : Q (some (.int v)) hp) : PZ l X (MZ X M Q) M pc lv [.int v] hp k n := by
  subst hk; subst hn
  intro p e s m args below meth c H locs ls Cx hH hS hl
  exact W.iret Cx.1 Cx.2.1 (Cx.2.2.2.2.1.trans hr) (fun t ht _ => hH.done (v := some (.int v)) hS Cx.ge ht hq) hS.2.2 hd Cx.2.2.2.2.2.1
theorem R_zret {v : Int32} {ty : FieldType} {Q : Option Value → HPt → Prop} (hd : DC M pc .ireturn 1) (hr : mR M = some ty) (hv : narrow ty (.int v) = .int v) (hk : k = (mM M).cells) (hn : n = (mM M).slots) (hq : Q (some (.int v)) hp) : PZ l X (MZ X M Q) M pc lv [.int v] hp k n := by
  subst hk; subst hn
  intro p e s m args below meth c H locs ls Cx hH hS hl
  exact W.zret Cx.1 Cx.2.1 (Cx.2.2.2.2.1.trans hr) hv (fun t ht _ => hH.done (v := some (.int v)) hS Cx.ge ht hq) hS.2.2 hd Cx.2.2.2.2.2.1
theorem R_lret {v : Int64} {Q : Option Value → HPt → Prop} (hd : DC M pc .lreturn 1) (hr : mR M = some .long) (hk : k = (mM M).cells) (hn : n = (mM M).slots) (hq : Q (some (.long v)) hp) : PZ l X (MZ X M Q) M pc lv [.long v] hp k n := by
  subst hk; subst hn
  intro p e s m args below meth c H locs ls Cx hH hS hl
  exact W.lret Cx.1 Cx.2.1 (Cx.2.2.2.2.1.trans hr) (fun t ht _ => hH.done (v := some (.long v)) hS Cx.ge ht hq) hS.2.2 hd Cx.2.2.2.2.2.1
theorem R_vret {Q : Option Value → HPt → Prop} (hd : DC M pc .return_ 1) (hr : mR M = none) (hk : k = (mM M).cells) (hn : n = (mM M).slots) (hq : Q none hp) : PZ l X (MZ X M Q) M pc lv [] hp k n := by
  subst hk; subst hn
  intro p e s m args below meth c H locs ls Cx hH hS hl
  exact W.vret Cx.1 Cx.2.1 (Cx.2.2.2.2.1.trans hr) (fun t ht _ => hH.done (v := none) hS Cx.ge ht hq) hS.2.2 hd Cx.2.2.2.2.2.1
/-! calls -/
theorem HR.size {p : Program} {e : Env} {R : Room} {s T : State} {m : MethodId} {args : Array Value} {below : List Frame} {meth : Method} {c : Code} {H : Heap} {locs : List Loc} (hH : HR X hp k s H) (hS : va_S (xA X) s.heap H locs) (h0 : x0 X ≤ s.heap.size) (hT : T.heap = H) (S : Stand p l e R s m args below meth c T locs k n) : H.size = x0 X + hp.length := by
  have h1 : H.size ≤ s.heap.size + k := by rw [← hT]; exact S.heapSize
  have h2 : x0 X + hp.length ≤ H.size := by
    cases hn : hp.length with
    | zero => exact Nat.le_trans h0 hS.1
    | succ j =>
      have hj : j < hp.length := by omega
      have := (hH.2 j _ (xw_at (List.getElem?_eq_getElem hj))).lt
      show x0 X + j < H.size
      exact this
  have h3 := hH.1
  omega
def MLk (own : String) (idx : Nat) (y : MethodName) : Prop := Cond.methodLink own idx y ∈ lw_tg ∨ ∃ host, Cond.methodLinkNest own idx y host ∈ lw_tg
/-- what the tables say of a method -/
def MK (M : MT) (np : Nat) : Prop := Cond.code (mY M) (mB M) (mN M) (mR M) ∈ lw_tg ∧ Cond.initialized (mY M).cls ∈ lw_tg ∧ ((mY M).cls ≠ "java/lang/invoke/MethodHandle" ∧ (mY M).cls ≠ "java/lang/invoke/VarHandle") ∧ (parseMethodDescriptor (mY M).desc).map (fun d => d.parameters.length) = some np
def MS (M : MT) (np : Nat) : Prop := MK M np ∧ Cond.static (mY M) ∈ lw_tg
def MV (M : MT) (np : Nat) : Prop := MK M np ∧ Cond.instanceMethod (mY M) ∈ lw_tg ∧ Cond.selects (mY M).cls (mY M) (mY M) ∈ lw_tg
def MI (M : MT) (np : Nat) : Prop := MK M np ∧ Cond.instanceMethod (mY M) ∈ lw_tg ∧ (mY M).name = "<init>" ∧ mR M = none
def RMk (M M' : MT) : Prop := (mM M').frames + 1 ≤ (mM M).frames ∧ 8 + (mN M' + 11) + (mM M').locals ≤ (mM M).locals
theorem MK.code {M' : MT} {np : Nat} (h : MK M' np) {s : State} (hT : TB s) : ∀ w ∈ [Cond.code (mY M') (mB M') (mN M') (mR M')], ∀ (a' : Array Value) (U : State), s.WarmedH U.vm → w.before a' U = true := by
  intro w hw a' U hW
  rw [List.mem_singleton.mp hw]
  exact hT.warm hW _ h.1 a'
theorem MK.len {M' : MT} {np : Nat} (h : MK M' np) : ∀ sig, parseMethodDescriptor (mY M').desc = some sig → np = sig.parameters.length := by
  intro sig hs
  have h2 := h.2.2.2
  rw [hs] at h2
  exact (Option.some.inj h2).symm
theorem PC.blind {args : List Value} : FrameBlind (PC X args hp) := by
  intro a U g mk h
  obtain ⟨h1, h2, h3, h4⟩ := h
  exact ⟨h1, h2.move (State.WarmedH.refl U) (fun _ _ => rfl), h3, h4⟩
theorem PC.at {p : Program} {s U : State} {m : MethodId} {meth : Method} {c : Code} {H : Heap} {locs : List Loc} {args : List Value} (Cx : CX X M p s m meth c) (hH : HR X hp k s H) (hS : va_S (xA X) s.heap H locs) (hz : H.size = x0 X + hp.length) (hU : U.heap = H) (hW : s.WarmedH U.vm) : PC X args hp (args.map (xv X)).toArray U := by
  refine ⟨rfl, Cx.xf.move hW (fun q hq => ?_), ?_, ?_, ?_⟩
  · rw [hU]; exact hS.2.1 q (Nat.lt_of_lt_of_le hq Cx.ge) (Nat.not_le.mpr hq)
  · rw [hU, hz]; exact Nat.le_add_right _ _
  · rw [hU, hz]; rfl
  · rw [hU]; exact hH.2
/-- behind a call -/
theorem call_on {p : Program} {e : Env} {s : State} {m : MethodId} {args : Array Value} {below : List Frame} {meth : Method} {c : Code} {H : Heap} {locs : List Loc} {ls : Array Slot} {M' : MT} {Q : Option Value → HPt → Prop} {a : Array Value} {stk : List Value} (Cx : CX X M p s m meth c) (hH : HR X hp k s H) (hS : va_S (xA X) s.heap H locs) (hl : LV X ls (mN M) lv)
    (hr : va_Run p l e (mM M) s m args below meth c H locs k n (mM M').cells (mM M').slots (F0 m pc ls stk) (st.map (xv X)) (QC X (mM M').cells Q a) (xA X)) {T : State} (hT : T.heap = H) (S : Stand p l e (mM M) s m args below meth c T locs k n)
    (kk : ∀ (v : Option Value) (hp' : HPt), Q v hp' → PZ l X Z M (pc + 3) lv (v.toList ++ st) hp' (k + (mM M').cells) (n + (mM M').slots)) : ∃ t, Steps p.tables e below (T.setTop (F0 m pc ls stk)) t ∧ Z below args s t := by
  have hz := hH.size hS Cx.ge hT S
  obtain ⟨v, st₀, t, T', L, h0, X', hL, e1, e2, ⟨⟨v', hp', hv, hq, hH'⟩, hsz0, hk'⟩, stp⟩ := hr T hT S
  cases hv
  have hsz : H.size ≤ T'.heap.size := by
    rw [e1, ← h0]; exact hsz0
  have hS1 : va_S (xA X) s.heap T'.heap (locs ++ L) := by
    refine ⟨Nat.le_trans hS.1 hsz, fun q g1 g2 => ?_, fun q hq => ?_⟩
    · rw [e1, hk' q (Nat.not_le.mp g2), h0]; exact hS.2.1 q g1 g2
    · rcases List.mem_append.mp hq with h | h
      · exact hS.2.2 q h
      · exact hL q h
  have hH1 : HR X hp' (k + (mM M').cells) s T'.heap := by
    have h1 := hH'.1
    rw [h0, hz] at h1
    have h2 := hH.1
    exact ⟨by omega, by rw [e1]; exact hH'.2⟩
  obtain ⟨t2, a1, b1⟩ := kk v' hp' hq p e s m args below meth c T'.heap (locs ++ L) ls Cx hH1 hS1 hl T' rfl X'
  refine ⟨t2, stp t2 ?_, b1⟩
  have e3 : (v'.toList ++ st).map (xv X) = (v'.map (xv X)).toList ++ st.map (xv X) := by
    cases v' <;> simp
  rw [e3] at a1
  exact a1
theorem cat_room {m : MethodId} {pc : Nat} {ls : Array Slot} {stk : List Value} (X : EX) {st : List Value} (h : (st.map fun v => v.category).sum ≤ 8) : 2 * (F0 m pc ls stk).monitorRoom + ((st.map (xv X)).map fun v => v.category).sum ≤ 8 := by
  refine lv_room ?_
  rw [List.map_map]
  have : ((fun v : Value => v.category) ∘ xv X) = fun v : Value => v.category := funext fun v => xv_cat X v
  rw [this]; exact h
theorem R_callS {M' : MT} {np idx : Nat} {As stk : List Value} {Q : Option Value → HPt → Prop} (hm : MS M' np) (hlk : MLk (mY M).cls idx (mY M')) (hsp : Sp l X M' As hp Q) (hd : DC M pc (.invokestatic idx) 3) (hst : stk = As.reverse ++ st) (hn : As.length = np) (hw : (st.map fun v => v.category).sum ≤ 8) (hrm : RMk M M') (hc : k + (mM M').cells ≤ (mM M).cells ∧ n + (mM M').slots ≤ (mM M).slots)
    (kk : ∀ (v : Option Value) (hp' : HPt), Q v hp' → PZ l X Z M (pc + 3) lv (v.toList ++ st) hp' (k + (mM M').cells) (n + (mM M').slots)) : PZ l X Z M pc lv stk hp k n := by
  intro p e s m args below meth c H locs ls Cx hH hS hl T hT S
  have hz := hH.size hS Cx.ge hT S
  have hT0 : TB s := Cx.xf.1
  have hstk : stk.map (xv X) = (As.map (xv X)).reverse ++ st.map (xv X) := by rw [hst, List.map_append, List.map_reverse]
  have hp : PreS s H (PC X As hp) (As.map (xv X)) := ⟨PC.blind, fun U hU hW => PC.at Cx hH hS hz hU hW⟩
  have hln : (As.map (xv X)).length = np := by rw [List.length_map]; exact hn
  refine call_on (Q := Q) (M' := M') (a := (As.map (xv X)).toArray) Cx hH hS hl ?_ hT S kk
  rcases hlk with hlk | ⟨host, hlk⟩
  · exact va_runS (ret := mR M') (bytes := mB M') (maxL := mN M') (rest := st.map (xv X)) ⟨Cx.1, Cx.2.1, Cx.2.2.1, Cx.own, Cx.ts args⟩ hsp ⟨⟨rfl, rfl, hrm.1, hrm.2, hm.1.code hT0, List.mem_singleton.mpr rfl, hT0 _ hm.1.1 _, hT0 _ hm.1.2.1 _, hm.1.2.2.1, hm.1.len, hT0 _ hlk _⟩, hT0 _ hm.2 _⟩ hp rfl hln hl.1 hstk (cat_room X hw) hd hc
  · exact va_runSN (ret := mR M') (bytes := mB M') (maxL := mN M') (rest := st.map (xv X)) ⟨Cx.1, Cx.2.1, Cx.2.2.1, Cx.own, Cx.ts args⟩ hsp ⟨⟨⟨rfl, rfl, hrm.1, hrm.2, hm.1.code hT0, List.mem_singleton.mpr rfl⟩, hT0 _ hm.1.1 _, hT0 _ hm.1.2.1 _, hm.1.2.2.1, hm.1.len, hT0 _ hlk _⟩, hT0 _ hm.2 _, trivial⟩ hp rfl hln hl.1 hstk (cat_room X hw) hd hc
theorem R_callI {M' : MT} {np idx h : Nat} {As stk : List Value} {Q : Option Value → HPt → Prop} (hm : MI M' np) (hlk : MLk (mY M).cls idx (mY M')) (hsp : Sp l X M' (.ref h :: As) hp Q) (hd : DC M pc (.invokespecial idx) 3) (hst : stk = As.reverse ++ .ref h :: st) (hn : As.length = np) (hw : (st.map fun v => v.category).sum ≤ 8) (hrm : RMk M M') (hc : k + (mM M').cells ≤ (mM M).cells ∧ n + (mM M').slots ≤ (mM M).slots)
    (kk : ∀ (v : Option Value) (hp' : HPt), Q v hp' → PZ l X Z M (pc + 3) lv (v.toList ++ st) hp' (k + (mM M').cells) (n + (mM M').slots)) : PZ l X Z M pc lv stk hp k n := by
  intro p e s m args below meth c H locs ls Cx hH hS hl T hT S
  have hz := hH.size hS Cx.ge hT S
  have hT0 : TB s := Cx.xf.1
  have hstk : stk.map (xv X) = (As.map (xv X)).reverse ++ .ref (x0 X + h) :: st.map (xv X) := by rw [hst, List.map_append, List.map_reverse]; rfl
  have hp : PreS s H (PC X (.ref h :: As) hp) (.ref (x0 X + h) :: As.map (xv X)) := ⟨PC.blind, fun U hU hW => PC.at (args := .ref h :: As) Cx hH hS hz hU hW⟩
  have hln : (As.map (xv X)).length = np := by rw [List.length_map]; exact hn
  obtain ⟨hmk, hin, hy1, hr0⟩ := hm
  refine call_on (Q := Q) (M' := M') (a := (Value.ref (x0 X + h) :: As.map (xv X)).toArray) Cx hH hS hl ?_ hT S kk
  have hcd := hmk.code hT0
  have hc1 := hT0 _ hmk.1 args
  unfold Sp at hsp
  rw [hr0] at hsp hcd hc1
  rcases hlk with hlk | ⟨host, hlk⟩
  · exact va_runI (bytes := mB M') (maxL := mN M') (rest := st.map (xv X)) ⟨Cx.1, Cx.2.1, Cx.2.2.1, Cx.own, Cx.ts args⟩ hsp ⟨⟨rfl, rfl, hrm.1, hrm.2, hcd, List.mem_singleton.mpr rfl, hc1, hT0 _ hmk.2.1 _, hmk.2.2.1, hmk.len, hT0 _ hlk _⟩, hy1, hT0 _ hin _⟩ hp rfl hln hl.1 hstk (cat_room X hw) hd hc
  · exact va_runIN (bytes := mB M') (maxL := mN M') (rest := st.map (xv X)) ⟨Cx.1, Cx.2.1, Cx.2.2.1, Cx.own, Cx.ts args⟩ hsp ⟨⟨⟨rfl, rfl, hrm.1, hrm.2, hcd, List.mem_singleton.mpr rfl⟩, hc1, hT0 _ hmk.2.1 _, hmk.2.2.1, hmk.len, hT0 _ hlk _⟩, hy1, hT0 _ hin _⟩ hp rfl hln hl.1 hstk (cat_room X hw) hd hc
theorem R_callVg {M' : MT} {np idx : Nat} {b : Nat} {rv : Value} {As stk : List Value} {Q : Option Value → HPt → Prop} (hm : MV M' np) (hlk : MLk (mY M).cls idx (mY M')) (hsp : Sp l X M' (rv :: As) hp Q) (hrv : xv X rv = .ref b) (hrc : ∀ (p : Program) (s : State) (m : MethodId) (meth : Method) (c : Code) (H : Heap) (locs : List Loc), CX X M p s m meth c → HR X hp k s H → va_S (xA X) s.heap H locs → ∃ cell : Cell, H[b]? = some cell ∧ cell.vm.isStatics = false ∧ s.vm.findClass (mY M').cls = some cell.cls)
    (hd : DC M pc (.invokevirtual idx) 3) (hst : stk = As.reverse ++ rv :: st) (hn : As.length = np) (hw : (st.map fun v => v.category).sum ≤ 8) (hrm : RMk M M') (hc : k + (mM M').cells ≤ (mM M).cells ∧ n + (mM M').slots ≤ (mM M).slots)
    (kk : ∀ (v : Option Value) (hp' : HPt), Q v hp' → PZ l X Z M (pc + 3) lv (v.toList ++ st) hp' (k + (mM M').cells) (n + (mM M').slots)) : PZ l X Z M pc lv stk hp k n := by
  intro p e s m args below meth c H locs ls Cx hH hS hl T hT S
  have hz := hH.size hS Cx.ge hT S
  have hT0 : TB s := Cx.xf.1
  have hstk : stk.map (xv X) = (As.map (xv X)).reverse ++ .ref b :: st.map (xv X) := by rw [hst, List.map_append, List.map_reverse, List.map_cons, hrv]
  have hp : PreV s H (mY M').cls b (PC X (rv :: As) hp) (As.map (xv X)) := ⟨PC.blind, hrc p s m meth c H locs Cx hH hS, fun U hU hW => by
    have h1 := PC.at (args := rv :: As) Cx hH hS hz hU hW
    rw [List.map_cons, hrv] at h1
    exact h1⟩
  have hln : (As.map (xv X)).length = np := by rw [List.length_map]; exact hn
  obtain ⟨hmk, hin, hse⟩ := hm
  refine call_on (Q := Q) (M' := M') (a := (Value.ref b :: As.map (xv X)).toArray) Cx hH hS hl ?_ hT S kk
  rcases hlk with hlk | ⟨host, hlk⟩
  · exact va_runV (ret := mR M') (bytes := mB M') (maxL := mN M') (rest := st.map (xv X)) ⟨Cx.1, Cx.2.1, Cx.2.2.1, Cx.own, Cx.ts args⟩ hsp ⟨⟨rfl, rfl, hrm.1, hrm.2, hmk.code hT0, List.mem_singleton.mpr rfl, hT0 _ hmk.1 _, hT0 _ hmk.2.1 _, hmk.2.2.1, hmk.len, hT0 _ hlk _⟩, hT0 _ hin _, hT0 _ hse _⟩ hp rfl hln hl.1 hstk (cat_room X hw) hd hc
  · exact va_runVN (ret := mR M') (bytes := mB M') (maxL := mN M') (rest := st.map (xv X)) ⟨Cx.1, Cx.2.1, Cx.2.2.1, Cx.own, Cx.ts args⟩ hsp ⟨⟨⟨rfl, rfl, hrm.1, hrm.2, hmk.code hT0, List.mem_singleton.mpr rfl⟩, hT0 _ hmk.1 _, hT0 _ hmk.2.1 _, hmk.2.2.1, hmk.len, hT0 _ hlk _⟩, hT0 _ hin _, hT0 _ hse _⟩ hp rfl hln hl.1 hstk (cat_room X hw) hd hc
theorem R_callV {M' : MT} {np idx ci h : Nat} {T' : u_T} {N' : Nat} {fs As stk : List Value} {Q : Option Value → HPt → Prop} (hm : MV M' np) (hlk : MLk (mY M).cls idx (mY M')) (hsp : Sp l X M' (.ref h :: As) hp Q) (hci : vwCl[ci]? = some ((mY M').cls, T', N')) (hh : hp[h]? = some (.inr (ci, fs)))
    (hd : DC M pc (.invokevirtual idx) 3) (hst : stk = As.reverse ++ .ref h :: st) (hn : As.length = np) (hw : (st.map fun v => v.category).sum ≤ 8) (hrm : RMk M M') (hc : k + (mM M').cells ≤ (mM M).cells ∧ n + (mM M').slots ≤ (mM M).slots)
    (kk : ∀ (v : Option Value) (hp' : HPt), Q v hp' → PZ l X Z M (pc + 3) lv (v.toList ++ st) hp' (k + (mM M').cells) (n + (mM M').slots)) : PZ l X Z M pc lv stk hp k n :=
  R_callVg hm hlk hsp (b := x0 X + h) rfl (fun p s m meth c H locs Cx hH hS => va_recv Cx.K hH.2 hci (xw_at hh)) hd hst hn hw hrm hc kk
/-- a text is the receiver -/
theorem R_callVK {M' : MT} {np idx i : Nat} {As stk : List Value} {Q : Option Value → HPt → Prop} (hm : MV M' np) (hcl : (mY M').cls = "java/lang/String") (hi : i < 2) (hlk : MLk (mY M).cls idx (mY M')) (hsp : Sp l X M' (.retAddr (1 + i) :: As) hp Q)
    (hd : DC M pc (.invokevirtual idx) 3) (hst : stk = As.reverse ++ .retAddr (1 + i) :: st) (hn : As.length = np) (hw : (st.map fun v => v.category).sum ≤ 8) (hrm : RMk M M') (hc : k + (mM M').cells ≤ (mM M).cells ∧ n + (mM M').slots ≤ (mM M).slots)
    (kk : ∀ (v : Option Value) (hp' : HPt), Q v hp' → PZ l X Z M (pc + 3) lv (v.toList ++ st) hp' (k + (mM M').cells) (n + (mM M').slots)) : PZ l X Z M pc lv stk hp k n :=
  R_callVg hm hlk hsp (b := xc X (1 + i)) rfl (fun p s m meth c H locs Cx hH hS => by rw [hcl]; exact vk_recv (adK := fun i => xc X (1 + i)) (i := i) Cx.xf.2.2.2.2.2.2.1 hi hS) hd hst hn hw hrm hc kk
/-! new cells -/
theorem R_objInit {idx h : Nat} (hd : DC M pc (.invokespecial idx) 3) (hlk : Cond.methodLink (mY M).cls idx objectInit ∈ lw_tg) (hi : Cond.instanceMethod objectInit ∈ lw_tg) (hcd : Cond.code objectInit ⟨#[0xb1]⟩ 1 none ∈ lw_tg) (hfr : 1 ≤ (mM M).frames) (hlo : (st.map fun v => v.category).sum + 12 ≤ (mM M).locals) (kk : PZ l X Z M (pc + 3) lv st hp k n) : PZ l X Z M pc lv (.ref h :: st) hp k n := by
  intro p e s m args below meth c H locs ls Cx hH hS hl
  have hlo' : ((st.map (xv X)).map fun v => v.category).sum + 12 ≤ (mM M).locals := by
    rw [List.map_map]
    have : ((fun v : Value => v.category) ∘ xv X) = fun v : Value => v.category := funext fun v => xv_cat X v
    rw [this]; exact hlo
  refine W.objInit Cx.1 Cx.2.1 Cx.own (Cx.ts args _ hlk) (Cx.ts args _ hi) (Cx.ts args _ hcd) rfl (by rw [Cx.2.2.1]; exact hl.1) rfl hd hfr ?_ (kk p e s m args below meth c H locs ls Cx hH hS hl)
  first | exact hlo' | (simp; simpa using hlo') | (show 2 * 0 + _ + _ ≤ _; omega)
end RH
end
section
/-! RULES of the pure machine: new cells, and what lies outside -/
section RN
variable {l : Launch} {X : EX} {Z : ZT} {M : MT} {pc : Nat} {lv lv' : List (Option Value)} {st : List Value} {hp : HPt} {k n : Nat}
theorem HR.push {s : State} {H H1 : Heap} {e : PE} (hH : HR X hp k s H) (hz : H.size = x0 X + hp.length) (o1 : ∀ q, q < H.size → H1[q]? = H[q]?) (he : va_at (xD X) vwCl (H.size, xe X e) H1) : HR X (hp ++ [e]) (k + 1) s H1 := by
  refine ⟨by rw [List.length_append, ← Nat.add_assoc, hH.1]; rfl, ?_⟩
  rw [← xw_push, ← hz]
  refine (hH.2.kept (fun i x hx => o1 x.1 ((hH.2 i x hx).lt))).app (fun i x hx => ?_)
  have hi : i < 1 := (List.getElem?_eq_some_iff.mp hx).1
  rw [show i = 0 by omega] at hx
  cases hx
  exact he
theorem S_push {s : State} {H H1 : Heap} {locs : List Loc} {A : Nat → Prop} (hS : va_S A s.heap H locs) (z1 : H1.size = H.size + 1) (o1 : ∀ q, q < H.size → H1[q]? = H[q]?) : va_S A s.heap H1 locs :=
  ⟨Nat.le_trans hS.1 (by omega), fun x h1 h2 => (o1 x (Nat.lt_of_lt_of_le h1 hS.1)).trans (hS.2.1 x h1 h2), hS.2.2⟩
theorem R_new {idx ci N : Nat} {C : String} {T : u_T} {ty0 : Nat → FieldType} {fs : List Value} (hkc : KC ci C T N ty0) (hd : DC M pc (.new idx) 3) (hcl : Cond.classLink (mY M).cls idx C ∈ lw_tg) (hin : Cond.instantiable C N ∈ lw_tg) (hini : Cond.initialized C ∈ lw_tg) (hfs : ∀ j, j < N → defaultValue (ty0 j) = vp_V (fs.map (xv X)) j) (hc : k + 1 ≤ (mM M).cells ∧ n + N ≤ (mM M).slots)
    (kk : PZ l X Z M (pc + 3) lv (.ref hp.length :: st) (hp ++ [.inr (ci, fs)]) (k + 1) (n + N)) : PZ l X Z M pc lv st hp k n := by
  intro p e s m args below meth c H locs ls Cx hH hS hl T' hT S
  have hz := hH.size hS Cx.ge hT S
  have hKn := Cx.K.1 ci _ hkc.1
  suffices w : W p l e (mM M) s m args below meth c H locs k n (Z below args s) (F0 m pc ls (st.map (xv X))) from w T' hT S
  refine W.newcK (h := H.size) Cx.1 Cx.2.1 Cx.own (Cx.ts args _ hcl) (Cx.ts args _ hin) (Cx.ts args _ hini) rfl hd hc.1 hc.2 hKn.2.1 rfl (fun H1 kC hkC e1 z1 o1 => ?_)
  have h9 := kk p e s m args below meth c H1 locs ls Cx (hH.push hz o1 ⟨_, hkc.1, (u_born ty0 (Cx.ts args) hkc.2.1 hKn hkC e1 hkc.2.2.1).to hfs⟩) (S_push hS z1 o1) hl
  rw [hz]
  exact h9
theorem R_newi {x : Int32} {N : Nat} (hd : DC M pc (.newarray .int) 2) (hx : ¬ x < 0) (hN : x.toNatClampNeg = N) (hb : N ≤ 100000) (hc : k + 1 ≤ (mM M).cells ∧ n + N ≤ (mM M).slots) (kk : PZ l X Z M (pc + 2) lv (.ref hp.length :: st) (hp ++ [ia N (fun _ => 0)]) (k + 1) (n + N)) : PZ l X Z M pc lv (.int x :: st) hp k n := by
  intro p e s m args below meth c H locs ls Cx hH hS hl T' hT S
  have hz := hH.size hS Cx.ge hT S
  suffices w : W p l e (mM M) s m args below meth c H locs k n (Z below args s) (F0 m pc ls (.int x :: st.map (xv X))) from w T' hT S
  refine va_newaK (atype := .int) (h := H.size) Cx.1 Cx.2.1 (show (Cond.arrayClass .int).before args s = true from Cx.xf.2.2.1.1) rfl hd rfl hx hN (by show N * 4 ≤ 536870912; omega) hc.1 hc.2 rfl (fun H1 cA e1 z1 o1 hAr hNm => ?_)
  have hy : cA = xy X 0 := Option.some.inj ((show s.vm.findClass ("[" ++ (FieldType.int).toString) = some cA from hNm).symm.trans (Cx.K.2 0 _ rfl).2)
  subst hy
  have h9 := kk p e s m args below meth c H1 locs ls Cx (hH.push hz o1 e1) (S_push hS z1 o1) hl
  rw [hz]
  exact h9
theorem R_newz {x : Int32} {N : Nat} (hd : DC M pc (.newarray .boolean) 2) (hx : ¬ x < 0) (hN : x.toNatClampNeg = N) (hb : N ≤ 100000) (hc : k + 1 ≤ (mM M).cells ∧ n + N ≤ (mM M).slots) (kk : PZ l X Z M (pc + 2) lv (.ref hp.length :: st) (hp ++ [za N (fun _ => 0)]) (k + 1) (n + N)) : PZ l X Z M pc lv (.int x :: st) hp k n := by
  intro p e s m args below meth c H locs ls Cx hH hS hl T' hT S
  have hz := hH.size hS Cx.ge hT S
  suffices w : W p l e (mM M) s m args below meth c H locs k n (Z below args s) (F0 m pc ls (.int x :: st.map (xv X))) from w T' hT S
  refine va_newaK (atype := .boolean) (h := H.size) Cx.1 Cx.2.1 (show (Cond.arrayClass .boolean).before args s = true from Cx.xf.2.2.1.2.1) rfl hd rfl hx hN (by show N * 1 ≤ 536870912; omega) hc.1 hc.2 rfl (fun H1 cA e1 z1 o1 hAr hNm => ?_)
  have hy : cA = xy X 1 := Option.some.inj ((show s.vm.findClass ("[" ++ (FieldType.boolean).toString) = some cA from hNm).symm.trans (Cx.K.2 1 _ rfl).2)
  subst hy
  have h9 := kk p e s m args below meth c H1 locs ls Cx (hH.push hz o1 e1) (S_push hS z1 o1) hl
  rw [hz]
  exact h9
theorem R_newq {x : Int32} {N idx : Nat} (hd : DC M pc (.anewarray idx) 3) (hcl : Cond.classLink (mY M).cls idx RX9 ∈ lw_tg) (hx : ¬ x < 0) (hN : x.toNatClampNeg = N) (hb : N ≤ 100000) (hc : k + 1 ≤ (mM M).cells ∧ n + N ≤ (mM M).slots) (kk : PZ l X Z M (pc + 3) lv (.ref hp.length :: st) (hp ++ [qa N (fun _ => none)]) (k + 1) (n + N)) : PZ l X Z M pc lv (.int x :: st) hp k n := by
  intro p e s m args below meth c H locs ls Cx hH hS hl T' hT S
  have hz := hH.size hS Cx.ge hT S
  subst hN
  suffices w : W p l e (mM M) s m args below meth c H locs k n (Z below args s) (F0 m pc ls (.int x :: st.map (xv X))) from w T' hT S
  refine W.anew Cx.1 Cx.2.1 Cx.own (Cx.ts args _ hcl) (va_AO.use Cx.xf.2.2.1.2.2) rfl hd rfl hx (by omega) hc.1 hc.2 (fun cA kA comp f1 f2 f3 f4 => ?_)
  have hy : cA = xy X 2 := by
    obtain ⟨_, _, _, _, _, g4⟩ := (Cx.K.2 2 _ rfl).2
    exact Option.some.inj (f1.symm.trans g4)
  subst hy
  generalize hH1 : H.push ({ cls := xy X 2, slots := Array.replicate x.toNatClampNeg .null, vm := .none } : Cell) = H1
  have z1 : H1.size = H.size + 1 := by rw [← hH1, Array.size_push]
  have e1 : H1[H.size]? = some (arrV (xy X 2) x.toNatClampNeg (fun _ => .null)) := by rw [← hH1, Array.getElem?_push_size, ← arrV_new]
  have o1 : ∀ q : Nat, q < H.size → H1[q]? = H[q]? := fun q hq => by rw [← hH1, Array.getElem?_push, if_neg (Nat.ne_of_lt hq)]
  have h9 := kk p e s m args below meth c H1 locs ls Cx (hH.push hz o1 e1) (S_push hS z1 o1) hl
  rw [hz]
  exact h9
/-! the two texts -/
theorem R_ldcL (hd : DC M pc (.ldc 23) 2) (hc : (mY M).cls = RX0) (kk : PZ l X Z M (pc + 2) lv (.retAddr 1 :: st) hp k n) : PZ l X Z M pc lv st hp k n :=
  fun p e s m args below meth c H locs ls Cx hH hS hl => va_ldcS Cx.1 Cx.2.1 (own := RX0) (by rw [← hc]; exact Cx.own) Cx.xf.2.2.2.2.1 hd (kk p e s m args below meth c H locs ls Cx hH hS hl)
theorem R_ldcF (hd : DC M pc (.ldc 15) 2) (hc : (mY M).cls = RX0) (kk : PZ l X Z M (pc + 2) lv (.retAddr 2 :: st) hp k n) : PZ l X Z M pc lv st hp k n :=
  fun p e s m args below meth c H locs ls Cx hH hS hl => va_ldcS Cx.1 Cx.2.1 (own := RX0) (by rw [← hc]; exact Cx.own) Cx.xf.2.2.2.2.2.1 hd (kk p e s m args below meth c H locs ls Cx hH hS hl)
theorem R_getsC {idx : Nat} (hd : DC M pc (.getstatic idx) 3) (hlk : Cond.fieldLink (mY M).cls idx "java/lang/String" "COMPACT_STRINGS" "Z" ∈ lw_tg) (kk : PZ l X Z M (pc + 3) lv (.int 1 :: st) hp k n) : PZ l X Z M pc lv st hp k n :=
  fun p e s m args below meth c H locs ls Cx hH hS hl => va_gets Cx.1 Cx.2.1 Cx.xf.2.2.2.2.2.2.2.1 hS Cx.own (Cx.ts args _ hlk) (fun _ z => z) hd (kk p e s m args below meth c H locs ls Cx hH hS hl)
theorem R_getsQ {idx : Nat} (hd : DC M pc (.getstatic idx) 3) (hlk : Cond.fieldLink (mY M).cls idx "jdk/internal/util/Preconditions" "SIOOBE_FORMATTER" "Ljava/util/function/BiFunction;" ∈ lw_tg) (k0 : PZ l X Z M (pc + 3) lv (.null :: st) hp k n) (k1 : PZ l X Z M (pc + 3) lv (.retAddr 5 :: st) hp k n) : PZ l X Z M pc lv st hp k n := by
  intro p e s m args below meth c H locs ls Cx hH hS hl
  rcases Cx.xf.2.2.2.2.2.2.2.2 with h | h
  · exact va_gets Cx.1 Cx.2.1 h hS Cx.own (Cx.ts args _ hlk) (fun _ z => z) hd (k0 p e s m args below meth c H locs ls Cx hH hS hl)
  · exact va_gets Cx.1 Cx.2.1 h hS Cx.own (Cx.ts args _ hlk) (fun _ z => z) hd (k1 p e s m args below meth c H locs ls Cx hH hS hl)
theorem R_coder {idx i : Nat} (hd : DC M pc (.getfield idx) 3) (hlk : Cond.fieldLink (mY M).cls idx "java/lang/String" "coder" "B" ∈ lw_tg) (hi : i < 2) (kk : PZ l X Z M (pc + 3) lv (.int 0 :: st) hp k n) : PZ l X Z M pc lv (.retAddr (1 + i) :: st) hp k n :=
  fun p e s m args below meth c H locs ls Cx hH hS hl => vk_getf Cx.1 Cx.2.1 (Cx.xf.2.2.2.2.2.2.1.1 i hi).2.1 hS Cx.own (Cx.ts args _ hlk) (fun _ z => z) hd (kk p e s m args below meth c H locs ls Cx hH hS hl)
theorem R_value {idx i : Nat} (hd : DC M pc (.getfield idx) 3) (hlk : Cond.fieldLink (mY M).cls idx "java/lang/String" "value" "[B" ∈ lw_tg) (hi : i < 2) (kk : PZ l X Z M (pc + 3) lv (.retAddr (3 + i) :: st) hp k n) : PZ l X Z M pc lv (.retAddr (1 + i) :: st) hp k n :=
  fun p e s m args below meth c H locs ls Cx hH hS hl => vk_getf Cx.1 Cx.2.1 (Cx.xf.2.2.2.2.2.2.1.1 i hi).2.2.1 hS Cx.own (Cx.ts args _ hlk) (fun _ z => z) hd (kk p e s m args below meth c H locs ls Cx hH hS hl)
theorem R_blen {i : Nat} {x : Int32} (hd : DC M pc .arraylength 1) (hi : i < 2) (hx : Int32.ofNat (slen.getD i 0) = x) (kk : PZ l X Z M (pc + 1) lv (.int x :: st) hp k n) : PZ l X Z M pc lv (.retAddr (3 + i) :: st) hp k n :=
  fun p e s m args below meth c H locs ls Cx hH hS hl => va_tlen Cx.1 Cx.2.1 (Cx.xf.2.2.2.2.2.2.1.1 i hi).2.2.2 hS hx hd (kk p e s m args below meth c H locs ls Cx hH hS hl)
theorem R_bld {i : Nat} {x y : Int32} (hd : DC M pc .baload 1) (hi : i < 2) (hx : vp_in x (slen.getD i 0)) (hy : (sbyt.getD i []).getD x.toNatClampNeg 0 = y) (kk : PZ l X Z M (pc + 1) lv (.int y :: st) hp k n) : PZ l X Z M pc lv (.int x :: .retAddr (3 + i) :: st) hp k n := by
  subst hy
  exact fun p e s m args below meth c H locs ls Cx hH hS hl => va_tb Cx.1 Cx.2.1 (Cx.xf.2.2.2.2.2.2.1.1 i hi).2.2.2 hS hx rfl hd (kk p e s m args below meth c H locs ls Cx hH hS hl)
theorem R_nload_n {j : Fin 4} {i : Nat} (hd : DC M pc (.aload_n j) 1) (hi : (j : Nat) = i) (hv : lv[i]? = some (some .null)) (kk : PZ l X Z M (pc + 1) lv (.null :: st) hp k n) : PZ l X Z M pc lv st hp k n :=
  fun p e s m args below meth c H locs ls C hH hS hl => lv_aload_nN C.1 C.2.1 hd hi (hl.2.2 _ _ hv) (kk p e s m args below meth c H locs ls C hH hS hl)
end RN
end
section
/-! RULES in Nat's words (nI), and specs by the kind of the answer -/
section R2
variable {l : Launch} {X : EX} {Z : ZT} {M : MT} {pc : Nat} {lv lv' : List (Option Value)} {st : List Value} {hp : HPt} {k n : Nat}
def SpI (l : Launch) (X : EX) (M : MT) (args : List Value) (hp : HPt) (Q : Int32 → HPt → Prop) : Prop := Sp l X M args hp (fun v hp' => ∃ r, v = some (.int r) ∧ Q r hp')
def SpL (l : Launch) (X : EX) (M : MT) (args : List Value) (hp : HPt) (Q : Int64 → HPt → Prop) : Prop := Sp l X M args hp (fun v hp' => ∃ r, v = some (.long r) ∧ Q r hp')
def SpV (l : Launch) (X : EX) (M : MT) (args : List Value) (hp : HPt) (Q : HPt → Prop) : Prop := Sp l X M args hp (fun v hp' => v = none ∧ Q hp')
def MZi (X : EX) (M : MT) (Q : Int32 → HPt → Prop) : ZT := MZ X M (fun v hp' => ∃ r, v = some (.int r) ∧ Q r hp')
def MZl (X : EX) (M : MT) (Q : Int64 → HPt → Prop) : ZT := MZ X M (fun v hp' => ∃ r, v = some (.long r) ∧ Q r hp')
def MZv (X : EX) (M : MT) (Q : HPt → Prop) : ZT := MZ X M (fun v hp' => v = none ∧ Q hp')
theorem SpI.of {args : List Value} {Q : Int32 → HPt → Prop} (hy : plainName (mY M).cls = true) (hlen : (lg_sl (args.map (xv X))).length ≤ mN M) (hlv : lvE (mN M) args = lv) (h : PZ l X (MZi X M Q) M 0 lv [] hp 0 0) : SpI l X M args hp Q := Sp.of hy hlen hlv h
theorem SpL.of {args : List Value} {Q : Int64 → HPt → Prop} (hy : plainName (mY M).cls = true) (hlen : (lg_sl (args.map (xv X))).length ≤ mN M) (hlv : lvE (mN M) args = lv) (h : PZ l X (MZl X M Q) M 0 lv [] hp 0 0) : SpL l X M args hp Q := Sp.of hy hlen hlv h
theorem SpV.of {args : List Value} {Q : HPt → Prop} (hy : plainName (mY M).cls = true) (hlen : (lg_sl (args.map (xv X))).length ≤ mN M) (hlv : lvE (mN M) args = lv) (h : PZ l X (MZv X M Q) M 0 lv [] hp 0 0) : SpV l X M args hp Q := Sp.of hy hlen hlv h
theorem SpI.imp {args : List Value} {Q Q' : Int32 → HPt → Prop} (h : SpI l X M args hp Q) (hq : ∀ v hp', Q v hp' → Q' v hp') : SpI l X M args hp Q' := Sp.imp h (fun _ _ ⟨r, h1, h2⟩ => ⟨r, h1, hq _ _ h2⟩)
theorem SpV.imp {args : List Value} {Q Q' : HPt → Prop} (h : SpV l X M args hp Q) (hq : ∀ hp', Q hp' → Q' hp') : SpV l X M args hp Q' := Sp.imp h (fun _ _ ⟨h1, h2⟩ => ⟨h1, hq _ h2⟩)
theorem R_reti {v : Int32} {Q : Int32 → HPt → Prop} (hd : DC M pc .ireturn 1) (hr : mR M = some .int) (hk : k = (mM M).cells) (hn : n = (mM M).slots) (hq : Q v hp) : PZ l X (MZi X M Q) M pc lv [.int v] hp k n := R_iret hd hr hk hn ⟨v, rfl, hq⟩
theorem R_retz {v : Int32} {ty : FieldType} {Q : Int32 → HPt → Prop} (hd : DC M pc .ireturn 1) (hr : mR M = some ty) (hv : narrow ty (.int v) = .int v) (hk : k = (mM M).cells) (hn : n = (mM M).slots) (hq : Q v hp) : PZ l X (MZi X M Q) M pc lv [.int v] hp k n := R_zret hd hr hv hk hn ⟨v, rfl, hq⟩
theorem R_retl {v : Int64} {Q : Int64 → HPt → Prop} (hd : DC M pc .lreturn 1) (hr : mR M = some .long) (hk : k = (mM M).cells) (hn : n = (mM M).slots) (hq : Q v hp) : PZ l X (MZl X M Q) M pc lv [.long v] hp k n := R_lret hd hr hk hn ⟨v, rfl, hq⟩
theorem R_retv {Q : HPt → Prop} (hd : DC M pc .return_ 1) (hr : mR M = none) (hk : k = (mM M).cells) (hn : n = (mM M).slots) (hq : Q hp) : PZ l X (MZv X M Q) M pc lv [] hp k n := R_vret hd hr hk hn ⟨rfl, hq⟩
def CZ (M' : MT) : Prop := (mM M').cells = 0 ∧ (mM M').slots = 0
theorem R_calli {M' : MT} {np idx ci h : Nat} {T' : u_T} {N' : Nat} {fs As stk : List Value} {Q : Int32 → HPt → Prop} (hm : MV M' np) (hlk : MLk (mY M).cls idx (mY M')) (hsp : SpI l X M' (.ref h :: As) hp Q) (hci : vwCl[ci]? = some ((mY M').cls, T', N')) (hh : hp[h]? = some (.inr (ci, fs)))
    (hd : DC M pc (.invokevirtual idx) 3) (hst : stk = As.reverse ++ .ref h :: st) (hn : As.length = np) (hw : (st.map fun v => v.category).sum ≤ 8) (hrm : RMk M M') (hz : CZ M') (hc : k ≤ (mM M).cells ∧ n ≤ (mM M).slots)
    (kk : ∀ (r : Int32) (hp' : HPt), Q r hp' → PZ l X Z M (pc + 3) lv (.int r :: st) hp' k n) : PZ l X Z M pc lv stk hp k n :=
  R_callV hm hlk hsp hci hh hd hst hn hw hrm (by rw [hz.1, hz.2]; exact hc) (fun v hp' ⟨r, hv, hq⟩ => by rw [hz.1, hz.2, hv]; exact kk r hp' hq)
theorem R_callv {M' : MT} {np idx ci h : Nat} {T' : u_T} {N' : Nat} {fs As stk : List Value} {Q : HPt → Prop} (hm : MV M' np) (hlk : MLk (mY M).cls idx (mY M')) (hsp : SpV l X M' (.ref h :: As) hp Q) (hci : vwCl[ci]? = some ((mY M').cls, T', N')) (hh : hp[h]? = some (.inr (ci, fs)))
    (hd : DC M pc (.invokevirtual idx) 3) (hst : stk = As.reverse ++ .ref h :: st) (hn : As.length = np) (hw : (st.map fun v => v.category).sum ≤ 8) (hrm : RMk M M') (hz : CZ M') (hc : k ≤ (mM M).cells ∧ n ≤ (mM M).slots)
    (kk : ∀ (hp' : HPt), Q hp' → PZ l X Z M (pc + 3) lv st hp' k n) : PZ l X Z M pc lv stk hp k n :=
  R_callV hm hlk hsp hci hh hd hst hn hw hrm (by rw [hz.1, hz.2]; exact hc) (fun v hp' ⟨hv, hq⟩ => by rw [hz.1, hz.2, hv]; exact kk hp' hq)
theorem R_callKi {M' : MT} {np idx i : Nat} {As stk : List Value} {Q : Int32 → HPt → Prop} (hm : MV M' np) (hcl : (mY M').cls = "java/lang/String") (hi : i < 2) (hlk : MLk (mY M).cls idx (mY M')) (hsp : SpI l X M' (.retAddr (1 + i) :: As) hp Q)
    (hd : DC M pc (.invokevirtual idx) 3) (hst : stk = As.reverse ++ .retAddr (1 + i) :: st) (hn : As.length = np) (hw : (st.map fun v => v.category).sum ≤ 8) (hrm : RMk M M') (hz : CZ M') (hc : k ≤ (mM M).cells ∧ n ≤ (mM M).slots)
    (kk : ∀ (r : Int32) (hp' : HPt), Q r hp' → PZ l X Z M (pc + 3) lv (.int r :: st) hp' k n) : PZ l X Z M pc lv stk hp k n :=
  R_callVK hm hcl hi hlk hsp hd hst hn hw hrm (by rw [hz.1, hz.2]; exact hc) (fun v hp' ⟨r, hv, hq⟩ => by rw [hz.1, hz.2, hv]; exact kk r hp' hq)
theorem R_stati {M' : MT} {np idx : Nat} {As stk : List Value} {Q : Int32 → HPt → Prop} (hm : MS M' np) (hlk : MLk (mY M).cls idx (mY M')) (hsp : SpI l X M' As hp Q)
    (hd : DC M pc (.invokestatic idx) 3) (hst : stk = As.reverse ++ st) (hn : As.length = np) (hw : (st.map fun v => v.category).sum ≤ 8) (hrm : RMk M M') (hz : CZ M') (hc : k ≤ (mM M).cells ∧ n ≤ (mM M).slots)
    (kk : ∀ (r : Int32) (hp' : HPt), Q r hp' → PZ l X Z M (pc + 3) lv (.int r :: st) hp' k n) : PZ l X Z M pc lv stk hp k n :=
  R_callS hm hlk hsp hd hst hn hw hrm (by rw [hz.1, hz.2]; exact hc) (fun v hp' ⟨r, hv, hq⟩ => by rw [hz.1, hz.2, hv]; exact kk r hp' hq)
theorem R_statl {M' : MT} {np idx : Nat} {As stk : List Value} {Q : Int64 → HPt → Prop} (hm : MS M' np) (hlk : MLk (mY M).cls idx (mY M')) (hsp : SpL l X M' As hp Q)
    (hd : DC M pc (.invokestatic idx) 3) (hst : stk = As.reverse ++ st) (hn : As.length = np) (hw : (st.map fun v => v.category).sum ≤ 8) (hrm : RMk M M') (hz : CZ M') (hc : k ≤ (mM M).cells ∧ n ≤ (mM M).slots)
    (kk : ∀ (r : Int64) (hp' : HPt), Q r hp' → PZ l X Z M (pc + 3) lv (.long r :: st) hp' k n) : PZ l X Z M pc lv stk hp k n :=
  R_callS hm hlk hsp hd hst hn hw hrm (by rw [hz.1, hz.2]; exact hc) (fun v hp' ⟨r, hv, hq⟩ => by rw [hz.1, hz.2, hv]; exact kk r hp' hq)
theorem R_statv {M' : MT} {np idx : Nat} {As stk : List Value} {Q : HPt → Prop} (hm : MS M' np) (hlk : MLk (mY M).cls idx (mY M')) (hsp : SpV l X M' As hp Q)
    (hd : DC M pc (.invokestatic idx) 3) (hst : stk = As.reverse ++ st) (hn : As.length = np) (hw : (st.map fun v => v.category).sum ≤ 8) (hrm : RMk M M') (hz : CZ M') (hc : k ≤ (mM M).cells ∧ n ≤ (mM M).slots)
    (kk : ∀ (hp' : HPt), Q hp' → PZ l X Z M (pc + 3) lv st hp' k n) : PZ l X Z M pc lv stk hp k n :=
  R_callS hm hlk hsp hd hst hn hw hrm (by rw [hz.1, hz.2]; exact hc) (fun v hp' ⟨hv, hq⟩ => by rw [hz.1, hz.2, hv]; exact kk hp' hq)
/-! Nat's words -/
theorem N_iadd {a b : Nat} (hd : DC M pc .iadd 1) (kk : PZ l X Z M (pc + 1) lv (.int (nI (a + b)) :: st) hp k n) : PZ l X Z M pc lv (.int (nI b) :: .int (nI a) :: st) hp k n := R_iadd hd (by rw [nI_add]; exact kk)
theorem N_isub {a b : Nat} (hd : DC M pc .isub 1) (h : b ≤ a) (kk : PZ l X Z M (pc + 1) lv (.int (nI (a - b)) :: st) hp k n) : PZ l X Z M pc lv (.int (nI b) :: .int (nI a) :: st) hp k n := R_isub hd (by rw [pk_sub h]; exact kk)
theorem N_imul {a b : Nat} (hd : DC M pc .imul 1) (kk : PZ l X Z M (pc + 1) lv (.int (nI (a * b)) :: st) hp k n) : PZ l X Z M pc lv (.int (nI b) :: .int (nI a) :: st) hp k n := R_imul hd (by rw [pk_mul]; exact kk)
theorem nI_ne {b : Nat} (h0 : 0 < b) (hb : b < 2 ^ 31) : ¬ nI b = 0 := nI_ne0 h0 hb
theorem N_idiv {a b : Nat} (hd : DC M pc .idiv 1) (ha : a < 2 ^ 31) (h0 : 0 < b) (hb : b < 2 ^ 31) (kk : PZ l X Z M (pc + 1) lv (.int (nI (a / b)) :: st) hp k n) : PZ l X Z M pc lv (.int (nI b) :: .int (nI a) :: st) hp k n := R_idiv hd (nI_ne0 h0 hb) (by rw [pk_div ha h0 hb]; exact kk)
theorem N_irem {a b : Nat} (hd : DC M pc .irem 1) (ha : a < 2 ^ 31) (h0 : 0 < b) (hb : b < 2 ^ 31) (kk : PZ l X Z M (pc + 1) lv (.int (nI (a % b)) :: st) hp k n) : PZ l X Z M pc lv (.int (nI b) :: .int (nI a) :: st) hp k n := R_irem hd (nI_ne0 h0 hb) (by rw [pk_rem ha h0 hb]; exact kk)
theorem N_iinc {i d a : Nat} (hd : DC M pc (.iinc i (d : Int)) 3) (hx : lv[i]? = some (some (.int (nI a)))) (hv : lput lv i (.int (nI (a + d))) = lv') (kk : PZ l X Z M (pc + 3) lv' st hp k n) : PZ l X Z M pc lv st hp k n :=
  R_iinc hd hx (by rw [show Int32.ofInt (d : Int) = nI d from by unfold nI; exact Int32.ofInt_eq_ofNat]; exact nI_add a d) hv kk
theorem N_icmp_lt {a b : Nat} {off : Int} {tgt : Nat} (hd : DC M pc (.if_icmp .lt off) 3) (ht : (pc : Int) + off = (tgt : Int)) (ha : a < 2 ^ 31) (hb : b < 2 ^ 31) (kt : a < b → PZ l X Z M tgt lv st hp k n) (kf : b ≤ a → PZ l X Z M (pc + 3) lv st hp k n) : PZ l X Z M pc lv (.int (nI b) :: .int (nI a) :: st) hp k n :=
  R_icmp_lt hd ht (fun h => kt ((nI_ltI ha hb).mp h)) (fun h => kf (Nat.not_lt.mp (fun z => h ((nI_ltI ha hb).mpr z))))
theorem N_icmp_ge {a b : Nat} {off : Int} {tgt : Nat} (hd : DC M pc (.if_icmp .ge off) 3) (ht : (pc : Int) + off = (tgt : Int)) (ha : a < 2 ^ 31) (hb : b < 2 ^ 31) (kt : b ≤ a → PZ l X Z M tgt lv st hp k n) (kf : a < b → PZ l X Z M (pc + 3) lv st hp k n) : PZ l X Z M pc lv (.int (nI b) :: .int (nI a) :: st) hp k n :=
  R_icmp_ge hd ht (fun h => kt ((nI_leI hb ha).mp h)) (fun h => kf (Nat.not_le.mp (fun z => h ((nI_leI hb ha).mpr z))))
theorem N_icmp_gt {a b : Nat} {off : Int} {tgt : Nat} (hd : DC M pc (.if_icmp .gt off) 3) (ht : (pc : Int) + off = (tgt : Int)) (ha : a < 2 ^ 31) (hb : b < 2 ^ 31) (kt : b < a → PZ l X Z M tgt lv st hp k n) (kf : a ≤ b → PZ l X Z M (pc + 3) lv st hp k n) : PZ l X Z M pc lv (.int (nI b) :: .int (nI a) :: st) hp k n :=
  R_icmp_gt hd ht (fun h => kt ((nI_ltI hb ha).mp h)) (fun h => kf (Nat.not_lt.mp (fun z => h ((nI_ltI hb ha).mpr z))))
theorem N_icmp_le {a b : Nat} {off : Int} {tgt : Nat} (hd : DC M pc (.if_icmp .le off) 3) (ht : (pc : Int) + off = (tgt : Int)) (ha : a < 2 ^ 31) (hb : b < 2 ^ 31) (kt : a ≤ b → PZ l X Z M tgt lv st hp k n) (kf : b < a → PZ l X Z M (pc + 3) lv st hp k n) : PZ l X Z M pc lv (.int (nI b) :: .int (nI a) :: st) hp k n :=
  R_icmp_le hd ht (fun h => kt ((nI_leI ha hb).mp h)) (fun h => kf (Nat.not_le.mp (fun z => h ((nI_leI ha hb).mpr z))))
theorem N_icmp_eq {a b : Nat} {off : Int} {tgt : Nat} (hd : DC M pc (.if_icmp .eq off) 3) (ht : (pc : Int) + off = (tgt : Int)) (ha : a < 2 ^ 31) (hb : b < 2 ^ 31) (kt : a = b → PZ l X Z M tgt lv st hp k n) (kf : a ≠ b → PZ l X Z M (pc + 3) lv st hp k n) : PZ l X Z M pc lv (.int (nI b) :: .int (nI a) :: st) hp k n :=
  R_icmp_eq hd ht (fun h => kt ((nI_eq ha hb).mp h)) (fun h => kf (fun z => h ((nI_eq ha hb).mpr z)))
theorem N_icmp_ne {a b : Nat} {off : Int} {tgt : Nat} (hd : DC M pc (.if_icmp .ne off) 3) (ht : (pc : Int) + off = (tgt : Int)) (ha : a < 2 ^ 31) (hb : b < 2 ^ 31) (kt : a ≠ b → PZ l X Z M tgt lv st hp k n) (kf : a = b → PZ l X Z M (pc + 3) lv st hp k n) : PZ l X Z M pc lv (.int (nI b) :: .int (nI a) :: st) hp k n :=
  R_icmp_ne hd ht (fun h => kt (fun z => h ((nI_eq ha hb).mpr z))) (fun h => kf ((nI_eq ha hb).mp h))
theorem N_if_eq {a : Nat} {off : Int} {tgt : Nat} (hd : DC M pc (.ifCond .eq off) 3) (ht : (pc : Int) + off = (tgt : Int)) (ha : a < 2 ^ 31) (kt : a = 0 → PZ l X Z M tgt lv st hp k n) (kf : a ≠ 0 → PZ l X Z M (pc + 3) lv st hp k n) : PZ l X Z M pc lv (.int (nI a) :: st) hp k n :=
  R_if_eq hd ht (fun h => kt (by by_cases z : a = 0; exact z; exact absurd h (nI_ne0 (by omega) ha))) (fun h => kf (fun z => h (by rw [z]; rfl)))
theorem N_if_ne {a : Nat} {off : Int} {tgt : Nat} (hd : DC M pc (.ifCond .ne off) 3) (ht : (pc : Int) + off = (tgt : Int)) (ha : a < 2 ^ 31) (kt : a ≠ 0 → PZ l X Z M tgt lv st hp k n) (kf : a = 0 → PZ l X Z M (pc + 3) lv st hp k n) : PZ l X Z M pc lv (.int (nI a) :: st) hp k n :=
  R_if_ne hd ht (fun h => kt (fun z => h (by rw [z]; rfl))) (fun h => kf (by by_cases z : a = 0; exact z; exact absurd h (nI_ne0 (by omega) ha)))
theorem N_iald {h N j : Nat} {f : Nat → Int32} {y : Int32} (hd : DC M pc .iaload 1) (hh : hp[h]? = some (ia N f)) (hj : j < N) (hN : N < 2 ^ 31) (hy : f j = y) (kk : PZ l X Z M (pc + 1) lv (.int y :: st) hp k n) : PZ l X Z M pc lv (.int (nI j) :: .ref h :: st) hp k n :=
  R_iaload hd hh (vp_in_nI hj hN) (by rw [nI_clamp (by omega), hy]; exact kk)
theorem N_bald {h N j : Nat} {f : Nat → Int32} {y : Int32} (hd : DC M pc .baload 1) (hh : hp[h]? = some (za N f)) (hj : j < N) (hN : N < 2 ^ 31) (hy : f j = y) (kk : PZ l X Z M (pc + 1) lv (.int y :: st) hp k n) : PZ l X Z M pc lv (.int (nI j) :: .ref h :: st) hp k n :=
  R_baload hd hh (vp_in_nI hj hN) (by rw [nI_clamp (by omega), hy]; exact kk)
theorem N_iast {h N j : Nat} {f : Nat → Int32} {x : Int32} (hd : DC M pc .iastore 1) (hh : hp[h]? = some (ia N f)) (hj : j < N) (hN : N < 2 ^ 31) (kk : PZ l X Z M (pc + 1) lv st (hp.set h (ia N (upd f j x))) k n) : PZ l X Z M pc lv (.int x :: .int (nI j) :: .ref h :: st) hp k n :=
  R_iastore hd hh (vp_in_nI hj hN) (by rw [nI_clamp (by omega)]; exact kk)
theorem N_bast {h N j : Nat} {f : Nat → Int32} {x : Int32} (hd : DC M pc .bastore 1) (hh : hp[h]? = some (za N f)) (hj : j < N) (hN : N < 2 ^ 31) (hx : vp_nar .boolean x = x) (kk : PZ l X Z M (pc + 1) lv st (hp.set h (za N (upd f j x))) k n) : PZ l X Z M pc lv (.int x :: .int (nI j) :: .ref h :: st) hp k n :=
  R_bastore hd hh (vp_in_nI hj hN) (by rw [nI_clamp (by omega), hx]; exact kk)
theorem N_aald {h N q j : Nat} {f : Nat → Option Nat} (hd : DC M pc .aaload 1) (hh : hp[h]? = some (qa N f)) (hj : j < N) (hN : N < 2 ^ 31) (hq : f j = some q) (kk : PZ l X Z M (pc + 1) lv (.ref q :: st) hp k n) : PZ l X Z M pc lv (.int (nI j) :: .ref h :: st) hp k n :=
  R_aaload hd hh (vp_in_nI hj hN) (by rw [nI_clamp (by omega)]; exact hq) kk
theorem N_aast {h N q j : Nat} {f : Nat → Option Nat} {fs : List Value} (hd : DC M pc .aastore 1) (hh : hp[h]? = some (qa N f)) (hj : j < N) (hN : N < 2 ^ 31) (hq : hp[q]? = some (.inr (8, fs))) (kk : PZ l X Z M (pc + 1) lv st (hp.set h (qa N (va_up f j (some q)))) k n) : PZ l X Z M pc lv (.ref q :: .int (nI j) :: .ref h :: st) hp k n :=
  R_aastore hd hh (vp_in_nI hj hN) hq (by rw [nI_clamp (by omega)]; exact kk)
theorem R_puti {idx ci j h : Nat} {fs : List Value} {v : Int32} (hd : DC M pc (.putfield idx) 3) (hf : FP (mY M).cls idx ci j .int) (hh : hp[h]? = some (.inr (ci, fs))) (hj' : j < fs.length) (kk : PZ l X Z M (pc + 3) lv st (hp.set h (.inr (ci, fs.set j (.int v)))) k n) : PZ l X Z M pc lv (.int v :: .ref h :: st) hp k n := R_putf hd hf hh hj' rfl rfl kk
theorem R_putl {idx ci j h : Nat} {fs : List Value} {v : Int64} (hd : DC M pc (.putfield idx) 3) (hf : FP (mY M).cls idx ci j .long) (hh : hp[h]? = some (.inr (ci, fs))) (hj' : j < fs.length) (kk : PZ l X Z M (pc + 3) lv st (hp.set h (.inr (ci, fs.set j (.long v)))) k n) : PZ l X Z M pc lv (.long v :: .ref h :: st) hp k n := R_putf hd hf hh hj' rfl rfl kk
theorem R_putz {idx ci j h : Nat} {fs : List Value} {v : Int32} (hd : DC M pc (.putfield idx) 3) (hf : FP (mY M).cls idx ci j .boolean) (hh : hp[h]? = some (.inr (ci, fs))) (hj' : j < fs.length) (hv : narrow .boolean (.int v) = .int v) (hv2 : fits .boolean (.int v) = true) (kk : PZ l X Z M (pc + 3) lv st (hp.set h (.inr (ci, fs.set j (.int v)))) k n) : PZ l X Z M pc lv (.int v :: .ref h :: st) hp k n := R_putf hd hf hh hj' hv hv2 kk
theorem R_jmp {pc' : Nat} {lv' : List (Option Value)} {st' : List Value} {hp' : HPt} {k' n' : Nat} (h1 : pc = pc') (h2 : lv = lv') (h3 : st = st') (h4 : hp = hp') (h5 : k = k') (h6 : n = n') (h : PZ l X Z M pc' lv' st' hp' k' n') : PZ l X Z M pc lv st hp k n := by
  subst h1; subst h2; subst h3; subst h4; subst h5; subst h6; exact h
theorem gs_same {hp : HPt} {i : Nat} {e e0 : PE} (h : hp[i]? = some e0) : (hp.set i e)[i]? = some e := by
  rw [List.getElem?_set_self (List.getElem?_eq_some_iff.mp h).1]
theorem gs_ne {hp : HPt} {i j : Nat} {e : PE} (h : i ≠ j) : (hp.set i e)[j]? = hp[j]? := List.getElem?_set_ne h
theorem gs_ss {hp : HPt} {i : Nat} {e e' : PE} : (hp.set i e).set i e' = hp.set i e' := List.set_set ..
theorem gs_id {hp : HPt} {i : Nat} {e : PE} (h : hp[i]? = some e) : hp.set i e = hp := by
  apply List.ext_getElem?
  intro j
  by_cases hj : i = j
  · subst hj; rw [gs_same h, h]
  · rw [gs_ne hj]
theorem kd_ne {hp : HPt} {i j : Nat} {a : Nat × vp_A} {b : Nat × List Value} (h1 : hp[i]? = some (.inl a)) (h2 : hp[j]? = some (.inr b)) : i ≠ j := fun e => by
  rw [e, h2] at h1; cases h1
end R2
end
section
theorem tg_in {w : Cond} (i : Nat) (h : lw_tbl[i]? = some w) (hw : tgw w = true) : w ∈ lw_tg := List.mem_filter.mpr ⟨List.mem_of_getElem? h, hw⟩
theorem kcX1 : KC 0 RX1 TX1 4 tyX1 := ⟨rfl, iX1, tyX1_ok, nmX1⟩
theorem kcX2 : KC 1 RX2 TX2 3 tyX2 := ⟨rfl, iX2, tyX2_ok, nmX2⟩
theorem kcX3 : KC 2 RX3 TX3 2 tyX3 := ⟨rfl, iX3, tyX3_ok, nmX3⟩
theorem kcX4 : KC 3 RX4 TX4 4 tyX4 := ⟨rfl, iX4, tyX4_ok, nmX4⟩
theorem kcX5 : KC 4 RX5 TX5 4 tyX5 := ⟨rfl, iX5, tyX5_ok, nmX5⟩
theorem kcX6 : KC 5 RX6 TX6 3 tyX6 := ⟨rfl, iX6, tyX6_ok, nmX6⟩
theorem kcX7 : KC 6 RX7 TX7 2 tyX7 := ⟨rfl, iX7, tyX7_ok, nmX7⟩
theorem kcX8 : KC 7 RX8 TX8 2 tyX8 := ⟨rfl, iX8, tyX8_ok, nmX8⟩
theorem kcX9 : KC 8 RX9 TX9 5 tyX9 := ⟨rfl, iX9, tyX9_ok, nmX9⟩
theorem kcX10 : KC 9 RX10 TX10 3 tyX10 := ⟨rfl, iX10, tyX10_ok, nmX10⟩
theorem kcX11 : KC 10 RX11 TX11 12 tyX11 := ⟨rfl, iX11, tyX11_ok, nmX11⟩
theorem kcX12 : KC 11 RX12 TX12 24 tyX12 := ⟨rfl, iX12, tyX12_ok, nmX12⟩
theorem pnJ0 : plainName RJ0 = true := by decide +kernel
theorem pnJ1 : plainName RJ1 = true := by decide +kernel
theorem pnJ11 : plainName RJ11 = true := by decide +kernel
theorem pnJ2 : plainName RJ2 = true := by decide +kernel
theorem pnJ3 : plainName RJ3 = true := by decide +kernel
theorem pnJ7 : plainName RJ7 = true := by decide +kernel
theorem pnL : plainName RL = true := by decide +kernel
theorem pnX0 : plainName RX0 = true := by decide +kernel
theorem pnX1 : plainName RX1 = true := by decide +kernel
theorem pnX10 : plainName RX10 = true := by decide +kernel
theorem pnX11 : plainName RX11 = true := by decide +kernel
theorem pnX12 : plainName RX12 = true := by decide +kernel
theorem pnX2 : plainName RX2 = true := by decide +kernel
theorem pnX3 : plainName RX3 = true := by decide +kernel
theorem pnX4 : plainName RX4 = true := by decide +kernel
theorem pnX5 : plainName RX5 = true := by decide +kernel
theorem pnX6 : plainName RX6 = true := by decide +kernel
theorem pnX7 : plainName RX7 = true := by decide +kernel
theorem pnX8 : plainName RX8 = true := by decide +kernel
theorem pnX9 : plainName RX9 = true := by decide +kernel
theorem gX9_9 : FG RX9 9 8 0 := ⟨RX9, TX9, 5, tyX9, kcX9, by decide, Or.inl (tg_in 64 (by decide +kernel) (by decide +kernel))⟩
theorem qX9_9 : FQ RX9 9 8 0 (.array .int) := ⟨RX9, TX9, 5, tyX9, kcX9, by decide, tg_in 64 (by decide +kernel) (by decide +kernel), rfl, rfl, rfl⟩
theorem gX9_15 : FG RX9 15 8 1 := ⟨RX9, TX9, 5, tyX9, kcX9, by decide, Or.inl (tg_in 65 (by decide +kernel) (by decide +kernel))⟩
theorem pX9_15 : FP RX9 15 8 1 (.int) := ⟨RX9, TX9, 5, tyX9, kcX9, by decide, Or.inl (tg_in 65 (by decide +kernel) (by decide +kernel)), rfl, rfl⟩
theorem gX6_30 : FG RX6 30 8 1 := ⟨RX9, TX9, 5, tyX9, kcX9, by decide, Or.inr ⟨"TeleprinterTape", tg_in 66 (by decide +kernel) (by decide +kernel)⟩⟩
theorem pX6_30 : FP RX6 30 8 1 (.int) := ⟨RX9, TX9, 5, tyX9, kcX9, by decide, Or.inr ⟨"TeleprinterTape", tg_in 66 (by decide +kernel) (by decide +kernel)⟩, rfl, rfl⟩
theorem gX10_27 : FG RX10 27 8 1 := ⟨RX9, TX9, 5, tyX9, kcX9, by decide, Or.inr ⟨"TeleprinterTape", tg_in 67 (by decide +kernel) (by decide +kernel)⟩⟩
theorem pX10_27 : FP RX10 27 8 1 (.int) := ⟨RX9, TX9, 5, tyX9, kcX9, by decide, Or.inr ⟨"TeleprinterTape", tg_in 67 (by decide +kernel) (by decide +kernel)⟩, rfl, rfl⟩
theorem gX11_101 : FG RX11 101 8 1 := ⟨RX9, TX9, 5, tyX9, kcX9, by decide, Or.inr ⟨"TeleprinterTape", tg_in 68 (by decide +kernel) (by decide +kernel)⟩⟩
theorem pX11_101 : FP RX11 101 8 1 (.int) := ⟨RX9, TX9, 5, tyX9, kcX9, by decide, Or.inr ⟨"TeleprinterTape", tg_in 68 (by decide +kernel) (by decide +kernel)⟩, rfl, rfl⟩
theorem gX3_33 : FG RX3 33 8 1 := ⟨RX9, TX9, 5, tyX9, kcX9, by decide, Or.inr ⟨"TeleprinterTape", tg_in 69 (by decide +kernel) (by decide +kernel)⟩⟩
theorem pX3_33 : FP RX3 33 8 1 (.int) := ⟨RX9, TX9, 5, tyX9, kcX9, by decide, Or.inr ⟨"TeleprinterTape", tg_in 69 (by decide +kernel) (by decide +kernel)⟩, rfl, rfl⟩
theorem gX9_19 : FG RX9 19 8 2 := ⟨RX9, TX9, 5, tyX9, kcX9, by decide, Or.inl (tg_in 70 (by decide +kernel) (by decide +kernel))⟩
theorem pX9_19 : FP RX9 19 8 2 (.int) := ⟨RX9, TX9, 5, tyX9, kcX9, by decide, Or.inl (tg_in 70 (by decide +kernel) (by decide +kernel)), rfl, rfl⟩
theorem gX10_22 : FG RX10 22 8 2 := ⟨RX9, TX9, 5, tyX9, kcX9, by decide, Or.inr ⟨"TeleprinterTape", tg_in 71 (by decide +kernel) (by decide +kernel)⟩⟩
theorem pX10_22 : FP RX10 22 8 2 (.int) := ⟨RX9, TX9, 5, tyX9, kcX9, by decide, Or.inr ⟨"TeleprinterTape", tg_in 71 (by decide +kernel) (by decide +kernel)⟩, rfl, rfl⟩
theorem gX1_24 : FG RX1 24 8 2 := ⟨RX9, TX9, 5, tyX9, kcX9, by decide, Or.inr ⟨"TeleprinterTape", tg_in 72 (by decide +kernel) (by decide +kernel)⟩⟩
theorem pX1_24 : FP RX1 24 8 2 (.int) := ⟨RX9, TX9, 5, tyX9, kcX9, by decide, Or.inr ⟨"TeleprinterTape", tg_in 72 (by decide +kernel) (by decide +kernel)⟩, rfl, rfl⟩
theorem gX6_40 : FG RX6 40 8 2 := ⟨RX9, TX9, 5, tyX9, kcX9, by decide, Or.inr ⟨"TeleprinterTape", tg_in 73 (by decide +kernel) (by decide +kernel)⟩⟩
theorem pX6_40 : FP RX6 40 8 2 (.int) := ⟨RX9, TX9, 5, tyX9, kcX9, by decide, Or.inr ⟨"TeleprinterTape", tg_in 73 (by decide +kernel) (by decide +kernel)⟩, rfl, rfl⟩
theorem gX7_63 : FG RX7 63 8 2 := ⟨RX9, TX9, 5, tyX9, kcX9, by decide, Or.inr ⟨"TeleprinterTape", tg_in 74 (by decide +kernel) (by decide +kernel)⟩⟩
theorem pX7_63 : FP RX7 63 8 2 (.int) := ⟨RX9, TX9, 5, tyX9, kcX9, by decide, Or.inr ⟨"TeleprinterTape", tg_in 74 (by decide +kernel) (by decide +kernel)⟩, rfl, rfl⟩
theorem gX11_173 : FG RX11 173 8 2 := ⟨RX9, TX9, 5, tyX9, kcX9, by decide, Or.inr ⟨"TeleprinterTape", tg_in 75 (by decide +kernel) (by decide +kernel)⟩⟩
theorem pX11_173 : FP RX11 173 8 2 (.int) := ⟨RX9, TX9, 5, tyX9, kcX9, by decide, Or.inr ⟨"TeleprinterTape", tg_in 75 (by decide +kernel) (by decide +kernel)⟩, rfl, rfl⟩
theorem gX9_22 : FG RX9 22 8 3 := ⟨RX9, TX9, 5, tyX9, kcX9, by decide, Or.inl (tg_in 76 (by decide +kernel) (by decide +kernel))⟩
theorem pX9_22 : FP RX9 22 8 3 (.int) := ⟨RX9, TX9, 5, tyX9, kcX9, by decide, Or.inl (tg_in 76 (by decide +kernel) (by decide +kernel)), rfl, rfl⟩
theorem gX6_47 : FG RX6 47 8 3 := ⟨RX9, TX9, 5, tyX9, kcX9, by decide, Or.inr ⟨"TeleprinterTape", tg_in 77 (by decide +kernel) (by decide +kernel)⟩⟩
theorem pX6_47 : FP RX6 47 8 3 (.int) := ⟨RX9, TX9, 5, tyX9, kcX9, by decide, Or.inr ⟨"TeleprinterTape", tg_in 77 (by decide +kernel) (by decide +kernel)⟩, rfl, rfl⟩
theorem gX7_60 : FG RX7 60 8 3 := ⟨RX9, TX9, 5, tyX9, kcX9, by decide, Or.inr ⟨"TeleprinterTape", tg_in 78 (by decide +kernel) (by decide +kernel)⟩⟩
theorem pX7_60 : FP RX7 60 8 3 (.int) := ⟨RX9, TX9, 5, tyX9, kcX9, by decide, Or.inr ⟨"TeleprinterTape", tg_in 78 (by decide +kernel) (by decide +kernel)⟩, rfl, rfl⟩
theorem gX11_176 : FG RX11 176 8 3 := ⟨RX9, TX9, 5, tyX9, kcX9, by decide, Or.inr ⟨"TeleprinterTape", tg_in 79 (by decide +kernel) (by decide +kernel)⟩⟩
theorem pX11_176 : FP RX11 176 8 3 (.int) := ⟨RX9, TX9, 5, tyX9, kcX9, by decide, Or.inr ⟨"TeleprinterTape", tg_in 79 (by decide +kernel) (by decide +kernel)⟩, rfl, rfl⟩
theorem gX9_25 : FG RX9 25 8 4 := ⟨RX9, TX9, 5, tyX9, kcX9, by decide, Or.inl (tg_in 80 (by decide +kernel) (by decide +kernel))⟩
theorem pX9_25 : FP RX9 25 8 4 (.int) := ⟨RX9, TX9, 5, tyX9, kcX9, by decide, Or.inl (tg_in 80 (by decide +kernel) (by decide +kernel)), rfl, rfl⟩
theorem gX11_142 : FG RX11 142 8 4 := ⟨RX9, TX9, 5, tyX9, kcX9, by decide, Or.inr ⟨"TeleprinterTape", tg_in 81 (by decide +kernel) (by decide +kernel)⟩⟩
theorem pX11_142 : FP RX11 142 8 4 (.int) := ⟨RX9, TX9, 5, tyX9, kcX9, by decide, Or.inr ⟨"TeleprinterTape", tg_in 81 (by decide +kernel) (by decide +kernel)⟩, rfl, rfl⟩
theorem gX6_12 : FG RX6 12 5 0 := ⟨RX6, TX6, 3, tyX6, kcX6, by decide, Or.inl (tg_in 102 (by decide +kernel) (by decide +kernel))⟩
theorem qX6_12 : FQ RX6 12 5 0 (.object "TeleprinterTape$Tape") := ⟨RX6, TX6, 3, tyX6, kcX6, by decide, tg_in 102 (by decide +kernel) (by decide +kernel), rfl, rfl, rfl⟩
theorem gX11_251 : FG RX11 251 5 0 := ⟨RX6, TX6, 3, tyX6, kcX6, by decide, Or.inr ⟨"TeleprinterTape", tg_in 103 (by decide +kernel) (by decide +kernel)⟩⟩
theorem gX6_18 : FG RX6 18 5 1 := ⟨RX6, TX6, 3, tyX6, kcX6, by decide, Or.inl (tg_in 104 (by decide +kernel) (by decide +kernel))⟩
theorem pX6_18 : FP RX6 18 5 1 (.int) := ⟨RX6, TX6, 3, tyX6, kcX6, by decide, Or.inl (tg_in 104 (by decide +kernel) (by decide +kernel)), rfl, rfl⟩
theorem gX6_22 : FG RX6 22 5 2 := ⟨RX6, TX6, 3, tyX6, kcX6, by decide, Or.inl (tg_in 105 (by decide +kernel) (by decide +kernel))⟩
theorem pX6_22 : FP RX6 22 5 2 (.boolean) := ⟨RX6, TX6, 3, tyX6, kcX6, by decide, Or.inl (tg_in 105 (by decide +kernel) (by decide +kernel)), rfl, rfl⟩
theorem gX11_247 : FG RX11 247 5 2 := ⟨RX6, TX6, 3, tyX6, kcX6, by decide, Or.inr ⟨"TeleprinterTape", tg_in 106 (by decide +kernel) (by decide +kernel)⟩⟩
theorem pX11_247 : FP RX11 247 5 2 (.boolean) := ⟨RX6, TX6, 3, tyX6, kcX6, by decide, Or.inr ⟨"TeleprinterTape", tg_in 106 (by decide +kernel) (by decide +kernel)⟩, rfl, rfl⟩
theorem gX3_9 : FG RX3 9 2 0 := ⟨RX3, TX3, 2, tyX3, kcX3, by decide, Or.inl (tg_in 120 (by decide +kernel) (by decide +kernel))⟩
theorem qX3_9 : FQ RX3 9 2 0 (.array .int) := ⟨RX3, TX3, 2, tyX3, kcX3, by decide, tg_in 120 (by decide +kernel) (by decide +kernel), rfl, rfl, rfl⟩
theorem gX3_15 : FG RX3 15 2 1 := ⟨RX3, TX3, 2, tyX3, kcX3, by decide, Or.inl (tg_in 121 (by decide +kernel) (by decide +kernel))⟩
theorem pX3_15 : FP RX3 15 2 1 (.int) := ⟨RX3, TX3, 2, tyX3, kcX3, by decide, Or.inl (tg_in 121 (by decide +kernel) (by decide +kernel)), rfl, rfl⟩
theorem gX11_93 : FG RX11 93 2 1 := ⟨RX3, TX3, 2, tyX3, kcX3, by decide, Or.inr ⟨"TeleprinterTape", tg_in 122 (by decide +kernel) (by decide +kernel)⟩⟩
theorem pX11_93 : FP RX11 93 2 1 (.int) := ⟨RX3, TX3, 2, tyX3, kcX3, by decide, Or.inr ⟨"TeleprinterTape", tg_in 122 (by decide +kernel) (by decide +kernel)⟩, rfl, rfl⟩
theorem gX6_72 : FG RX6 72 2 1 := ⟨RX3, TX3, 2, tyX3, kcX3, by decide, Or.inr ⟨"TeleprinterTape", tg_in 123 (by decide +kernel) (by decide +kernel)⟩⟩
theorem pX6_72 : FP RX6 72 2 1 (.int) := ⟨RX3, TX3, 2, tyX3, kcX3, by decide, Or.inr ⟨"TeleprinterTape", tg_in 123 (by decide +kernel) (by decide +kernel)⟩, rfl, rfl⟩
theorem gX2_11 : FG RX2 11 1 0 := ⟨RX2, TX2, 3, tyX2, kcX2, by decide, Or.inl (tg_in 138 (by decide +kernel) (by decide +kernel))⟩
theorem qX2_11 : FQ RX2 11 1 0 (.array (.object "TeleprinterTape$Tape")) := ⟨RX2, TX2, 3, tyX2, kcX2, by decide, tg_in 138 (by decide +kernel) (by decide +kernel), rfl, rfl, rfl⟩
theorem gX2_17 : FG RX2 17 1 1 := ⟨RX2, TX2, 3, tyX2, kcX2, by decide, Or.inl (tg_in 139 (by decide +kernel) (by decide +kernel))⟩
theorem pX2_17 : FP RX2 17 1 1 (.int) := ⟨RX2, TX2, 3, tyX2, kcX2, by decide, Or.inl (tg_in 139 (by decide +kernel) (by decide +kernel)), rfl, rfl⟩
theorem gX2_21 : FG RX2 21 1 2 := ⟨RX2, TX2, 3, tyX2, kcX2, by decide, Or.inl (tg_in 140 (by decide +kernel) (by decide +kernel))⟩
theorem pX2_21 : FP RX2 21 1 2 (.int) := ⟨RX2, TX2, 3, tyX2, kcX2, by decide, Or.inl (tg_in 140 (by decide +kernel) (by decide +kernel)), rfl, rfl⟩
theorem gX11_183 : FG RX11 183 1 2 := ⟨RX2, TX2, 3, tyX2, kcX2, by decide, Or.inr ⟨"TeleprinterTape", tg_in 141 (by decide +kernel) (by decide +kernel)⟩⟩
theorem pX11_183 : FP RX11 183 1 2 (.int) := ⟨RX2, TX2, 3, tyX2, kcX2, by decide, Or.inr ⟨"TeleprinterTape", tg_in 141 (by decide +kernel) (by decide +kernel)⟩, rfl, rfl⟩
theorem gX8_11 : FG RX8 11 7 0 := ⟨RX8, TX8, 2, tyX8, kcX8, by decide, Or.inl (tg_in 157 (by decide +kernel) (by decide +kernel))⟩
theorem qX8_11 : FQ RX8 11 7 0 (.array (.object "TeleprinterTape$Tape")) := ⟨RX8, TX8, 2, tyX8, kcX8, by decide, tg_in 157 (by decide +kernel) (by decide +kernel), rfl, rfl, rfl⟩
theorem gX8_17 : FG RX8 17 7 1 := ⟨RX8, TX8, 2, tyX8, kcX8, by decide, Or.inl (tg_in 158 (by decide +kernel) (by decide +kernel))⟩
theorem qX8_17 : FQ RX8 17 7 1 (.array .boolean) := ⟨RX8, TX8, 2, tyX8, kcX8, by decide, tg_in 158 (by decide +kernel) (by decide +kernel), rfl, rfl, rfl⟩
theorem gX10_9 : FG RX10 9 9 0 := ⟨RX10, TX10, 3, tyX10, kcX10, by decide, Or.inl (tg_in 171 (by decide +kernel) (by decide +kernel))⟩
theorem qX10_9 : FQ RX10 9 9 0 (.array .int) := ⟨RX10, TX10, 3, tyX10, kcX10, by decide, tg_in 171 (by decide +kernel) (by decide +kernel), rfl, rfl, rfl⟩
theorem gX10_15 : FG RX10 15 9 1 := ⟨RX10, TX10, 3, tyX10, kcX10, by decide, Or.inl (tg_in 172 (by decide +kernel) (by decide +kernel))⟩
theorem qX10_15 : FQ RX10 15 9 1 (.array .int) := ⟨RX10, TX10, 3, tyX10, kcX10, by decide, tg_in 172 (by decide +kernel) (by decide +kernel), rfl, rfl, rfl⟩
theorem gX10_18 : FG RX10 18 9 2 := ⟨RX10, TX10, 3, tyX10, kcX10, by decide, Or.inl (tg_in 173 (by decide +kernel) (by decide +kernel))⟩
theorem pX10_18 : FP RX10 18 9 2 (.int) := ⟨RX10, TX10, 3, tyX10, kcX10, by decide, Or.inl (tg_in 173 (by decide +kernel) (by decide +kernel)), rfl, rfl⟩
theorem gX5_31 : FG RX5 31 9 2 := ⟨RX10, TX10, 3, tyX10, kcX10, by decide, Or.inr ⟨"TeleprinterTape", tg_in 174 (by decide +kernel) (by decide +kernel)⟩⟩
theorem pX5_31 : FP RX5 31 9 2 (.int) := ⟨RX10, TX10, 3, tyX10, kcX10, by decide, Or.inr ⟨"TeleprinterTape", tg_in 174 (by decide +kernel) (by decide +kernel)⟩, rfl, rfl⟩
theorem gX7_50 : FG RX7 50 9 2 := ⟨RX10, TX10, 3, tyX10, kcX10, by decide, Or.inr ⟨"TeleprinterTape", tg_in 175 (by decide +kernel) (by decide +kernel)⟩⟩
theorem pX7_50 : FP RX7 50 9 2 (.int) := ⟨RX10, TX10, 3, tyX10, kcX10, by decide, Or.inr ⟨"TeleprinterTape", tg_in 175 (by decide +kernel) (by decide +kernel)⟩, rfl, rfl⟩
theorem gX11_116 : FG RX11 116 9 2 := ⟨RX10, TX10, 3, tyX10, kcX10, by decide, Or.inr ⟨"TeleprinterTape", tg_in 176 (by decide +kernel) (by decide +kernel)⟩⟩
theorem pX11_116 : FP RX11 116 9 2 (.int) := ⟨RX10, TX10, 3, tyX10, kcX10, by decide, Or.inr ⟨"TeleprinterTape", tg_in 176 (by decide +kernel) (by decide +kernel)⟩, rfl, rfl⟩
theorem gX5_11 : FG RX5 11 4 0 := ⟨RX5, TX5, 4, tyX5, kcX5, by decide, Or.inl (tg_in 190 (by decide +kernel) (by decide +kernel))⟩
theorem qX5_11 : FQ RX5 11 4 0 (.array .int) := ⟨RX5, TX5, 4, tyX5, kcX5, by decide, tg_in 190 (by decide +kernel) (by decide +kernel), rfl, rfl, rfl⟩
theorem gX5_15 : FG RX5 15 4 1 := ⟨RX5, TX5, 4, tyX5, kcX5, by decide, Or.inl (tg_in 191 (by decide +kernel) (by decide +kernel))⟩
theorem pX5_15 : FP RX5 15 4 1 (.int) := ⟨RX5, TX5, 4, tyX5, kcX5, by decide, Or.inl (tg_in 191 (by decide +kernel) (by decide +kernel)), rfl, rfl⟩
theorem gX5_19 : FG RX5 19 4 2 := ⟨RX5, TX5, 4, tyX5, kcX5, by decide, Or.inl (tg_in 192 (by decide +kernel) (by decide +kernel))⟩
theorem pX5_19 : FP RX5 19 4 2 (.int) := ⟨RX5, TX5, 4, tyX5, kcX5, by decide, Or.inl (tg_in 192 (by decide +kernel) (by decide +kernel)), rfl, rfl⟩
theorem gX5_22 : FG RX5 22 4 3 := ⟨RX5, TX5, 4, tyX5, kcX5, by decide, Or.inl (tg_in 193 (by decide +kernel) (by decide +kernel))⟩
theorem pX5_22 : FP RX5 22 4 3 (.int) := ⟨RX5, TX5, 4, tyX5, kcX5, by decide, Or.inl (tg_in 193 (by decide +kernel) (by decide +kernel)), rfl, rfl⟩
theorem gX11_190 : FG RX11 190 4 3 := ⟨RX5, TX5, 4, tyX5, kcX5, by decide, Or.inr ⟨"TeleprinterTape", tg_in 194 (by decide +kernel) (by decide +kernel)⟩⟩
theorem pX11_190 : FP RX11 190 4 3 (.int) := ⟨RX5, TX5, 4, tyX5, kcX5, by decide, Or.inr ⟨"TeleprinterTape", tg_in 194 (by decide +kernel) (by decide +kernel)⟩, rfl, rfl⟩
theorem gX4_9 : FG RX4 9 3 0 := ⟨RX4, TX4, 4, tyX4, kcX4, by decide, Or.inl (tg_in 210 (by decide +kernel) (by decide +kernel))⟩
theorem qX4_9 : FQ RX4 9 3 0 (.array .int) := ⟨RX4, TX4, 4, tyX4, kcX4, by decide, tg_in 210 (by decide +kernel) (by decide +kernel), rfl, rfl, rfl⟩
theorem gX4_15 : FG RX4 15 3 1 := ⟨RX4, TX4, 4, tyX4, kcX4, by decide, Or.inl (tg_in 211 (by decide +kernel) (by decide +kernel))⟩
theorem qX4_15 : FQ RX4 15 3 1 (.array .int) := ⟨RX4, TX4, 4, tyX4, kcX4, by decide, tg_in 211 (by decide +kernel) (by decide +kernel), rfl, rfl, rfl⟩
theorem gX4_18 : FG RX4 18 3 2 := ⟨RX4, TX4, 4, tyX4, kcX4, by decide, Or.inl (tg_in 212 (by decide +kernel) (by decide +kernel))⟩
theorem pX4_18 : FP RX4 18 3 2 (.int) := ⟨RX4, TX4, 4, tyX4, kcX4, by decide, Or.inl (tg_in 212 (by decide +kernel) (by decide +kernel)), rfl, rfl⟩
theorem gX4_22 : FG RX4 22 3 3 := ⟨RX4, TX4, 4, tyX4, kcX4, by decide, Or.inl (tg_in 213 (by decide +kernel) (by decide +kernel))⟩
theorem pX4_22 : FP RX4 22 3 3 (.int) := ⟨RX4, TX4, 4, tyX4, kcX4, by decide, Or.inl (tg_in 213 (by decide +kernel) (by decide +kernel)), rfl, rfl⟩
theorem gX11_224 : FG RX11 224 3 3 := ⟨RX4, TX4, 4, tyX4, kcX4, by decide, Or.inr ⟨"TeleprinterTape", tg_in 214 (by decide +kernel) (by decide +kernel)⟩⟩
theorem pX11_224 : FP RX11 224 3 3 (.int) := ⟨RX4, TX4, 4, tyX4, kcX4, by decide, Or.inr ⟨"TeleprinterTape", tg_in 214 (by decide +kernel) (by decide +kernel)⟩, rfl, rfl⟩
theorem gX1_9 : FG RX1 9 0 0 := ⟨RX1, TX1, 4, tyX1, kcX1, by decide, Or.inl (tg_in 230 (by decide +kernel) (by decide +kernel))⟩
theorem pX1_9 : FP RX1 9 0 0 (.long) := ⟨RX1, TX1, 4, tyX1, kcX1, by decide, Or.inl (tg_in 230 (by decide +kernel) (by decide +kernel)), rfl, rfl⟩
theorem gX11_206 : FG RX11 206 0 0 := ⟨RX1, TX1, 4, tyX1, kcX1, by decide, Or.inr ⟨"TeleprinterTape", tg_in 231 (by decide +kernel) (by decide +kernel)⟩⟩
theorem pX11_206 : FP RX11 206 0 0 (.long) := ⟨RX1, TX1, 4, tyX1, kcX1, by decide, Or.inr ⟨"TeleprinterTape", tg_in 231 (by decide +kernel) (by decide +kernel)⟩, rfl, rfl⟩
theorem gX1_15 : FG RX1 15 0 1 := ⟨RX1, TX1, 4, tyX1, kcX1, by decide, Or.inl (tg_in 232 (by decide +kernel) (by decide +kernel))⟩
theorem pX1_15 : FP RX1 15 0 1 (.long) := ⟨RX1, TX1, 4, tyX1, kcX1, by decide, Or.inl (tg_in 232 (by decide +kernel) (by decide +kernel)), rfl, rfl⟩
theorem gX11_210 : FG RX11 210 0 1 := ⟨RX1, TX1, 4, tyX1, kcX1, by decide, Or.inr ⟨"TeleprinterTape", tg_in 233 (by decide +kernel) (by decide +kernel)⟩⟩
theorem pX11_210 : FP RX11 210 0 1 (.long) := ⟨RX1, TX1, 4, tyX1, kcX1, by decide, Or.inr ⟨"TeleprinterTape", tg_in 233 (by decide +kernel) (by decide +kernel)⟩, rfl, rfl⟩
theorem gX1_18 : FG RX1 18 0 2 := ⟨RX1, TX1, 4, tyX1, kcX1, by decide, Or.inl (tg_in 234 (by decide +kernel) (by decide +kernel))⟩
theorem pX1_18 : FP RX1 18 0 2 (.long) := ⟨RX1, TX1, 4, tyX1, kcX1, by decide, Or.inl (tg_in 234 (by decide +kernel) (by decide +kernel)), rfl, rfl⟩
theorem gX1_21 : FG RX1 21 0 3 := ⟨RX1, TX1, 4, tyX1, kcX1, by decide, Or.inl (tg_in 235 (by decide +kernel) (by decide +kernel))⟩
theorem pX1_21 : FP RX1 21 0 3 (.long) := ⟨RX1, TX1, 4, tyX1, kcX1, by decide, Or.inl (tg_in 235 (by decide +kernel) (by decide +kernel)), rfl, rfl⟩
theorem gX7_9 : FG RX7 9 6 0 := ⟨RX7, TX7, 2, tyX7, kcX7, by decide, Or.inl (tg_in 251 (by decide +kernel) (by decide +kernel))⟩
theorem qX7_9 : FQ RX7 9 6 0 (.array .int) := ⟨RX7, TX7, 2, tyX7, kcX7, by decide, tg_in 251 (by decide +kernel) (by decide +kernel), rfl, rfl, rfl⟩
theorem gX7_15 : FG RX7 15 6 1 := ⟨RX7, TX7, 2, tyX7, kcX7, by decide, Or.inl (tg_in 252 (by decide +kernel) (by decide +kernel))⟩
theorem pX7_15 : FP RX7 15 6 1 (.int) := ⟨RX7, TX7, 2, tyX7, kcX7, by decide, Or.inl (tg_in 252 (by decide +kernel) (by decide +kernel)), rfl, rfl⟩
theorem gX11_10 : FG RX11 10 10 0 := ⟨RX11, TX11, 12, tyX11, kcX11, by decide, Or.inl (tg_in 258 (by decide +kernel) (by decide +kernel))⟩
theorem qX11_10 : FQ RX11 10 10 0 (.object "TeleprinterTape$Tape") := ⟨RX11, TX11, 12, tyX11, kcX11, by decide, tg_in 258 (by decide +kernel) (by decide +kernel), rfl, rfl, rfl⟩
theorem gX11_16 : FG RX11 16 10 1 := ⟨RX11, TX11, 12, tyX11, kcX11, by decide, Or.inl (tg_in 259 (by decide +kernel) (by decide +kernel))⟩
theorem qX11_16 : FQ RX11 16 10 1 (.object "TeleprinterTape$Tape") := ⟨RX11, TX11, 12, tyX11, kcX11, by decide, tg_in 259 (by decide +kernel) (by decide +kernel), rfl, rfl, rfl⟩
theorem gX11_22 : FG RX11 22 10 2 := ⟨RX11, TX11, 12, tyX11, kcX11, by decide, Or.inl (tg_in 260 (by decide +kernel) (by decide +kernel))⟩
theorem qX11_22 : FQ RX11 22 10 2 (.object "TeleprinterTape$Puncher") := ⟨RX11, TX11, 12, tyX11, kcX11, by decide, tg_in 260 (by decide +kernel) (by decide +kernel), rfl, rfl, rfl⟩
theorem gX11_29 : FG RX11 29 10 3 := ⟨RX11, TX11, 12, tyX11, kcX11, by decide, Or.inl (tg_in 261 (by decide +kernel) (by decide +kernel))⟩
theorem qX11_29 : FQ RX11 29 10 3 (.object "TeleprinterTape$Message") := ⟨RX11, TX11, 12, tyX11, kcX11, by decide, tg_in 261 (by decide +kernel) (by decide +kernel), rfl, rfl, rfl⟩
theorem gX11_36 : FG RX11 36 10 4 := ⟨RX11, TX11, 12, tyX11, kcX11, by decide, Or.inl (tg_in 262 (by decide +kernel) (by decide +kernel))⟩
theorem qX11_36 : FQ RX11 36 10 4 (.object "TeleprinterTape$History") := ⟨RX11, TX11, 12, tyX11, kcX11, by decide, tg_in 262 (by decide +kernel) (by decide +kernel), rfl, rfl, rfl⟩
theorem gX11_43 : FG RX11 43 10 5 := ⟨RX11, TX11, 12, tyX11, kcX11, by decide, Or.inl (tg_in 263 (by decide +kernel) (by decide +kernel))⟩
theorem qX11_43 : FQ RX11 43 10 5 (.object "TeleprinterTape$Slots") := ⟨RX11, TX11, 12, tyX11, kcX11, by decide, tg_in 263 (by decide +kernel) (by decide +kernel), rfl, rfl, rfl⟩
theorem gX11_50 : FG RX11 50 10 6 := ⟨RX11, TX11, 12, tyX11, kcX11, by decide, Or.inl (tg_in 264 (by decide +kernel) (by decide +kernel))⟩
theorem qX11_50 : FQ RX11 50 10 6 (.object "TeleprinterTape$Text") := ⟨RX11, TX11, 12, tyX11, kcX11, by decide, tg_in 264 (by decide +kernel) (by decide +kernel), rfl, rfl, rfl⟩
theorem gX11_54 : FG RX11 54 10 7 := ⟨RX11, TX11, 12, tyX11, kcX11, by decide, Or.inl (tg_in 265 (by decide +kernel) (by decide +kernel))⟩
theorem qX11_54 : FQ RX11 54 10 7 (.object "TeleprinterTape$Text") := ⟨RX11, TX11, 12, tyX11, kcX11, by decide, tg_in 265 (by decide +kernel) (by decide +kernel), rfl, rfl, rfl⟩
theorem gX11_60 : FG RX11 60 10 8 := ⟨RX11, TX11, 12, tyX11, kcX11, by decide, Or.inl (tg_in 266 (by decide +kernel) (by decide +kernel))⟩
theorem qX11_60 : FQ RX11 60 10 8 (.object "TeleprinterTape$Page") := ⟨RX11, TX11, 12, tyX11, kcX11, by decide, tg_in 266 (by decide +kernel) (by decide +kernel), rfl, rfl, rfl⟩
theorem gX11_67 : FG RX11 67 10 9 := ⟨RX11, TX11, 12, tyX11, kcX11, by decide, Or.inl (tg_in 267 (by decide +kernel) (by decide +kernel))⟩
theorem qX11_67 : FQ RX11 67 10 9 (.object "TeleprinterTape$Observations") := ⟨RX11, TX11, 12, tyX11, kcX11, by decide, tg_in 267 (by decide +kernel) (by decide +kernel), rfl, rfl, rfl⟩
theorem gX11_74 : FG RX11 74 10 10 := ⟨RX11, TX11, 12, tyX11, kcX11, by decide, Or.inl (tg_in 268 (by decide +kernel) (by decide +kernel))⟩
theorem qX11_74 : FQ RX11 74 10 10 (.object "TeleprinterTape$Confidence") := ⟨RX11, TX11, 12, tyX11, kcX11, by decide, tg_in 268 (by decide +kernel) (by decide +kernel), rfl, rfl, rfl⟩
theorem gX11_81 : FG RX11 81 10 11 := ⟨RX11, TX11, 12, tyX11, kcX11, by decide, Or.inl (tg_in 269 (by decide +kernel) (by decide +kernel))⟩
theorem qX11_81 : FQ RX11 81 10 11 (.object "TeleprinterTape$Script") := ⟨RX11, TX11, 12, tyX11, kcX11, by decide, tg_in 269 (by decide +kernel) (by decide +kernel), rfl, rfl, rfl⟩
theorem gX12_7 : FG RX12 7 11 0 := ⟨RX12, TX12, 24, tyX12, kcX12, by decide, Or.inl (tg_in 863 (by decide +kernel) (by decide +kernel))⟩
theorem qX12_7 : FQ RX12 7 11 0 (.array .int) := ⟨RX12, TX12, 24, tyX12, kcX12, by decide, tg_in 863 (by decide +kernel) (by decide +kernel), rfl, rfl, rfl⟩
theorem gX12_92 : FG RX12 92 11 1 := ⟨RX12, TX12, 24, tyX12, kcX12, by decide, Or.inl (tg_in 864 (by decide +kernel) (by decide +kernel))⟩
theorem pX12_92 : FP RX12 92 11 1 (.int) := ⟨RX12, TX12, 24, tyX12, kcX12, by decide, Or.inl (tg_in 864 (by decide +kernel) (by decide +kernel)), rfl, rfl⟩
theorem gX12_13 : FG RX12 13 11 2 := ⟨RX12, TX12, 24, tyX12, kcX12, by decide, Or.inl (tg_in 865 (by decide +kernel) (by decide +kernel))⟩
theorem qX12_13 : FQ RX12 13 11 2 (.array .int) := ⟨RX12, TX12, 24, tyX12, kcX12, by decide, tg_in 865 (by decide +kernel) (by decide +kernel), rfl, rfl, rfl⟩
theorem gX12_16 : FG RX12 16 11 3 := ⟨RX12, TX12, 24, tyX12, kcX12, by decide, Or.inl (tg_in 866 (by decide +kernel) (by decide +kernel))⟩
theorem qX12_16 : FQ RX12 16 11 3 (.array .int) := ⟨RX12, TX12, 24, tyX12, kcX12, by decide, tg_in 866 (by decide +kernel) (by decide +kernel), rfl, rfl, rfl⟩
theorem gX12_19 : FG RX12 19 11 4 := ⟨RX12, TX12, 24, tyX12, kcX12, by decide, Or.inl (tg_in 867 (by decide +kernel) (by decide +kernel))⟩
theorem qX12_19 : FQ RX12 19 11 4 (.array .int) := ⟨RX12, TX12, 24, tyX12, kcX12, by decide, tg_in 867 (by decide +kernel) (by decide +kernel), rfl, rfl, rfl⟩
theorem gX12_109 : FG RX12 109 11 5 := ⟨RX12, TX12, 24, tyX12, kcX12, by decide, Or.inl (tg_in 868 (by decide +kernel) (by decide +kernel))⟩
theorem pX12_109 : FP RX12 109 11 5 (.int) := ⟨RX12, TX12, 24, tyX12, kcX12, by decide, Or.inl (tg_in 868 (by decide +kernel) (by decide +kernel)), rfl, rfl⟩
theorem gX12_106 : FG RX12 106 11 6 := ⟨RX12, TX12, 24, tyX12, kcX12, by decide, Or.inl (tg_in 869 (by decide +kernel) (by decide +kernel))⟩
theorem pX12_106 : FP RX12 106 11 6 (.int) := ⟨RX12, TX12, 24, tyX12, kcX12, by decide, Or.inl (tg_in 869 (by decide +kernel) (by decide +kernel)), rfl, rfl⟩
theorem gX12_22 : FG RX12 22 11 7 := ⟨RX12, TX12, 24, tyX12, kcX12, by decide, Or.inl (tg_in 870 (by decide +kernel) (by decide +kernel))⟩
theorem qX12_22 : FQ RX12 22 11 7 (.array .int) := ⟨RX12, TX12, 24, tyX12, kcX12, by decide, tg_in 870 (by decide +kernel) (by decide +kernel), rfl, rfl, rfl⟩
theorem gX12_25 : FG RX12 25 11 8 := ⟨RX12, TX12, 24, tyX12, kcX12, by decide, Or.inl (tg_in 871 (by decide +kernel) (by decide +kernel))⟩
theorem qX12_25 : FQ RX12 25 11 8 (.array .boolean) := ⟨RX12, TX12, 24, tyX12, kcX12, by decide, tg_in 871 (by decide +kernel) (by decide +kernel), rfl, rfl, rfl⟩
theorem gX12_29 : FG RX12 29 11 9 := ⟨RX12, TX12, 24, tyX12, kcX12, by decide, Or.inl (tg_in 872 (by decide +kernel) (by decide +kernel))⟩
theorem qX12_29 : FQ RX12 29 11 9 (.array .int) := ⟨RX12, TX12, 24, tyX12, kcX12, by decide, tg_in 872 (by decide +kernel) (by decide +kernel), rfl, rfl, rfl⟩
theorem gX12_32 : FG RX12 32 11 10 := ⟨RX12, TX12, 24, tyX12, kcX12, by decide, Or.inl (tg_in 873 (by decide +kernel) (by decide +kernel))⟩
theorem qX12_32 : FQ RX12 32 11 10 (.array .int) := ⟨RX12, TX12, 24, tyX12, kcX12, by decide, tg_in 873 (by decide +kernel) (by decide +kernel), rfl, rfl, rfl⟩
theorem gX12_210 : FG RX12 210 11 11 := ⟨RX12, TX12, 24, tyX12, kcX12, by decide, Or.inl (tg_in 874 (by decide +kernel) (by decide +kernel))⟩
theorem pX12_210 : FP RX12 210 11 11 (.int) := ⟨RX12, TX12, 24, tyX12, kcX12, by decide, Or.inl (tg_in 874 (by decide +kernel) (by decide +kernel)), rfl, rfl⟩
theorem gX12_207 : FG RX12 207 11 12 := ⟨RX12, TX12, 24, tyX12, kcX12, by decide, Or.inl (tg_in 875 (by decide +kernel) (by decide +kernel))⟩
theorem pX12_207 : FP RX12 207 11 12 (.int) := ⟨RX12, TX12, 24, tyX12, kcX12, by decide, Or.inl (tg_in 875 (by decide +kernel) (by decide +kernel)), rfl, rfl⟩
theorem gX12_35 : FG RX12 35 11 13 := ⟨RX12, TX12, 24, tyX12, kcX12, by decide, Or.inl (tg_in 876 (by decide +kernel) (by decide +kernel))⟩
theorem qX12_35 : FQ RX12 35 11 13 (.array .int) := ⟨RX12, TX12, 24, tyX12, kcX12, by decide, tg_in 876 (by decide +kernel) (by decide +kernel), rfl, rfl, rfl⟩
theorem gX12_38 : FG RX12 38 11 14 := ⟨RX12, TX12, 24, tyX12, kcX12, by decide, Or.inl (tg_in 877 (by decide +kernel) (by decide +kernel))⟩
theorem qX12_38 : FQ RX12 38 11 14 (.array .int) := ⟨RX12, TX12, 24, tyX12, kcX12, by decide, tg_in 877 (by decide +kernel) (by decide +kernel), rfl, rfl, rfl⟩
theorem gX12_41 : FG RX12 41 11 15 := ⟨RX12, TX12, 24, tyX12, kcX12, by decide, Or.inl (tg_in 878 (by decide +kernel) (by decide +kernel))⟩
theorem qX12_41 : FQ RX12 41 11 15 (.array .int) := ⟨RX12, TX12, 24, tyX12, kcX12, by decide, tg_in 878 (by decide +kernel) (by decide +kernel), rfl, rfl, rfl⟩
theorem gX12_44 : FG RX12 44 11 16 := ⟨RX12, TX12, 24, tyX12, kcX12, by decide, Or.inl (tg_in 879 (by decide +kernel) (by decide +kernel))⟩
theorem qX12_44 : FQ RX12 44 11 16 (.array .int) := ⟨RX12, TX12, 24, tyX12, kcX12, by decide, tg_in 879 (by decide +kernel) (by decide +kernel), rfl, rfl, rfl⟩
theorem gX12_47 : FG RX12 47 11 17 := ⟨RX12, TX12, 24, tyX12, kcX12, by decide, Or.inl (tg_in 880 (by decide +kernel) (by decide +kernel))⟩
theorem qX12_47 : FQ RX12 47 11 17 (.array .int) := ⟨RX12, TX12, 24, tyX12, kcX12, by decide, tg_in 880 (by decide +kernel) (by decide +kernel), rfl, rfl, rfl⟩
theorem gX12_83 : FG RX12 83 11 18 := ⟨RX12, TX12, 24, tyX12, kcX12, by decide, Or.inl (tg_in 881 (by decide +kernel) (by decide +kernel))⟩
theorem pX12_83 : FP RX12 83 11 18 (.int) := ⟨RX12, TX12, 24, tyX12, kcX12, by decide, Or.inl (tg_in 881 (by decide +kernel) (by decide +kernel)), rfl, rfl⟩
theorem gX12_50 : FG RX12 50 11 19 := ⟨RX12, TX12, 24, tyX12, kcX12, by decide, Or.inl (tg_in 882 (by decide +kernel) (by decide +kernel))⟩
theorem qX12_50 : FQ RX12 50 11 19 (.array .int) := ⟨RX12, TX12, 24, tyX12, kcX12, by decide, tg_in 882 (by decide +kernel) (by decide +kernel), rfl, rfl, rfl⟩
theorem gX12_87 : FG RX12 87 11 20 := ⟨RX12, TX12, 24, tyX12, kcX12, by decide, Or.inl (tg_in 883 (by decide +kernel) (by decide +kernel))⟩
theorem pX12_87 : FP RX12 87 11 20 (.int) := ⟨RX12, TX12, 24, tyX12, kcX12, by decide, Or.inl (tg_in 883 (by decide +kernel) (by decide +kernel)), rfl, rfl⟩
theorem gX12_53 : FG RX12 53 11 21 := ⟨RX12, TX12, 24, tyX12, kcX12, by decide, Or.inl (tg_in 884 (by decide +kernel) (by decide +kernel))⟩
theorem qX12_53 : FQ RX12 53 11 21 (.array .int) := ⟨RX12, TX12, 24, tyX12, kcX12, by decide, tg_in 884 (by decide +kernel) (by decide +kernel), rfl, rfl, rfl⟩
theorem gX12_163 : FG RX12 163 11 22 := ⟨RX12, TX12, 24, tyX12, kcX12, by decide, Or.inl (tg_in 885 (by decide +kernel) (by decide +kernel))⟩
theorem pX12_163 : FP RX12 163 11 22 (.int) := ⟨RX12, TX12, 24, tyX12, kcX12, by decide, Or.inl (tg_in 885 (by decide +kernel) (by decide +kernel)), rfl, rfl⟩
theorem gX12_56 : FG RX12 56 11 23 := ⟨RX12, TX12, 24, tyX12, kcX12, by decide, Or.inl (tg_in 886 (by decide +kernel) (by decide +kernel))⟩
theorem qX12_56 : FQ RX12 56 11 23 (.array .int) := ⟨RX12, TX12, 24, tyX12, kcX12, by decide, tg_in 886 (by decide +kernel) (by decide +kernel), rfl, rfl, rfl⟩
def mX0_dependsOnCase : MT := (yX0_dependsOnCase, cX0_dependsOnCase, 1, (some .boolean), { frames := 0, cells := 0, slots := 0, locals := 0 })
set_option maxRecDepth 100000 in
theorem eX0_dependsOnCase : Cond.code (mY mX0_dependsOnCase) (mB mX0_dependsOnCase) (mN mX0_dependsOnCase) (mR mX0_dependsOnCase) ∈ lw_tg := tg_in 456 rfl rfl
theorem kX0_dependsOnCase : MS mX0_dependsOnCase 1 := ⟨⟨eX0_dependsOnCase, tg_in 41 (by decide +kernel) (by decide +kernel), ⟨by decide +kernel, by decide +kernel⟩, by decide +kernel⟩, tg_in 455 (by decide +kernel) (by decide +kernel)⟩
theorem zX0_dependsOnCase : CZ mX0_dependsOnCase := ⟨rfl, rfl⟩
def mX0_isShift : MT := (yX0_isShift, cX0_isShift, 1, (some .boolean), { frames := 0, cells := 0, slots := 0, locals := 0 })
set_option maxRecDepth 100000 in
theorem eX0_isShift : Cond.code (mY mX0_isShift) (mB mX0_isShift) (mN mX0_isShift) (mR mX0_isShift) ∈ lw_tg := tg_in 627 rfl rfl
theorem kX0_isShift : MS mX0_isShift 1 := ⟨⟨eX0_isShift, tg_in 41 (by decide +kernel) (by decide +kernel), ⟨by decide +kernel, by decide +kernel⟩, by decide +kernel⟩, tg_in 626 (by decide +kernel) (by decide +kernel)⟩
theorem zX0_isShift : CZ mX0_isShift := ⟨rfl, rfl⟩
def mX0_shiftTo : MT := (yX0_shiftTo, cX0_shiftTo, 1, (some .int), { frames := 0, cells := 0, slots := 0, locals := 0 })
set_option maxRecDepth 100000 in
theorem eX0_shiftTo : Cond.code (mY mX0_shiftTo) (mB mX0_shiftTo) (mN mX0_shiftTo) (mR mX0_shiftTo) ∈ lw_tg := tg_in 555 rfl rfl
theorem kX0_shiftTo : MS mX0_shiftTo 1 := ⟨⟨eX0_shiftTo, tg_in 41 (by decide +kernel) (by decide +kernel), ⟨by decide +kernel, by decide +kernel⟩, by decide +kernel⟩, tg_in 554 (by decide +kernel) (by decide +kernel)⟩
theorem zX0_shiftTo : CZ mX0_shiftTo := ⟨rfl, rfl⟩
def mX0_caseAfter : MT := (yX0_caseAfter, cX0_caseAfter, 3, (some .int), { frames := 0, cells := 0, slots := 0, locals := 0 })
set_option maxRecDepth 100000 in
theorem eX0_caseAfter : Cond.code (mY mX0_caseAfter) (mB mX0_caseAfter) (mN mX0_caseAfter) (mR mX0_caseAfter) ∈ lw_tg := tg_in 441 rfl rfl
theorem kX0_caseAfter : MS mX0_caseAfter 3 := ⟨⟨eX0_caseAfter, tg_in 41 (by decide +kernel) (by decide +kernel), ⟨by decide +kernel, by decide +kernel⟩, by decide +kernel⟩, tg_in 440 (by decide +kernel) (by decide +kernel)⟩
theorem zX0_caseAfter : CZ mX0_caseAfter := ⟨rfl, rfl⟩
def mX0_printed : MT := (yX0_printed, cX0_printed, 2, (some .int), { frames := 4, cells := 0, slots := 0, locals := 85 })
set_option maxRecDepth 100000 in
theorem eX0_printed : Cond.code (mY mX0_printed) (mB mX0_printed) (mN mX0_printed) (mR mX0_printed) ∈ lw_tg := tg_in 453 rfl rfl
theorem kX0_printed : MS mX0_printed 2 := ⟨⟨eX0_printed, tg_in 41 (by decide +kernel) (by decide +kernel), ⟨by decide +kernel, by decide +kernel⟩, by decide +kernel⟩, tg_in 452 (by decide +kernel) (by decide +kernel)⟩
theorem zX0_printed : CZ mX0_printed := ⟨rfl, rfl⟩
def mX0_of : MT := (yX0_of, cX0_of, 2, (some .int), { frames := 4, cells := 0, slots := 0, locals := 91 })
set_option maxRecDepth 100000 in
theorem eX0_of : Cond.code (mY mX0_of) (mB mX0_of) (mN mX0_of) (mR mX0_of) ∈ lw_tg := tg_in 320 rfl rfl
theorem kX0_of : MS mX0_of 1 := ⟨⟨eX0_of, tg_in 41 (by decide +kernel) (by decide +kernel), ⟨by decide +kernel, by decide +kernel⟩, by decide +kernel⟩, tg_in 319 (by decide +kernel) (by decide +kernel)⟩
theorem zX0_of : CZ mX0_of := ⟨rfl, rfl⟩
def mX0_caseFor : MT := (yX0_caseFor, cX0_caseFor, 1, (some .int), { frames := 4, cells := 0, slots := 0, locals := 91 })
set_option maxRecDepth 100000 in
theorem eX0_caseFor : Cond.code (mY mX0_caseFor) (mB mX0_caseFor) (mN mX0_caseFor) (mR mX0_caseFor) ∈ lw_tg := tg_in 552 rfl rfl
theorem kX0_caseFor : MS mX0_caseFor 1 := ⟨⟨eX0_caseFor, tg_in 41 (by decide +kernel) (by decide +kernel), ⟨by decide +kernel, by decide +kernel⟩, by decide +kernel⟩, tg_in 551 (by decide +kernel) (by decide +kernel)⟩
theorem zX0_caseFor : CZ mX0_caseFor := ⟨rfl, rfl⟩
def mX1_init : MT := (yX1_init, cX1_init, 1, none, { frames := 1, cells := 0, slots := 0, locals := 24 })
set_option maxRecDepth 100000 in
theorem eX1_init : Cond.code (mY mX1_init) (mB mX1_init) (mN mX1_init) (mR mX1_init) ∈ lw_tg := tg_in 228 rfl rfl
theorem kX1_init : MI mX1_init 0 := ⟨⟨eX1_init, tg_in 38 (by decide +kernel) (by decide +kernel), ⟨by decide +kernel, by decide +kernel⟩, by decide +kernel⟩, tg_in 227 (by decide +kernel) (by decide +kernel), rfl, rfl⟩
theorem zX1_init : CZ mX1_init := ⟨rfl, rfl⟩
def mX1_reckon : MT := (yX1_reckon, cX1_reckon, 7, (some .boolean), { frames := 3, cells := 0, slots := 0, locals := 67 })
set_option maxRecDepth 100000 in
theorem eX1_reckon : Cond.code (mY mX1_reckon) (mB mX1_reckon) (mN mX1_reckon) (mR mX1_reckon) ∈ lw_tg := tg_in 740 rfl rfl
theorem kX1_reckon : MV mX1_reckon 3 := ⟨⟨eX1_reckon, tg_in 38 (by decide +kernel) (by decide +kernel), ⟨by decide +kernel, by decide +kernel⟩, by decide +kernel⟩, tg_in 738 (by decide +kernel) (by decide +kernel), tg_in 739 (by decide +kernel) (by decide +kernel)⟩
theorem zX1_reckon : CZ mX1_reckon := ⟨rfl, rfl⟩
def mX1_passShift : MT := (yX1_passShift, cX1_passShift, 3, none, { frames := 0, cells := 0, slots := 0, locals := 0 })
set_option maxRecDepth 100000 in
theorem eX1_passShift : Cond.code (mY mX1_passShift) (mB mX1_passShift) (mN mX1_passShift) (mR mX1_passShift) ∈ lw_tg := tg_in 746 rfl rfl
theorem kX1_passShift : MV mX1_passShift 2 := ⟨⟨eX1_passShift, tg_in 38 (by decide +kernel) (by decide +kernel), ⟨by decide +kernel, by decide +kernel⟩, by decide +kernel⟩, tg_in 745 (by decide +kernel) (by decide +kernel), tg_in 11 (by decide +kernel) (by decide +kernel)⟩
theorem zX1_passShift : CZ mX1_passShift := ⟨rfl, rfl⟩
def mX1_reduce : MT := (yX1_reduce, cX1_reduce, 2, none, { frames := 0, cells := 0, slots := 0, locals := 0 })
set_option maxRecDepth 100000 in
theorem eX1_reduce : Cond.code (mY mX1_reduce) (mB mX1_reduce) (mN mX1_reduce) (mR mX1_reduce) ∈ lw_tg := tg_in 753 rfl rfl
theorem kX1_reduce : MV mX1_reduce 0 := ⟨⟨eX1_reduce, tg_in 38 (by decide +kernel) (by decide +kernel), ⟨by decide +kernel, by decide +kernel⟩, by decide +kernel⟩, tg_in 752 (by decide +kernel) (by decide +kernel), tg_in 12 (by decide +kernel) (by decide +kernel)⟩
theorem zX1_reduce : CZ mX1_reduce := ⟨rfl, rfl⟩
def mX2_init : MT := (yX2_init, cX2_init, 2, none, { frames := 2, cells := 29, slots := 1428, locals := 44 })
set_option maxRecDepth 100000 in
theorem eX2_init : Cond.code (mY mX2_init) (mB mX2_init) (mN mX2_init) (mR mX2_init) ∈ lw_tg := tg_in 133 rfl rfl
theorem kX2_init : MI mX2_init 0 := ⟨⟨eX2_init, tg_in 33 (by decide +kernel) (by decide +kernel), ⟨by decide +kernel, by decide +kernel⟩, by decide +kernel⟩, tg_in 132 (by decide +kernel) (by decide +kernel), rfl, rfl⟩
def mX2_remember : MT := (yX2_remember, cX2_remember, 2, none, { frames := 2, cells := 0, slots := 0, locals := 61 })
set_option maxRecDepth 100000 in
theorem eX2_remember : Cond.code (mY mX2_remember) (mB mX2_remember) (mN mX2_remember) (mR mX2_remember) ∈ lw_tg := tg_in 502 rfl rfl
theorem kX2_remember : MV mX2_remember 1 := ⟨⟨eX2_remember, tg_in 33 (by decide +kernel) (by decide +kernel), ⟨by decide +kernel, by decide +kernel⟩, by decide +kernel⟩, tg_in 500 (by decide +kernel) (by decide +kernel), tg_in 501 (by decide +kernel) (by decide +kernel)⟩
theorem zX2_remember : CZ mX2_remember := ⟨rfl, rfl⟩
def mX2_bringBack : MT := (yX2_bringBack, cX2_bringBack, 2, (some .boolean), { frames := 2, cells := 0, slots := 0, locals := 61 })
set_option maxRecDepth 100000 in
theorem eX2_bringBack : Cond.code (mY mX2_bringBack) (mB mX2_bringBack) (mN mX2_bringBack) (mR mX2_bringBack) ∈ lw_tg := tg_in 676 rfl rfl
theorem kX2_bringBack : MV mX2_bringBack 1 := ⟨⟨eX2_bringBack, tg_in 33 (by decide +kernel) (by decide +kernel), ⟨by decide +kernel, by decide +kernel⟩, by decide +kernel⟩, tg_in 674 (by decide +kernel) (by decide +kernel), tg_in 675 (by decide +kernel) (by decide +kernel)⟩
theorem zX2_bringBack : CZ mX2_bringBack := ⟨rfl, rfl⟩
def mX2_forgetAll : MT := (yX2_forgetAll, cX2_forgetAll, 1, none, { frames := 0, cells := 0, slots := 0, locals := 0 })
set_option maxRecDepth 100000 in
theorem eX2_forgetAll : Cond.code (mY mX2_forgetAll) (mB mX2_forgetAll) (mN mX2_forgetAll) (mR mX2_forgetAll) ∈ lw_tg := tg_in 843 rfl rfl
theorem kX2_forgetAll : MV mX2_forgetAll 0 := ⟨⟨eX2_forgetAll, tg_in 33 (by decide +kernel) (by decide +kernel), ⟨by decide +kernel, by decide +kernel⟩, by decide +kernel⟩, tg_in 841 (by decide +kernel) (by decide +kernel), tg_in 842 (by decide +kernel) (by decide +kernel)⟩
theorem zX2_forgetAll : CZ mX2_forgetAll := ⟨rfl, rfl⟩
def mX3_init : MT := (yX3_init, cX3_init, 1, none, { frames := 1, cells := 1, slots := 60, locals := 24 })
set_option maxRecDepth 100000 in
theorem eX3_init : Cond.code (mY mX3_init) (mB mX3_init) (mN mX3_init) (mR mX3_init) ∈ lw_tg := tg_in 118 rfl rfl
theorem kX3_init : MI mX3_init 0 := ⟨⟨eX3_init, tg_in 32 (by decide +kernel) (by decide +kernel), ⟨by decide +kernel, by decide +kernel⟩, by decide +kernel⟩, tg_in 117 (by decide +kernel) (by decide +kernel), rfl, rfl⟩
def mX3_add : MT := (yX3_add, cX3_add, 2, (some .boolean), { frames := 0, cells := 0, slots := 0, locals := 0 })
set_option maxRecDepth 100000 in
theorem eX3_add : Cond.code (mY mX3_add) (mB mX3_add) (mN mX3_add) (mR mX3_add) ∈ lw_tg := tg_in 305 rfl rfl
theorem kX3_add : MV mX3_add 1 := ⟨⟨eX3_add, tg_in 32 (by decide +kernel) (by decide +kernel), ⟨by decide +kernel, by decide +kernel⟩, by decide +kernel⟩, tg_in 303 (by decide +kernel) (by decide +kernel), tg_in 304 (by decide +kernel) (by decide +kernel)⟩
theorem zX3_add : CZ mX3_add := ⟨rfl, rfl⟩
def mX3_at : MT := (yX3_at, cX3_at, 2, (some .int), { frames := 0, cells := 0, slots := 0, locals := 0 })
set_option maxRecDepth 100000 in
theorem eX3_at : Cond.code (mY mX3_at) (mB mX3_at) (mN mX3_at) (mR mX3_at) ∈ lw_tg := tg_in 541 rfl rfl
theorem kX3_at : MV mX3_at 1 := ⟨⟨eX3_at, tg_in 32 (by decide +kernel) (by decide +kernel), ⟨by decide +kernel, by decide +kernel⟩, by decide +kernel⟩, tg_in 539 (by decide +kernel) (by decide +kernel), tg_in 540 (by decide +kernel) (by decide +kernel)⟩
theorem zX3_at : CZ mX3_at := ⟨rfl, rfl⟩
def mX3_firstNotEncodable : MT := (yX3_firstNotEncodable, cX3_firstNotEncodable, 2, (some .int), { frames := 5, cells := 0, slots := 0, locals := 112 })
set_option maxRecDepth 100000 in
theorem eX3_firstNotEncodable : Cond.code (mY mX3_firstNotEncodable) (mB mX3_firstNotEncodable) (mN mX3_firstNotEncodable) (mR mX3_firstNotEncodable) ∈ lw_tg := tg_in 317 rfl rfl
theorem kX3_firstNotEncodable : MV mX3_firstNotEncodable 0 := ⟨⟨eX3_firstNotEncodable, tg_in 32 (by decide +kernel) (by decide +kernel), ⟨by decide +kernel, by decide +kernel⟩, by decide +kernel⟩, tg_in 315 (by decide +kernel) (by decide +kernel), tg_in 316 (by decide +kernel) (by decide +kernel)⟩
theorem zX3_firstNotEncodable : CZ mX3_firstNotEncodable := ⟨rfl, rfl⟩
def mX3_isEncodable : MT := (yX3_isEncodable, cX3_isEncodable, 1, (some .boolean), { frames := 6, cells := 0, slots := 0, locals := 133 })
set_option maxRecDepth 100000 in
theorem eX3_isEncodable : Cond.code (mY mX3_isEncodable) (mB mX3_isEncodable) (mN mX3_isEncodable) (mR mX3_isEncodable) ∈ lw_tg := tg_in 526 rfl rfl
theorem kX3_isEncodable : MV mX3_isEncodable 0 := ⟨⟨eX3_isEncodable, tg_in 32 (by decide +kernel) (by decide +kernel), ⟨by decide +kernel, by decide +kernel⟩, by decide +kernel⟩, tg_in 524 (by decide +kernel) (by decide +kernel), tg_in 525 (by decide +kernel) (by decide +kernel)⟩
theorem zX3_isEncodable : CZ mX3_isEncodable := ⟨rfl, rfl⟩
def mX3_isBetweenWords : MT := (yX3_isBetweenWords, cX3_isBetweenWords, 3, (some .boolean), { frames := 0, cells := 0, slots := 0, locals := 0 })
set_option maxRecDepth 100000 in
theorem eX3_isBetweenWords : Cond.code (mY mX3_isBetweenWords) (mB mX3_isBetweenWords) (mN mX3_isBetweenWords) (mR mX3_isBetweenWords) ∈ lw_tg := tg_in 583 rfl rfl
theorem kX3_isBetweenWords : MV mX3_isBetweenWords 1 := ⟨⟨eX3_isBetweenWords, tg_in 32 (by decide +kernel) (by decide +kernel), ⟨by decide +kernel, by decide +kernel⟩, by decide +kernel⟩, tg_in 581 (by decide +kernel) (by decide +kernel), tg_in 582 (by decide +kernel) (by decide +kernel)⟩
theorem zX3_isBetweenWords : CZ mX3_isBetweenWords := ⟨rfl, rfl⟩
def mX3_beginsWord : MT := (yX3_beginsWord, cX3_beginsWord, 2, (some .boolean), { frames := 1, cells := 0, slots := 0, locals := 22 })
set_option maxRecDepth 100000 in
theorem eX3_beginsWord : Cond.code (mY mX3_beginsWord) (mB mX3_beginsWord) (mN mX3_beginsWord) (mR mX3_beginsWord) ∈ lw_tg := tg_in 579 rfl rfl
theorem kX3_beginsWord : MV mX3_beginsWord 1 := ⟨⟨eX3_beginsWord, tg_in 32 (by decide +kernel) (by decide +kernel), ⟨by decide +kernel, by decide +kernel⟩, by decide +kernel⟩, tg_in 577 (by decide +kernel) (by decide +kernel), tg_in 578 (by decide +kernel) (by decide +kernel)⟩
theorem zX3_beginsWord : CZ mX3_beginsWord := ⟨rfl, rfl⟩
def mX3_endOfWord : MT := (yX3_endOfWord, cX3_endOfWord, 3, (some .int), { frames := 1, cells := 0, slots := 0, locals := 22 })
set_option maxRecDepth 100000 in
theorem eX3_endOfWord : Cond.code (mY mX3_endOfWord) (mB mX3_endOfWord) (mN mX3_endOfWord) (mR mX3_endOfWord) ∈ lw_tg := tg_in 587 rfl rfl
theorem kX3_endOfWord : MV mX3_endOfWord 1 := ⟨⟨eX3_endOfWord, tg_in 32 (by decide +kernel) (by decide +kernel), ⟨by decide +kernel, by decide +kernel⟩, by decide +kernel⟩, tg_in 585 (by decide +kernel) (by decide +kernel), tg_in 586 (by decide +kernel) (by decide +kernel)⟩
theorem zX3_endOfWord : CZ mX3_endOfWord := ⟨rfl, rfl⟩
def mX3_canBeReadFrom : MT := (yX3_canBeReadFrom, cX3_canBeReadFrom, 6, (some .boolean), { frames := 5, cells := 0, slots := 0, locals := 112 })
set_option maxRecDepth 100000 in
theorem eX3_canBeReadFrom : Cond.code (mY mX3_canBeReadFrom) (mB mX3_canBeReadFrom) (mN mX3_canBeReadFrom) (mR mX3_canBeReadFrom) ∈ lw_tg := tg_in 642 rfl rfl
theorem kX3_canBeReadFrom : MV mX3_canBeReadFrom 2 := ⟨⟨eX3_canBeReadFrom, tg_in 32 (by decide +kernel) (by decide +kernel), ⟨by decide +kernel, by decide +kernel⟩, by decide +kernel⟩, tg_in 640 (by decide +kernel) (by decide +kernel), tg_in 641 (by decide +kernel) (by decide +kernel)⟩
theorem zX3_canBeReadFrom : CZ mX3_canBeReadFrom := ⟨rfl, rfl⟩
def mX4_init : MT := (yX4_init, cX4_init, 1, none, { frames := 1, cells := 2, slots := 12, locals := 24 })
set_option maxRecDepth 100000 in
theorem eX4_init : Cond.code (mY mX4_init) (mB mX4_init) (mN mX4_init) (mR mX4_init) ∈ lw_tg := tg_in 208 rfl rfl
theorem kX4_init : MI mX4_init 0 := ⟨⟨eX4_init, tg_in 37 (by decide +kernel) (by decide +kernel), ⟨by decide +kernel, by decide +kernel⟩, by decide +kernel⟩, tg_in 207 (by decide +kernel) (by decide +kernel), rfl, rfl⟩
def mX4_keep : MT := (yX4_keep, cX4_keep, 3, none, { frames := 1, cells := 0, slots := 0, locals := 21 })
set_option maxRecDepth 100000 in
theorem eX4_keep : Cond.code (mY mX4_keep) (mB mX4_keep) (mN mX4_keep) (mR mX4_keep) ∈ lw_tg := tg_in 795 rfl rfl
theorem kX4_keep : MV mX4_keep 2 := ⟨⟨eX4_keep, tg_in 37 (by decide +kernel) (by decide +kernel), ⟨by decide +kernel, by decide +kernel⟩, by decide +kernel⟩, tg_in 793 (by decide +kernel) (by decide +kernel), tg_in 794 (by decide +kernel) (by decide +kernel)⟩
theorem zX4_keep : CZ mX4_keep := ⟨rfl, rfl⟩
def mX4_holdFor : MT := (yX4_holdFor, cX4_holdFor, 3, (some .boolean), { frames := 2, cells := 0, slots := 0, locals := 42 })
set_option maxRecDepth 100000 in
theorem eX4_holdFor : Cond.code (mY mX4_holdFor) (mB mX4_holdFor) (mN mX4_holdFor) (mR mX4_holdFor) ∈ lw_tg := tg_in 804 rfl rfl
theorem kX4_holdFor : MV mX4_holdFor 1 := ⟨⟨eX4_holdFor, tg_in 37 (by decide +kernel) (by decide +kernel), ⟨by decide +kernel, by decide +kernel⟩, by decide +kernel⟩, tg_in 802 (by decide +kernel) (by decide +kernel), tg_in 803 (by decide +kernel) (by decide +kernel)⟩
theorem zX4_holdFor : CZ mX4_holdFor := ⟨rfl, rfl⟩
def mX5_init : MT := (yX5_init, cX5_init, 1, none, { frames := 1, cells := 1, slots := 320, locals := 24 })
set_option maxRecDepth 100000 in
theorem eX5_init : Cond.code (mY mX5_init) (mB mX5_init) (mN mX5_init) (mR mX5_init) ∈ lw_tg := tg_in 188 rfl rfl
theorem kX5_init : MI mX5_init 0 := ⟨⟨eX5_init, tg_in 36 (by decide +kernel) (by decide +kernel), ⟨by decide +kernel, by decide +kernel⟩, by decide +kernel⟩, tg_in 187 (by decide +kernel) (by decide +kernel), rfl, rfl⟩
def mX5_print : MT := (yX5_print, cX5_print, 4, none, { frames := 3, cells := 0, slots := 0, locals := 84 })
set_option maxRecDepth 100000 in
theorem eX5_print : Cond.code (mY mX5_print) (mB mX5_print) (mN mX5_print) (mR mX5_print) ∈ lw_tg := tg_in 688 rfl rfl
theorem kX5_print : MV mX5_print 2 := ⟨⟨eX5_print, tg_in 36 (by decide +kernel) (by decide +kernel), ⟨by decide +kernel, by decide +kernel⟩, by decide +kernel⟩, tg_in 686 (by decide +kernel) (by decide +kernel), tg_in 687 (by decide +kernel) (by decide +kernel)⟩
theorem zX5_print : CZ mX5_print := ⟨rfl, rfl⟩
def mX5_at : MT := (yX5_at, cX5_at, 4, (some .int), { frames := 0, cells := 0, slots := 0, locals := 0 })
set_option maxRecDepth 100000 in
theorem eX5_at : Cond.code (mY mX5_at) (mB mX5_at) (mN mX5_at) (mR mX5_at) ∈ lw_tg := tg_in 710 rfl rfl
theorem kX5_at : MV mX5_at 2 := ⟨⟨eX5_at, tg_in 36 (by decide +kernel) (by decide +kernel), ⟨by decide +kernel, by decide +kernel⟩, by decide +kernel⟩, tg_in 708 (by decide +kernel) (by decide +kernel), tg_in 709 (by decide +kernel) (by decide +kernel)⟩
theorem zX5_at : CZ mX5_at := ⟨rfl, rfl⟩
def mX5_printCharacter : MT := (yX5_printCharacter, cX5_printCharacter, 3, none, { frames := 2, cells := 0, slots := 0, locals := 62 })
set_option maxRecDepth 100000 in
theorem eX5_printCharacter : Cond.code (mY mX5_printCharacter) (mB mX5_printCharacter) (mN mX5_printCharacter) (mR mX5_printCharacter) ∈ lw_tg := tg_in 696 rfl rfl
theorem kX5_printCharacter : MV mX5_printCharacter 2 := ⟨⟨eX5_printCharacter, tg_in 36 (by decide +kernel) (by decide +kernel), ⟨by decide +kernel, by decide +kernel⟩, by decide +kernel⟩, tg_in 695 (by decide +kernel) (by decide +kernel), tg_in 7 (by decide +kernel) (by decide +kernel)⟩
theorem zX5_printCharacter : CZ mX5_printCharacter := ⟨rfl, rfl⟩
def mX5_feedLine : MT := (yX5_feedLine, cX5_feedLine, 3, none, { frames := 1, cells := 0, slots := 0, locals := 40 })
set_option maxRecDepth 100000 in
theorem eX5_feedLine : Cond.code (mY mX5_feedLine) (mB mX5_feedLine) (mN mX5_feedLine) (mR mX5_feedLine) ∈ lw_tg := tg_in 700 rfl rfl
theorem kX5_feedLine : MV mX5_feedLine 0 := ⟨⟨eX5_feedLine, tg_in 36 (by decide +kernel) (by decide +kernel), ⟨by decide +kernel, by decide +kernel⟩, by decide +kernel⟩, tg_in 699 (by decide +kernel) (by decide +kernel), tg_in 8 (by decide +kernel) (by decide +kernel)⟩
theorem zX5_feedLine : CZ mX5_feedLine := ⟨rfl, rfl⟩
def mX5_strike : MT := (yX5_strike, cX5_strike, 3, none, { frames := 0, cells := 0, slots := 0, locals := 0 })
set_option maxRecDepth 100000 in
theorem eX5_strike : Cond.code (mY mX5_strike) (mB mX5_strike) (mN mX5_strike) (mR mX5_strike) ∈ lw_tg := tg_in 705 rfl rfl
theorem kX5_strike : MV mX5_strike 1 := ⟨⟨eX5_strike, tg_in 36 (by decide +kernel) (by decide +kernel), ⟨by decide +kernel, by decide +kernel⟩, by decide +kernel⟩, tg_in 704 (by decide +kernel) (by decide +kernel), tg_in 9 (by decide +kernel) (by decide +kernel)⟩
theorem zX5_strike : CZ mX5_strike := ⟨rfl, rfl⟩
def mX6_init : MT := (yX6_init, cX6_init, 1, none, { frames := 2, cells := 2, slots := 101, locals := 44 })
set_option maxRecDepth 100000 in
theorem eX6_init : Cond.code (mY mX6_init) (mB mX6_init) (mN mX6_init) (mR mX6_init) ∈ lw_tg := tg_in 98 rfl rfl
theorem kX6_init : MI mX6_init 0 := ⟨⟨eX6_init, tg_in 31 (by decide +kernel) (by decide +kernel), ⟨by decide +kernel, by decide +kernel⟩, by decide +kernel⟩, tg_in 97 (by decide +kernel) (by decide +kernel), rfl, rfl⟩
def mX6_beginBehind : MT := (yX6_beginBehind, cX6_beginBehind, 2, none, { frames := 3, cells := 0, slots := 0, locals := 67 })
set_option maxRecDepth 100000 in
theorem eX6_beginBehind : Cond.code (mY mX6_beginBehind) (mB mX6_beginBehind) (mN mX6_beginBehind) (mR mX6_beginBehind) ∈ lw_tg := tg_in 531 rfl rfl
theorem kX6_beginBehind : MV mX6_beginBehind 1 := ⟨⟨eX6_beginBehind, tg_in 31 (by decide +kernel) (by decide +kernel), ⟨by decide +kernel, by decide +kernel⟩, by decide +kernel⟩, tg_in 529 (by decide +kernel) (by decide +kernel), tg_in 530 (by decide +kernel) (by decide +kernel)⟩
theorem zX6_beginBehind : CZ mX6_beginBehind := ⟨rfl, rfl⟩
def mX6_beginAnew : MT := (yX6_beginAnew, cX6_beginAnew, 2, none, { frames := 1, cells := 0, slots := 0, locals := 21 })
set_option maxRecDepth 100000 in
theorem eX6_beginAnew : Cond.code (mY mX6_beginAnew) (mB mX6_beginAnew) (mN mX6_beginAnew) (mR mX6_beginAnew) ∈ lw_tg := tg_in 649 rfl rfl
theorem kX6_beginAnew : MV mX6_beginAnew 1 := ⟨⟨eX6_beginAnew, tg_in 31 (by decide +kernel) (by decide +kernel), ⟨by decide +kernel, by decide +kernel⟩, by decide +kernel⟩, tg_in 647 (by decide +kernel) (by decide +kernel), tg_in 648 (by decide +kernel) (by decide +kernel)⟩
theorem zX6_beginAnew : CZ mX6_beginAnew := ⟨rfl, rfl⟩
def mX6_put : MT := (yX6_put, cX6_put, 2, none, { frames := 1, cells := 0, slots := 0, locals := 22 })
set_option maxRecDepth 100000 in
theorem eX6_put : Cond.code (mY mX6_put) (mB mX6_put) (mN mX6_put) (mR mX6_put) ∈ lw_tg := tg_in 559 rfl rfl
theorem kX6_put : MV mX6_put 1 := ⟨⟨eX6_put, tg_in 31 (by decide +kernel) (by decide +kernel), ⟨by decide +kernel, by decide +kernel⟩, by decide +kernel⟩, tg_in 558 (by decide +kernel) (by decide +kernel), tg_in 2 (by decide +kernel) (by decide +kernel)⟩
theorem zX6_put : CZ mX6_put := ⟨rfl, rfl⟩
def mX6_shiftFor : MT := (yX6_shiftFor, cX6_shiftFor, 3, none, { frames := 5, cells := 0, slots := 0, locals := 111 })
set_option maxRecDepth 100000 in
theorem eX6_shiftFor : Cond.code (mY mX6_shiftFor) (mB mX6_shiftFor) (mN mX6_shiftFor) (mR mX6_shiftFor) ∈ lw_tg := tg_in 549 rfl rfl
theorem kX6_shiftFor : MV mX6_shiftFor 1 := ⟨⟨eX6_shiftFor, tg_in 31 (by decide +kernel) (by decide +kernel), ⟨by decide +kernel, by decide +kernel⟩, by decide +kernel⟩, tg_in 548 (by decide +kernel) (by decide +kernel), tg_in 1 (by decide +kernel) (by decide +kernel)⟩
theorem zX6_shiftFor : CZ mX6_shiftFor := ⟨rfl, rfl⟩
def mX6_encode : MT := (yX6_encode, cX6_encode, 2, none, { frames := 6, cells := 0, slots := 0, locals := 133 })
set_option maxRecDepth 100000 in
theorem eX6_encode : Cond.code (mY mX6_encode) (mB mX6_encode) (mN mX6_encode) (mR mX6_encode) ∈ lw_tg := tg_in 545 rfl rfl
theorem kX6_encode : MV mX6_encode 1 := ⟨⟨eX6_encode, tg_in 31 (by decide +kernel) (by decide +kernel), ⟨by decide +kernel, by decide +kernel⟩, by decide +kernel⟩, tg_in 544 (by decide +kernel) (by decide +kernel), tg_in 0 (by decide +kernel) (by decide +kernel)⟩
theorem zX6_encode : CZ mX6_encode := ⟨rfl, rfl⟩
def mX6_encodeRun : MT := (yX6_encodeRun, cX6_encodeRun, 5, none, { frames := 7, cells := 0, slots := 0, locals := 154 })
set_option maxRecDepth 100000 in
theorem eX6_encodeRun : Cond.code (mY mX6_encodeRun) (mB mX6_encodeRun) (mN mX6_encodeRun) (mR mX6_encodeRun) ∈ lw_tg := tg_in 537 rfl rfl
theorem kX6_encodeRun : MV mX6_encodeRun 3 := ⟨⟨eX6_encodeRun, tg_in 31 (by decide +kernel) (by decide +kernel), ⟨by decide +kernel, by decide +kernel⟩, by decide +kernel⟩, tg_in 535 (by decide +kernel) (by decide +kernel), tg_in 536 (by decide +kernel) (by decide +kernel)⟩
theorem zX6_encodeRun : CZ mX6_encodeRun := ⟨rfl, rfl⟩
def mX6_encodeWords : MT := (yX6_encodeWords, cX6_encodeWords, 6, none, { frames := 8, cells := 0, slots := 0, locals := 178 })
set_option maxRecDepth 100000 in
theorem eX6_encodeWords : Cond.code (mY mX6_encodeWords) (mB mX6_encodeWords) (mN mX6_encodeWords) (mR mX6_encodeWords) ∈ lw_tg := tg_in 575 rfl rfl
theorem kX6_encodeWords : MV mX6_encodeWords 2 := ⟨⟨eX6_encodeWords, tg_in 31 (by decide +kernel) (by decide +kernel), ⟨by decide +kernel, by decide +kernel⟩, by decide +kernel⟩, tg_in 573 (by decide +kernel) (by decide +kernel), tg_in 574 (by decide +kernel) (by decide +kernel)⟩
theorem zX6_encodeWords : CZ mX6_encodeWords := ⟨rfl, rfl⟩
def mX6_placeWord : MT := (yX6_placeWord, cX6_placeWord, 4, (some .int), { frames := 7, cells := 0, slots := 0, locals := 154 })
set_option maxRecDepth 100000 in
theorem eX6_placeWord : Cond.code (mY mX6_placeWord) (mB mX6_placeWord) (mN mX6_placeWord) (mR mX6_placeWord) ∈ lw_tg := tg_in 591 rfl rfl
theorem kX6_placeWord : MV mX6_placeWord 3 := ⟨⟨eX6_placeWord, tg_in 31 (by decide +kernel) (by decide +kernel), ⟨by decide +kernel, by decide +kernel⟩, by decide +kernel⟩, tg_in 590 (by decide +kernel) (by decide +kernel), tg_in 4 (by decide +kernel) (by decide +kernel)⟩
theorem zX6_placeWord : CZ mX6_placeWord := ⟨rfl, rfl⟩
def mX6_punchRepaired : MT := (yX6_punchRepaired, cX6_punchRepaired, 6, none, { frames := 6, cells := 0, slots := 0, locals := 133 })
set_option maxRecDepth 100000 in
theorem eX6_punchRepaired : Cond.code (mY mX6_punchRepaired) (mB mX6_punchRepaired) (mN mX6_punchRepaired) (mR mX6_punchRepaired) ∈ lw_tg := tg_in 654 rfl rfl
theorem kX6_punchRepaired : MV mX6_punchRepaired 2 := ⟨⟨eX6_punchRepaired, tg_in 31 (by decide +kernel) (by decide +kernel), ⟨by decide +kernel, by decide +kernel⟩, by decide +kernel⟩, tg_in 652 (by decide +kernel) (by decide +kernel), tg_in 653 (by decide +kernel) (by decide +kernel)⟩
theorem zX6_punchRepaired : CZ mX6_punchRepaired := ⟨rfl, rfl⟩
def mX7_init : MT := (yX7_init, cX7_init, 1, none, { frames := 1, cells := 1, slots := 4, locals := 24 })
set_option maxRecDepth 100000 in
theorem eX7_init : Cond.code (mY mX7_init) (mB mX7_init) (mN mX7_init) (mR mX7_init) ∈ lw_tg := tg_in 249 rfl rfl
theorem kX7_init : MI mX7_init 0 := ⟨⟨eX7_init, tg_in 39 (by decide +kernel) (by decide +kernel), ⟨by decide +kernel, by decide +kernel⟩, by decide +kernel⟩, tg_in 248 (by decide +kernel) (by decide +kernel), rfl, rfl⟩
def mX7_split : MT := (yX7_split, cX7_split, 7, (some .boolean), { frames := 0, cells := 0, slots := 0, locals := 0 })
set_option maxRecDepth 100000 in
theorem eX7_split : Cond.code (mY mX7_split) (mB mX7_split) (mN mX7_split) (mR mX7_split) ∈ lw_tg := tg_in 767 rfl rfl
theorem kX7_split : MV mX7_split 2 := ⟨⟨eX7_split, tg_in 39 (by decide +kernel) (by decide +kernel), ⟨by decide +kernel, by decide +kernel⟩, by decide +kernel⟩, tg_in 765 (by decide +kernel) (by decide +kernel), tg_in 766 (by decide +kernel) (by decide +kernel)⟩
theorem zX7_split : CZ mX7_split := ⟨rfl, rfl⟩
def mX7_firstFailure : MT := (yX7_firstFailure, cX7_firstFailure, 4, (some .int), { frames := 7, cells := 0, slots := 0, locals := 154 })
set_option maxRecDepth 100000 in
theorem eX7_firstFailure : Cond.code (mY mX7_firstFailure) (mB mX7_firstFailure) (mN mX7_firstFailure) (mR mX7_firstFailure) ∈ lw_tg := tg_in 772 rfl rfl
theorem kX7_firstFailure : MV mX7_firstFailure 2 := ⟨⟨eX7_firstFailure, tg_in 39 (by decide +kernel) (by decide +kernel), ⟨by decide +kernel, by decide +kernel⟩, by decide +kernel⟩, tg_in 770 (by decide +kernel) (by decide +kernel), tg_in 771 (by decide +kernel) (by decide +kernel)⟩
theorem zX7_firstFailure : CZ mX7_firstFailure := ⟨rfl, rfl⟩
def mX7_succeeds : MT := (yX7_succeeds, cX7_succeeds, 4, (some .boolean), { frames := 6, cells := 0, slots := 0, locals := 131 })
set_option maxRecDepth 100000 in
theorem eX7_succeeds : Cond.code (mY mX7_succeeds) (mB mX7_succeeds) (mN mX7_succeeds) (mR mX7_succeeds) ∈ lw_tg := tg_in 775 rfl rfl
theorem kX7_succeeds : MS mX7_succeeds 3 := ⟨⟨eX7_succeeds, tg_in 39 (by decide +kernel) (by decide +kernel), ⟨by decide +kernel, by decide +kernel⟩, by decide +kernel⟩, tg_in 774 (by decide +kernel) (by decide +kernel)⟩
theorem zX7_succeeds : CZ mX7_succeeds := ⟨rfl, rfl⟩
def mX7_setsOption : MT := (yX7_setsOption, cX7_setsOption, 2, (some .boolean), { frames := 0, cells := 0, slots := 0, locals := 0 })
set_option maxRecDepth 100000 in
theorem eX7_setsOption : Cond.code (mY mX7_setsOption) (mB mX7_setsOption) (mN mX7_setsOption) (mR mX7_setsOption) ∈ lw_tg := tg_in 781 rfl rfl
theorem kX7_setsOption : MS mX7_setsOption 2 := ⟨⟨eX7_setsOption, tg_in 39 (by decide +kernel) (by decide +kernel), ⟨by decide +kernel, by decide +kernel⟩, by decide +kernel⟩, tg_in 780 (by decide +kernel) (by decide +kernel)⟩
theorem zX7_setsOption : CZ mX7_setsOption := ⟨rfl, rfl⟩
def mX7_setsStartCase : MT := (yX7_setsStartCase, cX7_setsStartCase, 2, (some .boolean), { frames := 0, cells := 0, slots := 0, locals := 0 })
set_option maxRecDepth 100000 in
theorem eX7_setsStartCase : Cond.code (mY mX7_setsStartCase) (mB mX7_setsStartCase) (mN mX7_setsStartCase) (mR mX7_setsStartCase) ∈ lw_tg := tg_in 784 rfl rfl
theorem kX7_setsStartCase : MS mX7_setsStartCase 2 := ⟨⟨eX7_setsStartCase, tg_in 39 (by decide +kernel) (by decide +kernel), ⟨by decide +kernel, by decide +kernel⟩, by decide +kernel⟩, tg_in 783 (by decide +kernel) (by decide +kernel)⟩
theorem zX7_setsStartCase : CZ mX7_setsStartCase := ⟨rfl, rfl⟩
def mX8_init : MT := (yX8_init, cX8_init, 2, none, { frames := 2, cells := 6, slots := 206, locals := 44 })
set_option maxRecDepth 100000 in
theorem eX8_init : Cond.code (mY mX8_init) (mB mX8_init) (mN mX8_init) (mR mX8_init) ∈ lw_tg := tg_in 153 rfl rfl
theorem kX8_init : MI mX8_init 0 := ⟨⟨eX8_init, tg_in 34 (by decide +kernel) (by decide +kernel), ⟨by decide +kernel, by decide +kernel⟩, by decide +kernel⟩, tg_in 152 (by decide +kernel) (by decide +kernel), rfl, rfl⟩
def mX8_has : MT := (yX8_has, cX8_has, 2, (some .boolean), { frames := 0, cells := 0, slots := 0, locals := 0 })
set_option maxRecDepth 100000 in
theorem eX8_has : Cond.code (mY mX8_has) (mB mX8_has) (mN mX8_has) (mR mX8_has) ∈ lw_tg := tg_in 825 rfl rfl
theorem kX8_has : MV mX8_has 1 := ⟨⟨eX8_has, tg_in 34 (by decide +kernel) (by decide +kernel), ⟨by decide +kernel, by decide +kernel⟩, by decide +kernel⟩, tg_in 823 (by decide +kernel) (by decide +kernel), tg_in 824 (by decide +kernel) (by decide +kernel)⟩
theorem zX8_has : CZ mX8_has := ⟨rfl, rfl⟩
def mX8_keep : MT := (yX8_keep, cX8_keep, 3, none, { frames := 2, cells := 0, slots := 0, locals := 61 })
set_option maxRecDepth 100000 in
theorem eX8_keep : Cond.code (mY mX8_keep) (mB mX8_keep) (mN mX8_keep) (mR mX8_keep) ∈ lw_tg := tg_in 829 rfl rfl
theorem kX8_keep : MV mX8_keep 2 := ⟨⟨eX8_keep, tg_in 34 (by decide +kernel) (by decide +kernel), ⟨by decide +kernel, by decide +kernel⟩, by decide +kernel⟩, tg_in 827 (by decide +kernel) (by decide +kernel), tg_in 828 (by decide +kernel) (by decide +kernel)⟩
theorem zX8_keep : CZ mX8_keep := ⟨rfl, rfl⟩
def mX8_bringBack : MT := (yX8_bringBack, cX8_bringBack, 3, (some .boolean), { frames := 2, cells := 0, slots := 0, locals := 61 })
set_option maxRecDepth 100000 in
theorem eX8_bringBack : Cond.code (mY mX8_bringBack) (mB mX8_bringBack) (mN mX8_bringBack) (mR mX8_bringBack) ∈ lw_tg := tg_in 839 rfl rfl
theorem kX8_bringBack : MV mX8_bringBack 2 := ⟨⟨eX8_bringBack, tg_in 34 (by decide +kernel) (by decide +kernel), ⟨by decide +kernel, by decide +kernel⟩, by decide +kernel⟩, tg_in 837 (by decide +kernel) (by decide +kernel), tg_in 838 (by decide +kernel) (by decide +kernel)⟩
theorem zX8_bringBack : CZ mX8_bringBack := ⟨rfl, rfl⟩
def mX9_init : MT := (yX9_init, cX9_init, 1, none, { frames := 1, cells := 1, slots := 96, locals := 24 })
set_option maxRecDepth 100000 in
theorem eX9_init : Cond.code (mY mX9_init) (mB mX9_init) (mN mX9_init) (mR mX9_init) ∈ lw_tg := tg_in 62 rfl rfl
theorem kX9_init : MI mX9_init 0 := ⟨⟨eX9_init, tg_in 30 (by decide +kernel) (by decide +kernel), ⟨by decide +kernel, by decide +kernel⟩, by decide +kernel⟩, tg_in 61 (by decide +kernel) (by decide +kernel), rfl, rfl⟩
def mX9_become : MT := (yX9_become, cX9_become, 2, none, { frames := 1, cells := 0, slots := 0, locals := 40 })
set_option maxRecDepth 100000 in
theorem eX9_become : Cond.code (mY mX9_become) (mB mX9_become) (mN mX9_become) (mR mX9_become) ∈ lw_tg := tg_in 506 rfl rfl
theorem kX9_become : MV mX9_become 1 := ⟨⟨eX9_become, tg_in 30 (by decide +kernel) (by decide +kernel), ⟨by decide +kernel, by decide +kernel⟩, by decide +kernel⟩, tg_in 504 (by decide +kernel) (by decide +kernel), tg_in 505 (by decide +kernel) (by decide +kernel)⟩
theorem zX9_become : CZ mX9_become := ⟨rfl, rfl⟩
def mX9_takeSettings : MT := (yX9_takeSettings, cX9_takeSettings, 2, none, { frames := 0, cells := 0, slots := 0, locals := 0 })
set_option maxRecDepth 100000 in
theorem eX9_takeSettings : Cond.code (mY mX9_takeSettings) (mB mX9_takeSettings) (mN mX9_takeSettings) (mR mX9_takeSettings) ∈ lw_tg := tg_in 513 rfl rfl
theorem kX9_takeSettings : MV mX9_takeSettings 1 := ⟨⟨eX9_takeSettings, tg_in 30 (by decide +kernel) (by decide +kernel), ⟨by decide +kernel, by decide +kernel⟩, by decide +kernel⟩, tg_in 511 (by decide +kernel) (by decide +kernel), tg_in 512 (by decide +kernel) (by decide +kernel)⟩
theorem zX9_takeSettings : CZ mX9_takeSettings := ⟨rfl, rfl⟩
def mX9_has : MT := (yX9_has, cX9_has, 2, (some .boolean), { frames := 0, cells := 0, slots := 0, locals := 0 })
set_option maxRecDepth 100000 in
theorem eX9_has : Cond.code (mY mX9_has) (mB mX9_has) (mN mX9_has) (mR mX9_has) ∈ lw_tg := tg_in 421 rfl rfl
theorem kX9_has : MV mX9_has 1 := ⟨⟨eX9_has, tg_in 30 (by decide +kernel) (by decide +kernel), ⟨by decide +kernel, by decide +kernel⟩, by decide +kernel⟩, tg_in 419 (by decide +kernel) (by decide +kernel), tg_in 420 (by decide +kernel) (by decide +kernel)⟩
theorem zX9_has : CZ mX9_has := ⟨rfl, rfl⟩
def mX9_isFull : MT := (yX9_isFull, cX9_isFull, 1, (some .boolean), { frames := 0, cells := 0, slots := 0, locals := 0 })
set_option maxRecDepth 100000 in
theorem eX9_isFull : Cond.code (mY mX9_isFull) (mB mX9_isFull) (mN mX9_isFull) (mR mX9_isFull) ∈ lw_tg := tg_in 498 rfl rfl
theorem kX9_isFull : MV mX9_isFull 0 := ⟨⟨eX9_isFull, tg_in 30 (by decide +kernel) (by decide +kernel), ⟨by decide +kernel, by decide +kernel⟩, by decide +kernel⟩, tg_in 496 (by decide +kernel) (by decide +kernel), tg_in 497 (by decide +kernel) (by decide +kernel)⟩
theorem zX9_isFull : CZ mX9_isFull := ⟨rfl, rfl⟩
def mX9_at : MT := (yX9_at, cX9_at, 2, (some .int), { frames := 1, cells := 0, slots := 0, locals := 21 })
set_option maxRecDepth 100000 in
theorem eX9_at : Cond.code (mY mX9_at) (mB mX9_at) (mN mX9_at) (mR mX9_at) ∈ lw_tg := tg_in 425 rfl rfl
theorem kX9_at : MV mX9_at 1 := ⟨⟨eX9_at, tg_in 30 (by decide +kernel) (by decide +kernel), ⟨by decide +kernel, by decide +kernel⟩, by decide +kernel⟩, tg_in 423 (by decide +kernel) (by decide +kernel), tg_in 424 (by decide +kernel) (by decide +kernel)⟩
theorem zX9_at : CZ mX9_at := ⟨rfl, rfl⟩
def mX9_add : MT := (yX9_add, cX9_add, 2, (some .boolean), { frames := 0, cells := 0, slots := 0, locals := 0 })
set_option maxRecDepth 100000 in
theorem eX9_add : Cond.code (mY mX9_add) (mB mX9_add) (mN mX9_add) (mR mX9_add) ∈ lw_tg := tg_in 518 rfl rfl
theorem kX9_add : MV mX9_add 1 := ⟨⟨eX9_add, tg_in 30 (by decide +kernel) (by decide +kernel), ⟨by decide +kernel, by decide +kernel⟩, by decide +kernel⟩, tg_in 516 (by decide +kernel) (by decide +kernel), tg_in 517 (by decide +kernel) (by decide +kernel)⟩
theorem zX9_add : CZ mX9_add := ⟨rfl, rfl⟩
def mX9_takeOut : MT := (yX9_takeOut, cX9_takeOut, 3, (some .int), { frames := 1, cells := 0, slots := 0, locals := 40 })
set_option maxRecDepth 100000 in
theorem eX9_takeOut : Cond.code (mY mX9_takeOut) (mB mX9_takeOut) (mN mX9_takeOut) (mR mX9_takeOut) ∈ lw_tg := tg_in 600 rfl rfl
theorem kX9_takeOut : MV mX9_takeOut 1 := ⟨⟨eX9_takeOut, tg_in 30 (by decide +kernel) (by decide +kernel), ⟨by decide +kernel, by decide +kernel⟩, by decide +kernel⟩, tg_in 598 (by decide +kernel) (by decide +kernel), tg_in 599 (by decide +kernel) (by decide +kernel)⟩
theorem zX9_takeOut : CZ mX9_takeOut := ⟨rfl, rfl⟩
def mX9_turnBit : MT := (yX9_turnBit, cX9_turnBit, 3, none, { frames := 1, cells := 0, slots := 0, locals := 21 })
set_option maxRecDepth 100000 in
theorem eX9_turnBit : Cond.code (mY mX9_turnBit) (mB mX9_turnBit) (mN mX9_turnBit) (mR mX9_turnBit) ∈ lw_tg := tg_in 611 rfl rfl
theorem kX9_turnBit : MV mX9_turnBit 2 := ⟨⟨eX9_turnBit, tg_in 30 (by decide +kernel) (by decide +kernel), ⟨by decide +kernel, by decide +kernel⟩, by decide +kernel⟩, tg_in 609 (by decide +kernel) (by decide +kernel), tg_in 610 (by decide +kernel) (by decide +kernel)⟩
theorem zX9_turnBit : CZ mX9_turnBit := ⟨rfl, rfl⟩
def mX9_caseAfter : MT := (yX9_caseAfter, cX9_caseAfter, 3, (some .int), { frames := 1, cells := 0, slots := 0, locals := 22 })
set_option maxRecDepth 100000 in
theorem eX9_caseAfter : Cond.code (mY mX9_caseAfter) (mB mX9_caseAfter) (mN mX9_caseAfter) (mR mX9_caseAfter) ∈ lw_tg := tg_in 438 rfl rfl
theorem kX9_caseAfter : MV mX9_caseAfter 2 := ⟨⟨eX9_caseAfter, tg_in 30 (by decide +kernel) (by decide +kernel), ⟨by decide +kernel, by decide +kernel⟩, by decide +kernel⟩, tg_in 436 (by decide +kernel) (by decide +kernel), tg_in 437 (by decide +kernel) (by decide +kernel)⟩
theorem zX9_caseAfter : CZ mX9_caseAfter := ⟨rfl, rfl⟩
def mX9_caseBefore : MT := (yX9_caseBefore, cX9_caseBefore, 4, (some .int), { frames := 2, cells := 0, slots := 0, locals := 44 })
set_option maxRecDepth 100000 in
theorem eX9_caseBefore : Cond.code (mY mX9_caseBefore) (mB mX9_caseBefore) (mN mX9_caseBefore) (mR mX9_caseBefore) ∈ lw_tg := tg_in 434 rfl rfl
theorem kX9_caseBefore : MV mX9_caseBefore 1 := ⟨⟨eX9_caseBefore, tg_in 30 (by decide +kernel) (by decide +kernel), ⟨by decide +kernel, by decide +kernel⟩, by decide +kernel⟩, tg_in 432 (by decide +kernel) (by decide +kernel), tg_in 433 (by decide +kernel) (by decide +kernel)⟩
theorem zX9_caseBefore : CZ mX9_caseBefore := ⟨rfl, rfl⟩
def mX9_lossDamage : MT := (yX9_lossDamage, cX9_lossDamage, 6, (some .int), { frames := 3, cells := 0, slots := 0, locals := 67 })
set_option maxRecDepth 100000 in
theorem eX9_lossDamage : Cond.code (mY mX9_lossDamage) (mB mX9_lossDamage) (mN mX9_lossDamage) (mR mX9_lossDamage) ∈ lw_tg := tg_in 631 rfl rfl
theorem kX9_lossDamage : MV mX9_lossDamage 1 := ⟨⟨eX9_lossDamage, tg_in 30 (by decide +kernel) (by decide +kernel), ⟨by decide +kernel, by decide +kernel⟩, by decide +kernel⟩, tg_in 629 (by decide +kernel) (by decide +kernel), tg_in 630 (by decide +kernel) (by decide +kernel)⟩
theorem zX9_lossDamage : CZ mX9_lossDamage := ⟨rfl, rfl⟩
def mX9_differences : MT := (yX9_differences, cX9_differences, 6, (some .int), { frames := 5, cells := 0, slots := 0, locals := 106 })
set_option maxRecDepth 100000 in
theorem eX9_differences : Cond.code (mY mX9_differences) (mB mX9_differences) (mN mX9_differences) (mR mX9_differences) ∈ lw_tg := tg_in 727 rfl rfl
theorem kX9_differences : MV mX9_differences 1 := ⟨⟨eX9_differences, tg_in 30 (by decide +kernel) (by decide +kernel), ⟨by decide +kernel, by decide +kernel⟩, by decide +kernel⟩, tg_in 725 (by decide +kernel) (by decide +kernel), tg_in 726 (by decide +kernel) (by decide +kernel)⟩
theorem zX9_differences : CZ mX9_differences := ⟨rfl, rfl⟩
def mX9_dropRedundant : MT := (yX9_dropRedundant, cX9_dropRedundant, 4, (some .int), { frames := 5, cells := 0, slots := 0, locals := 114 })
set_option maxRecDepth 100000 in
theorem eX9_dropRedundant : Cond.code (mY mX9_dropRedundant) (mB mX9_dropRedundant) (mN mX9_dropRedundant) (mR mX9_dropRedundant) ∈ lw_tg := tg_in 619 rfl rfl
theorem kX9_dropRedundant : MV mX9_dropRedundant 0 := ⟨⟨eX9_dropRedundant, tg_in 30 (by decide +kernel) (by decide +kernel), ⟨by decide +kernel, by decide +kernel⟩, by decide +kernel⟩, tg_in 617 (by decide +kernel) (by decide +kernel), tg_in 618 (by decide +kernel) (by decide +kernel)⟩
theorem zX9_dropRedundant : CZ mX9_dropRedundant := ⟨rfl, rfl⟩
def mX9_isRedundant : MT := (yX9_isRedundant, cX9_isRedundant, 3, (some .boolean), { frames := 4, cells := 0, slots := 0, locals := 92 })
set_option maxRecDepth 100000 in
theorem eX9_isRedundant : Cond.code (mY mX9_isRedundant) (mB mX9_isRedundant) (mN mX9_isRedundant) (mR mX9_isRedundant) ∈ lw_tg := tg_in 623 rfl rfl
theorem kX9_isRedundant : MV mX9_isRedundant 1 := ⟨⟨eX9_isRedundant, tg_in 30 (by decide +kernel) (by decide +kernel), ⟨by decide +kernel, by decide +kernel⟩, by decide +kernel⟩, tg_in 622 (by decide +kernel) (by decide +kernel), tg_in 5 (by decide +kernel) (by decide +kernel)⟩
theorem zX9_isRedundant : CZ mX9_isRedundant := ⟨rfl, rfl⟩
def mX9_disturb : MT := (yX9_disturb, cX9_disturb, 8, none, { frames := 2, cells := 0, slots := 0, locals := 43 })
set_option maxRecDepth 100000 in
theorem eX9_disturb : Cond.code (mY mX9_disturb) (mB mX9_disturb) (mN mX9_disturb) (mR mX9_disturb) ∈ lw_tg := tg_in 814 rfl rfl
theorem kX9_disturb : MV mX9_disturb 2 := ⟨⟨eX9_disturb, tg_in 30 (by decide +kernel) (by decide +kernel), ⟨by decide +kernel, by decide +kernel⟩, by decide +kernel⟩, tg_in 812 (by decide +kernel) (by decide +kernel), tg_in 813 (by decide +kernel) (by decide +kernel)⟩
theorem zX9_disturb : CZ mX9_disturb := ⟨rfl, rfl⟩
def mX10_init : MT := (yX10_init, cX10_init, 1, none, { frames := 1, cells := 2, slots := 193, locals := 24 })
set_option maxRecDepth 100000 in
theorem eX10_init : Cond.code (mY mX10_init) (mB mX10_init) (mN mX10_init) (mR mX10_init) ∈ lw_tg := tg_in 169 rfl rfl
theorem kX10_init : MI mX10_init 0 := ⟨⟨eX10_init, tg_in 35 (by decide +kernel) (by decide +kernel), ⟨by decide +kernel, by decide +kernel⟩, by decide +kernel⟩, tg_in 168 (by decide +kernel) (by decide +kernel), rfl, rfl⟩
def mX10_read : MT := (yX10_read, cX10_read, 6, none, { frames := 5, cells := 0, slots := 0, locals := 106 })
set_option maxRecDepth 100000 in
theorem eX10_read : Cond.code (mY mX10_read) (mB mX10_read) (mN mX10_read) (mR mX10_read) ∈ lw_tg := tg_in 449 rfl rfl
theorem kX10_read : MV mX10_read 1 := ⟨⟨eX10_read, tg_in 35 (by decide +kernel) (by decide +kernel), ⟨by decide +kernel, by decide +kernel⟩, by decide +kernel⟩, tg_in 447 (by decide +kernel) (by decide +kernel), tg_in 448 (by decide +kernel) (by decide +kernel)⟩
theorem zX10_read : CZ mX10_read := ⟨rfl, rfl⟩
def mX10_has : MT := (yX10_has, cX10_has, 2, (some .boolean), { frames := 0, cells := 0, slots := 0, locals := 0 })
set_option maxRecDepth 100000 in
theorem eX10_has : Cond.code (mY mX10_has) (mB mX10_has) (mN mX10_has) (mR mX10_has) ∈ lw_tg := tg_in 485 rfl rfl
theorem kX10_has : MV mX10_has 1 := ⟨⟨eX10_has, tg_in 35 (by decide +kernel) (by decide +kernel), ⟨by decide +kernel, by decide +kernel⟩, by decide +kernel⟩, tg_in 483 (by decide +kernel) (by decide +kernel), tg_in 484 (by decide +kernel) (by decide +kernel)⟩
theorem zX10_has : CZ mX10_has := ⟨rfl, rfl⟩
def mX10_at : MT := (yX10_at, cX10_at, 2, (some .int), { frames := 1, cells := 0, slots := 0, locals := 21 })
set_option maxRecDepth 100000 in
theorem eX10_at : Cond.code (mY mX10_at) (mB mX10_at) (mN mX10_at) (mR mX10_at) ∈ lw_tg := tg_in 489 rfl rfl
theorem kX10_at : MV mX10_at 1 := ⟨⟨eX10_at, tg_in 35 (by decide +kernel) (by decide +kernel), ⟨by decide +kernel, by decide +kernel⟩, by decide +kernel⟩, tg_in 487 (by decide +kernel) (by decide +kernel), tg_in 488 (by decide +kernel) (by decide +kernel)⟩
theorem zX10_at : CZ mX10_at := ⟨rfl, rfl⟩
def mX10_distanceTo : MT := (yX10_distanceTo, cX10_distanceTo, 3, (some .int), { frames := 2, cells := 0, slots := 0, locals := 47 })
set_option maxRecDepth 100000 in
theorem eX10_distanceTo : Cond.code (mY mX10_distanceTo) (mB mX10_distanceTo) (mN mX10_distanceTo) (mR mX10_distanceTo) ∈ lw_tg := tg_in 851 rfl rfl
theorem kX10_distanceTo : MV mX10_distanceTo 1 := ⟨⟨eX10_distanceTo, tg_in 35 (by decide +kernel) (by decide +kernel), ⟨by decide +kernel, by decide +kernel⟩, by decide +kernel⟩, tg_in 849 (by decide +kernel) (by decide +kernel), tg_in 850 (by decide +kernel) (by decide +kernel)⟩
theorem zX10_distanceTo : CZ mX10_distanceTo := ⟨rfl, rfl⟩
def mX10_nextDistances : MT := (yX10_nextDistances, cX10_nextDistances, 7, none, { frames := 1, cells := 0, slots := 0, locals := 21 })
set_option maxRecDepth 100000 in
theorem eX10_nextDistances : Cond.code (mY mX10_nextDistances) (mB mX10_nextDistances) (mN mX10_nextDistances) (mR mX10_nextDistances) ∈ lw_tg := tg_in 855 rfl rfl
theorem kX10_nextDistances : MV mX10_nextDistances 2 := ⟨⟨eX10_nextDistances, tg_in 35 (by decide +kernel) (by decide +kernel), ⟨by decide +kernel, by decide +kernel⟩, by decide +kernel⟩, tg_in 854 (by decide +kernel) (by decide +kernel), tg_in 13 (by decide +kernel) (by decide +kernel)⟩
theorem zX10_nextDistances : CZ mX10_nextDistances := ⟨rfl, rfl⟩
def mX11_init : MT := (yX11_init, cX11_init, 1, none, { frames := 3, cells := 60, slots := 2749, locals := 65 })
set_option maxRecDepth 100000 in
theorem eX11_init : Cond.code (mY mX11_init) (mB mX11_init) (mN mX11_init) (mR mX11_init) ∈ lw_tg := tg_in 54 rfl rfl
theorem kX11_init : MI mX11_init 0 := ⟨⟨eX11_init, tg_in 29 (by decide +kernel) (by decide +kernel), ⟨by decide +kernel, by decide +kernel⟩, by decide +kernel⟩, tg_in 53 (by decide +kernel) (by decide +kernel), rfl, rfl⟩
def mX11_append : MT := (yX11_append, cX11_append, 2, (some .int), { frames := 1, cells := 0, slots := 0, locals := 22 })
set_option maxRecDepth 100000 in
theorem eX11_append : Cond.code (mY mX11_append) (mB mX11_append) (mN mX11_append) (mR mX11_append) ∈ lw_tg := tg_in 298 rfl rfl
theorem kX11_append : MV mX11_append 1 := ⟨⟨eX11_append, tg_in 29 (by decide +kernel) (by decide +kernel), ⟨by decide +kernel, by decide +kernel⟩, by decide +kernel⟩, tg_in 296 (by decide +kernel) (by decide +kernel), tg_in 297 (by decide +kernel) (by decide +kernel)⟩
theorem zX11_append : CZ mX11_append := ⟨rfl, rfl⟩
def mX11_clearMessage : MT := (yX11_clearMessage, cX11_clearMessage, 2, (some .int), { frames := 0, cells := 0, slots := 0, locals := 0 })
set_option maxRecDepth 100000 in
theorem eX11_clearMessage : Cond.code (mY mX11_clearMessage) (mB mX11_clearMessage) (mN mX11_clearMessage) (mR mX11_clearMessage) ∈ lw_tg := tg_in 309 rfl rfl
theorem kX11_clearMessage : MV mX11_clearMessage 0 := ⟨⟨eX11_clearMessage, tg_in 29 (by decide +kernel) (by decide +kernel), ⟨by decide +kernel, by decide +kernel⟩, by decide +kernel⟩, tg_in 307 (by decide +kernel) (by decide +kernel), tg_in 308 (by decide +kernel) (by decide +kernel)⟩
theorem zX11_clearMessage : CZ mX11_clearMessage := ⟨rfl, rfl⟩
def mX11_errorPosition : MT := (yX11_errorPosition, cX11_errorPosition, 1, (some .int), { frames := 6, cells := 0, slots := 0, locals := 133 })
set_option maxRecDepth 100000 in
theorem eX11_errorPosition : Cond.code (mY mX11_errorPosition) (mB mX11_errorPosition) (mN mX11_errorPosition) (mR mX11_errorPosition) ∈ lw_tg := tg_in 313 rfl rfl
theorem kX11_errorPosition : MV mX11_errorPosition 0 := ⟨⟨eX11_errorPosition, tg_in 29 (by decide +kernel) (by decide +kernel), ⟨by decide +kernel, by decide +kernel⟩, by decide +kernel⟩, tg_in 311 (by decide +kernel) (by decide +kernel), tg_in 312 (by decide +kernel) (by decide +kernel)⟩
theorem zX11_errorPosition : CZ mX11_errorPosition := ⟨rfl, rfl⟩
def mX11_length : MT := (yX11_length, cX11_length, 1, (some .int), { frames := 0, cells := 0, slots := 0, locals := 0 })
set_option maxRecDepth 100000 in
theorem eX11_length : Cond.code (mY mX11_length) (mB mX11_length) (mN mX11_length) (mR mX11_length) ∈ lw_tg := tg_in 413 rfl rfl
theorem kX11_length : MV mX11_length 0 := ⟨⟨eX11_length, tg_in 29 (by decide +kernel) (by decide +kernel), ⟨by decide +kernel, by decide +kernel⟩, by decide +kernel⟩, tg_in 411 (by decide +kernel) (by decide +kernel), tg_in 412 (by decide +kernel) (by decide +kernel)⟩
theorem zX11_length : CZ mX11_length := ⟨rfl, rfl⟩
def mX11_codeAt : MT := (yX11_codeAt, cX11_codeAt, 2, (some .int), { frames := 2, cells := 0, slots := 0, locals := 42 })
set_option maxRecDepth 100000 in
theorem eX11_codeAt : Cond.code (mY mX11_codeAt) (mB mX11_codeAt) (mN mX11_codeAt) (mR mX11_codeAt) ∈ lw_tg := tg_in 417 rfl rfl
theorem kX11_codeAt : MV mX11_codeAt 1 := ⟨⟨eX11_codeAt, tg_in 29 (by decide +kernel) (by decide +kernel), ⟨by decide +kernel, by decide +kernel⟩, by decide +kernel⟩, tg_in 415 (by decide +kernel) (by decide +kernel), tg_in 416 (by decide +kernel) (by decide +kernel)⟩
theorem zX11_codeAt : CZ mX11_codeAt := ⟨rfl, rfl⟩
def mX11_caseAt : MT := (yX11_caseAt, cX11_caseAt, 2, (some .int), { frames := 3, cells := 0, slots := 0, locals := 67 })
set_option maxRecDepth 100000 in
theorem eX11_caseAt : Cond.code (mY mX11_caseAt) (mB mX11_caseAt) (mN mX11_caseAt) (mR mX11_caseAt) ∈ lw_tg := tg_in 430 rfl rfl
theorem kX11_caseAt : MV mX11_caseAt 1 := ⟨⟨eX11_caseAt, tg_in 29 (by decide +kernel) (by decide +kernel), ⟨by decide +kernel, by decide +kernel⟩, by decide +kernel⟩, tg_in 428 (by decide +kernel) (by decide +kernel), tg_in 429 (by decide +kernel) (by decide +kernel)⟩
theorem zX11_caseAt : CZ mX11_caseAt := ⟨rfl, rfl⟩
def mX11_printedLength : MT := (yX11_printedLength, cX11_printedLength, 1, (some .int), { frames := 6, cells := 0, slots := 0, locals := 131 })
set_option maxRecDepth 100000 in
theorem eX11_printedLength : Cond.code (mY mX11_printedLength) (mB mX11_printedLength) (mN mX11_printedLength) (mR mX11_printedLength) ∈ lw_tg := tg_in 445 rfl rfl
theorem kX11_printedLength : MV mX11_printedLength 0 := ⟨⟨eX11_printedLength, tg_in 29 (by decide +kernel) (by decide +kernel), ⟨by decide +kernel, by decide +kernel⟩, by decide +kernel⟩, tg_in 443 (by decide +kernel) (by decide +kernel), tg_in 444 (by decide +kernel) (by decide +kernel)⟩
theorem zX11_printedLength : CZ mX11_printedLength := ⟨rfl, rfl⟩
def mX11_printedAt : MT := (yX11_printedAt, cX11_printedAt, 2, (some .int), { frames := 6, cells := 0, slots := 0, locals := 131 })
set_option maxRecDepth 100000 in
theorem eX11_printedAt : Cond.code (mY mX11_printedAt) (mB mX11_printedAt) (mN mX11_printedAt) (mR mX11_printedAt) ∈ lw_tg := tg_in 481 rfl rfl
theorem kX11_printedAt : MV mX11_printedAt 1 := ⟨⟨eX11_printedAt, tg_in 29 (by decide +kernel) (by decide +kernel), ⟨by decide +kernel, by decide +kernel⟩, by decide +kernel⟩, tg_in 479 (by decide +kernel) (by decide +kernel), tg_in 480 (by decide +kernel) (by decide +kernel)⟩
theorem zX11_printedAt : CZ mX11_printedAt := ⟨rfl, rfl⟩
def mX11_punch : MT := (yX11_punch, cX11_punch, 2, (some .int), { frames := 3, cells := 0, slots := 0, locals := 82 })
set_option maxRecDepth 100000 in
theorem eX11_punch : Cond.code (mY mX11_punch) (mB mX11_punch) (mN mX11_punch) (mR mX11_punch) ∈ lw_tg := tg_in 494 rfl rfl
theorem kX11_punch : MV mX11_punch 1 := ⟨⟨eX11_punch, tg_in 29 (by decide +kernel) (by decide +kernel), ⟨by decide +kernel, by decide +kernel⟩, by decide +kernel⟩, tg_in 492 (by decide +kernel) (by decide +kernel), tg_in 493 (by decide +kernel) (by decide +kernel)⟩
theorem zX11_punch : CZ mX11_punch := ⟨rfl, rfl⟩
def mX11_encodeMessage : MT := (yX11_encodeMessage, cX11_encodeMessage, 1, (some .int), { frames := 8, cells := 0, slots := 0, locals := 178 })
set_option maxRecDepth 100000 in
theorem eX11_encodeMessage : Cond.code (mY mX11_encodeMessage) (mB mX11_encodeMessage) (mN mX11_encodeMessage) (mR mX11_encodeMessage) ∈ lw_tg := tg_in 522 rfl rfl
theorem kX11_encodeMessage : MV mX11_encodeMessage 0 := ⟨⟨eX11_encodeMessage, tg_in 29 (by decide +kernel) (by decide +kernel), ⟨by decide +kernel, by decide +kernel⟩, by decide +kernel⟩, tg_in 520 (by decide +kernel) (by decide +kernel), tg_in 521 (by decide +kernel) (by decide +kernel)⟩
theorem zX11_encodeMessage : CZ mX11_encodeMessage := ⟨rfl, rfl⟩
def mX11_encodeWrapped : MT := (yX11_encodeWrapped, cX11_encodeWrapped, 1, (some .int), { frames := 9, cells := 0, slots := 0, locals := 203 })
set_option maxRecDepth 100000 in
theorem eX11_encodeWrapped : Cond.code (mY mX11_encodeWrapped) (mB mX11_encodeWrapped) (mN mX11_encodeWrapped) (mR mX11_encodeWrapped) ∈ lw_tg := tg_in 571 rfl rfl
theorem kX11_encodeWrapped : MV mX11_encodeWrapped 0 := ⟨⟨eX11_encodeWrapped, tg_in 29 (by decide +kernel) (by decide +kernel), ⟨by decide +kernel, by decide +kernel⟩, by decide +kernel⟩, tg_in 569 (by decide +kernel) (by decide +kernel), tg_in 570 (by decide +kernel) (by decide +kernel)⟩
theorem zX11_encodeWrapped : CZ mX11_encodeWrapped := ⟨rfl, rfl⟩
def mX11_remove : MT := (yX11_remove, cX11_remove, 2, (some .int), { frames := 3, cells := 0, slots := 0, locals := 82 })
set_option maxRecDepth 100000 in
theorem eX11_remove : Cond.code (mY mX11_remove) (mB mX11_remove) (mN mX11_remove) (mR mX11_remove) ∈ lw_tg := tg_in 596 rfl rfl
theorem kX11_remove : MV mX11_remove 1 := ⟨⟨eX11_remove, tg_in 29 (by decide +kernel) (by decide +kernel), ⟨by decide +kernel, by decide +kernel⟩, by decide +kernel⟩, tg_in 594 (by decide +kernel) (by decide +kernel), tg_in 595 (by decide +kernel) (by decide +kernel)⟩
theorem zX11_remove : CZ mX11_remove := ⟨rfl, rfl⟩
def mX11_flip : MT := (yX11_flip, cX11_flip, 3, (some .int), { frames := 3, cells := 0, slots := 0, locals := 82 })
set_option maxRecDepth 100000 in
theorem eX11_flip : Cond.code (mY mX11_flip) (mB mX11_flip) (mN mX11_flip) (mR mX11_flip) ∈ lw_tg := tg_in 604 rfl rfl
theorem kX11_flip : MV mX11_flip 2 := ⟨⟨eX11_flip, tg_in 29 (by decide +kernel) (by decide +kernel), ⟨by decide +kernel, by decide +kernel⟩, by decide +kernel⟩, tg_in 602 (by decide +kernel) (by decide +kernel), tg_in 603 (by decide +kernel) (by decide +kernel)⟩
theorem zX11_flip : CZ mX11_flip := ⟨rfl, rfl⟩
def mX11_compact : MT := (yX11_compact, cX11_compact, 1, (some .int), { frames := 6, cells := 0, slots := 0, locals := 137 })
set_option maxRecDepth 100000 in
theorem eX11_compact : Cond.code (mY mX11_compact) (mB mX11_compact) (mN mX11_compact) (mR mX11_compact) ∈ lw_tg := tg_in 615 rfl rfl
theorem kX11_compact : MV mX11_compact 0 := ⟨⟨eX11_compact, tg_in 29 (by decide +kernel) (by decide +kernel), ⟨by decide +kernel, by decide +kernel⟩, by decide +kernel⟩, tg_in 613 (by decide +kernel) (by decide +kernel), tg_in 614 (by decide +kernel) (by decide +kernel)⟩
theorem zX11_compact : CZ mX11_compact := ⟨rfl, rfl⟩
def mX11_repair : MT := (yX11_repair, cX11_repair, 2, (some .int), { frames := 7, cells := 0, slots := 0, locals := 158 })
set_option maxRecDepth 100000 in
theorem eX11_repair : Cond.code (mY mX11_repair) (mB mX11_repair) (mN mX11_repair) (mR mX11_repair) ∈ lw_tg := tg_in 638 rfl rfl
theorem kX11_repair : MV mX11_repair 0 := ⟨⟨eX11_repair, tg_in 29 (by decide +kernel) (by decide +kernel), ⟨by decide +kernel, by decide +kernel⟩, by decide +kernel⟩, tg_in 636 (by decide +kernel) (by decide +kernel), tg_in 637 (by decide +kernel) (by decide +kernel)⟩
theorem zX11_repair : CZ mX11_repair := ⟨rfl, rfl⟩
def mX11_setStartCase : MT := (yX11_setStartCase, cX11_setStartCase, 3, (some .int), { frames := 3, cells := 0, slots := 0, locals := 82 })
set_option maxRecDepth 100000 in
theorem eX11_setStartCase : Cond.code (mY mX11_setStartCase) (mB mX11_setStartCase) (mN mX11_setStartCase) (mR mX11_setStartCase) ∈ lw_tg := tg_in 660 rfl rfl
theorem kX11_setStartCase : MV mX11_setStartCase 1 := ⟨⟨eX11_setStartCase, tg_in 29 (by decide +kernel) (by decide +kernel), ⟨by decide +kernel, by decide +kernel⟩, by decide +kernel⟩, tg_in 658 (by decide +kernel) (by decide +kernel), tg_in 659 (by decide +kernel) (by decide +kernel)⟩
theorem zX11_setStartCase : CZ mX11_setStartCase := ⟨rfl, rfl⟩
def mX11_setUnshiftOnSpace : MT := (yX11_setUnshiftOnSpace, cX11_setUnshiftOnSpace, 3, (some .int), { frames := 3, cells := 0, slots := 0, locals := 82 })
set_option maxRecDepth 100000 in
theorem eX11_setUnshiftOnSpace : Cond.code (mY mX11_setUnshiftOnSpace) (mB mX11_setUnshiftOnSpace) (mN mX11_setUnshiftOnSpace) (mR mX11_setUnshiftOnSpace) ∈ lw_tg := tg_in 664 rfl rfl
theorem kX11_setUnshiftOnSpace : MV mX11_setUnshiftOnSpace 1 := ⟨⟨eX11_setUnshiftOnSpace, tg_in 29 (by decide +kernel) (by decide +kernel), ⟨by decide +kernel, by decide +kernel⟩, by decide +kernel⟩, tg_in 662 (by decide +kernel) (by decide +kernel), tg_in 663 (by decide +kernel) (by decide +kernel)⟩
theorem zX11_setUnshiftOnSpace : CZ mX11_setUnshiftOnSpace := ⟨rfl, rfl⟩
def mX11_setWidth : MT := (yX11_setWidth, cX11_setWidth, 3, (some .int), { frames := 3, cells := 0, slots := 0, locals := 82 })
set_option maxRecDepth 100000 in
theorem eX11_setWidth : Cond.code (mY mX11_setWidth) (mB mX11_setWidth) (mN mX11_setWidth) (mR mX11_setWidth) ∈ lw_tg := tg_in 668 rfl rfl
theorem kX11_setWidth : MV mX11_setWidth 1 := ⟨⟨eX11_setWidth, tg_in 29 (by decide +kernel) (by decide +kernel), ⟨by decide +kernel, by decide +kernel⟩, by decide +kernel⟩, tg_in 666 (by decide +kernel) (by decide +kernel), tg_in 667 (by decide +kernel) (by decide +kernel)⟩
theorem zX11_setWidth : CZ mX11_setWidth := ⟨rfl, rfl⟩
def mX11_undo : MT := (yX11_undo, cX11_undo, 1, (some .int), { frames := 3, cells := 0, slots := 0, locals := 82 })
set_option maxRecDepth 100000 in
theorem eX11_undo : Cond.code (mY mX11_undo) (mB mX11_undo) (mN mX11_undo) (mR mX11_undo) ∈ lw_tg := tg_in 672 rfl rfl
theorem kX11_undo : MV mX11_undo 0 := ⟨⟨eX11_undo, tg_in 29 (by decide +kernel) (by decide +kernel), ⟨by decide +kernel, by decide +kernel⟩, by decide +kernel⟩, tg_in 670 (by decide +kernel) (by decide +kernel), tg_in 671 (by decide +kernel) (by decide +kernel)⟩
theorem zX11_undo : CZ mX11_undo := ⟨rfl, rfl⟩
def mX11_cell : MT := (yX11_cell, cX11_cell, 3, (some .int), { frames := 7, cells := 0, slots := 0, locals := 151 })
set_option maxRecDepth 100000 in
theorem eX11_cell : Cond.code (mY mX11_cell) (mB mX11_cell) (mN mX11_cell) (mR mX11_cell) ∈ lw_tg := tg_in 680 rfl rfl
theorem kX11_cell : MV mX11_cell 2 := ⟨⟨eX11_cell, tg_in 29 (by decide +kernel) (by decide +kernel), ⟨by decide +kernel, by decide +kernel⟩, by decide +kernel⟩, tg_in 678 (by decide +kernel) (by decide +kernel), tg_in 679 (by decide +kernel) (by decide +kernel)⟩
theorem zX11_cell : CZ mX11_cell := ⟨rfl, rfl⟩
def mX11_overstrikes : MT := (yX11_overstrikes, cX11_overstrikes, 1, (some .int), { frames := 7, cells := 0, slots := 0, locals := 151 })
set_option maxRecDepth 100000 in
theorem eX11_overstrikes : Cond.code (mY mX11_overstrikes) (mB mX11_overstrikes) (mN mX11_overstrikes) (mR mX11_overstrikes) ∈ lw_tg := tg_in 714 rfl rfl
theorem kX11_overstrikes : MV mX11_overstrikes 0 := ⟨⟨eX11_overstrikes, tg_in 29 (by decide +kernel) (by decide +kernel), ⟨by decide +kernel, by decide +kernel⟩, by decide +kernel⟩, tg_in 712 (by decide +kernel) (by decide +kernel), tg_in 713 (by decide +kernel) (by decide +kernel)⟩
theorem zX11_overstrikes : CZ mX11_overstrikes := ⟨rfl, rfl⟩
def mX11_damageIfLost : MT := (yX11_damageIfLost, cX11_damageIfLost, 2, (some .int), { frames := 4, cells := 0, slots := 0, locals := 92 })
set_option maxRecDepth 100000 in
theorem eX11_damageIfLost : Cond.code (mY mX11_damageIfLost) (mB mX11_damageIfLost) (mN mX11_damageIfLost) (mR mX11_damageIfLost) ∈ lw_tg := tg_in 718 rfl rfl
theorem kX11_damageIfLost : MV mX11_damageIfLost 1 := ⟨⟨eX11_damageIfLost, tg_in 29 (by decide +kernel) (by decide +kernel), ⟨by decide +kernel, by decide +kernel⟩, by decide +kernel⟩, tg_in 716 (by decide +kernel) (by decide +kernel), tg_in 717 (by decide +kernel) (by decide +kernel)⟩
theorem zX11_damageIfLost : CZ mX11_damageIfLost := ⟨rfl, rfl⟩
def mX11_damageIfFlipped : MT := (yX11_damageIfFlipped, cX11_damageIfFlipped, 3, (some .int), { frames := 6, cells := 0, slots := 0, locals := 131 })
set_option maxRecDepth 100000 in
theorem eX11_damageIfFlipped : Cond.code (mY mX11_damageIfFlipped) (mB mX11_damageIfFlipped) (mN mX11_damageIfFlipped) (mR mX11_damageIfFlipped) ∈ lw_tg := tg_in 723 rfl rfl
theorem kX11_damageIfFlipped : MV mX11_damageIfFlipped 2 := ⟨⟨eX11_damageIfFlipped, tg_in 29 (by decide +kernel) (by decide +kernel), ⟨by decide +kernel, by decide +kernel⟩, by decide +kernel⟩, tg_in 721 (by decide +kernel) (by decide +kernel), tg_in 722 (by decide +kernel) (by decide +kernel)⟩
theorem zX11_damageIfFlipped : CZ mX11_damageIfFlipped := ⟨rfl, rfl⟩
def mX11_confidenceNumerator : MT := (yX11_confidenceNumerator, cX11_confidenceNumerator, 4, (some .int), { frames := 5, cells := 0, slots := 0, locals := 115 })
set_option maxRecDepth 100000 in
theorem eX11_confidenceNumerator : Cond.code (mY mX11_confidenceNumerator) (mB mX11_confidenceNumerator) (mN mX11_confidenceNumerator) (mR mX11_confidenceNumerator) ∈ lw_tg := tg_in 732 rfl rfl
theorem kX11_confidenceNumerator : MV mX11_confidenceNumerator 2 := ⟨⟨eX11_confidenceNumerator, tg_in 29 (by decide +kernel) (by decide +kernel), ⟨by decide +kernel, by decide +kernel⟩, by decide +kernel⟩, tg_in 730 (by decide +kernel) (by decide +kernel), tg_in 731 (by decide +kernel) (by decide +kernel)⟩
theorem zX11_confidenceNumerator : CZ mX11_confidenceNumerator := ⟨rfl, rfl⟩
def mX11_confidenceDenominator : MT := (yX11_confidenceDenominator, cX11_confidenceDenominator, 4, (some .int), { frames := 5, cells := 0, slots := 0, locals := 115 })
set_option maxRecDepth 100000 in
theorem eX11_confidenceDenominator : Cond.code (mY mX11_confidenceDenominator) (mB mX11_confidenceDenominator) (mN mX11_confidenceDenominator) (mR mX11_confidenceDenominator) ∈ lw_tg := tg_in 759 rfl rfl
theorem kX11_confidenceDenominator : MV mX11_confidenceDenominator 2 := ⟨⟨eX11_confidenceDenominator, tg_in 29 (by decide +kernel) (by decide +kernel), ⟨by decide +kernel, by decide +kernel⟩, by decide +kernel⟩, tg_in 757 (by decide +kernel) (by decide +kernel), tg_in 758 (by decide +kernel) (by decide +kernel)⟩
theorem zX11_confidenceDenominator : CZ mX11_confidenceDenominator := ⟨rfl, rfl⟩
def mX11_runScript : MT := (yX11_runScript, cX11_runScript, 4, (some .int), { frames := 8, cells := 0, slots := 0, locals := 177 })
set_option maxRecDepth 100000 in
theorem eX11_runScript : Cond.code (mY mX11_runScript) (mB mX11_runScript) (mN mX11_runScript) (mR mX11_runScript) ∈ lw_tg := tg_in 763 rfl rfl
theorem kX11_runScript : MV mX11_runScript 2 := ⟨⟨eX11_runScript, tg_in 29 (by decide +kernel) (by decide +kernel), ⟨by decide +kernel, by decide +kernel⟩, by decide +kernel⟩, tg_in 761 (by decide +kernel) (by decide +kernel), tg_in 762 (by decide +kernel) (by decide +kernel)⟩
theorem zX11_runScript : CZ mX11_runScript := ⟨rfl, rfl⟩
def mX11_observe : MT := (yX11_observe, cX11_observe, 3, (some .int), { frames := 2, cells := 0, slots := 0, locals := 43 })
set_option maxRecDepth 100000 in
theorem eX11_observe : Cond.code (mY mX11_observe) (mB mX11_observe) (mN mX11_observe) (mR mX11_observe) ∈ lw_tg := tg_in 791 rfl rfl
theorem kX11_observe : MV mX11_observe 2 := ⟨⟨eX11_observe, tg_in 29 (by decide +kernel) (by decide +kernel), ⟨by decide +kernel, by decide +kernel⟩, by decide +kernel⟩, tg_in 789 (by decide +kernel) (by decide +kernel), tg_in 790 (by decide +kernel) (by decide +kernel)⟩
theorem zX11_observe : CZ mX11_observe := ⟨rfl, rfl⟩
def mX11_possibleSettings : MT := (yX11_possibleSettings, cX11_possibleSettings, 3, (some .int), { frames := 6, cells := 0, slots := 0, locals := 131 })
set_option maxRecDepth 100000 in
theorem eX11_possibleSettings : Cond.code (mY mX11_possibleSettings) (mB mX11_possibleSettings) (mN mX11_possibleSettings) (mR mX11_possibleSettings) ∈ lw_tg := tg_in 800 rfl rfl
theorem kX11_possibleSettings : MV mX11_possibleSettings 0 := ⟨⟨eX11_possibleSettings, tg_in 29 (by decide +kernel) (by decide +kernel), ⟨by decide +kernel, by decide +kernel⟩, by decide +kernel⟩, tg_in 798 (by decide +kernel) (by decide +kernel), tg_in 799 (by decide +kernel) (by decide +kernel)⟩
theorem zX11_possibleSettings : CZ mX11_possibleSettings := ⟨rfl, rfl⟩
def mX11_noise : MT := (yX11_noise, cX11_noise, 4, (some .int), { frames := 6, cells := 0, slots := 0, locals := 131 })
set_option maxRecDepth 100000 in
theorem eX11_noise : Cond.code (mY mX11_noise) (mB mX11_noise) (mN mX11_noise) (mR mX11_noise) ∈ lw_tg := tg_in 810 rfl rfl
theorem kX11_noise : MV mX11_noise 2 := ⟨⟨eX11_noise, tg_in 29 (by decide +kernel) (by decide +kernel), ⟨by decide +kernel, by decide +kernel⟩, by decide +kernel⟩, tg_in 808 (by decide +kernel) (by decide +kernel), tg_in 809 (by decide +kernel) (by decide +kernel)⟩
theorem zX11_noise : CZ mX11_noise := ⟨rfl, rfl⟩
def mX11_save : MT := (yX11_save, cX11_save, 2, (some .int), { frames := 3, cells := 0, slots := 0, locals := 83 })
set_option maxRecDepth 100000 in
theorem eX11_save : Cond.code (mY mX11_save) (mB mX11_save) (mN mX11_save) (mR mX11_save) ∈ lw_tg := tg_in 821 rfl rfl
theorem kX11_save : MV mX11_save 1 := ⟨⟨eX11_save, tg_in 29 (by decide +kernel) (by decide +kernel), ⟨by decide +kernel, by decide +kernel⟩, by decide +kernel⟩, tg_in 819 (by decide +kernel) (by decide +kernel), tg_in 820 (by decide +kernel) (by decide +kernel)⟩
theorem zX11_save : CZ mX11_save := ⟨rfl, rfl⟩
def mX11_restore : MT := (yX11_restore, cX11_restore, 2, (some .int), { frames := 3, cells := 0, slots := 0, locals := 83 })
set_option maxRecDepth 100000 in
theorem eX11_restore : Cond.code (mY mX11_restore) (mB mX11_restore) (mN mX11_restore) (mR mX11_restore) ∈ lw_tg := tg_in 835 rfl rfl
theorem kX11_restore : MV mX11_restore 1 := ⟨⟨eX11_restore, tg_in 29 (by decide +kernel) (by decide +kernel), ⟨by decide +kernel, by decide +kernel⟩, by decide +kernel⟩, tg_in 833 (by decide +kernel) (by decide +kernel), tg_in 834 (by decide +kernel) (by decide +kernel)⟩
theorem zX11_restore : CZ mX11_restore := ⟨rfl, rfl⟩
def mX11_editDistance : MT := (yX11_editDistance, cX11_editDistance, 2, (some .int), { frames := 6, cells := 0, slots := 0, locals := 131 })
set_option maxRecDepth 100000 in
theorem eX11_editDistance : Cond.code (mY mX11_editDistance) (mB mX11_editDistance) (mN mX11_editDistance) (mR mX11_editDistance) ∈ lw_tg := tg_in 847 rfl rfl
theorem kX11_editDistance : MV mX11_editDistance 1 := ⟨⟨eX11_editDistance, tg_in 29 (by decide +kernel) (by decide +kernel), ⟨by decide +kernel, by decide +kernel⟩, by decide +kernel⟩, tg_in 845 (by decide +kernel) (by decide +kernel), tg_in 846 (by decide +kernel) (by decide +kernel)⟩
theorem zX11_editDistance : CZ mX11_editDistance := ⟨rfl, rfl⟩
def mX11_isWithin : MT := (yX11_isWithin, cX11_isWithin, 3, (some .boolean), { frames := 0, cells := 0, slots := 0, locals := 0 })
set_option maxRecDepth 100000 in
theorem eX11_isWithin : Cond.code (mY mX11_isWithin) (mB mX11_isWithin) (mN mX11_isWithin) (mR mX11_isWithin) ∈ lw_tg := tg_in 301 rfl rfl
theorem kX11_isWithin : MS mX11_isWithin 3 := ⟨⟨eX11_isWithin, tg_in 29 (by decide +kernel) (by decide +kernel), ⟨by decide +kernel, by decide +kernel⟩, by decide +kernel⟩, tg_in 300 (by decide +kernel) (by decide +kernel)⟩
theorem zX11_isWithin : CZ mX11_isWithin := ⟨rfl, rfl⟩
def mX11_isBit : MT := (yX11_isBit, cX11_isBit, 1, (some .boolean), { frames := 1, cells := 0, slots := 0, locals := 22 })
set_option maxRecDepth 100000 in
theorem eX11_isBit : Cond.code (mY mX11_isBit) (mB mX11_isBit) (mN mX11_isBit) (mR mX11_isBit) ∈ lw_tg := tg_in 607 rfl rfl
theorem kX11_isBit : MS mX11_isBit 1 := ⟨⟨eX11_isBit, tg_in 29 (by decide +kernel) (by decide +kernel), ⟨by decide +kernel, by decide +kernel⟩, by decide +kernel⟩, tg_in 606 (by decide +kernel) (by decide +kernel)⟩
theorem zX11_isBit : CZ mX11_isBit := ⟨rfl, rfl⟩
def mX11_takePunched : MT := (yX11_takePunched, cX11_takePunched, 1, (some .boolean), { frames := 3, cells := 0, slots := 0, locals := 82 })
set_option maxRecDepth 100000 in
theorem eX11_takePunched : Cond.code (mY mX11_takePunched) (mB mX11_takePunched) (mN mX11_takePunched) (mR mX11_takePunched) ∈ lw_tg := tg_in 566 rfl rfl
theorem kX11_takePunched : MV mX11_takePunched 0 := ⟨⟨eX11_takePunched, tg_in 29 (by decide +kernel) (by decide +kernel), ⟨by decide +kernel, by decide +kernel⟩, by decide +kernel⟩, tg_in 565 (by decide +kernel) (by decide +kernel), tg_in 3 (by decide +kernel) (by decide +kernel)⟩
theorem zX11_takePunched : CZ mX11_takePunched := ⟨rfl, rfl⟩
def mX11_printPage : MT := (yX11_printPage, cX11_printPage, 1, none, { frames := 6, cells := 0, slots := 0, locals := 131 })
set_option maxRecDepth 100000 in
theorem eX11_printPage : Cond.code (mY mX11_printPage) (mB mX11_printPage) (mN mX11_printPage) (mR mX11_printPage) ∈ lw_tg := tg_in 684 rfl rfl
theorem kX11_printPage : MV mX11_printPage 0 := ⟨⟨eX11_printPage, tg_in 29 (by decide +kernel) (by decide +kernel), ⟨by decide +kernel, by decide +kernel⟩, by decide +kernel⟩, tg_in 683 (by decide +kernel) (by decide +kernel), tg_in 6 (by decide +kernel) (by decide +kernel)⟩
theorem zX11_printPage : CZ mX11_printPage := ⟨rfl, rfl⟩
def mX11_reckonConfidence : MT := (yX11_reckonConfidence, cX11_reckonConfidence, 3, (some .int), { frames := 4, cells := 0, slots := 0, locals := 93 })
set_option maxRecDepth 100000 in
theorem eX11_reckonConfidence : Cond.code (mY mX11_reckonConfidence) (mB mX11_reckonConfidence) (mN mX11_reckonConfidence) (mR mX11_reckonConfidence) ∈ lw_tg := tg_in 736 rfl rfl
theorem kX11_reckonConfidence : MV mX11_reckonConfidence 2 := ⟨⟨eX11_reckonConfidence, tg_in 29 (by decide +kernel) (by decide +kernel), ⟨by decide +kernel, by decide +kernel⟩, by decide +kernel⟩, tg_in 735 (by decide +kernel) (by decide +kernel), tg_in 10 (by decide +kernel) (by decide +kernel)⟩
theorem zX11_reckonConfidence : CZ mX11_reckonConfidence := ⟨rfl, rfl⟩
def mX12_init : MT := (yX12_init, cX12_init, 1, none, { frames := 1, cells := 16, slots := 2869, locals := 24 })
set_option maxRecDepth 100000 in
theorem eX12_init : Cond.code (mY mX12_init) (mB mX12_init) (mN mX12_init) (mR mX12_init) ∈ lw_tg := tg_in 861 rfl rfl
theorem kX12_init : MI mX12_init 0 := ⟨⟨eX12_init, tg_in 40 (by decide +kernel) (by decide +kernel), ⟨by decide +kernel, by decide +kernel⟩, by decide +kernel⟩, tg_in 860 (by decide +kernel) (by decide +kernel), rfl, rfl⟩
def mX12_copy : MT := (yX12_copy, cX12_copy, 3, none, { frames := 0, cells := 0, slots := 0, locals := 0 })
set_option maxRecDepth 100000 in
theorem eX12_copy : Cond.code (mY mX12_copy) (mB mX12_copy) (mN mX12_copy) (mR mX12_copy) ∈ lw_tg := tg_in 1016 rfl rfl
theorem kX12_copy : MS mX12_copy 2 := ⟨⟨eX12_copy, tg_in 40 (by decide +kernel) (by decide +kernel), ⟨by decide +kernel, by decide +kernel⟩, by decide +kernel⟩, tg_in 1015 (by decide +kernel) (by decide +kernel)⟩
theorem zX12_copy : CZ mX12_copy := ⟨rfl, rfl⟩
def mX12_in : MT := (yX12_in, cX12_in, 6, (some .boolean), { frames := 0, cells := 0, slots := 0, locals := 0 })
set_option maxRecDepth 100000 in
theorem eX12_in : Cond.code (mY mX12_in) (mB mX12_in) (mN mX12_in) (mR mX12_in) ∈ lw_tg := tg_in 943 rfl rfl
theorem kX12_in : MS mX12_in 3 := ⟨⟨eX12_in, tg_in 40 (by decide +kernel) (by decide +kernel), ⟨by decide +kernel, by decide +kernel⟩, by decide +kernel⟩, tg_in 942 (by decide +kernel) (by decide +kernel)⟩
theorem zX12_in : CZ mX12_in := ⟨rfl, rfl⟩
def mX12_has : MT := (yX12_has, cX12_has, 2, (some .boolean), { frames := 0, cells := 0, slots := 0, locals := 0 })
set_option maxRecDepth 100000 in
theorem eX12_has : Cond.code (mY mX12_has) (mB mX12_has) (mN mX12_has) (mR mX12_has) ∈ lw_tg := tg_in 1133 rfl rfl
theorem kX12_has : MS mX12_has 2 := ⟨⟨eX12_has, tg_in 40 (by decide +kernel) (by decide +kernel), ⟨by decide +kernel, by decide +kernel⟩, by decide +kernel⟩, tg_in 1132 (by decide +kernel) (by decide +kernel)⟩
theorem zX12_has : CZ mX12_has := ⟨rfl, rfl⟩
def mX12_figureOf : MT := (yX12_figureOf, cX12_figureOf, 1, (some .int), { frames := 0, cells := 0, slots := 0, locals := 0 })
set_option maxRecDepth 100000 in
theorem eX12_figureOf : Cond.code (mY mX12_figureOf) (mB mX12_figureOf) (mN mX12_figureOf) (mR mX12_figureOf) ∈ lw_tg := tg_in 959 rfl rfl
theorem kX12_figureOf : MS mX12_figureOf 1 := ⟨⟨eX12_figureOf, tg_in 40 (by decide +kernel) (by decide +kernel), ⟨by decide +kernel, by decide +kernel⟩, by decide +kernel⟩, tg_in 958 (by decide +kernel) (by decide +kernel)⟩
theorem zX12_figureOf : CZ mX12_figureOf := ⟨rfl, rfl⟩
def mX12_printOf : MT := (yX12_printOf, cX12_printOf, 2, (some .int), { frames := 1, cells := 0, slots := 0, locals := 20 })
set_option maxRecDepth 100000 in
theorem eX12_printOf : Cond.code (mY mX12_printOf) (mB mX12_printOf) (mN mX12_printOf) (mR mX12_printOf) ∈ lw_tg := tg_in 985 rfl rfl
theorem kX12_printOf : MS mX12_printOf 2 := ⟨⟨eX12_printOf, tg_in 40 (by decide +kernel) (by decide +kernel), ⟨by decide +kernel, by decide +kernel⟩, by decide +kernel⟩, tg_in 984 (by decide +kernel) (by decide +kernel)⟩
theorem zX12_printOf : CZ mX12_printOf := ⟨rfl, rfl⟩
def mX12_caseAfter : MT := (yX12_caseAfter, cX12_caseAfter, 3, (some .int), { frames := 0, cells := 0, slots := 0, locals := 0 })
set_option maxRecDepth 100000 in
theorem eX12_caseAfter : Cond.code (mY mX12_caseAfter) (mB mX12_caseAfter) (mN mX12_caseAfter) (mR mX12_caseAfter) ∈ lw_tg := tg_in 988 rfl rfl
theorem kX12_caseAfter : MS mX12_caseAfter 3 := ⟨⟨eX12_caseAfter, tg_in 40 (by decide +kernel) (by decide +kernel), ⟨by decide +kernel, by decide +kernel⟩, by decide +kernel⟩, tg_in 987 (by decide +kernel) (by decide +kernel)⟩
theorem zX12_caseAfter : CZ mX12_caseAfter := ⟨rfl, rfl⟩
def mX12_codeOf : MT := (yX12_codeOf, cX12_codeOf, 3, (some .int), { frames := 1, cells := 0, slots := 0, locals := 25 })
set_option maxRecDepth 100000 in
theorem eX12_codeOf : Cond.code (mY mX12_codeOf) (mB mX12_codeOf) (mN mX12_codeOf) (mR mX12_codeOf) ∈ lw_tg := tg_in 954 rfl rfl
theorem kX12_codeOf : MS mX12_codeOf 1 := ⟨⟨eX12_codeOf, tg_in 40 (by decide +kernel) (by decide +kernel), ⟨by decide +kernel, by decide +kernel⟩, by decide +kernel⟩, tg_in 953 (by decide +kernel) (by decide +kernel)⟩
theorem zX12_codeOf : CZ mX12_codeOf := ⟨rfl, rfl⟩
def mX12_layPrints : MT := (yX12_layPrints, cX12_layPrints, 4, none, { frames := 2, cells := 0, slots := 0, locals := 41 })
set_option maxRecDepth 100000 in
theorem eX12_layPrints : Cond.code (mY mX12_layPrints) (mB mX12_layPrints) (mN mX12_layPrints) (mR mX12_layPrints) ∈ lw_tg := tg_in 982 rfl rfl
theorem kX12_layPrints : MS mX12_layPrints 3 := ⟨⟨eX12_layPrints, tg_in 40 (by decide +kernel) (by decide +kernel), ⟨by decide +kernel, by decide +kernel⟩, by decide +kernel⟩, tg_in 981 (by decide +kernel) (by decide +kernel)⟩
theorem zX12_layPrints : CZ mX12_layPrints := ⟨rfl, rfl⟩
def mX12_layText : MT := (yX12_layText, cX12_layText, 3, none, { frames := 3, cells := 0, slots := 0, locals := 64 })
set_option maxRecDepth 100000 in
theorem eX12_layText : Cond.code (mY mX12_layText) (mB mX12_layText) (mN mX12_layText) (mR mX12_layText) ∈ lw_tg := tg_in 979 rfl rfl
theorem kX12_layText : MV mX12_layText 1 := ⟨⟨eX12_layText, tg_in 40 (by decide +kernel) (by decide +kernel), ⟨by decide +kernel, by decide +kernel⟩, by decide +kernel⟩, tg_in 978 (by decide +kernel) (by decide +kernel), tg_in 15 (by decide +kernel) (by decide +kernel)⟩
theorem zX12_layText : CZ mX12_layText := ⟨rfl, rfl⟩
def mX12_laySecond : MT := (yX12_laySecond, cX12_laySecond, 3, none, { frames := 3, cells := 0, slots := 0, locals := 64 })
set_option maxRecDepth 100000 in
theorem eX12_laySecond : Cond.code (mY mX12_laySecond) (mB mX12_laySecond) (mN mX12_laySecond) (mR mX12_laySecond) ∈ lw_tg := tg_in 1054 rfl rfl
theorem kX12_laySecond : MV mX12_laySecond 1 := ⟨⟨eX12_laySecond, tg_in 40 (by decide +kernel) (by decide +kernel), ⟨by decide +kernel, by decide +kernel⟩, by decide +kernel⟩, tg_in 1053 (by decide +kernel) (by decide +kernel), tg_in 19 (by decide +kernel) (by decide +kernel)⟩
theorem zX12_laySecond : CZ mX12_laySecond := ⟨rfl, rfl⟩
def mX12_isSameText : MT := (yX12_isSameText, cX12_isSameText, 3, (some .boolean), { frames := 0, cells := 0, slots := 0, locals := 0 })
set_option maxRecDepth 100000 in
theorem eX12_isSameText : Cond.code (mY mX12_isSameText) (mB mX12_isSameText) (mN mX12_isSameText) (mR mX12_isSameText) ∈ lw_tg := tg_in 1058 rfl rfl
theorem kX12_isSameText : MV mX12_isSameText 0 := ⟨⟨eX12_isSameText, tg_in 40 (by decide +kernel) (by decide +kernel), ⟨by decide +kernel, by decide +kernel⟩, by decide +kernel⟩, tg_in 1057 (by decide +kernel) (by decide +kernel), tg_in 20 (by decide +kernel) (by decide +kernel)⟩
theorem zX12_isSameText : CZ mX12_isSameText := ⟨rfl, rfl⟩
def mX12_append : MT := (yX12_append, cX12_append, 2, (some .int), { frames := 1, cells := 0, slots := 0, locals := 25 })
set_option maxRecDepth 100000 in
theorem eX12_append : Cond.code (mY mX12_append) (mB mX12_append) (mN mX12_append) (mR mX12_append) ∈ lw_tg := tg_in 939 rfl rfl
theorem kX12_append : MV mX12_append 1 := ⟨⟨eX12_append, tg_in 40 (by decide +kernel) (by decide +kernel), ⟨by decide +kernel, by decide +kernel⟩, by decide +kernel⟩, tg_in 937 (by decide +kernel) (by decide +kernel), tg_in 938 (by decide +kernel) (by decide +kernel)⟩
theorem zX12_append : CZ mX12_append := ⟨rfl, rfl⟩
def mX12_clearMessage : MT := (yX12_clearMessage, cX12_clearMessage, 2, (some .int), { frames := 0, cells := 0, slots := 0, locals := 0 })
set_option maxRecDepth 100000 in
theorem eX12_clearMessage : Cond.code (mY mX12_clearMessage) (mB mX12_clearMessage) (mN mX12_clearMessage) (mR mX12_clearMessage) ∈ lw_tg := tg_in 947 rfl rfl
theorem kX12_clearMessage : MV mX12_clearMessage 0 := ⟨⟨eX12_clearMessage, tg_in 40 (by decide +kernel) (by decide +kernel), ⟨by decide +kernel, by decide +kernel⟩, by decide +kernel⟩, tg_in 945 (by decide +kernel) (by decide +kernel), tg_in 946 (by decide +kernel) (by decide +kernel)⟩
theorem zX12_clearMessage : CZ mX12_clearMessage := ⟨rfl, rfl⟩
def mX12_errorPosition : MT := (yX12_errorPosition, cX12_errorPosition, 2, (some .int), { frames := 2, cells := 0, slots := 0, locals := 47 })
set_option maxRecDepth 100000 in
theorem eX12_errorPosition : Cond.code (mY mX12_errorPosition) (mB mX12_errorPosition) (mN mX12_errorPosition) (mR mX12_errorPosition) ∈ lw_tg := tg_in 951 rfl rfl
theorem kX12_errorPosition : MV mX12_errorPosition 0 := ⟨⟨eX12_errorPosition, tg_in 40 (by decide +kernel) (by decide +kernel), ⟨by decide +kernel, by decide +kernel⟩, by decide +kernel⟩, tg_in 949 (by decide +kernel) (by decide +kernel), tg_in 950 (by decide +kernel) (by decide +kernel)⟩
theorem zX12_errorPosition : CZ mX12_errorPosition := ⟨rfl, rfl⟩
def mX12_length : MT := (yX12_length, cX12_length, 1, (some .int), { frames := 0, cells := 0, slots := 0, locals := 0 })
set_option maxRecDepth 100000 in
theorem eX12_length : Cond.code (mY mX12_length) (mB mX12_length) (mN mX12_length) (mR mX12_length) ∈ lw_tg := tg_in 963 rfl rfl
theorem kX12_length : MV mX12_length 0 := ⟨⟨eX12_length, tg_in 40 (by decide +kernel) (by decide +kernel), ⟨by decide +kernel, by decide +kernel⟩, by decide +kernel⟩, tg_in 961 (by decide +kernel) (by decide +kernel), tg_in 962 (by decide +kernel) (by decide +kernel)⟩
theorem zX12_length : CZ mX12_length := ⟨rfl, rfl⟩
def mX12_isIndex : MT := (yX12_isIndex, cX12_isIndex, 2, (some .boolean), { frames := 1, cells := 0, slots := 0, locals := 25 })
set_option maxRecDepth 100000 in
theorem eX12_isIndex : Cond.code (mY mX12_isIndex) (mB mX12_isIndex) (mN mX12_isIndex) (mR mX12_isIndex) ∈ lw_tg := tg_in 971 rfl rfl
theorem kX12_isIndex : MV mX12_isIndex 1 := ⟨⟨eX12_isIndex, tg_in 40 (by decide +kernel) (by decide +kernel), ⟨by decide +kernel, by decide +kernel⟩, by decide +kernel⟩, tg_in 970 (by decide +kernel) (by decide +kernel), tg_in 14 (by decide +kernel) (by decide +kernel)⟩
theorem zX12_isIndex : CZ mX12_isIndex := ⟨rfl, rfl⟩
def mX12_codeAt : MT := (yX12_codeAt, cX12_codeAt, 2, (some .int), { frames := 2, cells := 0, slots := 0, locals := 46 })
set_option maxRecDepth 100000 in
theorem eX12_codeAt : Cond.code (mY mX12_codeAt) (mB mX12_codeAt) (mN mX12_codeAt) (mR mX12_codeAt) ∈ lw_tg := tg_in 967 rfl rfl
theorem kX12_codeAt : MV mX12_codeAt 1 := ⟨⟨eX12_codeAt, tg_in 40 (by decide +kernel) (by decide +kernel), ⟨by decide +kernel, by decide +kernel⟩, by decide +kernel⟩, tg_in 965 (by decide +kernel) (by decide +kernel), tg_in 966 (by decide +kernel) (by decide +kernel)⟩
theorem zX12_codeAt : CZ mX12_codeAt := ⟨rfl, rfl⟩
def mX12_caseAt : MT := (yX12_caseAt, cX12_caseAt, 2, (some .int), { frames := 4, cells := 0, slots := 0, locals := 86 })
set_option maxRecDepth 100000 in
theorem eX12_caseAt : Cond.code (mY mX12_caseAt) (mB mX12_caseAt) (mN mX12_caseAt) (mR mX12_caseAt) ∈ lw_tg := tg_in 975 rfl rfl
theorem kX12_caseAt : MV mX12_caseAt 1 := ⟨⟨eX12_caseAt, tg_in 40 (by decide +kernel) (by decide +kernel), ⟨by decide +kernel, by decide +kernel⟩, by decide +kernel⟩, tg_in 973 (by decide +kernel) (by decide +kernel), tg_in 974 (by decide +kernel) (by decide +kernel)⟩
theorem zX12_caseAt : CZ mX12_caseAt := ⟨rfl, rfl⟩
def mX12_printedLength : MT := (yX12_printedLength, cX12_printedLength, 1, (some .int), { frames := 4, cells := 0, slots := 0, locals := 86 })
set_option maxRecDepth 100000 in
theorem eX12_printedLength : Cond.code (mY mX12_printedLength) (mB mX12_printedLength) (mN mX12_printedLength) (mR mX12_printedLength) ∈ lw_tg := tg_in 992 rfl rfl
theorem kX12_printedLength : MV mX12_printedLength 0 := ⟨⟨eX12_printedLength, tg_in 40 (by decide +kernel) (by decide +kernel), ⟨by decide +kernel, by decide +kernel⟩, by decide +kernel⟩, tg_in 990 (by decide +kernel) (by decide +kernel), tg_in 991 (by decide +kernel) (by decide +kernel)⟩
theorem zX12_printedLength : CZ mX12_printedLength := ⟨rfl, rfl⟩
def mX12_printedAt : MT := (yX12_printedAt, cX12_printedAt, 2, (some .int), { frames := 4, cells := 0, slots := 0, locals := 86 })
set_option maxRecDepth 100000 in
theorem eX12_printedAt : Cond.code (mY mX12_printedAt) (mB mX12_printedAt) (mN mX12_printedAt) (mR mX12_printedAt) ∈ lw_tg := tg_in 996 rfl rfl
theorem kX12_printedAt : MV mX12_printedAt 1 := ⟨⟨eX12_printedAt, tg_in 40 (by decide +kernel) (by decide +kernel), ⟨by decide +kernel, by decide +kernel⟩, by decide +kernel⟩, tg_in 994 (by decide +kernel) (by decide +kernel), tg_in 995 (by decide +kernel) (by decide +kernel)⟩
theorem zX12_printedAt : CZ mX12_printedAt := ⟨rfl, rfl⟩
def mX12_note : MT := (yX12_note, cX12_note, 2, none, { frames := 0, cells := 0, slots := 0, locals := 0 })
set_option maxRecDepth 100000 in
theorem eX12_note : Cond.code (mY mX12_note) (mB mX12_note) (mN mX12_note) (mR mX12_note) ∈ lw_tg := tg_in 1005 rfl rfl
theorem kX12_note : MV mX12_note 0 := ⟨⟨eX12_note, tg_in 40 (by decide +kernel) (by decide +kernel), ⟨by decide +kernel, by decide +kernel⟩, by decide +kernel⟩, tg_in 1004 (by decide +kernel) (by decide +kernel), tg_in 16 (by decide +kernel) (by decide +kernel)⟩
theorem zX12_note : CZ mX12_note := ⟨rfl, rfl⟩
def mX12_put : MT := (yX12_put, cX12_put, 2, (some .boolean), { frames := 0, cells := 0, slots := 0, locals := 0 })
set_option maxRecDepth 100000 in
theorem eX12_put : Cond.code (mY mX12_put) (mB mX12_put) (mN mX12_put) (mR mX12_put) ∈ lw_tg := tg_in 1008 rfl rfl
theorem kX12_put : MS mX12_put 2 := ⟨⟨eX12_put, tg_in 40 (by decide +kernel) (by decide +kernel), ⟨by decide +kernel, by decide +kernel⟩, by decide +kernel⟩, tg_in 1007 (by decide +kernel) (by decide +kernel)⟩
theorem zX12_put : CZ mX12_put := ⟨rfl, rfl⟩
def mX12_caseOfAll : MT := (yX12_caseOfAll, cX12_caseOfAll, 3, (some .int), { frames := 1, cells := 0, slots := 0, locals := 22 })
set_option maxRecDepth 100000 in
theorem eX12_caseOfAll : Cond.code (mY mX12_caseOfAll) (mB mX12_caseOfAll) (mN mX12_caseOfAll) (mR mX12_caseOfAll) ∈ lw_tg := tg_in 1022 rfl rfl
theorem kX12_caseOfAll : MS mX12_caseOfAll 1 := ⟨⟨eX12_caseOfAll, tg_in 40 (by decide +kernel) (by decide +kernel), ⟨by decide +kernel, by decide +kernel⟩, by decide +kernel⟩, tg_in 1021 (by decide +kernel) (by decide +kernel)⟩
theorem zX12_caseOfAll : CZ mX12_caseOfAll := ⟨rfl, rfl⟩
def mX12_encode : MT := (yX12_encode, cX12_encode, 6, (some .boolean), { frames := 2, cells := 0, slots := 0, locals := 47 })
set_option maxRecDepth 100000 in
theorem eX12_encode : Cond.code (mY mX12_encode) (mB mX12_encode) (mN mX12_encode) (mR mX12_encode) ∈ lw_tg := tg_in 1019 rfl rfl
theorem kX12_encode : MS mX12_encode 2 := ⟨⟨eX12_encode, tg_in 40 (by decide +kernel) (by decide +kernel), ⟨by decide +kernel, by decide +kernel⟩, by decide +kernel⟩, tg_in 1018 (by decide +kernel) (by decide +kernel)⟩
theorem zX12_encode : CZ mX12_encode := ⟨rfl, rfl⟩
def mX12_punch : MT := (yX12_punch, cX12_punch, 3, (some .int), { frames := 1, cells := 0, slots := 0, locals := 25 })
set_option maxRecDepth 100000 in
theorem eX12_punch : Cond.code (mY mX12_punch) (mB mX12_punch) (mN mX12_punch) (mR mX12_punch) ∈ lw_tg := tg_in 1000 rfl rfl
theorem kX12_punch : MV mX12_punch 1 := ⟨⟨eX12_punch, tg_in 40 (by decide +kernel) (by decide +kernel), ⟨by decide +kernel, by decide +kernel⟩, by decide +kernel⟩, tg_in 998 (by decide +kernel) (by decide +kernel), tg_in 999 (by decide +kernel) (by decide +kernel)⟩
theorem zX12_punch : CZ mX12_punch := ⟨rfl, rfl⟩
def mX12_encodeMessage : MT := (yX12_encodeMessage, cX12_encodeMessage, 3, (some .int), { frames := 3, cells := 0, slots := 0, locals := 72 })
set_option maxRecDepth 100000 in
theorem eX12_encodeMessage : Cond.code (mY mX12_encodeMessage) (mB mX12_encodeMessage) (mN mX12_encodeMessage) (mR mX12_encodeMessage) ∈ lw_tg := tg_in 1012 rfl rfl
theorem kX12_encodeMessage : MV mX12_encodeMessage 0 := ⟨⟨eX12_encodeMessage, tg_in 40 (by decide +kernel) (by decide +kernel), ⟨by decide +kernel, by decide +kernel⟩, by decide +kernel⟩, tg_in 1010 (by decide +kernel) (by decide +kernel), tg_in 1011 (by decide +kernel) (by decide +kernel)⟩
theorem zX12_encodeMessage : CZ mX12_encodeMessage := ⟨rfl, rfl⟩
def mX12_take : MT := (yX12_take, cX12_take, 2, (some .int), { frames := 1, cells := 0, slots := 0, locals := 22 })
set_option maxRecDepth 100000 in
theorem eX12_take : Cond.code (mY mX12_take) (mB mX12_take) (mN mX12_take) (mR mX12_take) ∈ lw_tg := tg_in 1026 rfl rfl
theorem kX12_take : MV mX12_take 1 := ⟨⟨eX12_take, tg_in 40 (by decide +kernel) (by decide +kernel), ⟨by decide +kernel, by decide +kernel⟩, by decide +kernel⟩, tg_in 1025 (by decide +kernel) (by decide +kernel), tg_in 17 (by decide +kernel) (by decide +kernel)⟩
theorem zX12_take : CZ mX12_take := ⟨rfl, rfl⟩
def mX12_isBlank : MT := (yX12_isBlank, cX12_isBlank, 3, (some .boolean), { frames := 0, cells := 0, slots := 0, locals := 0 })
set_option maxRecDepth 100000 in
theorem eX12_isBlank : Cond.code (mY mX12_isBlank) (mB mX12_isBlank) (mN mX12_isBlank) (mR mX12_isBlank) ∈ lw_tg := tg_in 1034 rfl rfl
theorem kX12_isBlank : MV mX12_isBlank 1 := ⟨⟨eX12_isBlank, tg_in 40 (by decide +kernel) (by decide +kernel), ⟨by decide +kernel, by decide +kernel⟩, by decide +kernel⟩, tg_in 1033 (by decide +kernel) (by decide +kernel), tg_in 18 (by decide +kernel) (by decide +kernel)⟩
theorem zX12_isBlank : CZ mX12_isBlank := ⟨rfl, rfl⟩
def mX12_encodeWrapped : MT := (yX12_encodeWrapped, cX12_encodeWrapped, 6, (some .int), { frames := 3, cells := 0, slots := 0, locals := 72 })
set_option maxRecDepth 100000 in
theorem eX12_encodeWrapped : Cond.code (mY mX12_encodeWrapped) (mB mX12_encodeWrapped) (mN mX12_encodeWrapped) (mR mX12_encodeWrapped) ∈ lw_tg := tg_in 1030 rfl rfl
theorem kX12_encodeWrapped : MV mX12_encodeWrapped 0 := ⟨⟨eX12_encodeWrapped, tg_in 40 (by decide +kernel) (by decide +kernel), ⟨by decide +kernel, by decide +kernel⟩, by decide +kernel⟩, tg_in 1028 (by decide +kernel) (by decide +kernel), tg_in 1029 (by decide +kernel) (by decide +kernel)⟩
theorem zX12_encodeWrapped : CZ mX12_encodeWrapped := ⟨rfl, rfl⟩
def mX12_takeOut : MT := (yX12_takeOut, cX12_takeOut, 3, none, { frames := 0, cells := 0, slots := 0, locals := 0 })
set_option maxRecDepth 100000 in
theorem eX12_takeOut : Cond.code (mY mX12_takeOut) (mB mX12_takeOut) (mN mX12_takeOut) (mR mX12_takeOut) ∈ lw_tg := tg_in 1041 rfl rfl
theorem kX12_takeOut : MS mX12_takeOut 2 := ⟨⟨eX12_takeOut, tg_in 40 (by decide +kernel) (by decide +kernel), ⟨by decide +kernel, by decide +kernel⟩, by decide +kernel⟩, tg_in 1040 (by decide +kernel) (by decide +kernel)⟩
theorem zX12_takeOut : CZ mX12_takeOut := ⟨rfl, rfl⟩
def mX12_remove : MT := (yX12_remove, cX12_remove, 3, (some .int), { frames := 2, cells := 0, slots := 0, locals := 46 })
set_option maxRecDepth 100000 in
theorem eX12_remove : Cond.code (mY mX12_remove) (mB mX12_remove) (mN mX12_remove) (mR mX12_remove) ∈ lw_tg := tg_in 1038 rfl rfl
theorem kX12_remove : MV mX12_remove 1 := ⟨⟨eX12_remove, tg_in 40 (by decide +kernel) (by decide +kernel), ⟨by decide +kernel, by decide +kernel⟩, by decide +kernel⟩, tg_in 1036 (by decide +kernel) (by decide +kernel), tg_in 1037 (by decide +kernel) (by decide +kernel)⟩
theorem zX12_remove : CZ mX12_remove := ⟨rfl, rfl⟩
def mX12_flip : MT := (yX12_flip, cX12_flip, 3, (some .int), { frames := 2, cells := 0, slots := 0, locals := 46 })
set_option maxRecDepth 100000 in
theorem eX12_flip : Cond.code (mY mX12_flip) (mB mX12_flip) (mN mX12_flip) (mR mX12_flip) ∈ lw_tg := tg_in 1045 rfl rfl
theorem kX12_flip : MV mX12_flip 2 := ⟨⟨eX12_flip, tg_in 40 (by decide +kernel) (by decide +kernel), ⟨by decide +kernel, by decide +kernel⟩, by decide +kernel⟩, tg_in 1043 (by decide +kernel) (by decide +kernel), tg_in 1044 (by decide +kernel) (by decide +kernel)⟩
theorem zX12_flip : CZ mX12_flip := ⟨rfl, rfl⟩
def mX12_compact : MT := (yX12_compact, cX12_compact, 4, (some .int), { frames := 4, cells := 0, slots := 0, locals := 86 })
set_option maxRecDepth 100000 in
theorem eX12_compact : Cond.code (mY mX12_compact) (mB mX12_compact) (mN mX12_compact) (mR mX12_compact) ∈ lw_tg := tg_in 1050 rfl rfl
theorem kX12_compact : MV mX12_compact 0 := ⟨⟨eX12_compact, tg_in 40 (by decide +kernel) (by decide +kernel), ⟨by decide +kernel, by decide +kernel⟩, by decide +kernel⟩, tg_in 1048 (by decide +kernel) (by decide +kernel), tg_in 1049 (by decide +kernel) (by decide +kernel)⟩
theorem zX12_compact : CZ mX12_compact := ⟨rfl, rfl⟩
def mX12_caseFor : MT := (yX12_caseFor, cX12_caseFor, 3, (some .int), { frames := 2, cells := 0, slots := 0, locals := 41 })
set_option maxRecDepth 100000 in
theorem eX12_caseFor : Cond.code (mY mX12_caseFor) (mB mX12_caseFor) (mN mX12_caseFor) (mR mX12_caseFor) ∈ lw_tg := tg_in 1065 rfl rfl
theorem kX12_caseFor : MS mX12_caseFor 3 := ⟨⟨eX12_caseFor, tg_in 40 (by decide +kernel) (by decide +kernel), ⟨by decide +kernel, by decide +kernel⟩, by decide +kernel⟩, tg_in 1064 (by decide +kernel) (by decide +kernel)⟩
theorem zX12_caseFor : CZ mX12_caseFor := ⟨rfl, rfl⟩
def mX12_repair : MT := (yX12_repair, cX12_repair, 9, (some .int), { frames := 3, cells := 0, slots := 0, locals := 63 })
set_option maxRecDepth 100000 in
theorem eX12_repair : Cond.code (mY mX12_repair) (mB mX12_repair) (mN mX12_repair) (mR mX12_repair) ∈ lw_tg := tg_in 1062 rfl rfl
theorem kX12_repair : MV mX12_repair 0 := ⟨⟨eX12_repair, tg_in 40 (by decide +kernel) (by decide +kernel), ⟨by decide +kernel, by decide +kernel⟩, by decide +kernel⟩, tg_in 1060 (by decide +kernel) (by decide +kernel), tg_in 1061 (by decide +kernel) (by decide +kernel)⟩
theorem zX12_repair : CZ mX12_repair := ⟨rfl, rfl⟩
def mX12_turn : MT := (yX12_turn, cX12_turn, 6, (some .int), { frames := 1, cells := 0, slots := 0, locals := 25 })
set_option maxRecDepth 100000 in
theorem eX12_turn : Cond.code (mY mX12_turn) (mB mX12_turn) (mN mX12_turn) (mR mX12_turn) ∈ lw_tg := tg_in 1073 rfl rfl
theorem kX12_turn : MV mX12_turn 4 := ⟨⟨eX12_turn, tg_in 40 (by decide +kernel) (by decide +kernel), ⟨by decide +kernel, by decide +kernel⟩, by decide +kernel⟩, tg_in 1072 (by decide +kernel) (by decide +kernel), tg_in 21 (by decide +kernel) (by decide +kernel)⟩
theorem zX12_turn : CZ mX12_turn := ⟨rfl, rfl⟩
def mX12_setStartCase : MT := (yX12_setStartCase, cX12_setStartCase, 2, (some .int), { frames := 2, cells := 0, slots := 0, locals := 50 })
set_option maxRecDepth 100000 in
theorem eX12_setStartCase : Cond.code (mY mX12_setStartCase) (mB mX12_setStartCase) (mN mX12_setStartCase) (mR mX12_setStartCase) ∈ lw_tg := tg_in 1069 rfl rfl
theorem kX12_setStartCase : MV mX12_setStartCase 1 := ⟨⟨eX12_setStartCase, tg_in 40 (by decide +kernel) (by decide +kernel), ⟨by decide +kernel, by decide +kernel⟩, by decide +kernel⟩, tg_in 1067 (by decide +kernel) (by decide +kernel), tg_in 1068 (by decide +kernel) (by decide +kernel)⟩
theorem zX12_setStartCase : CZ mX12_setStartCase := ⟨rfl, rfl⟩
def mX12_setUnshiftOnSpace : MT := (yX12_setUnshiftOnSpace, cX12_setUnshiftOnSpace, 2, (some .int), { frames := 2, cells := 0, slots := 0, locals := 50 })
set_option maxRecDepth 100000 in
theorem eX12_setUnshiftOnSpace : Cond.code (mY mX12_setUnshiftOnSpace) (mB mX12_setUnshiftOnSpace) (mN mX12_setUnshiftOnSpace) (mR mX12_setUnshiftOnSpace) ∈ lw_tg := tg_in 1077 rfl rfl
theorem kX12_setUnshiftOnSpace : MV mX12_setUnshiftOnSpace 1 := ⟨⟨eX12_setUnshiftOnSpace, tg_in 40 (by decide +kernel) (by decide +kernel), ⟨by decide +kernel, by decide +kernel⟩, by decide +kernel⟩, tg_in 1075 (by decide +kernel) (by decide +kernel), tg_in 1076 (by decide +kernel) (by decide +kernel)⟩
theorem zX12_setUnshiftOnSpace : CZ mX12_setUnshiftOnSpace := ⟨rfl, rfl⟩
def mX12_setWidth : MT := (yX12_setWidth, cX12_setWidth, 2, (some .int), { frames := 2, cells := 0, slots := 0, locals := 50 })
set_option maxRecDepth 100000 in
theorem eX12_setWidth : Cond.code (mY mX12_setWidth) (mB mX12_setWidth) (mN mX12_setWidth) (mR mX12_setWidth) ∈ lw_tg := tg_in 1081 rfl rfl
theorem kX12_setWidth : MV mX12_setWidth 1 := ⟨⟨eX12_setWidth, tg_in 40 (by decide +kernel) (by decide +kernel), ⟨by decide +kernel, by decide +kernel⟩, by decide +kernel⟩, tg_in 1079 (by decide +kernel) (by decide +kernel), tg_in 1080 (by decide +kernel) (by decide +kernel)⟩
theorem zX12_setWidth : CZ mX12_setWidth := ⟨rfl, rfl⟩
def mX12_undo : MT := (yX12_undo, cX12_undo, 2, (some .int), { frames := 0, cells := 0, slots := 0, locals := 0 })
set_option maxRecDepth 100000 in
theorem eX12_undo : Cond.code (mY mX12_undo) (mB mX12_undo) (mN mX12_undo) (mR mX12_undo) ∈ lw_tg := tg_in 1085 rfl rfl
theorem kX12_undo : MV mX12_undo 0 := ⟨⟨eX12_undo, tg_in 40 (by decide +kernel) (by decide +kernel), ⟨by decide +kernel, by decide +kernel⟩, by decide +kernel⟩, tg_in 1083 (by decide +kernel) (by decide +kernel), tg_in 1084 (by decide +kernel) (by decide +kernel)⟩
theorem zX12_undo : CZ mX12_undo := ⟨rfl, rfl⟩
def mX12_layPage : MT := (yX12_layPage, cX12_layPage, 7, none, { frames := 4, cells := 0, slots := 0, locals := 86 })
set_option maxRecDepth 100000 in
theorem eX12_layPage : Cond.code (mY mX12_layPage) (mB mX12_layPage) (mN mX12_layPage) (mR mX12_layPage) ∈ lw_tg := tg_in 1094 rfl rfl
theorem kX12_layPage : MV mX12_layPage 0 := ⟨⟨eX12_layPage, tg_in 40 (by decide +kernel) (by decide +kernel), ⟨by decide +kernel, by decide +kernel⟩, by decide +kernel⟩, tg_in 1093 (by decide +kernel) (by decide +kernel), tg_in 22 (by decide +kernel) (by decide +kernel)⟩
theorem zX12_layPage : CZ mX12_layPage := ⟨rfl, rfl⟩
def mX12_cell : MT := (yX12_cell, cX12_cell, 3, (some .int), { frames := 5, cells := 0, slots := 0, locals := 112 })
set_option maxRecDepth 100000 in
theorem eX12_cell : Cond.code (mY mX12_cell) (mB mX12_cell) (mN mX12_cell) (mR mX12_cell) ∈ lw_tg := tg_in 1089 rfl rfl
theorem kX12_cell : MV mX12_cell 2 := ⟨⟨eX12_cell, tg_in 40 (by decide +kernel) (by decide +kernel), ⟨by decide +kernel, by decide +kernel⟩, by decide +kernel⟩, tg_in 1087 (by decide +kernel) (by decide +kernel), tg_in 1088 (by decide +kernel) (by decide +kernel)⟩
theorem zX12_cell : CZ mX12_cell := ⟨rfl, rfl⟩
def mX12_overstrikes : MT := (yX12_overstrikes, cX12_overstrikes, 1, (some .int), { frames := 5, cells := 0, slots := 0, locals := 112 })
set_option maxRecDepth 100000 in
theorem eX12_overstrikes : Cond.code (mY mX12_overstrikes) (mB mX12_overstrikes) (mN mX12_overstrikes) (mR mX12_overstrikes) ∈ lw_tg := tg_in 1098 rfl rfl
theorem kX12_overstrikes : MV mX12_overstrikes 0 := ⟨⟨eX12_overstrikes, tg_in 40 (by decide +kernel) (by decide +kernel), ⟨by decide +kernel, by decide +kernel⟩, by decide +kernel⟩, tg_in 1096 (by decide +kernel) (by decide +kernel), tg_in 1097 (by decide +kernel) (by decide +kernel)⟩
theorem zX12_overstrikes : CZ mX12_overstrikes := ⟨rfl, rfl⟩
def mX12_damageIfLost : MT := (yX12_damageIfLost, cX12_damageIfLost, 4, (some .int), { frames := 4, cells := 0, slots := 0, locals := 86 })
set_option maxRecDepth 100000 in
theorem eX12_damageIfLost : Cond.code (mY mX12_damageIfLost) (mB mX12_damageIfLost) (mN mX12_damageIfLost) (mR mX12_damageIfLost) ∈ lw_tg := tg_in 1102 rfl rfl
theorem kX12_damageIfLost : MV mX12_damageIfLost 1 := ⟨⟨eX12_damageIfLost, tg_in 40 (by decide +kernel) (by decide +kernel), ⟨by decide +kernel, by decide +kernel⟩, by decide +kernel⟩, tg_in 1100 (by decide +kernel) (by decide +kernel), tg_in 1101 (by decide +kernel) (by decide +kernel)⟩
theorem zX12_damageIfLost : CZ mX12_damageIfLost := ⟨rfl, rfl⟩
def mX12_unlike : MT := (yX12_unlike, cX12_unlike, 3, (some .int), { frames := 4, cells := 0, slots := 0, locals := 86 })
set_option maxRecDepth 100000 in
theorem eX12_unlike : Cond.code (mY mX12_unlike) (mB mX12_unlike) (mN mX12_unlike) (mR mX12_unlike) ∈ lw_tg := tg_in 1110 rfl rfl
theorem kX12_unlike : MV mX12_unlike 0 := ⟨⟨eX12_unlike, tg_in 40 (by decide +kernel) (by decide +kernel), ⟨by decide +kernel, by decide +kernel⟩, by decide +kernel⟩, tg_in 1109 (by decide +kernel) (by decide +kernel), tg_in 23 (by decide +kernel) (by decide +kernel)⟩
theorem zX12_unlike : CZ mX12_unlike := ⟨rfl, rfl⟩
def mX12_damageIfFlipped : MT := (yX12_damageIfFlipped, cX12_damageIfFlipped, 3, (some .int), { frames := 5, cells := 0, slots := 0, locals := 108 })
set_option maxRecDepth 100000 in
theorem eX12_damageIfFlipped : Cond.code (mY mX12_damageIfFlipped) (mB mX12_damageIfFlipped) (mN mX12_damageIfFlipped) (mR mX12_damageIfFlipped) ∈ lw_tg := tg_in 1106 rfl rfl
theorem kX12_damageIfFlipped : MV mX12_damageIfFlipped 2 := ⟨⟨eX12_damageIfFlipped, tg_in 40 (by decide +kernel) (by decide +kernel), ⟨by decide +kernel, by decide +kernel⟩, by decide +kernel⟩, tg_in 1104 (by decide +kernel) (by decide +kernel), tg_in 1105 (by decide +kernel) (by decide +kernel)⟩
theorem zX12_damageIfFlipped : CZ mX12_damageIfFlipped := ⟨rfl, rfl⟩
def mX12_isShift : MT := (yX12_isShift, cX12_isShift, 1, (some .boolean), { frames := 0, cells := 0, slots := 0, locals := 0 })
set_option maxRecDepth 100000 in
theorem eX12_isShift : Cond.code (mY mX12_isShift) (mB mX12_isShift) (mN mX12_isShift) (mR mX12_isShift) ∈ lw_tg := tg_in 1126 rfl rfl
theorem kX12_isShift : MS mX12_isShift 1 := ⟨⟨eX12_isShift, tg_in 40 (by decide +kernel) (by decide +kernel), ⟨by decide +kernel, by decide +kernel⟩, by decide +kernel⟩, tg_in 1125 (by decide +kernel) (by decide +kernel)⟩
theorem zX12_isShift : CZ mX12_isShift := ⟨rfl, rfl⟩
def mX12_shiftsBelow : MT := (yX12_shiftsBelow, cX12_shiftsBelow, 4, (some .int), { frames := 1, cells := 0, slots := 0, locals := 20 })
set_option maxRecDepth 100000 in
theorem eX12_shiftsBelow : Cond.code (mY mX12_shiftsBelow) (mB mX12_shiftsBelow) (mN mX12_shiftsBelow) (mR mX12_shiftsBelow) ∈ lw_tg := tg_in 1123 rfl rfl
theorem kX12_shiftsBelow : MV mX12_shiftsBelow 1 := ⟨⟨eX12_shiftsBelow, tg_in 40 (by decide +kernel) (by decide +kernel), ⟨by decide +kernel, by decide +kernel⟩, by decide +kernel⟩, tg_in 1122 (by decide +kernel) (by decide +kernel), tg_in 25 (by decide +kernel) (by decide +kernel)⟩
theorem zX12_shiftsBelow : CZ mX12_shiftsBelow := ⟨rfl, rfl⟩
def mX12_power : MT := (yX12_power, cX12_power, 4, (some .int), { frames := 0, cells := 0, slots := 0, locals := 0 })
set_option maxRecDepth 100000 in
theorem eX12_power : Cond.code (mY mX12_power) (mB mX12_power) (mN mX12_power) (mR mX12_power) ∈ lw_tg := tg_in 1136 rfl rfl
theorem kX12_power : MS mX12_power 2 := ⟨⟨eX12_power, tg_in 40 (by decide +kernel) (by decide +kernel), ⟨by decide +kernel, by decide +kernel⟩, by decide +kernel⟩, tg_in 1135 (by decide +kernel) (by decide +kernel)⟩
theorem zX12_power : CZ mX12_power := ⟨rfl, rfl⟩
def mX12_caseBut : MT := (yX12_caseBut, cX12_caseBut, 8, (some .int), { frames := 1, cells := 0, slots := 0, locals := 22 })
set_option maxRecDepth 100000 in
theorem eX12_caseBut : Cond.code (mY mX12_caseBut) (mB mX12_caseBut) (mN mX12_caseBut) (mR mX12_caseBut) ∈ lw_tg := tg_in 1130 rfl rfl
theorem kX12_caseBut : MV mX12_caseBut 2 := ⟨⟨eX12_caseBut, tg_in 40 (by decide +kernel) (by decide +kernel), ⟨by decide +kernel, by decide +kernel⟩, by decide +kernel⟩, tg_in 1129 (by decide +kernel) (by decide +kernel), tg_in 26 (by decide +kernel) (by decide +kernel)⟩
theorem zX12_caseBut : CZ mX12_caseBut := ⟨rfl, rfl⟩
def mX12_confidence : MT := (yX12_confidence, cX12_confidence, 11, (some .int), { frames := 2, cells := 0, slots := 0, locals := 49 })
set_option maxRecDepth 100000 in
theorem eX12_confidence : Cond.code (mY mX12_confidence) (mB mX12_confidence) (mN mX12_confidence) (mR mX12_confidence) ∈ lw_tg := tg_in 1118 rfl rfl
theorem kX12_confidence : MV mX12_confidence 3 := ⟨⟨eX12_confidence, tg_in 40 (by decide +kernel) (by decide +kernel), ⟨by decide +kernel, by decide +kernel⟩, by decide +kernel⟩, tg_in 1117 (by decide +kernel) (by decide +kernel), tg_in 24 (by decide +kernel) (by decide +kernel)⟩
theorem zX12_confidence : CZ mX12_confidence := ⟨rfl, rfl⟩
def mX12_confidenceNumerator : MT := (yX12_confidenceNumerator, cX12_confidenceNumerator, 3, (some .int), { frames := 3, cells := 0, slots := 0, locals := 79 })
set_option maxRecDepth 100000 in
theorem eX12_confidenceNumerator : Cond.code (mY mX12_confidenceNumerator) (mB mX12_confidenceNumerator) (mN mX12_confidenceNumerator) (mR mX12_confidenceNumerator) ∈ lw_tg := tg_in 1114 rfl rfl
theorem kX12_confidenceNumerator : MV mX12_confidenceNumerator 2 := ⟨⟨eX12_confidenceNumerator, tg_in 40 (by decide +kernel) (by decide +kernel), ⟨by decide +kernel, by decide +kernel⟩, by decide +kernel⟩, tg_in 1112 (by decide +kernel) (by decide +kernel), tg_in 1113 (by decide +kernel) (by decide +kernel)⟩
theorem zX12_confidenceNumerator : CZ mX12_confidenceNumerator := ⟨rfl, rfl⟩
def mX12_confidenceDenominator : MT := (yX12_confidenceDenominator, cX12_confidenceDenominator, 3, (some .int), { frames := 3, cells := 0, slots := 0, locals := 79 })
set_option maxRecDepth 100000 in
theorem eX12_confidenceDenominator : Cond.code (mY mX12_confidenceDenominator) (mB mX12_confidenceDenominator) (mN mX12_confidenceDenominator) (mR mX12_confidenceDenominator) ∈ lw_tg := tg_in 1140 rfl rfl
theorem kX12_confidenceDenominator : MV mX12_confidenceDenominator 2 := ⟨⟨eX12_confidenceDenominator, tg_in 40 (by decide +kernel) (by decide +kernel), ⟨by decide +kernel, by decide +kernel⟩, by decide +kernel⟩, tg_in 1138 (by decide +kernel) (by decide +kernel), tg_in 1139 (by decide +kernel) (by decide +kernel)⟩
theorem zX12_confidenceDenominator : CZ mX12_confidenceDenominator := ⟨rfl, rfl⟩
def mX12_command : MT := (yX12_command, cX12_command, 3, (some .boolean), { frames := 4, cells := 0, slots := 0, locals := 86 })
set_option maxRecDepth 100000 in
theorem eX12_command : Cond.code (mY mX12_command) (mB mX12_command) (mN mX12_command) (mR mX12_command) ∈ lw_tg := tg_in 1152 rfl rfl
theorem kX12_command : MV mX12_command 2 := ⟨⟨eX12_command, tg_in 40 (by decide +kernel) (by decide +kernel), ⟨by decide +kernel, by decide +kernel⟩, by decide +kernel⟩, tg_in 1151 (by decide +kernel) (by decide +kernel), tg_in 27 (by decide +kernel) (by decide +kernel)⟩
theorem zX12_command : CZ mX12_command := ⟨rfl, rfl⟩
def mX12_thousands : MT := (yX12_thousands, cX12_thousands, 4, (some .long), { frames := 0, cells := 0, slots := 0, locals := 0 })
set_option maxRecDepth 100000 in
theorem eX12_thousands : Cond.code (mY mX12_thousands) (mB mX12_thousands) (mN mX12_thousands) (mR mX12_thousands) ∈ lw_tg := tg_in 1147 rfl rfl
theorem kX12_thousands : MS mX12_thousands 1 := ⟨⟨eX12_thousands, tg_in 40 (by decide +kernel) (by decide +kernel), ⟨by decide +kernel, by decide +kernel⟩, by decide +kernel⟩, tg_in 1146 (by decide +kernel) (by decide +kernel)⟩
theorem zX12_thousands : CZ mX12_thousands := ⟨rfl, rfl⟩
def mX12_runScript : MT := (yX12_runScript, cX12_runScript, 6, (some .int), { frames := 5, cells := 0, slots := 0, locals := 108 })
set_option maxRecDepth 100000 in
theorem eX12_runScript : Cond.code (mY mX12_runScript) (mB mX12_runScript) (mN mX12_runScript) (mR mX12_runScript) ∈ lw_tg := tg_in 1144 rfl rfl
theorem kX12_runScript : MV mX12_runScript 2 := ⟨⟨eX12_runScript, tg_in 40 (by decide +kernel) (by decide +kernel), ⟨by decide +kernel, by decide +kernel⟩, by decide +kernel⟩, tg_in 1142 (by decide +kernel) (by decide +kernel), tg_in 1143 (by decide +kernel) (by decide +kernel)⟩
theorem zX12_runScript : CZ mX12_runScript := ⟨rfl, rfl⟩
def mX12_observe : MT := (yX12_observe, cX12_observe, 3, (some .int), { frames := 1, cells := 0, slots := 0, locals := 25 })
set_option maxRecDepth 100000 in
theorem eX12_observe : Cond.code (mY mX12_observe) (mB mX12_observe) (mN mX12_observe) (mR mX12_observe) ∈ lw_tg := tg_in 1156 rfl rfl
theorem kX12_observe : MV mX12_observe 2 := ⟨⟨eX12_observe, tg_in 40 (by decide +kernel) (by decide +kernel), ⟨by decide +kernel, by decide +kernel⟩, by decide +kernel⟩, tg_in 1154 (by decide +kernel) (by decide +kernel), tg_in 1155 (by decide +kernel) (by decide +kernel)⟩
theorem zX12_observe : CZ mX12_observe := ⟨rfl, rfl⟩
def mX12_possibleSettings : MT := (yX12_possibleSettings, cX12_possibleSettings, 5, (some .int), { frames := 4, cells := 0, slots := 0, locals := 86 })
set_option maxRecDepth 100000 in
theorem eX12_possibleSettings : Cond.code (mY mX12_possibleSettings) (mB mX12_possibleSettings) (mN mX12_possibleSettings) (mR mX12_possibleSettings) ∈ lw_tg := tg_in 1161 rfl rfl
theorem kX12_possibleSettings : MV mX12_possibleSettings 0 := ⟨⟨eX12_possibleSettings, tg_in 40 (by decide +kernel) (by decide +kernel), ⟨by decide +kernel, by decide +kernel⟩, by decide +kernel⟩, tg_in 1159 (by decide +kernel) (by decide +kernel), tg_in 1160 (by decide +kernel) (by decide +kernel)⟩
theorem zX12_possibleSettings : CZ mX12_possibleSettings := ⟨rfl, rfl⟩
def mX12_noise : MT := (yX12_noise, cX12_noise, 9, (some .int), { frames := 5, cells := 0, slots := 0, locals := 108 })
set_option maxRecDepth 100000 in
theorem eX12_noise : Cond.code (mY mX12_noise) (mB mX12_noise) (mN mX12_noise) (mR mX12_noise) ∈ lw_tg := tg_in 1165 rfl rfl
theorem kX12_noise : MV mX12_noise 2 := ⟨⟨eX12_noise, tg_in 40 (by decide +kernel) (by decide +kernel), ⟨by decide +kernel, by decide +kernel⟩, by decide +kernel⟩, tg_in 1163 (by decide +kernel) (by decide +kernel), tg_in 1164 (by decide +kernel) (by decide +kernel)⟩
theorem zX12_noise : CZ mX12_noise := ⟨rfl, rfl⟩
def mX12_save : MT := (yX12_save, cX12_save, 3, (some .int), { frames := 1, cells := 0, slots := 0, locals := 25 })
set_option maxRecDepth 100000 in
theorem eX12_save : Cond.code (mY mX12_save) (mB mX12_save) (mN mX12_save) (mR mX12_save) ∈ lw_tg := tg_in 1172 rfl rfl
theorem kX12_save : MV mX12_save 1 := ⟨⟨eX12_save, tg_in 40 (by decide +kernel) (by decide +kernel), ⟨by decide +kernel, by decide +kernel⟩, by decide +kernel⟩, tg_in 1170 (by decide +kernel) (by decide +kernel), tg_in 1171 (by decide +kernel) (by decide +kernel)⟩
theorem zX12_save : CZ mX12_save := ⟨rfl, rfl⟩
def mX12_restore : MT := (yX12_restore, cX12_restore, 3, (some .int), { frames := 1, cells := 0, slots := 0, locals := 25 })
set_option maxRecDepth 100000 in
theorem eX12_restore : Cond.code (mY mX12_restore) (mB mX12_restore) (mN mX12_restore) (mR mX12_restore) ∈ lw_tg := tg_in 1176 rfl rfl
theorem kX12_restore : MV mX12_restore 1 := ⟨⟨eX12_restore, tg_in 40 (by decide +kernel) (by decide +kernel), ⟨by decide +kernel, by decide +kernel⟩, by decide +kernel⟩, tg_in 1174 (by decide +kernel) (by decide +kernel), tg_in 1175 (by decide +kernel) (by decide +kernel)⟩
theorem zX12_restore : CZ mX12_restore := ⟨rfl, rfl⟩
def mX12_editDistance : MT := (yX12_editDistance, cX12_editDistance, 6, (some .int), { frames := 4, cells := 0, slots := 0, locals := 86 })
set_option maxRecDepth 100000 in
theorem eX12_editDistance : Cond.code (mY mX12_editDistance) (mB mX12_editDistance) (mN mX12_editDistance) (mR mX12_editDistance) ∈ lw_tg := tg_in 1180 rfl rfl
theorem kX12_editDistance : MV mX12_editDistance 1 := ⟨⟨eX12_editDistance, tg_in 40 (by decide +kernel) (by decide +kernel), ⟨by decide +kernel, by decide +kernel⟩, by decide +kernel⟩, tg_in 1178 (by decide +kernel) (by decide +kernel), tg_in 1179 (by decide +kernel) (by decide +kernel)⟩
theorem zX12_editDistance : CZ mX12_editDistance := ⟨rfl, rfl⟩
def mJ9_max_7cf53 : MT := (yJ9_max_7cf53, cJ9_max_7cf53, 2, (some .int), { frames := 0, cells := 0, slots := 0, locals := 0 })
set_option maxRecDepth 100000 in
theorem eJ9_max_7cf53 : Cond.code (mY mJ9_max_7cf53) (mB mJ9_max_7cf53) (mN mJ9_max_7cf53) (mR mJ9_max_7cf53) ∈ lw_tg := tg_in 352 rfl rfl
theorem kJ9_max_7cf53 : MS mJ9_max_7cf53 2 := ⟨⟨eJ9_max_7cf53, tg_in 44 (by decide +kernel) (by decide +kernel), ⟨by decide +kernel, by decide +kernel⟩, by decide +kernel⟩, tg_in 351 (by decide +kernel) (by decide +kernel)⟩
theorem zJ9_max_7cf53 : CZ mJ9_max_7cf53 := ⟨rfl, rfl⟩
def mJ9_min_7cf53 : MT := (yJ9_min_7cf53, cJ9_min_7cf53, 2, (some .int), { frames := 0, cells := 0, slots := 0, locals := 0 })
set_option maxRecDepth 100000 in
theorem eJ9_min_7cf53 : Cond.code (mY mJ9_min_7cf53) (mB mJ9_min_7cf53) (mN mJ9_min_7cf53) (mR mJ9_min_7cf53) ∈ lw_tg := tg_in 355 rfl rfl
theorem kJ9_min_7cf53 : MS mJ9_min_7cf53 2 := ⟨⟨eJ9_min_7cf53, tg_in 44 (by decide +kernel) (by decide +kernel), ⟨by decide +kernel, by decide +kernel⟩, by decide +kernel⟩, tg_in 354 (by decide +kernel) (by decide +kernel)⟩
theorem zJ9_min_7cf53 : CZ mJ9_min_7cf53 := ⟨rfl, rfl⟩
def mJ0_length_8abf5 : MT := (yJ0_length_8abf5, cJ0_length_8abf5, 1, (some .int), { frames := 1, cells := 0, slots := 0, locals := 20 })
set_option maxRecDepth 100000 in
theorem eJ0_length_8abf5 : Cond.code (mY mJ0_length_8abf5) (mB mJ0_length_8abf5) (mN mJ0_length_8abf5) (mR mJ0_length_8abf5) ∈ lw_tg := tg_in 339 rfl rfl
theorem kJ0_length_8abf5 : MV mJ0_length_8abf5 0 := ⟨⟨eJ0_length_8abf5, tg_in 42 (by decide +kernel) (by decide +kernel), ⟨by decide +kernel, by decide +kernel⟩, by decide +kernel⟩, tg_in 337 (by decide +kernel) (by decide +kernel), tg_in 338 (by decide +kernel) (by decide +kernel)⟩
theorem zJ0_length_8abf5 : CZ mJ0_length_8abf5 := ⟨rfl, rfl⟩
def mJ0_charAt_5068e : MT := (yJ0_charAt_5068e, cJ0_charAt_5068e, 2, (some .char), { frames := 3, cells := 0, slots := 0, locals := 64 })
set_option maxRecDepth 100000 in
theorem eJ0_charAt_5068e : Cond.code (mY mJ0_charAt_5068e) (mB mJ0_charAt_5068e) (mN mJ0_charAt_5068e) (mR mJ0_charAt_5068e) ∈ lw_tg := tg_in 460 rfl rfl
theorem kJ0_charAt_5068e : MV mJ0_charAt_5068e 1 := ⟨⟨eJ0_charAt_5068e, tg_in 42 (by decide +kernel) (by decide +kernel), ⟨by decide +kernel, by decide +kernel⟩, by decide +kernel⟩, tg_in 458 (by decide +kernel) (by decide +kernel), tg_in 459 (by decide +kernel) (by decide +kernel)⟩
theorem zJ0_charAt_5068e : CZ mJ0_charAt_5068e := ⟨rfl, rfl⟩
def mJ0_indexOf_0f7a4 : MT := (yJ0_indexOf_0f7a4, cJ0_indexOf_0f7a4, 2, (some .int), { frames := 3, cells := 0, slots := 0, locals := 70 })
set_option maxRecDepth 100000 in
theorem eJ0_indexOf_0f7a4 : Cond.code (mY mJ0_indexOf_0f7a4) (mB mJ0_indexOf_0f7a4) (mN mJ0_indexOf_0f7a4) (mR mJ0_indexOf_0f7a4) ∈ lw_tg := tg_in 325 rfl rfl
theorem kJ0_indexOf_0f7a4 : MV mJ0_indexOf_0f7a4 1 := ⟨⟨eJ0_indexOf_0f7a4, tg_in 42 (by decide +kernel) (by decide +kernel), ⟨by decide +kernel, by decide +kernel⟩, by decide +kernel⟩, tg_in 323 (by decide +kernel) (by decide +kernel), tg_in 324 (by decide +kernel) (by decide +kernel)⟩
theorem zJ0_indexOf_0f7a4 : CZ mJ0_indexOf_0f7a4 := ⟨rfl, rfl⟩
def mJ0_indexOf_7cf53 : MT := (yJ0_indexOf_7cf53, cJ0_indexOf_7cf53, 3, (some .int), { frames := 2, cells := 0, slots := 0, locals := 48 })
set_option maxRecDepth 100000 in
theorem eJ0_indexOf_7cf53 : Cond.code (mY mJ0_indexOf_7cf53) (mB mJ0_indexOf_7cf53) (mN mJ0_indexOf_7cf53) (mR mJ0_indexOf_7cf53) ∈ lw_tg := tg_in 329 rfl rfl
theorem kJ0_indexOf_7cf53 : MV mJ0_indexOf_7cf53 2 := ⟨⟨eJ0_indexOf_7cf53, tg_in 42 (by decide +kernel) (by decide +kernel), ⟨by decide +kernel, by decide +kernel⟩, by decide +kernel⟩, tg_in 327 (by decide +kernel) (by decide +kernel), tg_in 328 (by decide +kernel) (by decide +kernel)⟩
theorem zJ0_indexOf_7cf53 : CZ mJ0_indexOf_7cf53 := ⟨rfl, rfl⟩
def mJ0_coder_7d493 : MT := (yJ0_coder_7d493, cJ0_coder_7d493, 1, (some .byte), { frames := 0, cells := 0, slots := 0, locals := 0 })
set_option maxRecDepth 100000 in
theorem eJ0_coder_7d493 : Cond.code (mY mJ0_coder_7d493) (mB mJ0_coder_7d493) (mN mJ0_coder_7d493) (mR mJ0_coder_7d493) ∈ lw_tg := tg_in 343 rfl rfl
theorem kJ0_coder_7d493 : MV mJ0_coder_7d493 0 := ⟨⟨eJ0_coder_7d493, tg_in 42 (by decide +kernel) (by decide +kernel), ⟨by decide +kernel, by decide +kernel⟩, by decide +kernel⟩, tg_in 341 (by decide +kernel) (by decide +kernel), tg_in 342 (by decide +kernel) (by decide +kernel)⟩
theorem zJ0_coder_7d493 : CZ mJ0_coder_7d493 := ⟨rfl, rfl⟩
def mJ0_isLatin1_aae02 : MT := (yJ0_isLatin1_aae02, cJ0_isLatin1_aae02, 1, (some .boolean), { frames := 0, cells := 0, slots := 0, locals := 0 })
set_option maxRecDepth 100000 in
theorem eJ0_isLatin1_aae02 : Cond.code (mY mJ0_isLatin1_aae02) (mB mJ0_isLatin1_aae02) (mN mJ0_isLatin1_aae02) (mR mJ0_isLatin1_aae02) ∈ lw_tg := tg_in 333 rfl rfl
theorem kJ0_isLatin1_aae02 : MV mJ0_isLatin1_aae02 0 := ⟨⟨eJ0_isLatin1_aae02, tg_in 42 (by decide +kernel) (by decide +kernel), ⟨by decide +kernel, by decide +kernel⟩, by decide +kernel⟩, tg_in 331 (by decide +kernel) (by decide +kernel), tg_in 332 (by decide +kernel) (by decide +kernel)⟩
theorem zJ0_isLatin1_aae02 : CZ mJ0_isLatin1_aae02 := ⟨rfl, rfl⟩
def mJ0_checkIndex_df160 : MT := (yJ0_checkIndex_df160, cJ0_checkIndex_df160, 2, none, { frames := 1, cells := 0, slots := 0, locals := 22 })
set_option maxRecDepth 100000 in
theorem eJ0_checkIndex_df160 : Cond.code (mY mJ0_checkIndex_df160) (mB mJ0_checkIndex_df160) (mN mJ0_checkIndex_df160) (mR mJ0_checkIndex_df160) ∈ lw_tg := tg_in 466 rfl rfl
theorem kJ0_checkIndex_df160 : MS mJ0_checkIndex_df160 2 := ⟨⟨eJ0_checkIndex_df160, tg_in 42 (by decide +kernel) (by decide +kernel), ⟨by decide +kernel, by decide +kernel⟩, by decide +kernel⟩, tg_in 465 (by decide +kernel) (by decide +kernel)⟩
theorem zJ0_checkIndex_df160 : CZ mJ0_checkIndex_df160 := ⟨rfl, rfl⟩
def mJ1_charAt_3b067 : MT := (yJ1_charAt_3b067, cJ1_charAt_3b067, 2, (some .char), { frames := 2, cells := 0, slots := 0, locals := 43 })
set_option maxRecDepth 100000 in
theorem eJ1_charAt_3b067 : Cond.code (mY mJ1_charAt_3b067) (mB mJ1_charAt_3b067) (mN mJ1_charAt_3b067) (mR mJ1_charAt_3b067) ∈ lw_tg := tg_in 463 rfl rfl
theorem kJ1_charAt_3b067 : MS mJ1_charAt_3b067 2 := ⟨⟨eJ1_charAt_3b067, tg_in 43 (by decide +kernel) (by decide +kernel), ⟨by decide +kernel, by decide +kernel⟩, by decide +kernel⟩, tg_in 462 (by decide +kernel) (by decide +kernel)⟩
theorem zJ1_charAt_3b067 : CZ mJ1_charAt_3b067 := ⟨rfl, rfl⟩
def mJ1_canEncode_9a6ad : MT := (yJ1_canEncode_9a6ad, cJ1_canEncode_9a6ad, 1, (some .boolean), { frames := 0, cells := 0, slots := 0, locals := 0 })
set_option maxRecDepth 100000 in
theorem eJ1_canEncode_9a6ad : Cond.code (mY mJ1_canEncode_9a6ad) (mB mJ1_canEncode_9a6ad) (mN mJ1_canEncode_9a6ad) (mR mJ1_canEncode_9a6ad) ∈ lw_tg := tg_in 349 rfl rfl
theorem kJ1_canEncode_9a6ad : MS mJ1_canEncode_9a6ad 1 := ⟨⟨eJ1_canEncode_9a6ad, tg_in 43 (by decide +kernel) (by decide +kernel), ⟨by decide +kernel, by decide +kernel⟩, by decide +kernel⟩, tg_in 348 (by decide +kernel) (by decide +kernel)⟩
theorem zJ1_canEncode_9a6ad : CZ mJ1_canEncode_9a6ad := ⟨rfl, rfl⟩
def mJ1_indexOf_4cfef : MT := (yJ1_indexOf_4cfef, cJ1_indexOf_4cfef, 4, (some .int), { frames := 1, cells := 0, slots := 0, locals := 25 })
set_option maxRecDepth 100000 in
theorem eJ1_indexOf_4cfef : Cond.code (mY mJ1_indexOf_4cfef) (mB mJ1_indexOf_4cfef) (mN mJ1_indexOf_4cfef) (mR mJ1_indexOf_4cfef) ∈ lw_tg := tg_in 346 rfl rfl
theorem kJ1_indexOf_4cfef : MS mJ1_indexOf_4cfef 4 := ⟨⟨eJ1_indexOf_4cfef, tg_in 43 (by decide +kernel) (by decide +kernel), ⟨by decide +kernel, by decide +kernel⟩, by decide +kernel⟩, tg_in 345 (by decide +kernel) (by decide +kernel)⟩
theorem zJ1_indexOf_4cfef : CZ mJ1_indexOf_4cfef := ⟨rfl, rfl⟩
def mJ1_indexOfChar_4cfef : MT := (yJ1_indexOfChar_4cfef, cJ1_indexOfChar_4cfef, 6, (some .int), { frames := 0, cells := 0, slots := 0, locals := 0 })
set_option maxRecDepth 100000 in
theorem eJ1_indexOfChar_4cfef : Cond.code (mY mJ1_indexOfChar_4cfef) (mB mJ1_indexOfChar_4cfef) (mN mJ1_indexOfChar_4cfef) (mR mJ1_indexOfChar_4cfef) ∈ lw_tg := tg_in 358 rfl rfl
theorem kJ1_indexOfChar_4cfef : MS mJ1_indexOfChar_4cfef 4 := ⟨⟨eJ1_indexOfChar_4cfef, tg_in 43 (by decide +kernel) (by decide +kernel), ⟨by decide +kernel, by decide +kernel⟩, by decide +kernel⟩, tg_in 357 (by decide +kernel) (by decide +kernel)⟩
theorem zJ1_indexOfChar_4cfef : CZ mJ1_indexOfChar_4cfef := ⟨rfl, rfl⟩
def mJ7_fill_53178 : MT := (yJ7_fill_53178, cJ7_fill_53178, 4, none, { frames := 0, cells := 0, slots := 0, locals := 0 })
set_option maxRecDepth 100000 in
theorem eJ7_fill_53178 : Cond.code (mY mJ7_fill_53178) (mB mJ7_fill_53178) (mN mJ7_fill_53178) (mR mJ7_fill_53178) ∈ lw_tg := tg_in 691 rfl rfl
theorem kJ7_fill_53178 : MS mJ7_fill_53178 2 := ⟨⟨eJ7_fill_53178, tg_in 49 (by decide +kernel) (by decide +kernel), ⟨by decide +kernel, by decide +kernel⟩, by decide +kernel⟩, tg_in 690 (by decide +kernel) (by decide +kernel)⟩
theorem zJ7_fill_53178 : CZ mJ7_fill_53178 := ⟨rfl, rfl⟩
def mJ3_checkIndex_8e157 : MT := (yJ3_checkIndex_8e157, cJ3_checkIndex_8e157, 3, (some .int), { frames := 0, cells := 0, slots := 0, locals := 0 })
set_option maxRecDepth 100000 in
theorem eJ3_checkIndex_8e157 : Cond.code (mY mJ3_checkIndex_8e157) (mB mJ3_checkIndex_8e157) (mN mJ3_checkIndex_8e157) (mR mJ3_checkIndex_8e157) ∈ lw_tg := tg_in 469 rfl rfl
theorem kJ3_checkIndex_8e157 : MS mJ3_checkIndex_8e157 3 := ⟨⟨eJ3_checkIndex_8e157, tg_in 46 (by decide +kernel) (by decide +kernel), ⟨by decide +kernel, by decide +kernel⟩, by decide +kernel⟩, tg_in 468 (by decide +kernel) (by decide +kernel)⟩
theorem zJ3_checkIndex_8e157 : CZ mJ3_checkIndex_8e157 := ⟨rfl, rfl⟩
def mL_law : MT := (yL_law, cL_law, 4, (some .boolean), room_1)
theorem lL_9 : MLk RL 9 yX11_init := Or.inl (tg_in 52 (by decide +kernel) (by decide +kernel))
theorem lX11_1 : Cond.methodLink RX11 1 objectInit ∈ lw_tg := tg_in 55 (by decide +kernel) (by decide +kernel)
theorem lX11_9 : MLk RX11 9 yX9_init := Or.inr ⟨"TeleprinterTape", tg_in 60 (by decide +kernel) (by decide +kernel)⟩
theorem lX9_3 : Cond.methodLink RX9 3 objectInit ∈ lw_tg := tg_in 63 (by decide +kernel) (by decide +kernel)
theorem lX11_21 : MLk RX11 21 yX6_init := Or.inr ⟨"TeleprinterTape", tg_in 96 (by decide +kernel) (by decide +kernel)⟩
theorem lX6_3 : Cond.methodLink RX6 3 objectInit ∈ lw_tg := tg_in 99 (by decide +kernel) (by decide +kernel)
theorem lX6_11 : MLk RX6 11 yX9_init := Or.inr ⟨"TeleprinterTape", tg_in 101 (by decide +kernel) (by decide +kernel)⟩
theorem lX11_28 : MLk RX11 28 yX3_init := Or.inr ⟨"TeleprinterTape", tg_in 116 (by decide +kernel) (by decide +kernel)⟩
theorem lX3_3 : Cond.methodLink RX3 3 objectInit ∈ lw_tg := tg_in 119 (by decide +kernel) (by decide +kernel)
theorem lX11_35 : MLk RX11 35 yX2_init := Or.inl (tg_in 131 (by decide +kernel) (by decide +kernel))
theorem lX2_3 : Cond.methodLink RX2 3 objectInit ∈ lw_tg := tg_in 134 (by decide +kernel) (by decide +kernel)
theorem lX2_24 : MLk RX2 24 yX9_init := Or.inr ⟨"TeleprinterTape", tg_in 137 (by decide +kernel) (by decide +kernel)⟩
theorem lX11_42 : MLk RX11 42 yX8_init := Or.inl (tg_in 151 (by decide +kernel) (by decide +kernel))
theorem lX8_3 : Cond.methodLink RX8 3 objectInit ∈ lw_tg := tg_in 154 (by decide +kernel) (by decide +kernel)
theorem lX8_21 : MLk RX8 21 yX9_init := Or.inr ⟨"TeleprinterTape", tg_in 156 (by decide +kernel) (by decide +kernel)⟩
theorem lX11_49 : MLk RX11 49 yX10_init := Or.inr ⟨"TeleprinterTape", tg_in 167 (by decide +kernel) (by decide +kernel)⟩
theorem lX10_3 : Cond.methodLink RX10 3 objectInit ∈ lw_tg := tg_in 170 (by decide +kernel) (by decide +kernel)
theorem lX11_59 : MLk RX11 59 yX5_init := Or.inr ⟨"TeleprinterTape", tg_in 186 (by decide +kernel) (by decide +kernel)⟩
theorem lX5_3 : Cond.methodLink RX5 3 objectInit ∈ lw_tg := tg_in 189 (by decide +kernel) (by decide +kernel)
theorem lX11_66 : MLk RX11 66 yX4_init := Or.inr ⟨"TeleprinterTape", tg_in 206 (by decide +kernel) (by decide +kernel)⟩
theorem lX4_3 : Cond.methodLink RX4 3 objectInit ∈ lw_tg := tg_in 209 (by decide +kernel) (by decide +kernel)
theorem lX11_73 : MLk RX11 73 yX1_init := Or.inr ⟨"TeleprinterTape", tg_in 226 (by decide +kernel) (by decide +kernel)⟩
theorem lX1_3 : Cond.methodLink RX1 3 objectInit ∈ lw_tg := tg_in 229 (by decide +kernel) (by decide +kernel)
theorem lX11_80 : MLk RX11 80 yX7_init := Or.inr ⟨"TeleprinterTape", tg_in 247 (by decide +kernel) (by decide +kernel)⟩
theorem lX7_3 : Cond.methodLink RX7 3 objectInit ∈ lw_tg := tg_in 250 (by decide +kernel) (by decide +kernel)
theorem lL_13 : MLk RL 13 yX11_append := Or.inl (tg_in 295 (by decide +kernel) (by decide +kernel))
theorem lX11_85 : MLk RX11 85 yX11_isWithin := Or.inl (tg_in 299 (by decide +kernel) (by decide +kernel))
theorem lX11_89 : MLk RX11 89 yX3_add := Or.inl (tg_in 302 (by decide +kernel) (by decide +kernel))
theorem lL_18 : MLk RL 18 yX11_clearMessage := Or.inl (tg_in 306 (by decide +kernel) (by decide +kernel))
theorem lL_23 : MLk RL 23 yX11_errorPosition := Or.inl (tg_in 310 (by decide +kernel) (by decide +kernel))
theorem lX11_97 : MLk RX11 97 yX3_firstNotEncodable := Or.inl (tg_in 314 (by decide +kernel) (by decide +kernel))
theorem lX3_19 : MLk RX3 19 yX0_of := Or.inl (tg_in 318 (by decide +kernel) (by decide +kernel))
theorem lX0_25 : MLk RX0 25 yJ0_indexOf_0f7a4 := Or.inl (tg_in 322 (by decide +kernel) (by decide +kernel))
theorem lJ0_633 : MLk RJ0 633 yJ0_indexOf_7cf53 := Or.inl (tg_in 326 (by decide +kernel) (by decide +kernel))
theorem lJ0_492 : MLk RJ0 492 yJ0_isLatin1_aae02 := Or.inl (tg_in 330 (by decide +kernel) (by decide +kernel))
theorem lJ0_505 : MLk RJ0 505 yJ0_length_8abf5 := Or.inl (tg_in 336 (by decide +kernel) (by decide +kernel))
theorem lJ0_335 : MLk RJ0 335 yJ0_coder_7d493 := Or.inl (tg_in 340 (by decide +kernel) (by decide +kernel))
theorem lJ0_637 : MLk RJ0 637 yJ1_indexOf_4cfef := Or.inl (tg_in 344 (by decide +kernel) (by decide +kernel))
theorem lJ1_88 : MLk RJ1 88 yJ1_canEncode_9a6ad := Or.inl (tg_in 347 (by decide +kernel) (by decide +kernel))
theorem lJ1_92 : MLk RJ1 92 yJ9_max_7cf53 := Or.inl (tg_in 350 (by decide +kernel) (by decide +kernel))
theorem lJ1_38 : MLk RJ1 38 yJ9_min_7cf53 := Or.inl (tg_in 353 (by decide +kernel) (by decide +kernel))
theorem lJ1_95 : MLk RJ1 95 yJ1_indexOfChar_4cfef := Or.inl (tg_in 356 (by decide +kernel) (by decide +kernel))
theorem lJ2_224 : MLk RJ2 224 yJ9_max_7cf53 := Or.inl (tg_in 362 (by decide +kernel) (by decide +kernel))
theorem lJ2_183 : MLk RJ2 183 yJ9_min_7cf53 := Or.inl (tg_in 363 (by decide +kernel) (by decide +kernel))
theorem lL_27 : MLk RL 27 yX11_length := Or.inl (tg_in 410 (by decide +kernel) (by decide +kernel))
theorem lL_31 : MLk RL 31 yX11_codeAt := Or.inl (tg_in 414 (by decide +kernel) (by decide +kernel))
theorem lX11_102 : MLk RX11 102 yX9_has := Or.inl (tg_in 418 (by decide +kernel) (by decide +kernel))
theorem lX11_105 : MLk RX11 105 yX9_at := Or.inl (tg_in 422 (by decide +kernel) (by decide +kernel))
theorem lX9_38 : MLk RX9 38 yX9_has := Or.inl (tg_in 426 (by decide +kernel) (by decide +kernel))
theorem lL_35 : MLk RL 35 yX11_caseAt := Or.inl (tg_in 427 (by decide +kernel) (by decide +kernel))
theorem lX11_109 : MLk RX11 109 yX9_caseBefore := Or.inl (tg_in 431 (by decide +kernel) (by decide +kernel))
theorem lX9_48 : MLk RX9 48 yX9_caseAfter := Or.inl (tg_in 435 (by decide +kernel) (by decide +kernel))
theorem lX9_44 : MLk RX9 44 yX0_caseAfter := Or.inl (tg_in 439 (by decide +kernel) (by decide +kernel))
theorem lL_39 : MLk RL 39 yX11_printedLength := Or.inl (tg_in 442 (by decide +kernel) (by decide +kernel))
theorem lX11_112 : MLk RX11 112 yX10_read := Or.inl (tg_in 446 (by decide +kernel) (by decide +kernel))
theorem lX10_28 : MLk RX10 28 yX9_at := Or.inl (tg_in 450 (by decide +kernel) (by decide +kernel))
theorem lX10_32 : MLk RX10 32 yX0_printed := Or.inl (tg_in 451 (by decide +kernel) (by decide +kernel))
theorem lX0_11 : MLk RX0 11 yX0_dependsOnCase := Or.inl (tg_in 454 (by decide +kernel) (by decide +kernel))
theorem lX0_17 : MLk RX0 17 yJ0_charAt_5068e := Or.inl (tg_in 457 (by decide +kernel) (by decide +kernel))
theorem lJ0_495 : MLk RJ0 495 yJ1_charAt_3b067 := Or.inl (tg_in 461 (by decide +kernel) (by decide +kernel))
theorem lJ1_9 : MLk RJ1 9 yJ0_checkIndex_df160 := Or.inl (tg_in 464 (by decide +kernel) (by decide +kernel))
theorem lJ0_1059 : MLk RJ0 1059 yJ3_checkIndex_8e157 := Or.inl (tg_in 467 (by decide +kernel) (by decide +kernel))
theorem lJ2_414 : MLk RJ2 414 yJ0_checkIndex_df160 := Or.inl (tg_in 476 (by decide +kernel) (by decide +kernel))
theorem lX10_38 : MLk RX10 38 yX9_caseAfter := Or.inl (tg_in 477 (by decide +kernel) (by decide +kernel))
theorem lL_43 : MLk RL 43 yX11_printedAt := Or.inl (tg_in 478 (by decide +kernel) (by decide +kernel))
theorem lX11_117 : MLk RX11 117 yX10_has := Or.inl (tg_in 482 (by decide +kernel) (by decide +kernel))
theorem lX11_118 : MLk RX11 118 yX10_at := Or.inl (tg_in 486 (by decide +kernel) (by decide +kernel))
theorem lX10_41 : MLk RX10 41 yX10_has := Or.inl (tg_in 490 (by decide +kernel) (by decide +kernel))
theorem lL_47 : MLk RL 47 yX11_punch := Or.inl (tg_in 491 (by decide +kernel) (by decide +kernel))
theorem lX11_121 : MLk RX11 121 yX9_isFull := Or.inl (tg_in 495 (by decide +kernel) (by decide +kernel))
theorem lX11_125 : MLk RX11 125 yX2_remember := Or.inl (tg_in 499 (by decide +kernel) (by decide +kernel))
theorem lX2_25 : MLk RX2 25 yX9_become := Or.inl (tg_in 503 (by decide +kernel) (by decide +kernel))
theorem lX9_28 : Cond.methodLink RX9 28 arraycopyName ∈ lw_tg := tg_in 507 (by decide +kernel) (by decide +kernel)
theorem lX9_34 : MLk RX9 34 yX9_takeSettings := Or.inl (tg_in 510 (by decide +kernel) (by decide +kernel))
theorem lX2_29 : MLk RX2 29 yJ9_min_7cf53 := Or.inl (tg_in 514 (by decide +kernel) (by decide +kernel))
theorem lX11_128 : MLk RX11 128 yX9_add := Or.inl (tg_in 515 (by decide +kernel) (by decide +kernel))
theorem lL_51 : MLk RL 51 yX11_encodeMessage := Or.inl (tg_in 519 (by decide +kernel) (by decide +kernel))
theorem lX11_129 : MLk RX11 129 yX3_isEncodable := Or.inl (tg_in 523 (by decide +kernel) (by decide +kernel))
theorem lX3_25 : MLk RX3 25 yX3_firstNotEncodable := Or.inl (tg_in 527 (by decide +kernel) (by decide +kernel))
theorem lX11_132 : MLk RX11 132 yX6_beginBehind := Or.inl (tg_in 528 (by decide +kernel) (by decide +kernel))
theorem lX6_26 : MLk RX6 26 yX9_become := Or.inl (tg_in 532 (by decide +kernel) (by decide +kernel))
theorem lX6_33 : MLk RX6 33 yX9_caseBefore := Or.inl (tg_in 533 (by decide +kernel) (by decide +kernel))
theorem lX11_135 : MLk RX11 135 yX6_encodeRun := Or.inl (tg_in 534 (by decide +kernel) (by decide +kernel))
theorem lX6_75 : MLk RX6 75 yX3_at := Or.inl (tg_in 538 (by decide +kernel) (by decide +kernel))
theorem lX6_78 : MLk RX6 78 yX6_encode := Or.inl (tg_in 542 (by decide +kernel) (by decide +kernel))
theorem lX6_66 : MLk RX6 66 yX6_shiftFor := Or.inl (tg_in 546 (by decide +kernel) (by decide +kernel))
theorem lX6_56 : MLk RX6 56 yX0_caseFor := Or.inl (tg_in 550 (by decide +kernel) (by decide +kernel))
theorem lX6_59 : MLk RX6 59 yX0_shiftTo := Or.inl (tg_in 553 (by decide +kernel) (by decide +kernel))
theorem lX6_62 : MLk RX6 62 yX6_put := Or.inl (tg_in 556 (by decide +kernel) (by decide +kernel))
theorem lX6_43 : MLk RX6 43 yX9_add := Or.inl (tg_in 560 (by decide +kernel) (by decide +kernel))
theorem lX6_50 : MLk RX6 50 yX0_caseAfter := Or.inl (tg_in 561 (by decide +kernel) (by decide +kernel))
theorem lX6_69 : MLk RX6 69 yX0_of := Or.inl (tg_in 562 (by decide +kernel) (by decide +kernel))
theorem lX11_139 : MLk RX11 139 yX11_takePunched := Or.inl (tg_in 563 (by decide +kernel) (by decide +kernel))
theorem lX11_196 : MLk RX11 196 yX9_become := Or.inl (tg_in 567 (by decide +kernel) (by decide +kernel))
theorem lL_55 : MLk RL 55 yX11_encodeWrapped := Or.inl (tg_in 568 (by decide +kernel) (by decide +kernel))
theorem lX11_145 : MLk RX11 145 yX6_encodeWords := Or.inl (tg_in 572 (by decide +kernel) (by decide +kernel))
theorem lX6_81 : MLk RX6 81 yX3_beginsWord := Or.inl (tg_in 576 (by decide +kernel) (by decide +kernel))
theorem lX3_29 : MLk RX3 29 yX3_isBetweenWords := Or.inl (tg_in 580 (by decide +kernel) (by decide +kernel))
theorem lX6_84 : MLk RX6 84 yX3_endOfWord := Or.inl (tg_in 584 (by decide +kernel) (by decide +kernel))
theorem lX6_87 : MLk RX6 87 yX6_placeWord := Or.inl (tg_in 588 (by decide +kernel) (by decide +kernel))
theorem lX6_90 : MLk RX6 90 yX6_encodeRun := Or.inl (tg_in 592 (by decide +kernel) (by decide +kernel))
theorem lL_59 : MLk RL 59 yX11_remove := Or.inl (tg_in 593 (by decide +kernel) (by decide +kernel))
theorem lX11_149 : MLk RX11 149 yX9_takeOut := Or.inl (tg_in 597 (by decide +kernel) (by decide +kernel))
theorem lL_63 : MLk RL 63 yX11_flip := Or.inl (tg_in 601 (by decide +kernel) (by decide +kernel))
theorem lX11_152 : MLk RX11 152 yX11_isBit := Or.inl (tg_in 605 (by decide +kernel) (by decide +kernel))
theorem lX11_155 : MLk RX11 155 yX9_turnBit := Or.inl (tg_in 608 (by decide +kernel) (by decide +kernel))
theorem lL_68 : MLk RL 68 yX11_compact := Or.inl (tg_in 612 (by decide +kernel) (by decide +kernel))
theorem lX11_159 : MLk RX11 159 yX9_dropRedundant := Or.inl (tg_in 616 (by decide +kernel) (by decide +kernel))
theorem lX9_64 : MLk RX9 64 yX9_isRedundant := Or.inl (tg_in 620 (by decide +kernel) (by decide +kernel))
theorem lX9_55 : MLk RX9 55 yX9_at := Or.inl (tg_in 624 (by decide +kernel) (by decide +kernel))
theorem lX9_70 : MLk RX9 70 yX0_isShift := Or.inl (tg_in 625 (by decide +kernel) (by decide +kernel))
theorem lX9_73 : MLk RX9 73 yX9_lossDamage := Or.inl (tg_in 628 (by decide +kernel) (by decide +kernel))
theorem lX9_51 : MLk RX9 51 yX9_caseBefore := Or.inl (tg_in 632 (by decide +kernel) (by decide +kernel))
theorem lX9_58 : MLk RX9 58 yX0_dependsOnCase := Or.inl (tg_in 633 (by decide +kernel) (by decide +kernel))
theorem lX9_67 : MLk RX9 67 yX9_takeOut := Or.inl (tg_in 634 (by decide +kernel) (by decide +kernel))
theorem lL_72 : MLk RL 72 yX11_repair := Or.inl (tg_in 635 (by decide +kernel) (by decide +kernel))
theorem lX11_162 : MLk RX11 162 yX3_canBeReadFrom := Or.inl (tg_in 639 (by decide +kernel) (by decide +kernel))
theorem lX3_36 : MLk RX3 36 yX9_at := Or.inl (tg_in 643 (by decide +kernel) (by decide +kernel))
theorem lX3_39 : MLk RX3 39 yX0_printed := Or.inl (tg_in 644 (by decide +kernel) (by decide +kernel))
theorem lX3_43 : MLk RX3 43 yX3_at := Or.inl (tg_in 645 (by decide +kernel) (by decide +kernel))
theorem lX11_166 : MLk RX11 166 yX6_beginAnew := Or.inl (tg_in 646 (by decide +kernel) (by decide +kernel))
theorem lX6_37 : MLk RX6 37 yX9_takeSettings := Or.inl (tg_in 650 (by decide +kernel) (by decide +kernel))
theorem lX11_169 : MLk RX11 169 yX6_punchRepaired := Or.inl (tg_in 651 (by decide +kernel) (by decide +kernel))
theorem lX6_94 : MLk RX6 94 yX9_at := Or.inl (tg_in 655 (by decide +kernel) (by decide +kernel))
theorem lX6_95 : MLk RX6 95 yX0_printed := Or.inl (tg_in 656 (by decide +kernel) (by decide +kernel))
theorem lL_76 : MLk RL 76 yX11_setStartCase := Or.inl (tg_in 657 (by decide +kernel) (by decide +kernel))
theorem lL_80 : MLk RL 80 yX11_setUnshiftOnSpace := Or.inl (tg_in 661 (by decide +kernel) (by decide +kernel))
theorem lL_84 : MLk RL 84 yX11_setWidth := Or.inl (tg_in 665 (by decide +kernel) (by decide +kernel))
theorem lL_88 : MLk RL 88 yX11_undo := Or.inl (tg_in 669 (by decide +kernel) (by decide +kernel))
theorem lX11_179 : MLk RX11 179 yX2_bringBack := Or.inl (tg_in 673 (by decide +kernel) (by decide +kernel))
theorem lL_92 : MLk RL 92 yX11_cell := Or.inl (tg_in 677 (by decide +kernel) (by decide +kernel))
theorem lX11_184 : MLk RX11 184 yX11_printPage := Or.inl (tg_in 681 (by decide +kernel) (by decide +kernel))
theorem lX11_254 : MLk RX11 254 yX5_print := Or.inl (tg_in 685 (by decide +kernel) (by decide +kernel))
theorem lX5_25 : MLk RX5 25 yJ7_fill_53178 := Or.inl (tg_in 689 (by decide +kernel) (by decide +kernel))
theorem lX5_36 : MLk RX5 36 yX10_at := Or.inl (tg_in 692 (by decide +kernel) (by decide +kernel))
theorem lX5_40 : MLk RX5 40 yX5_printCharacter := Or.inl (tg_in 693 (by decide +kernel) (by decide +kernel))
theorem lX5_44 : MLk RX5 44 yX5_feedLine := Or.inl (tg_in 697 (by decide +kernel) (by decide +kernel))
theorem lX5_57 : Cond.methodLink RX5 57 arraycopyName ∈ lw_tg := tg_in 701 (by decide +kernel) (by decide +kernel)
theorem lX5_47 : MLk RX5 47 yX5_strike := Or.inl (tg_in 702 (by decide +kernel) (by decide +kernel))
theorem lX5_51 : MLk RX5 51 yJ9_min_7cf53 := Or.inl (tg_in 706 (by decide +kernel) (by decide +kernel))
theorem lX11_187 : MLk RX11 187 yX5_at := Or.inl (tg_in 707 (by decide +kernel) (by decide +kernel))
theorem lL_96 : MLk RL 96 yX11_overstrikes := Or.inl (tg_in 711 (by decide +kernel) (by decide +kernel))
theorem lL_100 : MLk RL 100 yX11_damageIfLost := Or.inl (tg_in 715 (by decide +kernel) (by decide +kernel))
theorem lX11_193 : MLk RX11 193 yX9_lossDamage := Or.inl (tg_in 719 (by decide +kernel) (by decide +kernel))
theorem lL_104 : MLk RL 104 yX11_damageIfFlipped := Or.inl (tg_in 720 (by decide +kernel) (by decide +kernel))
theorem lX11_199 : MLk RX11 199 yX9_differences := Or.inl (tg_in 724 (by decide +kernel) (by decide +kernel))
theorem lX9_61 : MLk RX9 61 yX0_printed := Or.inl (tg_in 728 (by decide +kernel) (by decide +kernel))
theorem lL_108 : MLk RL 108 yX11_confidenceNumerator := Or.inl (tg_in 729 (by decide +kernel) (by decide +kernel))
theorem lX11_203 : MLk RX11 203 yX11_reckonConfidence := Or.inl (tg_in 733 (by decide +kernel) (by decide +kernel))
theorem lX11_258 : MLk RX11 258 yX1_reckon := Or.inl (tg_in 737 (by decide +kernel) (by decide +kernel))
theorem lX1_30 : MLk RX1 30 yX9_at := Or.inl (tg_in 741 (by decide +kernel) (by decide +kernel))
theorem lX1_34 : MLk RX1 34 yX0_isShift := Or.inl (tg_in 742 (by decide +kernel) (by decide +kernel))
theorem lX1_40 : MLk RX1 40 yX1_passShift := Or.inl (tg_in 743 (by decide +kernel) (by decide +kernel))
theorem lX1_44 : MLk RX1 44 yX9_caseAfter := Or.inl (tg_in 748 (by decide +kernel) (by decide +kernel))
theorem lX1_48 : MLk RX1 48 yX9_caseBefore := Or.inl (tg_in 749 (by decide +kernel) (by decide +kernel))
theorem lX1_51 : MLk RX1 51 yX1_reduce := Or.inl (tg_in 750 (by decide +kernel) (by decide +kernel))
theorem lL_112 : MLk RL 112 yX11_confidenceDenominator := Or.inl (tg_in 756 (by decide +kernel) (by decide +kernel))
theorem lL_118 : MLk RL 118 yX11_runScript := Or.inl (tg_in 760 (by decide +kernel) (by decide +kernel))
theorem lX11_213 : MLk RX11 213 yX7_split := Or.inl (tg_in 764 (by decide +kernel) (by decide +kernel))
theorem lX11_217 : MLk RX11 217 yX7_firstFailure := Or.inl (tg_in 769 (by decide +kernel) (by decide +kernel))
theorem lX7_21 : MLk RX7 21 yX7_succeeds := Or.inl (tg_in 773 (by decide +kernel) (by decide +kernel))
theorem lX7_25 : MLk RX7 25 yX10_read := Or.inl (tg_in 776 (by decide +kernel) (by decide +kernel))
theorem lX7_33 : MLk RX7 33 yX9_add := Or.inl (tg_in 777 (by decide +kernel) (by decide +kernel))
theorem lX7_39 : MLk RX7 39 yX9_takeOut := Or.inl (tg_in 778 (by decide +kernel) (by decide +kernel))
theorem lX7_43 : MLk RX7 43 yX7_setsOption := Or.inl (tg_in 779 (by decide +kernel) (by decide +kernel))
theorem lX7_47 : MLk RX7 47 yX7_setsStartCase := Or.inl (tg_in 782 (by decide +kernel) (by decide +kernel))
theorem lX7_51 : MLk RX7 51 yX9_has := Or.inl (tg_in 785 (by decide +kernel) (by decide +kernel))
theorem lX7_54 : MLk RX7 54 yX9_caseBefore := Or.inl (tg_in 786 (by decide +kernel) (by decide +kernel))
theorem lX7_57 : MLk RX7 57 yX10_at := Or.inl (tg_in 787 (by decide +kernel) (by decide +kernel))
theorem lL_123 : MLk RL 123 yX11_observe := Or.inl (tg_in 788 (by decide +kernel) (by decide +kernel))
theorem lX11_221 : MLk RX11 221 yX4_keep := Or.inl (tg_in 792 (by decide +kernel) (by decide +kernel))
theorem lX4_25 : MLk RX4 25 yJ9_min_7cf53 := Or.inl (tg_in 796 (by decide +kernel) (by decide +kernel))
theorem lL_127 : MLk RL 127 yX11_possibleSettings := Or.inl (tg_in 797 (by decide +kernel) (by decide +kernel))
theorem lX11_225 : MLk RX11 225 yX4_holdFor := Or.inl (tg_in 801 (by decide +kernel) (by decide +kernel))
theorem lX4_31 : MLk RX4 31 yX10_has := Or.inl (tg_in 805 (by decide +kernel) (by decide +kernel))
theorem lX4_37 : MLk RX4 37 yX10_at := Or.inl (tg_in 806 (by decide +kernel) (by decide +kernel))
theorem lL_131 : MLk RL 131 yX11_noise := Or.inl (tg_in 807 (by decide +kernel) (by decide +kernel))
theorem lX11_229 : MLk RX11 229 yX9_disturb := Or.inl (tg_in 811 (by decide +kernel) (by decide +kernel))
theorem lX9_80 : MLk RX9 80 yX9_turnBit := Or.inl (tg_in 817 (by decide +kernel) (by decide +kernel))
theorem lL_136 : MLk RL 136 yX11_save := Or.inl (tg_in 818 (by decide +kernel) (by decide +kernel))
theorem lX11_233 : MLk RX11 233 yX8_has := Or.inl (tg_in 822 (by decide +kernel) (by decide +kernel))
theorem lX11_234 : MLk RX11 234 yX8_keep := Or.inl (tg_in 826 (by decide +kernel) (by decide +kernel))
theorem lX8_22 : MLk RX8 22 yX8_has := Or.inl (tg_in 830 (by decide +kernel) (by decide +kernel))
theorem lX8_26 : MLk RX8 26 yX9_become := Or.inl (tg_in 831 (by decide +kernel) (by decide +kernel))
theorem lL_140 : MLk RL 140 yX11_restore := Or.inl (tg_in 832 (by decide +kernel) (by decide +kernel))
theorem lX11_237 : MLk RX11 237 yX8_bringBack := Or.inl (tg_in 836 (by decide +kernel) (by decide +kernel))
theorem lX11_240 : MLk RX11 240 yX2_forgetAll := Or.inl (tg_in 840 (by decide +kernel) (by decide +kernel))
theorem lL_144 : MLk RL 144 yX11_editDistance := Or.inl (tg_in 844 (by decide +kernel) (by decide +kernel))
theorem lX11_243 : MLk RX11 243 yX10_distanceTo := Or.inl (tg_in 848 (by decide +kernel) (by decide +kernel))
theorem lX10_45 : MLk RX10 45 yX10_nextDistances := Or.inl (tg_in 852 (by decide +kernel) (by decide +kernel))
theorem lX10_49 : MLk RX10 49 yJ9_min_7cf53 := Or.inl (tg_in 856 (by decide +kernel) (by decide +kernel))
theorem lL_12 : MLk RL 12 yX12_init := Or.inl (tg_in 859 (by decide +kernel) (by decide +kernel))
theorem lX12_1 : Cond.methodLink RX12 1 objectInit ∈ lw_tg := tg_in 862 (by decide +kernel) (by decide +kernel)
theorem lL_17 : MLk RL 17 yX12_append := Or.inl (tg_in 936 (by decide +kernel) (by decide +kernel))
theorem lX12_67 : MLk RX12 67 yX12_in := Or.inl (tg_in 941 (by decide +kernel) (by decide +kernel))
theorem lL_22 : MLk RL 22 yX12_clearMessage := Or.inl (tg_in 944 (by decide +kernel) (by decide +kernel))
theorem lL_26 : MLk RL 26 yX12_errorPosition := Or.inl (tg_in 948 (by decide +kernel) (by decide +kernel))
theorem lX12_95 : MLk RX12 95 yX12_codeOf := Or.inl (tg_in 952 (by decide +kernel) (by decide +kernel))
theorem lX12_59 : MLk RX12 59 yX12_figureOf := Or.inl (tg_in 957 (by decide +kernel) (by decide +kernel))
theorem lL_30 : MLk RL 30 yX12_length := Or.inl (tg_in 960 (by decide +kernel) (by decide +kernel))
theorem lL_34 : MLk RL 34 yX12_codeAt := Or.inl (tg_in 964 (by decide +kernel) (by decide +kernel))
theorem lX12_98 : MLk RX12 98 yX12_isIndex := Or.inl (tg_in 968 (by decide +kernel) (by decide +kernel))
theorem lL_38 : MLk RL 38 yX12_caseAt := Or.inl (tg_in 972 (by decide +kernel) (by decide +kernel))
theorem lX12_102 : MLk RX12 102 yX12_layText := Or.inl (tg_in 976 (by decide +kernel) (by decide +kernel))
theorem lX12_79 : MLk RX12 79 yX12_layPrints := Or.inl (tg_in 980 (by decide +kernel) (by decide +kernel))
theorem lX12_71 : MLk RX12 71 yX12_printOf := Or.inl (tg_in 983 (by decide +kernel) (by decide +kernel))
theorem lX12_75 : MLk RX12 75 yX12_caseAfter := Or.inl (tg_in 986 (by decide +kernel) (by decide +kernel))
theorem lL_42 : MLk RL 42 yX12_printedLength := Or.inl (tg_in 989 (by decide +kernel) (by decide +kernel))
theorem lL_46 : MLk RL 46 yX12_printedAt := Or.inl (tg_in 993 (by decide +kernel) (by decide +kernel))
theorem lL_50 : MLk RL 50 yX12_punch := Or.inl (tg_in 997 (by decide +kernel) (by decide +kernel))
theorem lX12_122 : MLk RX12 122 yX12_note := Or.inl (tg_in 1002 (by decide +kernel) (by decide +kernel))
theorem lX12_116 : MLk RX12 116 yX12_put := Or.inl (tg_in 1006 (by decide +kernel) (by decide +kernel))
theorem lL_54 : MLk RL 54 yX12_encodeMessage := Or.inl (tg_in 1009 (by decide +kernel) (by decide +kernel))
theorem lX12_125 : MLk RX12 125 yX12_errorPosition := Or.inl (tg_in 1013 (by decide +kernel) (by decide +kernel))
theorem lX12_129 : MLk RX12 129 yX12_copy := Or.inl (tg_in 1014 (by decide +kernel) (by decide +kernel))
theorem lX12_133 : MLk RX12 133 yX12_encode := Or.inl (tg_in 1017 (by decide +kernel) (by decide +kernel))
theorem lX12_112 : MLk RX12 112 yX12_caseOfAll := Or.inl (tg_in 1020 (by decide +kernel) (by decide +kernel))
theorem lX12_136 : MLk RX12 136 yX12_take := Or.inl (tg_in 1023 (by decide +kernel) (by decide +kernel))
theorem lL_58 : MLk RL 58 yX12_encodeWrapped := Or.inl (tg_in 1027 (by decide +kernel) (by decide +kernel))
theorem lX12_140 : MLk RX12 140 yX12_isBlank := Or.inl (tg_in 1031 (by decide +kernel) (by decide +kernel))
theorem lL_62 : MLk RL 62 yX12_remove := Or.inl (tg_in 1035 (by decide +kernel) (by decide +kernel))
theorem lX12_143 : MLk RX12 143 yX12_takeOut := Or.inl (tg_in 1039 (by decide +kernel) (by decide +kernel))
theorem lL_67 : MLk RL 67 yX12_flip := Or.inl (tg_in 1042 (by decide +kernel) (by decide +kernel))
theorem lL_71 : MLk RL 71 yX12_compact := Or.inl (tg_in 1047 (by decide +kernel) (by decide +kernel))
theorem lX12_149 : MLk RX12 149 yX12_laySecond := Or.inl (tg_in 1051 (by decide +kernel) (by decide +kernel))
theorem lX12_152 : MLk RX12 152 yX12_isSameText := Or.inl (tg_in 1055 (by decide +kernel) (by decide +kernel))
theorem lL_75 : MLk RL 75 yX12_repair := Or.inl (tg_in 1059 (by decide +kernel) (by decide +kernel))
theorem lX12_156 : MLk RX12 156 yX12_caseFor := Or.inl (tg_in 1063 (by decide +kernel) (by decide +kernel))
theorem lL_79 : MLk RL 79 yX12_setStartCase := Or.inl (tg_in 1066 (by decide +kernel) (by decide +kernel))
theorem lX12_159 : MLk RX12 159 yX12_turn := Or.inl (tg_in 1070 (by decide +kernel) (by decide +kernel))
theorem lL_83 : MLk RL 83 yX12_setUnshiftOnSpace := Or.inl (tg_in 1074 (by decide +kernel) (by decide +kernel))
theorem lL_87 : MLk RL 87 yX12_setWidth := Or.inl (tg_in 1078 (by decide +kernel) (by decide +kernel))
theorem lL_91 : MLk RL 91 yX12_undo := Or.inl (tg_in 1082 (by decide +kernel) (by decide +kernel))
theorem lL_95 : MLk RL 95 yX12_cell := Or.inl (tg_in 1086 (by decide +kernel) (by decide +kernel))
theorem lX12_168 : MLk RX12 168 yX12_layPage := Or.inl (tg_in 1091 (by decide +kernel) (by decide +kernel))
theorem lL_99 : MLk RL 99 yX12_overstrikes := Or.inl (tg_in 1095 (by decide +kernel) (by decide +kernel))
theorem lL_103 : MLk RL 103 yX12_damageIfLost := Or.inl (tg_in 1099 (by decide +kernel) (by decide +kernel))
theorem lL_107 : MLk RL 107 yX12_damageIfFlipped := Or.inl (tg_in 1103 (by decide +kernel) (by decide +kernel))
theorem lX12_171 : MLk RX12 171 yX12_unlike := Or.inl (tg_in 1107 (by decide +kernel) (by decide +kernel))
theorem lL_111 : MLk RL 111 yX12_confidenceNumerator := Or.inl (tg_in 1111 (by decide +kernel) (by decide +kernel))
theorem lX12_192 : MLk RX12 192 yX12_confidence := Or.inl (tg_in 1115 (by decide +kernel) (by decide +kernel))
theorem lX12_183 : MLk RX12 183 yX12_shiftsBelow := Or.inl (tg_in 1120 (by decide +kernel) (by decide +kernel))
theorem lX12_174 : MLk RX12 174 yX12_isShift := Or.inl (tg_in 1124 (by decide +kernel) (by decide +kernel))
theorem lX12_186 : MLk RX12 186 yX12_caseBut := Or.inl (tg_in 1127 (by decide +kernel) (by decide +kernel))
theorem lX12_177 : MLk RX12 177 yX12_has := Or.inl (tg_in 1131 (by decide +kernel) (by decide +kernel))
theorem lX12_189 : MLk RX12 189 yX12_power := Or.inl (tg_in 1134 (by decide +kernel) (by decide +kernel))
theorem lL_115 : MLk RL 115 yX12_confidenceDenominator := Or.inl (tg_in 1137 (by decide +kernel) (by decide +kernel))
theorem lL_122 : MLk RL 122 yX12_runScript := Or.inl (tg_in 1141 (by decide +kernel) (by decide +kernel))
theorem lX12_198 : MLk RX12 198 yX12_thousands := Or.inl (tg_in 1145 (by decide +kernel) (by decide +kernel))
theorem lX12_202 : MLk RX12 202 yX12_command := Or.inl (tg_in 1149 (by decide +kernel) (by decide +kernel))
theorem lL_126 : MLk RL 126 yX12_observe := Or.inl (tg_in 1153 (by decide +kernel) (by decide +kernel))
theorem lL_130 : MLk RL 130 yX12_possibleSettings := Or.inl (tg_in 1158 (by decide +kernel) (by decide +kernel))
theorem lL_135 : MLk RL 135 yX12_noise := Or.inl (tg_in 1162 (by decide +kernel) (by decide +kernel))
theorem lL_139 : MLk RL 139 yX12_save := Or.inl (tg_in 1169 (by decide +kernel) (by decide +kernel))
theorem lL_143 : MLk RL 143 yX12_restore := Or.inl (tg_in 1173 (by decide +kernel) (by decide +kernel))
theorem lL_147 : MLk RL 147 yX12_editDistance := Or.inl (tg_in 1177 (by decide +kernel) (by decide +kernel))
theorem nX1_54 : Cond.constantLong RX1 54 (10) ∈ lw_tg := tg_in 747 (by decide +kernel) (by decide +kernel)
theorem nX1_56 : Cond.constantLong RX1 56 (2) ∈ lw_tg := tg_in 754 (by decide +kernel) (by decide +kernel)
theorem nX1_58 : Cond.constantLong RX1 58 (5) ∈ lw_tg := tg_in 755 (by decide +kernel) (by decide +kernel)
theorem nX7_19 : Cond.constantLong RX7 19 (1000) ∈ lw_tg := tg_in 768 (by decide +kernel) (by decide +kernel)
theorem nX9_76 : Cond.constantLong RX9 76 (6364136223846793005) ∈ lw_tg := tg_in 815 (by decide +kernel) (by decide +kernel)
theorem nX9_78 : Cond.constantLong RX9 78 (1442695040888963407) ∈ lw_tg := tg_in 816 (by decide +kernel) (by decide +kernel)
theorem nX12_90 : Cond.constantLong RX12 90 (255) ∈ lw_tg := tg_in 940 (by decide +kernel) (by decide +kernel)
theorem nX12_63 : Cond.constantLong RX12 63 (65) ∈ lw_tg := tg_in 955 (by decide +kernel) (by decide +kernel)
theorem nX12_65 : Cond.constantLong RX12 65 (90) ∈ lw_tg := tg_in 956 (by decide +kernel) (by decide +kernel)
theorem nX12_120 : Cond.constantLong RX12 120 (31) ∈ lw_tg := tg_in 1001 (by decide +kernel) (by decide +kernel)
theorem nX12_147 : Cond.constantLong RX12 147 (4) ∈ lw_tg := tg_in 1046 (by decide +kernel) (by decide +kernel)
theorem nX12_166 : Cond.constantLong RX12 166 (7) ∈ lw_tg := tg_in 1090 (by decide +kernel) (by decide +kernel)
theorem nX12_181 : Cond.constantLong RX12 181 (10) ∈ lw_tg := tg_in 1119 (by decide +kernel) (by decide +kernel)
theorem nX12_196 : Cond.constantLong RX12 196 (1000) ∈ lw_tg := tg_in 1148 (by decide +kernel) (by decide +kernel)
theorem nX12_205 : Cond.constantLong RX12 205 (95) ∈ lw_tg := tg_in 1157 (by decide +kernel) (by decide +kernel)
theorem nX12_213 : Cond.constantLong RX12 213 (60) ∈ lw_tg := tg_in 1166 (by decide +kernel) (by decide +kernel)
theorem nX12_215 : Cond.constantLong RX12 215 (6364136223846793005) ∈ lw_tg := tg_in 1167 (by decide +kernel) (by decide +kernel)
theorem nX12_217 : Cond.constantLong RX12 217 (1442695040888963407) ∈ lw_tg := tg_in 1168 (by decide +kernel) (by decide +kernel)
theorem nL_116 : Cond.constantLong RL 116 (4294967295) ∈ lw_tg := tg_in 1181 (by decide +kernel) (by decide +kernel)
theorem wL_7 : Cond.classLink RL 7 RX11 ∈ lw_tg := tg_in 50 (by decide +kernel) (by decide +kernel)
theorem wX11_7 : Cond.classLink RX11 7 RX9 ∈ lw_tg := tg_in 58 (by decide +kernel) (by decide +kernel)
theorem wX11_19 : Cond.classLink RX11 19 RX6 ∈ lw_tg := tg_in 94 (by decide +kernel) (by decide +kernel)
theorem wX6_9 : Cond.classLink RX6 9 RX9 ∈ lw_tg := tg_in 100 (by decide +kernel) (by decide +kernel)
theorem wX11_26 : Cond.classLink RX11 26 RX3 ∈ lw_tg := tg_in 114 (by decide +kernel) (by decide +kernel)
theorem wX11_33 : Cond.classLink RX11 33 RX2 ∈ lw_tg := tg_in 129 (by decide +kernel) (by decide +kernel)
theorem wX2_9 : Cond.classLink RX2 9 RX9 ∈ lw_tg := tg_in 135 (by decide +kernel) (by decide +kernel)
theorem wX11_40 : Cond.classLink RX11 40 RX8 ∈ lw_tg := tg_in 149 (by decide +kernel) (by decide +kernel)
theorem wX8_9 : Cond.classLink RX8 9 RX9 ∈ lw_tg := tg_in 155 (by decide +kernel) (by decide +kernel)
theorem wX11_47 : Cond.classLink RX11 47 RX10 ∈ lw_tg := tg_in 165 (by decide +kernel) (by decide +kernel)
theorem wX11_57 : Cond.classLink RX11 57 RX5 ∈ lw_tg := tg_in 184 (by decide +kernel) (by decide +kernel)
theorem wX11_64 : Cond.classLink RX11 64 RX4 ∈ lw_tg := tg_in 204 (by decide +kernel) (by decide +kernel)
theorem wX11_71 : Cond.classLink RX11 71 RX1 ∈ lw_tg := tg_in 224 (by decide +kernel) (by decide +kernel)
theorem wX11_78 : Cond.classLink RX11 78 RX7 ∈ lw_tg := tg_in 245 (by decide +kernel) (by decide +kernel)
theorem wL_10 : Cond.classLink RL 10 RX12 ∈ lw_tg := tg_in 857 (by decide +kernel) (by decide +kernel)
theorem tX1 : Cond.instantiable RX1 4 ∈ lw_tg := tg_in 225 (by decide +kernel) (by decide +kernel)
theorem sX1 : Cond.initialized RX1 ∈ lw_tg := tg_in 38 (by decide +kernel) (by decide +kernel)
theorem tX2 : Cond.instantiable RX2 3 ∈ lw_tg := tg_in 130 (by decide +kernel) (by decide +kernel)
theorem sX2 : Cond.initialized RX2 ∈ lw_tg := tg_in 33 (by decide +kernel) (by decide +kernel)
theorem tX3 : Cond.instantiable RX3 2 ∈ lw_tg := tg_in 115 (by decide +kernel) (by decide +kernel)
theorem sX3 : Cond.initialized RX3 ∈ lw_tg := tg_in 32 (by decide +kernel) (by decide +kernel)
theorem tX4 : Cond.instantiable RX4 4 ∈ lw_tg := tg_in 205 (by decide +kernel) (by decide +kernel)
theorem sX4 : Cond.initialized RX4 ∈ lw_tg := tg_in 37 (by decide +kernel) (by decide +kernel)
theorem tX5 : Cond.instantiable RX5 4 ∈ lw_tg := tg_in 185 (by decide +kernel) (by decide +kernel)
theorem sX5 : Cond.initialized RX5 ∈ lw_tg := tg_in 36 (by decide +kernel) (by decide +kernel)
theorem tX6 : Cond.instantiable RX6 3 ∈ lw_tg := tg_in 95 (by decide +kernel) (by decide +kernel)
theorem sX6 : Cond.initialized RX6 ∈ lw_tg := tg_in 31 (by decide +kernel) (by decide +kernel)
theorem tX7 : Cond.instantiable RX7 2 ∈ lw_tg := tg_in 246 (by decide +kernel) (by decide +kernel)
theorem sX7 : Cond.initialized RX7 ∈ lw_tg := tg_in 39 (by decide +kernel) (by decide +kernel)
theorem tX8 : Cond.instantiable RX8 2 ∈ lw_tg := tg_in 150 (by decide +kernel) (by decide +kernel)
theorem sX8 : Cond.initialized RX8 ∈ lw_tg := tg_in 34 (by decide +kernel) (by decide +kernel)
theorem tX9 : Cond.instantiable RX9 5 ∈ lw_tg := tg_in 59 (by decide +kernel) (by decide +kernel)
theorem sX9 : Cond.initialized RX9 ∈ lw_tg := tg_in 30 (by decide +kernel) (by decide +kernel)
theorem tX10 : Cond.instantiable RX10 3 ∈ lw_tg := tg_in 166 (by decide +kernel) (by decide +kernel)
theorem sX10 : Cond.initialized RX10 ∈ lw_tg := tg_in 35 (by decide +kernel) (by decide +kernel)
theorem tX11 : Cond.instantiable RX11 12 ∈ lw_tg := tg_in 51 (by decide +kernel) (by decide +kernel)
theorem sX11 : Cond.initialized RX11 ∈ lw_tg := tg_in 29 (by decide +kernel) (by decide +kernel)
theorem tX12 : Cond.instantiable RX12 24 ∈ lw_tg := tg_in 858 (by decide +kernel) (by decide +kernel)
theorem sX12 : Cond.initialized RX12 ∈ lw_tg := tg_in 40 (by decide +kernel) (by decide +kernel)
theorem gJ0_38 : Cond.fieldLink RJ0 38 "java/lang/String" "COMPACT_STRINGS" "Z" ∈ lw_tg := tg_in 334 (by decide +kernel) (by decide +kernel)
theorem gJ0_1053 : Cond.fieldLink RJ0 1053 "jdk/internal/util/Preconditions" "SIOOBE_FORMATTER" "Ljava/util/function/BiFunction;" ∈ lw_tg := tg_in 377 (by decide +kernel) (by decide +kernel)
theorem gJ0_15 : Cond.fieldLink RJ0 15 "java/lang/String" "coder" "B" ∈ lw_tg := tg_in 1182 (by decide +kernel) (by decide +kernel)
theorem gJ0_9 : Cond.fieldLink RJ0 9 "java/lang/String" "value" "[B" ∈ lw_tg := tg_in 1183 (by decide +kernel) (by decide +kernel)
theorem ac_n : Cond.native arraycopyName ∈ lw_tg := tg_in 509 (by decide +kernel) (by decide +kernel)
theorem ac_s : Cond.static arraycopyName ∈ lw_tg := tg_in 508 (by decide +kernel) (by decide +kernel)
theorem ac_i : Cond.initialized "java/lang/System" ∈ lw_tg := tg_in 48 (by decide +kernel) (by decide +kernel)
theorem oi_i : Cond.instanceMethod objectInit ∈ lw_tg := tg_in 56 (by decide +kernel) (by decide +kernel)
theorem oi_c : Cond.code objectInit ⟨#[0xb1]⟩ 1 none ∈ lw_tg := tg_in 57 (by decide +kernel) (by decide +kernel)
end
