section
-- ===== PART A: goes FIRST, ahead of the names: the tables' words, and 'selects' of the private methods out of them =====
/-- a private method of a class that the tables say can be made, by its rows of tables_1 -/
def lw_okq (q : MethodName × Nat) : Prop := (q.1.cls ≠ "java/lang/invoke/MethodHandle" ∧ q.1.cls ≠ "java/lang/invoke/VarHandle") ∧ Cond.instantiable q.1.cls q.2 ∈ tables_1 ∧ Cond.privateMethod q.1 ∈ tables_1 ∧ Cond.instanceMethod q.1 ∈ tables_1
theorem lw_p0 : lw_okq (⟨"TeleprinterTape$Puncher", "encode", "(I)V"⟩, 3) := ⟨⟨by decide +kernel, by decide +kernel⟩, List.mem_of_getElem? (i := 67) (by decide +kernel), List.mem_of_getElem? (i := 515) (by decide +kernel), List.mem_of_getElem? (i := 516) (by decide +kernel)⟩
theorem lw_p1 : lw_okq (⟨"TeleprinterTape$Puncher", "shiftFor", "(I)V"⟩, 3) := ⟨⟨by decide +kernel, by decide +kernel⟩, List.mem_of_getElem? (i := 67) (by decide +kernel), List.mem_of_getElem? (i := 519) (by decide +kernel), List.mem_of_getElem? (i := 520) (by decide +kernel)⟩
theorem lw_p2 : lw_okq (⟨"TeleprinterTape$Puncher", "put", "(I)V"⟩, 3) := ⟨⟨by decide +kernel, by decide +kernel⟩, List.mem_of_getElem? (i := 67) (by decide +kernel), List.mem_of_getElem? (i := 529) (by decide +kernel), List.mem_of_getElem? (i := 530) (by decide +kernel)⟩
theorem lw_p3 : lw_okq (⟨"TeleprinterTape", "takePunched", "()Z"⟩, 12) := ⟨⟨by decide +kernel, by decide +kernel⟩, List.mem_of_getElem? (i := 23) (by decide +kernel), List.mem_of_getElem? (i := 536) (by decide +kernel), List.mem_of_getElem? (i := 537) (by decide +kernel)⟩
theorem lw_p4 : lw_okq (⟨"TeleprinterTape$Puncher", "placeWord", "(III)I"⟩, 3) := ⟨⟨by decide +kernel, by decide +kernel⟩, List.mem_of_getElem? (i := 67) (by decide +kernel), List.mem_of_getElem? (i := 561) (by decide +kernel), List.mem_of_getElem? (i := 562) (by decide +kernel)⟩
theorem lw_p5 : lw_okq (⟨"TeleprinterTape$Tape", "isRedundant", "(I)Z"⟩, 5) := ⟨⟨by decide +kernel, by decide +kernel⟩, List.mem_of_getElem? (i := 31) (by decide +kernel), List.mem_of_getElem? (i := 593) (by decide +kernel), List.mem_of_getElem? (i := 594) (by decide +kernel)⟩
theorem lw_p6 : lw_okq (⟨"TeleprinterTape", "printPage", "()V"⟩, 12) := ⟨⟨by decide +kernel, by decide +kernel⟩, List.mem_of_getElem? (i := 23) (by decide +kernel), List.mem_of_getElem? (i := 654) (by decide +kernel), List.mem_of_getElem? (i := 655) (by decide +kernel)⟩
theorem lw_p7 : lw_okq (⟨"TeleprinterTape$Page", "printCharacter", "(II)V"⟩, 4) := ⟨⟨by decide +kernel, by decide +kernel⟩, List.mem_of_getElem? (i := 157) (by decide +kernel), List.mem_of_getElem? (i := 666) (by decide +kernel), List.mem_of_getElem? (i := 667) (by decide +kernel)⟩
theorem lw_p8 : lw_okq (⟨"TeleprinterTape$Page", "feedLine", "()V"⟩, 4) := ⟨⟨by decide +kernel, by decide +kernel⟩, List.mem_of_getElem? (i := 157) (by decide +kernel), List.mem_of_getElem? (i := 670) (by decide +kernel), List.mem_of_getElem? (i := 671) (by decide +kernel)⟩
theorem lw_p9 : lw_okq (⟨"TeleprinterTape$Page", "strike", "(I)V"⟩, 4) := ⟨⟨by decide +kernel, by decide +kernel⟩, List.mem_of_getElem? (i := 157) (by decide +kernel), List.mem_of_getElem? (i := 675) (by decide +kernel), List.mem_of_getElem? (i := 676) (by decide +kernel)⟩
theorem lw_p10 : lw_okq (⟨"TeleprinterTape", "reckonConfidence", "(II)I"⟩, 12) := ⟨⟨by decide +kernel, by decide +kernel⟩, List.mem_of_getElem? (i := 23) (by decide +kernel), List.mem_of_getElem? (i := 706) (by decide +kernel), List.mem_of_getElem? (i := 707) (by decide +kernel)⟩
theorem lw_p11 : lw_okq (⟨"TeleprinterTape$Confidence", "passShift", "(II)V"⟩, 4) := ⟨⟨by decide +kernel, by decide +kernel⟩, List.mem_of_getElem? (i := 197) (by decide +kernel), List.mem_of_getElem? (i := 716) (by decide +kernel), List.mem_of_getElem? (i := 717) (by decide +kernel)⟩
theorem lw_p12 : lw_okq (⟨"TeleprinterTape$Confidence", "reduce", "()V"⟩, 4) := ⟨⟨by decide +kernel, by decide +kernel⟩, List.mem_of_getElem? (i := 197) (by decide +kernel), List.mem_of_getElem? (i := 723) (by decide +kernel), List.mem_of_getElem? (i := 724) (by decide +kernel)⟩
theorem lw_p13 : lw_okq (⟨"TeleprinterTape$Text", "nextDistances", "(ILTeleprinterTape$Text;)V"⟩, 3) := ⟨⟨by decide +kernel, by decide +kernel⟩, List.mem_of_getElem? (i := 138) (by decide +kernel), List.mem_of_getElem? (i := 825) (by decide +kernel), List.mem_of_getElem? (i := 826) (by decide +kernel)⟩
theorem lw_p14 : lw_okq (⟨"TeleprinterTapeModel", "isIndex", "(I)Z"⟩, 24) := ⟨⟨by decide +kernel, by decide +kernel⟩, List.mem_of_getElem? (i := 830) (by decide +kernel), List.mem_of_getElem? (i := 941) (by decide +kernel), List.mem_of_getElem? (i := 942) (by decide +kernel)⟩
theorem lw_p15 : lw_okq (⟨"TeleprinterTapeModel", "layText", "([I)V"⟩, 24) := ⟨⟨by decide +kernel, by decide +kernel⟩, List.mem_of_getElem? (i := 830) (by decide +kernel), List.mem_of_getElem? (i := 949) (by decide +kernel), List.mem_of_getElem? (i := 950) (by decide +kernel)⟩
def lw_privs_1 : List (MethodName × Nat) := [(⟨"TeleprinterTape$Puncher", "encode", "(I)V"⟩, 3), (⟨"TeleprinterTape$Puncher", "shiftFor", "(I)V"⟩, 3), (⟨"TeleprinterTape$Puncher", "put", "(I)V"⟩, 3), (⟨"TeleprinterTape", "takePunched", "()Z"⟩, 12), (⟨"TeleprinterTape$Puncher", "placeWord", "(III)I"⟩, 3), (⟨"TeleprinterTape$Tape", "isRedundant", "(I)Z"⟩, 5), (⟨"TeleprinterTape", "printPage", "()V"⟩, 12), (⟨"TeleprinterTape$Page", "printCharacter", "(II)V"⟩, 4), (⟨"TeleprinterTape$Page", "feedLine", "()V"⟩, 4), (⟨"TeleprinterTape$Page", "strike", "(I)V"⟩, 4), (⟨"TeleprinterTape", "reckonConfidence", "(II)I"⟩, 12), (⟨"TeleprinterTape$Confidence", "passShift", "(II)V"⟩, 4), (⟨"TeleprinterTape$Confidence", "reduce", "()V"⟩, 4), (⟨"TeleprinterTape$Text", "nextDistances", "(ILTeleprinterTape$Text;)V"⟩, 3), (⟨"TeleprinterTapeModel", "isIndex", "(I)Z"⟩, 24), (⟨"TeleprinterTapeModel", "layText", "([I)V"⟩, 24)]
theorem lw_r1 : ∀ q ∈ lw_privs_1, lw_okq q := List.forall_mem_cons.mpr ⟨lw_p0, List.forall_mem_cons.mpr ⟨lw_p1, List.forall_mem_cons.mpr ⟨lw_p2, List.forall_mem_cons.mpr ⟨lw_p3, List.forall_mem_cons.mpr ⟨lw_p4, List.forall_mem_cons.mpr ⟨lw_p5, List.forall_mem_cons.mpr ⟨lw_p6, List.forall_mem_cons.mpr ⟨lw_p7, List.forall_mem_cons.mpr ⟨lw_p8, List.forall_mem_cons.mpr ⟨lw_p9, List.forall_mem_cons.mpr ⟨lw_p10, List.forall_mem_cons.mpr ⟨lw_p11, List.forall_mem_cons.mpr ⟨lw_p12, List.forall_mem_cons.mpr ⟨lw_p13, List.forall_mem_cons.mpr ⟨lw_p14, List.forall_mem_cons.mpr ⟨lw_p15, fun _ h => absurd h List.not_mem_nil⟩⟩⟩⟩⟩⟩⟩⟩⟩⟩⟩⟩⟩⟩⟩⟩
theorem lw_p16 : lw_okq (⟨"TeleprinterTapeModel", "note", "()V"⟩, 24) := ⟨⟨by decide +kernel, by decide +kernel⟩, List.mem_of_getElem? (i := 830) (by decide +kernel), List.mem_of_getElem? (i := 975) (by decide +kernel), List.mem_of_getElem? (i := 976) (by decide +kernel)⟩
theorem lw_p17 : lw_okq (⟨"TeleprinterTapeModel", "take", "(Z)I"⟩, 24) := ⟨⟨by decide +kernel, by decide +kernel⟩, List.mem_of_getElem? (i := 830) (by decide +kernel), List.mem_of_getElem? (i := 996) (by decide +kernel), List.mem_of_getElem? (i := 997) (by decide +kernel)⟩
theorem lw_p18 : lw_okq (⟨"TeleprinterTapeModel", "isBlank", "(I)Z"⟩, 24) := ⟨⟨by decide +kernel, by decide +kernel⟩, List.mem_of_getElem? (i := 830) (by decide +kernel), List.mem_of_getElem? (i := 1004) (by decide +kernel), List.mem_of_getElem? (i := 1005) (by decide +kernel)⟩
theorem lw_p19 : lw_okq (⟨"TeleprinterTapeModel", "laySecond", "([I)V"⟩, 24) := ⟨⟨by decide +kernel, by decide +kernel⟩, List.mem_of_getElem? (i := 830) (by decide +kernel), List.mem_of_getElem? (i := 1024) (by decide +kernel), List.mem_of_getElem? (i := 1025) (by decide +kernel)⟩
theorem lw_p20 : lw_okq (⟨"TeleprinterTapeModel", "isSameText", "()Z"⟩, 24) := ⟨⟨by decide +kernel, by decide +kernel⟩, List.mem_of_getElem? (i := 830) (by decide +kernel), List.mem_of_getElem? (i := 1028) (by decide +kernel), List.mem_of_getElem? (i := 1029) (by decide +kernel)⟩
theorem lw_p21 : lw_okq (⟨"TeleprinterTapeModel", "turn", "(IIII)I"⟩, 24) := ⟨⟨by decide +kernel, by decide +kernel⟩, List.mem_of_getElem? (i := 830) (by decide +kernel), List.mem_of_getElem? (i := 1043) (by decide +kernel), List.mem_of_getElem? (i := 1044) (by decide +kernel)⟩
theorem lw_p22 : lw_okq (⟨"TeleprinterTapeModel", "layPage", "()V"⟩, 24) := ⟨⟨by decide +kernel, by decide +kernel⟩, List.mem_of_getElem? (i := 830) (by decide +kernel), List.mem_of_getElem? (i := 1064) (by decide +kernel), List.mem_of_getElem? (i := 1065) (by decide +kernel)⟩
theorem lw_p23 : lw_okq (⟨"TeleprinterTapeModel", "unlike", "()I"⟩, 24) := ⟨⟨by decide +kernel, by decide +kernel⟩, List.mem_of_getElem? (i := 830) (by decide +kernel), List.mem_of_getElem? (i := 1080) (by decide +kernel), List.mem_of_getElem? (i := 1081) (by decide +kernel)⟩
theorem lw_p24 : lw_okq (⟨"TeleprinterTapeModel", "confidence", "(IIZ)I"⟩, 24) := ⟨⟨by decide +kernel, by decide +kernel⟩, List.mem_of_getElem? (i := 830) (by decide +kernel), List.mem_of_getElem? (i := 1088) (by decide +kernel), List.mem_of_getElem? (i := 1089) (by decide +kernel)⟩
theorem lw_p25 : lw_okq (⟨"TeleprinterTapeModel", "shiftsBelow", "(I)I"⟩, 24) := ⟨⟨by decide +kernel, by decide +kernel⟩, List.mem_of_getElem? (i := 830) (by decide +kernel), List.mem_of_getElem? (i := 1093) (by decide +kernel), List.mem_of_getElem? (i := 1094) (by decide +kernel)⟩
theorem lw_p26 : lw_okq (⟨"TeleprinterTapeModel", "caseBut", "(II)I"⟩, 24) := ⟨⟨by decide +kernel, by decide +kernel⟩, List.mem_of_getElem? (i := 830) (by decide +kernel), List.mem_of_getElem? (i := 1100) (by decide +kernel), List.mem_of_getElem? (i := 1101) (by decide +kernel)⟩
theorem lw_p27 : lw_okq (⟨"TeleprinterTapeModel", "command", "(II)Z"⟩, 24) := ⟨⟨by decide +kernel, by decide +kernel⟩, List.mem_of_getElem? (i := 830) (by decide +kernel), List.mem_of_getElem? (i := 1122) (by decide +kernel), List.mem_of_getElem? (i := 1123) (by decide +kernel)⟩
def lw_privs_2 : List (MethodName × Nat) := [(⟨"TeleprinterTapeModel", "note", "()V"⟩, 24), (⟨"TeleprinterTapeModel", "take", "(Z)I"⟩, 24), (⟨"TeleprinterTapeModel", "isBlank", "(I)Z"⟩, 24), (⟨"TeleprinterTapeModel", "laySecond", "([I)V"⟩, 24), (⟨"TeleprinterTapeModel", "isSameText", "()Z"⟩, 24), (⟨"TeleprinterTapeModel", "turn", "(IIII)I"⟩, 24), (⟨"TeleprinterTapeModel", "layPage", "()V"⟩, 24), (⟨"TeleprinterTapeModel", "unlike", "()I"⟩, 24), (⟨"TeleprinterTapeModel", "confidence", "(IIZ)I"⟩, 24), (⟨"TeleprinterTapeModel", "shiftsBelow", "(I)I"⟩, 24), (⟨"TeleprinterTapeModel", "caseBut", "(II)I"⟩, 24), (⟨"TeleprinterTapeModel", "command", "(II)Z"⟩, 24)]
theorem lw_r2 : ∀ q ∈ lw_privs_2, lw_okq q := List.forall_mem_cons.mpr ⟨lw_p16, List.forall_mem_cons.mpr ⟨lw_p17, List.forall_mem_cons.mpr ⟨lw_p18, List.forall_mem_cons.mpr ⟨lw_p19, List.forall_mem_cons.mpr ⟨lw_p20, List.forall_mem_cons.mpr ⟨lw_p21, List.forall_mem_cons.mpr ⟨lw_p22, List.forall_mem_cons.mpr ⟨lw_p23, List.forall_mem_cons.mpr ⟨lw_p24, List.forall_mem_cons.mpr ⟨lw_p25, List.forall_mem_cons.mpr ⟨lw_p26, List.forall_mem_cons.mpr ⟨lw_p27, fun _ h => absurd h List.not_mem_nil⟩⟩⟩⟩⟩⟩⟩⟩⟩⟩⟩⟩
def lw_privs : List (MethodName × Nat) := lw_privs_1 ++ (lw_privs_2)
def lw_tbl : List Cond := k2_sels lw_privs ++ tables_1
theorem lw_privs_ok : ∀ q ∈ lw_privs, lw_okq q := by
  show ∀ q ∈ lw_privs_1 ++ (lw_privs_2), lw_okq q
  exact List.forall_mem_append.mpr ⟨lw_r1, lw_r2⟩
end
section
def RX0 : String := "TeleprinterTape$Code"
def TX0 : u_T := fun k => match k with
  | _ => ("", "", "", false)
def tyX0 : Nat → FieldType := fun k => match k with
  | _ => .int
theorem nmX0 : ∀ a, a < 0 → ∀ b, b < 0 → a ≠ b → (TX0 a).2.1 ≠ (TX0 b).2.1 := by decide +kernel
theorem tyX0_ok : ∀ k, k < 0 → parseFieldDescriptor (TX0 k).2.2.1 = some (tyX0 k) := by decide +kernel
abbrev cX0_dependsOnCase : ByteArray := prog_2_method_2_code
def yX0_dependsOnCase : MethodName := ⟨RX0, "dependsOnCase", "(I)Z"⟩
abbrev cX0_isShift : ByteArray := prog_2_method_3_code
def yX0_isShift : MethodName := ⟨RX0, "isShift", "(I)Z"⟩
abbrev cX0_shiftTo : ByteArray := prog_2_method_4_code
def yX0_shiftTo : MethodName := ⟨RX0, "shiftTo", "(I)I"⟩
abbrev cX0_caseAfter : ByteArray := prog_2_method_5_code
def yX0_caseAfter : MethodName := ⟨RX0, "caseAfter", "(III)I"⟩
abbrev cX0_printed : ByteArray := prog_2_method_6_code
def yX0_printed : MethodName := ⟨RX0, "printed", "(II)I"⟩
abbrev cX0_of : ByteArray := prog_2_method_7_code
def yX0_of : MethodName := ⟨RX0, "of", "(I)I"⟩
abbrev cX0_caseFor : ByteArray := prog_2_method_8_code
def yX0_caseFor : MethodName := ⟨RX0, "caseFor", "(I)I"⟩
def RX1 : String := "TeleprinterTape$Confidence"
def TX1 : u_T := fun k => match k with
  | 0 => ("TeleprinterTape$Confidence", "numerator", "J", false)
  | 1 => ("TeleprinterTape$Confidence", "denominator", "J", false)
  | 2 => ("TeleprinterTape$Confidence", "letters", "J", false)
  | _ => ("TeleprinterTape$Confidence", "figures", "J", false)
def tyX1 : Nat → FieldType := fun k => match k with
  | 0 => .long
  | 1 => .long
  | 2 => .long
  | _ => .long
theorem nmX1 : ∀ a, a < 4 → ∀ b, b < 4 → a ≠ b → (TX1 a).2.1 ≠ (TX1 b).2.1 := by decide +kernel
theorem tyX1_ok : ∀ k, k < 4 → parseFieldDescriptor (TX1 k).2.2.1 = some (tyX1 k) := by decide +kernel
abbrev cX1_init : ByteArray := prog_3_method_1_code
def yX1_init : MethodName := ⟨RX1, "<init>", "()V"⟩
abbrev cX1_reckon : ByteArray := prog_3_method_2_code
def yX1_reckon : MethodName := ⟨RX1, "reckon", "(LTeleprinterTape$Tape;II)Z"⟩
abbrev cX1_passShift : ByteArray := prog_3_method_3_code
def yX1_passShift : MethodName := ⟨RX1, "passShift", "(II)V"⟩
abbrev cX1_reduce : ByteArray := prog_3_method_4_code
def yX1_reduce : MethodName := ⟨RX1, "reduce", "()V"⟩
def RX2 : String := "TeleprinterTape$History"
def TX2 : u_T := fun k => match k with
  | 0 => ("TeleprinterTape$History", "states", "[LTeleprinterTape$Tape;", true)
  | 1 => ("TeleprinterTape$History", "next", "I", false)
  | _ => ("TeleprinterTape$History", "count", "I", false)
def tyX2 : Nat → FieldType := fun k => match k with
  | 0 => .array (.object "TeleprinterTape$Tape")
  | 1 => .int
  | _ => .int
theorem nmX2 : ∀ a, a < 3 → ∀ b, b < 3 → a ≠ b → (TX2 a).2.1 ≠ (TX2 b).2.1 := by decide +kernel
theorem tyX2_ok : ∀ k, k < 3 → parseFieldDescriptor (TX2 k).2.2.1 = some (tyX2 k) := by decide +kernel
abbrev cX2_init : ByteArray := prog_4_method_1_code
def yX2_init : MethodName := ⟨RX2, "<init>", "()V"⟩
abbrev cX2_remember : ByteArray := prog_4_method_2_code
def yX2_remember : MethodName := ⟨RX2, "remember", "(LTeleprinterTape$Tape;)V"⟩
abbrev cX2_bringBack : ByteArray := prog_4_method_3_code
def yX2_bringBack : MethodName := ⟨RX2, "bringBack", "(LTeleprinterTape$Tape;)Z"⟩
abbrev cX2_forgetAll : ByteArray := prog_4_method_4_code
def yX2_forgetAll : MethodName := ⟨RX2, "forgetAll", "()V"⟩
def RX3 : String := "TeleprinterTape$Message"
def TX3 : u_T := fun k => match k with
  | 0 => ("TeleprinterTape$Message", "characters", "[I", true)
  | _ => ("TeleprinterTape$Message", "count", "I", false)
def tyX3 : Nat → FieldType := fun k => match k with
  | 0 => .array .int
  | _ => .int
theorem nmX3 : ∀ a, a < 2 → ∀ b, b < 2 → a ≠ b → (TX3 a).2.1 ≠ (TX3 b).2.1 := by decide +kernel
theorem tyX3_ok : ∀ k, k < 2 → parseFieldDescriptor (TX3 k).2.2.1 = some (tyX3 k) := by decide +kernel
abbrev cX3_init : ByteArray := prog_5_method_1_code
def yX3_init : MethodName := ⟨RX3, "<init>", "()V"⟩
abbrev cX3_add : ByteArray := prog_5_method_2_code
def yX3_add : MethodName := ⟨RX3, "add", "(I)Z"⟩
abbrev cX3_at : ByteArray := prog_5_method_3_code
def yX3_at : MethodName := ⟨RX3, "at", "(I)I"⟩
abbrev cX3_firstNotEncodable : ByteArray := prog_5_method_4_code
def yX3_firstNotEncodable : MethodName := ⟨RX3, "firstNotEncodable", "()I"⟩
abbrev cX3_isEncodable : ByteArray := prog_5_method_5_code
def yX3_isEncodable : MethodName := ⟨RX3, "isEncodable", "()Z"⟩
abbrev cX3_isBetweenWords : ByteArray := prog_5_method_6_code
def yX3_isBetweenWords : MethodName := ⟨RX3, "isBetweenWords", "(I)Z"⟩
abbrev cX3_beginsWord : ByteArray := prog_5_method_7_code
def yX3_beginsWord : MethodName := ⟨RX3, "beginsWord", "(I)Z"⟩
abbrev cX3_endOfWord : ByteArray := prog_5_method_8_code
def yX3_endOfWord : MethodName := ⟨RX3, "endOfWord", "(I)I"⟩
abbrev cX3_canBeReadFrom : ByteArray := prog_5_method_9_code
def yX3_canBeReadFrom : MethodName := ⟨RX3, "canBeReadFrom", "(LTeleprinterTape$Tape;I)Z"⟩
def RX4 : String := "TeleprinterTape$Observations"
def TX4 : u_T := fun k => match k with
  | 0 => ("TeleprinterTape$Observations", "indexes", "[I", true)
  | 1 => ("TeleprinterTape$Observations", "characters", "[I", true)
  | 2 => ("TeleprinterTape$Observations", "next", "I", false)
  | _ => ("TeleprinterTape$Observations", "count", "I", false)
def tyX4 : Nat → FieldType := fun k => match k with
  | 0 => .array .int
  | 1 => .array .int
  | 2 => .int
  | _ => .int
theorem nmX4 : ∀ a, a < 4 → ∀ b, b < 4 → a ≠ b → (TX4 a).2.1 ≠ (TX4 b).2.1 := by decide +kernel
theorem tyX4_ok : ∀ k, k < 4 → parseFieldDescriptor (TX4 k).2.2.1 = some (tyX4 k) := by decide +kernel
abbrev cX4_init : ByteArray := prog_6_method_1_code
def yX4_init : MethodName := ⟨RX4, "<init>", "()V"⟩
abbrev cX4_keep : ByteArray := prog_6_method_2_code
def yX4_keep : MethodName := ⟨RX4, "keep", "(II)V"⟩
abbrev cX4_holdFor : ByteArray := prog_6_method_3_code
def yX4_holdFor : MethodName := ⟨RX4, "holdFor", "(LTeleprinterTape$Text;)Z"⟩
def RX5 : String := "TeleprinterTape$Page"
def TX5 : u_T := fun k => match k with
  | 0 => ("TeleprinterTape$Page", "cells", "[I", true)
  | 1 => ("TeleprinterTape$Page", "row", "I", false)
  | 2 => ("TeleprinterTape$Page", "column", "I", false)
  | _ => ("TeleprinterTape$Page", "struckOver", "I", false)
def tyX5 : Nat → FieldType := fun k => match k with
  | 0 => .array .int
  | 1 => .int
  | 2 => .int
  | _ => .int
theorem nmX5 : ∀ a, a < 4 → ∀ b, b < 4 → a ≠ b → (TX5 a).2.1 ≠ (TX5 b).2.1 := by decide +kernel
theorem tyX5_ok : ∀ k, k < 4 → parseFieldDescriptor (TX5 k).2.2.1 = some (tyX5 k) := by decide +kernel
abbrev cX5_init : ByteArray := prog_7_method_1_code
def yX5_init : MethodName := ⟨RX5, "<init>", "()V"⟩
abbrev cX5_print : ByteArray := prog_7_method_2_code
def yX5_print : MethodName := ⟨RX5, "print", "(LTeleprinterTape$Text;I)V"⟩
abbrev cX5_at : ByteArray := prog_7_method_3_code
def yX5_at : MethodName := ⟨RX5, "at", "(II)I"⟩
abbrev cX5_printCharacter : ByteArray := prog_7_method_4_code
def yX5_printCharacter : MethodName := ⟨RX5, "printCharacter", "(II)V"⟩
abbrev cX5_feedLine : ByteArray := prog_7_method_5_code
def yX5_feedLine : MethodName := ⟨RX5, "feedLine", "()V"⟩
abbrev cX5_strike : ByteArray := prog_7_method_6_code
def yX5_strike : MethodName := ⟨RX5, "strike", "(I)V"⟩
def RX6 : String := "TeleprinterTape$Puncher"
def TX6 : u_T := fun k => match k with
  | 0 => ("TeleprinterTape$Puncher", "target", "LTeleprinterTape$Tape;", true)
  | 1 => ("TeleprinterTape$Puncher", "present", "I", false)
  | _ => ("TeleprinterTape$Puncher", "ranOut", "Z", false)
def tyX6 : Nat → FieldType := fun k => match k with
  | 0 => .object "TeleprinterTape$Tape"
  | 1 => .int
  | _ => .boolean
theorem nmX6 : ∀ a, a < 3 → ∀ b, b < 3 → a ≠ b → (TX6 a).2.1 ≠ (TX6 b).2.1 := by decide +kernel
theorem tyX6_ok : ∀ k, k < 3 → parseFieldDescriptor (TX6 k).2.2.1 = some (tyX6 k) := by decide +kernel
abbrev cX6_init : ByteArray := prog_8_method_1_code
def yX6_init : MethodName := ⟨RX6, "<init>", "()V"⟩
abbrev cX6_beginBehind : ByteArray := prog_8_method_2_code
def yX6_beginBehind : MethodName := ⟨RX6, "beginBehind", "(LTeleprinterTape$Tape;)V"⟩
abbrev cX6_beginAnew : ByteArray := prog_8_method_3_code
def yX6_beginAnew : MethodName := ⟨RX6, "beginAnew", "(LTeleprinterTape$Tape;)V"⟩
abbrev cX6_put : ByteArray := prog_8_method_4_code
def yX6_put : MethodName := ⟨RX6, "put", "(I)V"⟩
abbrev cX6_shiftFor : ByteArray := prog_8_method_5_code
def yX6_shiftFor : MethodName := ⟨RX6, "shiftFor", "(I)V"⟩
abbrev cX6_encode : ByteArray := prog_8_method_6_code
def yX6_encode : MethodName := ⟨RX6, "encode", "(I)V"⟩
abbrev cX6_encodeRun : ByteArray := prog_8_method_7_code
def yX6_encodeRun : MethodName := ⟨RX6, "encodeRun", "(LTeleprinterTape$Message;II)V"⟩
abbrev cX6_encodeWords : ByteArray := prog_8_method_8_code
def yX6_encodeWords : MethodName := ⟨RX6, "encodeWords", "(LTeleprinterTape$Message;I)V"⟩
abbrev cX6_placeWord : ByteArray := prog_8_method_9_code
def yX6_placeWord : MethodName := ⟨RX6, "placeWord", "(III)I"⟩
abbrev cX6_punchRepaired : ByteArray := prog_8_method_10_code
def yX6_punchRepaired : MethodName := ⟨RX6, "punchRepaired", "(LTeleprinterTape$Tape;LTeleprinterTape$Message;)V"⟩
def RX7 : String := "TeleprinterTape$Script"
def TX7 : u_T := fun k => match k with
  | 0 => ("TeleprinterTape$Script", "groups", "[I", true)
  | _ => ("TeleprinterTape$Script", "count", "I", false)
def tyX7 : Nat → FieldType := fun k => match k with
  | 0 => .array .int
  | _ => .int
theorem nmX7 : ∀ a, a < 2 → ∀ b, b < 2 → a ≠ b → (TX7 a).2.1 ≠ (TX7 b).2.1 := by decide +kernel
theorem tyX7_ok : ∀ k, k < 2 → parseFieldDescriptor (TX7 k).2.2.1 = some (tyX7 k) := by decide +kernel
abbrev cX7_init : ByteArray := prog_9_method_1_code
def yX7_init : MethodName := ⟨RX7, "<init>", "()V"⟩
abbrev cX7_split : ByteArray := prog_9_method_2_code
def yX7_split : MethodName := ⟨RX7, "split", "(IJ)Z"⟩
abbrev cX7_firstFailure : ByteArray := prog_9_method_3_code
def yX7_firstFailure : MethodName := ⟨RX7, "firstFailure", "(LTeleprinterTape$Tape;LTeleprinterTape$Text;)I"⟩
abbrev cX7_succeeds : ByteArray := prog_9_method_4_code
def yX7_succeeds : MethodName := ⟨RX7, "succeeds", "(ILTeleprinterTape$Tape;LTeleprinterTape$Text;)Z"⟩
abbrev cX7_setsOption : ByteArray := prog_9_method_5_code
def yX7_setsOption : MethodName := ⟨RX7, "setsOption", "(LTeleprinterTape$Tape;I)Z"⟩
abbrev cX7_setsStartCase : ByteArray := prog_9_method_6_code
def yX7_setsStartCase : MethodName := ⟨RX7, "setsStartCase", "(LTeleprinterTape$Tape;I)Z"⟩
def RX8 : String := "TeleprinterTape$Slots"
def TX8 : u_T := fun k => match k with
  | 0 => ("TeleprinterTape$Slots", "states", "[LTeleprinterTape$Tape;", true)
  | _ => ("TeleprinterTape$Slots", "used", "[Z", true)
def tyX8 : Nat → FieldType := fun k => match k with
  | 0 => .array (.object "TeleprinterTape$Tape")
  | _ => .array .boolean
theorem nmX8 : ∀ a, a < 2 → ∀ b, b < 2 → a ≠ b → (TX8 a).2.1 ≠ (TX8 b).2.1 := by decide +kernel
theorem tyX8_ok : ∀ k, k < 2 → parseFieldDescriptor (TX8 k).2.2.1 = some (tyX8 k) := by decide +kernel
abbrev cX8_init : ByteArray := prog_10_method_1_code
def yX8_init : MethodName := ⟨RX8, "<init>", "()V"⟩
abbrev cX8_has : ByteArray := prog_10_method_2_code
def yX8_has : MethodName := ⟨RX8, "has", "(I)Z"⟩
abbrev cX8_keep : ByteArray := prog_10_method_3_code
def yX8_keep : MethodName := ⟨RX8, "keep", "(ILTeleprinterTape$Tape;)V"⟩
abbrev cX8_bringBack : ByteArray := prog_10_method_4_code
def yX8_bringBack : MethodName := ⟨RX8, "bringBack", "(ILTeleprinterTape$Tape;)Z"⟩
def RX9 : String := "TeleprinterTape$Tape"
def TX9 : u_T := fun k => match k with
  | 0 => ("TeleprinterTape$Tape", "codes", "[I", true)
  | 1 => ("TeleprinterTape$Tape", "count", "I", false)
  | 2 => ("TeleprinterTape$Tape", "startCase", "I", false)
  | 3 => ("TeleprinterTape$Tape", "unshift", "I", false)
  | _ => ("TeleprinterTape$Tape", "width", "I", false)
def tyX9 : Nat → FieldType := fun k => match k with
  | 0 => .array .int
  | 1 => .int
  | 2 => .int
  | 3 => .int
  | _ => .int
theorem nmX9 : ∀ a, a < 5 → ∀ b, b < 5 → a ≠ b → (TX9 a).2.1 ≠ (TX9 b).2.1 := by decide +kernel
theorem tyX9_ok : ∀ k, k < 5 → parseFieldDescriptor (TX9 k).2.2.1 = some (tyX9 k) := by decide +kernel
abbrev cX9_init : ByteArray := prog_11_method_1_code
def yX9_init : MethodName := ⟨RX9, "<init>", "()V"⟩
abbrev cX9_become : ByteArray := prog_11_method_2_code
def yX9_become : MethodName := ⟨RX9, "become", "(LTeleprinterTape$Tape;)V"⟩
abbrev cX9_takeSettings : ByteArray := prog_11_method_3_code
def yX9_takeSettings : MethodName := ⟨RX9, "takeSettings", "(LTeleprinterTape$Tape;)V"⟩
abbrev cX9_has : ByteArray := prog_11_method_4_code
def yX9_has : MethodName := ⟨RX9, "has", "(I)Z"⟩
abbrev cX9_isFull : ByteArray := prog_11_method_5_code
def yX9_isFull : MethodName := ⟨RX9, "isFull", "()Z"⟩
abbrev cX9_at : ByteArray := prog_11_method_6_code
def yX9_at : MethodName := ⟨RX9, "at", "(I)I"⟩
abbrev cX9_add : ByteArray := prog_11_method_7_code
def yX9_add : MethodName := ⟨RX9, "add", "(I)Z"⟩
abbrev cX9_takeOut : ByteArray := prog_11_method_8_code
def yX9_takeOut : MethodName := ⟨RX9, "takeOut", "(I)I"⟩
abbrev cX9_turnBit : ByteArray := prog_11_method_9_code
def yX9_turnBit : MethodName := ⟨RX9, "turnBit", "(II)V"⟩
abbrev cX9_caseAfter : ByteArray := prog_11_method_10_code
def yX9_caseAfter : MethodName := ⟨RX9, "caseAfter", "(II)I"⟩
abbrev cX9_caseBefore : ByteArray := prog_11_method_11_code
def yX9_caseBefore : MethodName := ⟨RX9, "caseBefore", "(I)I"⟩
abbrev cX9_lossDamage : ByteArray := prog_11_method_12_code
def yX9_lossDamage : MethodName := ⟨RX9, "lossDamage", "(I)I"⟩
abbrev cX9_differences : ByteArray := prog_11_method_13_code
def yX9_differences : MethodName := ⟨RX9, "differences", "(LTeleprinterTape$Tape;)I"⟩
abbrev cX9_dropRedundant : ByteArray := prog_11_method_14_code
def yX9_dropRedundant : MethodName := ⟨RX9, "dropRedundant", "()I"⟩
abbrev cX9_isRedundant : ByteArray := prog_11_method_15_code
def yX9_isRedundant : MethodName := ⟨RX9, "isRedundant", "(I)Z"⟩
abbrev cX9_disturb : ByteArray := prog_11_method_16_code
def yX9_disturb : MethodName := ⟨RX9, "disturb", "(JI)V"⟩
def RX10 : String := "TeleprinterTape$Text"
def TX10 : u_T := fun k => match k with
  | 0 => ("TeleprinterTape$Text", "characters", "[I", true)
  | 1 => ("TeleprinterTape$Text", "distances", "[I", true)
  | _ => ("TeleprinterTape$Text", "count", "I", false)
def tyX10 : Nat → FieldType := fun k => match k with
  | 0 => .array .int
  | 1 => .array .int
  | _ => .int
theorem nmX10 : ∀ a, a < 3 → ∀ b, b < 3 → a ≠ b → (TX10 a).2.1 ≠ (TX10 b).2.1 := by decide +kernel
theorem tyX10_ok : ∀ k, k < 3 → parseFieldDescriptor (TX10 k).2.2.1 = some (tyX10 k) := by decide +kernel
abbrev cX10_init : ByteArray := prog_12_method_1_code
def yX10_init : MethodName := ⟨RX10, "<init>", "()V"⟩
abbrev cX10_read : ByteArray := prog_12_method_2_code
def yX10_read : MethodName := ⟨RX10, "read", "(LTeleprinterTape$Tape;)V"⟩
abbrev cX10_has : ByteArray := prog_12_method_3_code
def yX10_has : MethodName := ⟨RX10, "has", "(I)Z"⟩
abbrev cX10_at : ByteArray := prog_12_method_4_code
def yX10_at : MethodName := ⟨RX10, "at", "(I)I"⟩
abbrev cX10_distanceTo : ByteArray := prog_12_method_5_code
def yX10_distanceTo : MethodName := ⟨RX10, "distanceTo", "(LTeleprinterTape$Text;)I"⟩
abbrev cX10_nextDistances : ByteArray := prog_12_method_6_code
def yX10_nextDistances : MethodName := ⟨RX10, "nextDistances", "(ILTeleprinterTape$Text;)V"⟩
def RX11 : String := "TeleprinterTape"
def TX11 : u_T := fun k => match k with
  | 0 => ("TeleprinterTape", "tape", "LTeleprinterTape$Tape;", true)
  | 1 => ("TeleprinterTape", "copy", "LTeleprinterTape$Tape;", true)
  | 2 => ("TeleprinterTape", "puncher", "LTeleprinterTape$Puncher;", true)
  | 3 => ("TeleprinterTape", "message", "LTeleprinterTape$Message;", true)
  | 4 => ("TeleprinterTape", "history", "LTeleprinterTape$History;", true)
  | 5 => ("TeleprinterTape", "slots", "LTeleprinterTape$Slots;", true)
  | 6 => ("TeleprinterTape", "text", "LTeleprinterTape$Text;", true)
  | 7 => ("TeleprinterTape", "otherText", "LTeleprinterTape$Text;", true)
  | 8 => ("TeleprinterTape", "page", "LTeleprinterTape$Page;", true)
  | 9 => ("TeleprinterTape", "observations", "LTeleprinterTape$Observations;", true)
  | 10 => ("TeleprinterTape", "confidence", "LTeleprinterTape$Confidence;", true)
  | _ => ("TeleprinterTape", "program", "LTeleprinterTape$Script;", true)
def tyX11 : Nat → FieldType := fun k => match k with
  | 0 => .object "TeleprinterTape$Tape"
  | 1 => .object "TeleprinterTape$Tape"
  | 2 => .object "TeleprinterTape$Puncher"
  | 3 => .object "TeleprinterTape$Message"
  | 4 => .object "TeleprinterTape$History"
  | 5 => .object "TeleprinterTape$Slots"
  | 6 => .object "TeleprinterTape$Text"
  | 7 => .object "TeleprinterTape$Text"
  | 8 => .object "TeleprinterTape$Page"
  | 9 => .object "TeleprinterTape$Observations"
  | 10 => .object "TeleprinterTape$Confidence"
  | _ => .object "TeleprinterTape$Script"
theorem nmX11 : ∀ a, a < 12 → ∀ b, b < 12 → a ≠ b → (TX11 a).2.1 ≠ (TX11 b).2.1 := by decide +kernel
theorem tyX11_ok : ∀ k, k < 12 → parseFieldDescriptor (TX11 k).2.2.1 = some (tyX11 k) := by decide +kernel
abbrev cX11_init : ByteArray := prog_1_method_1_code
def yX11_init : MethodName := ⟨RX11, "<init>", "()V"⟩
abbrev cX11_append : ByteArray := prog_1_method_2_code
def yX11_append : MethodName := ⟨RX11, "append", "(I)I"⟩
abbrev cX11_clearMessage : ByteArray := prog_1_method_3_code
def yX11_clearMessage : MethodName := ⟨RX11, "clearMessage", "()I"⟩
abbrev cX11_errorPosition : ByteArray := prog_1_method_4_code
def yX11_errorPosition : MethodName := ⟨RX11, "errorPosition", "()I"⟩
abbrev cX11_length : ByteArray := prog_1_method_5_code
def yX11_length : MethodName := ⟨RX11, "length", "()I"⟩
abbrev cX11_codeAt : ByteArray := prog_1_method_6_code
def yX11_codeAt : MethodName := ⟨RX11, "codeAt", "(I)I"⟩
abbrev cX11_caseAt : ByteArray := prog_1_method_7_code
def yX11_caseAt : MethodName := ⟨RX11, "caseAt", "(I)I"⟩
abbrev cX11_printedLength : ByteArray := prog_1_method_8_code
def yX11_printedLength : MethodName := ⟨RX11, "printedLength", "()I"⟩
abbrev cX11_printedAt : ByteArray := prog_1_method_9_code
def yX11_printedAt : MethodName := ⟨RX11, "printedAt", "(I)I"⟩
abbrev cX11_punch : ByteArray := prog_1_method_10_code
def yX11_punch : MethodName := ⟨RX11, "punch", "(I)I"⟩
abbrev cX11_encodeMessage : ByteArray := prog_1_method_11_code
def yX11_encodeMessage : MethodName := ⟨RX11, "encodeMessage", "()I"⟩
abbrev cX11_encodeWrapped : ByteArray := prog_1_method_12_code
def yX11_encodeWrapped : MethodName := ⟨RX11, "encodeWrapped", "()I"⟩
abbrev cX11_remove : ByteArray := prog_1_method_13_code
def yX11_remove : MethodName := ⟨RX11, "remove", "(I)I"⟩
abbrev cX11_flip : ByteArray := prog_1_method_14_code
def yX11_flip : MethodName := ⟨RX11, "flip", "(II)I"⟩
abbrev cX11_compact : ByteArray := prog_1_method_15_code
def yX11_compact : MethodName := ⟨RX11, "compact", "()I"⟩
abbrev cX11_repair : ByteArray := prog_1_method_16_code
def yX11_repair : MethodName := ⟨RX11, "repair", "()I"⟩
abbrev cX11_setStartCase : ByteArray := prog_1_method_17_code
def yX11_setStartCase : MethodName := ⟨RX11, "setStartCase", "(I)I"⟩
abbrev cX11_setUnshiftOnSpace : ByteArray := prog_1_method_18_code
def yX11_setUnshiftOnSpace : MethodName := ⟨RX11, "setUnshiftOnSpace", "(I)I"⟩
abbrev cX11_setWidth : ByteArray := prog_1_method_19_code
def yX11_setWidth : MethodName := ⟨RX11, "setWidth", "(I)I"⟩
abbrev cX11_undo : ByteArray := prog_1_method_20_code
def yX11_undo : MethodName := ⟨RX11, "undo", "()I"⟩
abbrev cX11_cell : ByteArray := prog_1_method_21_code
def yX11_cell : MethodName := ⟨RX11, "cell", "(II)I"⟩
abbrev cX11_overstrikes : ByteArray := prog_1_method_22_code
def yX11_overstrikes : MethodName := ⟨RX11, "overstrikes", "()I"⟩
abbrev cX11_damageIfLost : ByteArray := prog_1_method_23_code
def yX11_damageIfLost : MethodName := ⟨RX11, "damageIfLost", "(I)I"⟩
abbrev cX11_damageIfFlipped : ByteArray := prog_1_method_24_code
def yX11_damageIfFlipped : MethodName := ⟨RX11, "damageIfFlipped", "(II)I"⟩
abbrev cX11_confidenceNumerator : ByteArray := prog_1_method_25_code
def yX11_confidenceNumerator : MethodName := ⟨RX11, "confidenceNumerator", "(II)I"⟩
abbrev cX11_confidenceDenominator : ByteArray := prog_1_method_26_code
def yX11_confidenceDenominator : MethodName := ⟨RX11, "confidenceDenominator", "(II)I"⟩
abbrev cX11_runScript : ByteArray := prog_1_method_27_code
def yX11_runScript : MethodName := ⟨RX11, "runScript", "(IJ)I"⟩
abbrev cX11_observe : ByteArray := prog_1_method_28_code
def yX11_observe : MethodName := ⟨RX11, "observe", "(II)I"⟩
abbrev cX11_possibleSettings : ByteArray := prog_1_method_29_code
def yX11_possibleSettings : MethodName := ⟨RX11, "possibleSettings", "()I"⟩
abbrev cX11_noise : ByteArray := prog_1_method_30_code
def yX11_noise : MethodName := ⟨RX11, "noise", "(JI)I"⟩
abbrev cX11_save : ByteArray := prog_1_method_31_code
def yX11_save : MethodName := ⟨RX11, "save", "(I)I"⟩
abbrev cX11_restore : ByteArray := prog_1_method_32_code
def yX11_restore : MethodName := ⟨RX11, "restore", "(I)I"⟩
abbrev cX11_editDistance : ByteArray := prog_1_method_33_code
def yX11_editDistance : MethodName := ⟨RX11, "editDistance", "(I)I"⟩
abbrev cX11_isWithin : ByteArray := prog_1_method_34_code
def yX11_isWithin : MethodName := ⟨RX11, "isWithin", "(III)Z"⟩
abbrev cX11_isBit : ByteArray := prog_1_method_35_code
def yX11_isBit : MethodName := ⟨RX11, "isBit", "(I)Z"⟩
abbrev cX11_takePunched : ByteArray := prog_1_method_36_code
def yX11_takePunched : MethodName := ⟨RX11, "takePunched", "()Z"⟩
abbrev cX11_printPage : ByteArray := prog_1_method_37_code
def yX11_printPage : MethodName := ⟨RX11, "printPage", "()V"⟩
abbrev cX11_reckonConfidence : ByteArray := prog_1_method_38_code
def yX11_reckonConfidence : MethodName := ⟨RX11, "reckonConfidence", "(II)I"⟩
def RX12 : String := "TeleprinterTapeModel"
def TX12 : u_T := fun k => match k with
  | 0 => ("TeleprinterTapeModel", "message", "[I", true)
  | 1 => ("TeleprinterTapeModel", "length", "I", false)
  | 2 => ("TeleprinterTapeModel", "now", "[I", true)
  | 3 => ("TeleprinterTapeModel", "trial", "[I", true)
  | 4 => ("TeleprinterTapeModel", "diary", "[I", true)
  | 5 => ("TeleprinterTapeModel", "acts", "I", false)
  | 6 => ("TeleprinterTapeModel", "next", "I", false)
  | 7 => ("TeleprinterTapeModel", "kept", "[I", true)
  | 8 => ("TeleprinterTapeModel", "isKept", "[Z", true)
  | 9 => ("TeleprinterTapeModel", "seenAt", "[I", true)
  | 10 => ("TeleprinterTapeModel", "seenIs", "[I", true)
  | 11 => ("TeleprinterTapeModel", "seen", "I", false)
  | 12 => ("TeleprinterTapeModel", "seenNext", "I", false)
  | 13 => ("TeleprinterTapeModel", "prints", "[I", true)
  | 14 => ("TeleprinterTapeModel", "cases", "[I", true)
  | 15 => ("TeleprinterTapeModel", "other", "[I", true)
  | 16 => ("TeleprinterTapeModel", "otherCases", "[I", true)
  | 17 => ("TeleprinterTapeModel", "text", "[I", true)
  | 18 => ("TeleprinterTapeModel", "textLength", "I", false)
  | 19 => ("TeleprinterTapeModel", "second", "[I", true)
  | 20 => ("TeleprinterTapeModel", "secondLength", "I", false)
  | 21 => ("TeleprinterTapeModel", "page", "[I", true)
  | 22 => ("TeleprinterTapeModel", "strikes", "I", false)
  | _ => ("TeleprinterTapeModel", "distance", "[I", true)
def tyX12 : Nat → FieldType := fun k => match k with
  | 0 => .array .int
  | 1 => .int
  | 2 => .array .int
  | 3 => .array .int
  | 4 => .array .int
  | 5 => .int
  | 6 => .int
  | 7 => .array .int
  | 8 => .array .boolean
  | 9 => .array .int
  | 10 => .array .int
  | 11 => .int
  | 12 => .int
  | 13 => .array .int
  | 14 => .array .int
  | 15 => .array .int
  | 16 => .array .int
  | 17 => .array .int
  | 18 => .int
  | 19 => .array .int
  | 20 => .int
  | 21 => .array .int
  | 22 => .int
  | _ => .array .int
theorem nmX12 : ∀ a, a < 24 → ∀ b, b < 24 → a ≠ b → (TX12 a).2.1 ≠ (TX12 b).2.1 := by decide +kernel
theorem tyX12_ok : ∀ k, k < 24 → parseFieldDescriptor (TX12 k).2.2.1 = some (tyX12 k) := by decide +kernel
abbrev cX12_init : ByteArray := prog_14_method_1_code
def yX12_init : MethodName := ⟨RX12, "<init>", "()V"⟩
abbrev cX12_copy : ByteArray := prog_14_method_3_code
def yX12_copy : MethodName := ⟨RX12, "copy", "([I[I)V"⟩
abbrev cX12_in : ByteArray := prog_14_method_4_code
def yX12_in : MethodName := ⟨RX12, "in", "(JJJ)Z"⟩
abbrev cX12_has : ByteArray := prog_14_method_5_code
def yX12_has : MethodName := ⟨RX12, "has", "(II)Z"⟩
abbrev cX12_figureOf : ByteArray := prog_14_method_6_code
def yX12_figureOf : MethodName := ⟨RX12, "figureOf", "(I)I"⟩
abbrev cX12_printOf : ByteArray := prog_14_method_7_code
def yX12_printOf : MethodName := ⟨RX12, "printOf", "(II)I"⟩
abbrev cX12_caseAfter : ByteArray := prog_14_method_8_code
def yX12_caseAfter : MethodName := ⟨RX12, "caseAfter", "(III)I"⟩
abbrev cX12_codeOf : ByteArray := prog_14_method_9_code
def yX12_codeOf : MethodName := ⟨RX12, "codeOf", "(I)I"⟩
abbrev cX12_layPrints : ByteArray := prog_14_method_10_code
def yX12_layPrints : MethodName := ⟨RX12, "layPrints", "([I[I[I)V"⟩
abbrev cX12_layText : ByteArray := prog_14_method_11_code
def yX12_layText : MethodName := ⟨RX12, "layText", "([I)V"⟩
abbrev cX12_laySecond : ByteArray := prog_14_method_12_code
def yX12_laySecond : MethodName := ⟨RX12, "laySecond", "([I)V"⟩
abbrev cX12_isSameText : ByteArray := prog_14_method_13_code
def yX12_isSameText : MethodName := ⟨RX12, "isSameText", "()Z"⟩
abbrev cX12_append : ByteArray := prog_14_method_14_code
def yX12_append : MethodName := ⟨RX12, "append", "(I)I"⟩
abbrev cX12_clearMessage : ByteArray := prog_14_method_15_code
def yX12_clearMessage : MethodName := ⟨RX12, "clearMessage", "()I"⟩
abbrev cX12_errorPosition : ByteArray := prog_14_method_16_code
def yX12_errorPosition : MethodName := ⟨RX12, "errorPosition", "()I"⟩
abbrev cX12_length : ByteArray := prog_14_method_17_code
def yX12_length : MethodName := ⟨RX12, "length", "()I"⟩
abbrev cX12_isIndex : ByteArray := prog_14_method_18_code
def yX12_isIndex : MethodName := ⟨RX12, "isIndex", "(I)Z"⟩
abbrev cX12_codeAt : ByteArray := prog_14_method_19_code
def yX12_codeAt : MethodName := ⟨RX12, "codeAt", "(I)I"⟩
abbrev cX12_caseAt : ByteArray := prog_14_method_20_code
def yX12_caseAt : MethodName := ⟨RX12, "caseAt", "(I)I"⟩
abbrev cX12_printedLength : ByteArray := prog_14_method_21_code
def yX12_printedLength : MethodName := ⟨RX12, "printedLength", "()I"⟩
abbrev cX12_printedAt : ByteArray := prog_14_method_22_code
def yX12_printedAt : MethodName := ⟨RX12, "printedAt", "(I)I"⟩
abbrev cX12_note : ByteArray := prog_14_method_23_code
def yX12_note : MethodName := ⟨RX12, "note", "()V"⟩
abbrev cX12_put : ByteArray := prog_14_method_24_code
def yX12_put : MethodName := ⟨RX12, "put", "([II)Z"⟩
abbrev cX12_caseOfAll : ByteArray := prog_14_method_25_code
def yX12_caseOfAll : MethodName := ⟨RX12, "caseOfAll", "([I)I"⟩
abbrev cX12_encode : ByteArray := prog_14_method_26_code
def yX12_encode : MethodName := ⟨RX12, "encode", "([II)Z"⟩
abbrev cX12_punch : ByteArray := prog_14_method_27_code
def yX12_punch : MethodName := ⟨RX12, "punch", "(I)I"⟩
abbrev cX12_encodeMessage : ByteArray := prog_14_method_28_code
def yX12_encodeMessage : MethodName := ⟨RX12, "encodeMessage", "()I"⟩
abbrev cX12_take : ByteArray := prog_14_method_29_code
def yX12_take : MethodName := ⟨RX12, "take", "(Z)I"⟩
abbrev cX12_isBlank : ByteArray := prog_14_method_30_code
def yX12_isBlank : MethodName := ⟨RX12, "isBlank", "(I)Z"⟩
abbrev cX12_encodeWrapped : ByteArray := prog_14_method_31_code
def yX12_encodeWrapped : MethodName := ⟨RX12, "encodeWrapped", "()I"⟩
abbrev cX12_takeOut : ByteArray := prog_14_method_32_code
def yX12_takeOut : MethodName := ⟨RX12, "takeOut", "([II)V"⟩
abbrev cX12_remove : ByteArray := prog_14_method_33_code
def yX12_remove : MethodName := ⟨RX12, "remove", "(I)I"⟩
abbrev cX12_flip : ByteArray := prog_14_method_34_code
def yX12_flip : MethodName := ⟨RX12, "flip", "(II)I"⟩
abbrev cX12_compact : ByteArray := prog_14_method_35_code
def yX12_compact : MethodName := ⟨RX12, "compact", "()I"⟩
abbrev cX12_caseFor : ByteArray := prog_14_method_36_code
def yX12_caseFor : MethodName := ⟨RX12, "caseFor", "(III)I"⟩
abbrev cX12_repair : ByteArray := prog_14_method_37_code
def yX12_repair : MethodName := ⟨RX12, "repair", "()I"⟩
abbrev cX12_turn : ByteArray := prog_14_method_38_code
def yX12_turn : MethodName := ⟨RX12, "turn", "(IIII)I"⟩
abbrev cX12_setStartCase : ByteArray := prog_14_method_39_code
def yX12_setStartCase : MethodName := ⟨RX12, "setStartCase", "(I)I"⟩
abbrev cX12_setUnshiftOnSpace : ByteArray := prog_14_method_40_code
def yX12_setUnshiftOnSpace : MethodName := ⟨RX12, "setUnshiftOnSpace", "(I)I"⟩
abbrev cX12_setWidth : ByteArray := prog_14_method_41_code
def yX12_setWidth : MethodName := ⟨RX12, "setWidth", "(I)I"⟩
abbrev cX12_undo : ByteArray := prog_14_method_42_code
def yX12_undo : MethodName := ⟨RX12, "undo", "()I"⟩
abbrev cX12_layPage : ByteArray := prog_14_method_43_code
def yX12_layPage : MethodName := ⟨RX12, "layPage", "()V"⟩
abbrev cX12_cell : ByteArray := prog_14_method_44_code
def yX12_cell : MethodName := ⟨RX12, "cell", "(II)I"⟩
abbrev cX12_overstrikes : ByteArray := prog_14_method_45_code
def yX12_overstrikes : MethodName := ⟨RX12, "overstrikes", "()I"⟩
abbrev cX12_damageIfLost : ByteArray := prog_14_method_46_code
def yX12_damageIfLost : MethodName := ⟨RX12, "damageIfLost", "(I)I"⟩
abbrev cX12_unlike : ByteArray := prog_14_method_47_code
def yX12_unlike : MethodName := ⟨RX12, "unlike", "()I"⟩
abbrev cX12_damageIfFlipped : ByteArray := prog_14_method_48_code
def yX12_damageIfFlipped : MethodName := ⟨RX12, "damageIfFlipped", "(II)I"⟩
abbrev cX12_isShift : ByteArray := prog_14_method_49_code
def yX12_isShift : MethodName := ⟨RX12, "isShift", "(I)Z"⟩
abbrev cX12_shiftsBelow : ByteArray := prog_14_method_50_code
def yX12_shiftsBelow : MethodName := ⟨RX12, "shiftsBelow", "(I)I"⟩
abbrev cX12_power : ByteArray := prog_14_method_51_code
def yX12_power : MethodName := ⟨RX12, "power", "(II)I"⟩
abbrev cX12_caseBut : ByteArray := prog_14_method_52_code
def yX12_caseBut : MethodName := ⟨RX12, "caseBut", "(II)I"⟩
abbrev cX12_confidence : ByteArray := prog_14_method_53_code
def yX12_confidence : MethodName := ⟨RX12, "confidence", "(IIZ)I"⟩
abbrev cX12_confidenceNumerator : ByteArray := prog_14_method_54_code
def yX12_confidenceNumerator : MethodName := ⟨RX12, "confidenceNumerator", "(II)I"⟩
abbrev cX12_confidenceDenominator : ByteArray := prog_14_method_55_code
def yX12_confidenceDenominator : MethodName := ⟨RX12, "confidenceDenominator", "(II)I"⟩
abbrev cX12_command : ByteArray := prog_14_method_56_code
def yX12_command : MethodName := ⟨RX12, "command", "(II)Z"⟩
abbrev cX12_thousands : ByteArray := prog_14_method_57_code
def yX12_thousands : MethodName := ⟨RX12, "thousands", "(I)J"⟩
abbrev cX12_runScript : ByteArray := prog_14_method_58_code
def yX12_runScript : MethodName := ⟨RX12, "runScript", "(IJ)I"⟩
abbrev cX12_observe : ByteArray := prog_14_method_59_code
def yX12_observe : MethodName := ⟨RX12, "observe", "(II)I"⟩
abbrev cX12_possibleSettings : ByteArray := prog_14_method_60_code
def yX12_possibleSettings : MethodName := ⟨RX12, "possibleSettings", "()I"⟩
abbrev cX12_noise : ByteArray := prog_14_method_61_code
def yX12_noise : MethodName := ⟨RX12, "noise", "(JI)I"⟩
abbrev cX12_save : ByteArray := prog_14_method_62_code
def yX12_save : MethodName := ⟨RX12, "save", "(I)I"⟩
abbrev cX12_restore : ByteArray := prog_14_method_63_code
def yX12_restore : MethodName := ⟨RX12, "restore", "(I)I"⟩
abbrev cX12_editDistance : ByteArray := prog_14_method_64_code
def yX12_editDistance : MethodName := ⟨RX12, "editDistance", "(I)I"⟩
def RJ11 : String := "java/lang/Character"
abbrev cJ11_isValidCodePoint_9a6ad : ByteArray := prog_15_method_11_code
def yJ11_isValidCodePoint_9a6ad : MethodName := ⟨RJ11, "isValidCodePoint", "(I)Z"⟩
abbrev cJ11_highSurrogate_5068e : ByteArray := prog_15_method_28_code
def yJ11_highSurrogate_5068e : MethodName := ⟨RJ11, "highSurrogate", "(I)C"⟩
abbrev cJ11_lowSurrogate_5068e : ByteArray := prog_15_method_29_code
def yJ11_lowSurrogate_5068e : MethodName := ⟨RJ11, "lowSurrogate", "(I)C"⟩
def RJ9 : String := "java/lang/Math"
abbrev cJ9_max_7cf53 : ByteArray := prog_16_method_65_code
def yJ9_max_7cf53 : MethodName := ⟨RJ9, "max", "(II)I"⟩
abbrev cJ9_min_7cf53 : ByteArray := prog_16_method_69_code
def yJ9_min_7cf53 : MethodName := ⟨RJ9, "min", "(II)I"⟩
def RJ0 : String := "java/lang/String"
abbrev cJ0_length_8abf5 : ByteArray := prog_17_method_54_code
def yJ0_length_8abf5 : MethodName := ⟨RJ0, "length", "()I"⟩
abbrev cJ0_charAt_5068e : ByteArray := prog_17_method_56_code
def yJ0_charAt_5068e : MethodName := ⟨RJ0, "charAt", "(I)C"⟩
abbrev cJ0_indexOf_0f7a4 : ByteArray := prog_17_method_79_code
def yJ0_indexOf_0f7a4 : MethodName := ⟨RJ0, "indexOf", "(I)I"⟩
abbrev cJ0_indexOf_7cf53 : ByteArray := prog_17_method_80_code
def yJ0_indexOf_7cf53 : MethodName := ⟨RJ0, "indexOf", "(II)I"⟩
abbrev cJ0_coder_7d493 : ByteArray := prog_17_method_152_code
def yJ0_coder_7d493 : MethodName := ⟨RJ0, "coder", "()B"⟩
abbrev cJ0_isLatin1_aae02 : ByteArray := prog_17_method_154_code
def yJ0_isLatin1_aae02 : MethodName := ⟨RJ0, "isLatin1", "()Z"⟩
abbrev cJ0_checkIndex_df160 : ByteArray := prog_17_method_155_code
def yJ0_checkIndex_df160 : MethodName := ⟨RJ0, "checkIndex", "(II)V"⟩
abbrev cJ0_checkBoundsBeginEnd_23922 : ByteArray := prog_17_method_158_code
def yJ0_checkBoundsBeginEnd_23922 : MethodName := ⟨RJ0, "checkBoundsBeginEnd", "(III)V"⟩
def RJ1 : String := "java/lang/StringLatin1"
abbrev cJ1_charAt_3b067 : ByteArray := prog_18_method_2_code
def yJ1_charAt_3b067 : MethodName := ⟨RJ1, "charAt", "([BI)C"⟩
abbrev cJ1_canEncode_9a6ad : ByteArray := prog_18_method_4_code
def yJ1_canEncode_9a6ad : MethodName := ⟨RJ1, "canEncode", "(I)Z"⟩
abbrev cJ1_indexOf_4cfef : ByteArray := prog_18_method_22_code
def yJ1_indexOf_4cfef : MethodName := ⟨RJ1, "indexOf", "([BIII)I"⟩
abbrev cJ1_indexOfChar_4cfef : ByteArray := prog_18_method_23_code
def yJ1_indexOfChar_4cfef : MethodName := ⟨RJ1, "indexOfChar", "([BIII)I"⟩
def RJ2 : String := "java/lang/StringUTF16"
abbrev cJ2_getChar_3b067 : ByteArray := prog_19_method_5_code
def yJ2_getChar_3b067 : MethodName := ⟨RJ2, "getChar", "([BI)C"⟩
abbrev cJ2_length_9d52b : ByteArray := prog_19_method_6_code
def yJ2_length_9d52b : MethodName := ⟨RJ2, "length", "([B)I"⟩
abbrev cJ2_indexOf_4cfef : ByteArray := prog_19_method_40_code
def yJ2_indexOf_4cfef : MethodName := ⟨RJ2, "indexOf", "([BIII)I"⟩
abbrev cJ2_indexOfChar_4cfef : ByteArray := prog_19_method_47_code
def yJ2_indexOfChar_4cfef : MethodName := ⟨RJ2, "indexOfChar", "([BIII)I"⟩
abbrev cJ2_indexOfCharUnsafe_4cfef : ByteArray := prog_19_method_48_code
def yJ2_indexOfCharUnsafe_4cfef : MethodName := ⟨RJ2, "indexOfCharUnsafe", "([BIII)I"⟩
abbrev cJ2_indexOfSupplementary_4cfef : ByteArray := prog_19_method_49_code
def yJ2_indexOfSupplementary_4cfef : MethodName := ⟨RJ2, "indexOfSupplementary", "([BIII)I"⟩
abbrev cJ2_charAt_3b067 : ByteArray := prog_19_method_83_code
def yJ2_charAt_3b067 : MethodName := ⟨RJ2, "charAt", "([BI)C"⟩
abbrev cJ2_checkIndex_2214a : ByteArray := prog_19_method_91_code
def yJ2_checkIndex_2214a : MethodName := ⟨RJ2, "checkIndex", "(I[B)V"⟩
abbrev cJ2_checkBoundsBeginEnd_d044e : ByteArray := prog_19_method_93_code
def yJ2_checkBoundsBeginEnd_d044e : MethodName := ⟨RJ2, "checkBoundsBeginEnd", "(II[B)V"⟩
def RJ10 : String := "java/lang/System"
def RJ7 : String := "java/util/Arrays"
abbrev cJ7_fill_53178 : ByteArray := prog_21_method_103_code
def yJ7_fill_53178 : MethodName := ⟨RJ7, "fill", "([II)V"⟩
def RJ3 : String := "jdk/internal/util/Preconditions"
abbrev cJ3_checkIndex_8e157 : ByteArray := prog_22_method_11_code
def yJ3_checkIndex_8e157 : MethodName := ⟨RJ3, "checkIndex", "(IILjava/util/function/BiFunction;)I"⟩
abbrev cJ3_checkFromToIndex_8c36e : ByteArray := prog_22_method_12_code
def yJ3_checkFromToIndex_8c36e : MethodName := ⟨RJ3, "checkFromToIndex", "(IIILjava/util/function/BiFunction;)I"⟩
def RL : String := "TeleprinterTapeLaw"
abbrev cL_law : ByteArray := code
def yL_law : MethodName := ⟨RL, "law", "([I)Z"⟩
abbrev vwCl : List vw_C := [(RX1, TX1, 4), (RX2, TX2, 3), (RX3, TX3, 2), (RX4, TX4, 4), (RX5, TX5, 4), (RX6, TX6, 3), (RX7, TX7, 2), (RX8, TX8, 2), (RX9, TX9, 5), (RX10, TX10, 3), (RX11, TX11, 12), (RX12, TX12, 24)]
/-- the words that read the tables alone -/
def tgw (w : Cond) : Bool := w.onTables && (w.keeps || (match w with | .fieldLinkNest .. => true | .methodLinkNest .. => true | _ => false))
def lw_tg : List Cond := lw_tbl.filter tgw
theorem tg_len : lw_tg.length = 1145 := by decide +kernel
theorem tg_mem {w : Cond} (i : Nat) (h : lw_tg[i]? = some w) : w ∈ lw_tg := List.mem_of_getElem? h
theorem tg_mems {ws : List Cond} (ps : List Nat) (h : ws = ps.filterMap (fun i => lw_tg[i]?)) : ∀ w ∈ ws, w ∈ lw_tg := by
  intro w hw
  rw [h] at hw
  obtain ⟨i, -, hi⟩ := List.mem_filterMap.mp hw
  exact List.mem_of_getElem? hi
theorem iX1 : ∀ w ∈ u_ws RX1 TX1 4, w ∈ lw_tg := tg_mems [233, 235, 237, 239] (by decide +kernel)
theorem iX2 : ∀ w ∈ u_ws RX2 TX2 3, w ∈ lw_tg := tg_mems [140, 142, 144] (by decide +kernel)
theorem iX3 : ∀ w ∈ u_ws RX3 TX3 2, w ∈ lw_tg := tg_mems [123, 125] (by decide +kernel)
theorem iX4 : ∀ w ∈ u_ws RX4 TX4 4, w ∈ lw_tg := tg_mems [212, 214, 216, 218] (by decide +kernel)
theorem iX5 : ∀ w ∈ u_ws RX5 TX5 4, w ∈ lw_tg := tg_mems [192, 194, 196, 198] (by decide +kernel)
theorem iX6 : ∀ w ∈ u_ws RX6 TX6 3, w ∈ lw_tg := tg_mems [106, 108, 110] (by decide +kernel)
theorem iX7 : ∀ w ∈ u_ws RX7 TX7 2, w ∈ lw_tg := tg_mems [250, 252] (by decide +kernel)
theorem iX8 : ∀ w ∈ u_ws RX8 TX8 2, w ∈ lw_tg := tg_mems [157, 159] (by decide +kernel)
theorem iX9 : ∀ w ∈ u_ws RX9 TX9 5, w ∈ lw_tg := tg_mems [82, 84, 86, 88, 90] (by decide +kernel)
theorem iX10 : ∀ w ∈ u_ws RX10 TX10 3, w ∈ lw_tg := tg_mems [174, 176, 178] (by decide +kernel)
theorem iX11 : ∀ w ∈ u_ws RX11 TX11 12, w ∈ lw_tg := tg_mems [267, 269, 271, 273, 275, 277, 279, 281, 283, 285, 287, 289] (by decide +kernel)
theorem iX12 : ∀ w ∈ u_ws RX12 TX12 24, w ∈ lw_tg := tg_mems [862, 864, 866, 868, 870, 872, 874, 876, 878, 880, 882, 884, 886, 888, 890, 892, 894, 896, 898, 900, 902, 904, 906, 908] (by decide +kernel)
end
section
/-! THE PURE MACHINE'S STATE: a heap is a list of cells, a reference is a place in it; what lies outside (the script, the two texts and their bytes) is a 'retAddr'. -/
abbrev PE : Type := (Nat × vp_A) ⊕ (Nat × List Value)
abbrev HPt : Type := List PE
abbrev EX : Type := (Nat → Nat) × Nat × va_G × (Nat → ClassId) × Nat × (Nat → Int32)
def xc (X : EX) : Nat → Nat := X.1
def x0 (X : EX) : Nat := X.2.1
def xD (X : EX) : va_G := X.2.2.1
def xy (X : EX) : Nat → ClassId := X.2.2.2.1
def xL (X : EX) : Nat := X.2.2.2.2.1
def xs (X : EX) : Nat → Int32 := X.2.2.2.2.2
def xA (X : EX) : Nat → Prop := fun q => x0 X ≤ q
def xv (X : EX) : Value → Value
  | .ref i => .ref (x0 X + i)
  | .retAddr i => .ref (xc X i)
  | .int v => .int v
  | .long v => .long v
  | .float v => .float v
  | .double v => .double v
  | .null => .null
def xf (X : EX) : ((Nat → Int32) ⊕ (Nat → Int64) ⊕ (Nat → UInt32) ⊕ (Nat → UInt64) ⊕ (Nat → Option Nat)) → ((Nat → Int32) ⊕ (Nat → Int64) ⊕ (Nat → UInt32) ⊕ (Nat → UInt64) ⊕ (Nat → Option Nat))
  | .inl f => .inl f
  | .inr (.inl f) => .inr (.inl f)
  | .inr (.inr (.inl f)) => .inr (.inr (.inl f))
  | .inr (.inr (.inr (.inl f))) => .inr (.inr (.inr (.inl f)))
  | .inr (.inr (.inr (.inr f))) => .inr (.inr (.inr (.inr (fun j => (f j).map (x0 X + ·)))))
def xe (X : EX) : PE → va_E
  | .inl q => .inl (xy X q.1, q.2.1, xf X q.2.2)
  | .inr q => .inr (q.1, q.2.map (xv X))
def xw (X : EX) (hp : HPt) : va_W := hp.mapIdx (fun i e => (x0 X + i, xe X e))
abbrev ia (n : Nat) (f : Nat → Int32) : PE := .inl (0, n, .inl f)
abbrev za (n : Nat) (f : Nat → Int32) : PE := .inl (1, n, .inl f)
abbrev qa (n : Nat) (f : Nat → Option Nat) : PE := .inl (2, n, .inr (.inr (.inr (.inr f))))
abbrev ob (ci : Nat) (fs : List Value) : PE := .inr (ci, fs)
abbrev xt (X : EX) : List (ClassId × FieldType) := [(xy X 0, .int), (xy X 1, .boolean), (xy X 2, .object RX9)]
theorem xw_get (X : EX) (hp : HPt) (i : Nat) : (xw X hp)[i]? = (hp[i]?).map (fun e => (x0 X + i, xe X e)) := by
  unfold xw
  rw [List.getElem?_mapIdx]
theorem xw_at {X : EX} {hp : HPt} {i : Nat} {e : PE} (h : hp[i]? = some e) : (xw X hp)[i]? = some (x0 X + i, xe X e) := by
  rw [xw_get, h]; rfl
theorem xw_len (X : EX) (hp : HPt) : (xw X hp).length = hp.length := by
  unfold xw
  rw [List.length_mapIdx]
theorem xw_set (X : EX) (hp : HPt) (i : Nat) (e : PE) : (xw X hp).set i (x0 X + i, xe X e) = xw X (hp.set i e) := by
  apply List.ext_getElem?
  intro j
  rw [xw_get, List.getElem?_set, List.getElem?_set, xw_get, xw_len]
  by_cases hij : i = j
  · subst hij
    by_cases hl : i < hp.length <;> simp [hl]
  · simp [hij]
theorem xw_push (X : EX) (hp : HPt) (e : PE) : xw X hp ++ [(x0 X + hp.length, xe X e)] = xw X (hp ++ [e]) := by
  unfold xw
  rw [List.mapIdx_append]
  simp
theorem xw_D (X : EX) (hp : HPt) : va_D (xA X) (xw X hp) := by
  refine ⟨fun i j p q hi hj hpq => ?_, fun k q hk => ?_⟩
  · rw [xw_get] at hi hj
    cases h1 : hp[i]? with
    | none => rw [h1] at hi; cases hi
    | some a =>
      cases h2 : hp[j]? with
      | none => rw [h2] at hj; cases hj
      | some b =>
        rw [h1] at hi; rw [h2] at hj
        cases hi; cases hj
        have : x0 X + i = x0 X + j := hpq
        omega
  · rw [xw_get] at hk
    cases h1 : hp[k]? with
    | none => rw [h1] at hk; cases hk
    | some a => rw [h1] at hk; cases hk; exact Nat.le_add_right _ _
/-! the tables' words, at any state of the run -/
def TB (s : State) : Prop := ∀ w ∈ lw_tg, ∀ args : Array Value, w.before args s = true
theorem TB.warm {s U : State} (hW : s.WarmedH U.vm) (h : TB s) : TB U := by
  intro w hw args
  have hk := (List.mem_filter.mp hw).2
  have h0 := h w hw #[]
  unfold tgw at hk
  rw [Bool.and_eq_true, Bool.or_eq_true] at hk
  obtain ⟨h1, h2 | h2⟩ := hk
  · exact word_at hW (Or.inl (by rw [h1, h2]; rfl)) h0
  · cases w <;> first | exact va_Nw.use rfl (va_Nw.warmF hW h0) | exact va_Nw.use rfl (va_Nw.warmM hW h0) | exact absurd (show false = true from h2) Bool.false_ne_true
def slen : List Nat := [26, 26]
def sbyt : List (List Int32) := [[65, 66, 67, 68, 69, 70, 71, 72, 73, 74, 75, 76, 77, 78, 79, 80, 81, 82, 83, 84, 85, 86, 87, 88, 89, 90], [48, 49, 50, 51, 52, 53, 54, 55, 56, 57, 45, 63, 58, 40, 41, 46, 44, 47, 61, 39, 43, 33, 38, 37, 59, 36]]
def XS (X : EX) (s : State) (H : Heap) : Prop :=
  vk_R RX0 23 "ABCDEFGHIJKLMNOPQRSTUVWXYZ" (xc X 1) s ∧ vk_R RX0 15 "0123456789-?:().,/='+!&%;$" (xc X 2) s ∧ vk_S 2 slen sbyt (fun i => xc X (1 + i)) (fun i => xc X (3 + i)) (xA X) s H ∧ va_Z "java/lang/String" "COMPACT_STRINGS" "Z" (.int 1) (xA X) s H ∧
  (va_Z "jdk/internal/util/Preconditions" "SIOOBE_FORMATTER" "Ljava/util/function/BiFunction;" .null (xA X) s H ∨ va_Z "jdk/internal/util/Preconditions" "SIOOBE_FORMATTER" "Ljava/util/function/BiFunction;" (.ref (xc X 5)) (xA X) s H)
def XF (X : EX) (s : State) (H : Heap) : Prop :=
  TB s ∧ va_K (xD X) vwCl (xt X) s ∧ ((Cond.arrayClass .int).before #[] s = true ∧ (Cond.arrayClass .boolean).before #[] s = true ∧ va_AO RX9 s) ∧ (va_X (xc X 0) (xL X) (xs X) s H ∧ xc X 0 < x0 X) ∧ XS X s H
theorem XF.move {X : EX} {s U : State} {H H1 : Heap} (hW : s.WarmedH U.vm) (hq : ∀ q, q < x0 X → H1[q]? = H[q]?) (h : XF X s H) : XF X U H1 := by
  obtain ⟨h1, h2, ⟨h3, h4, h5⟩, ⟨h6, h7⟩, h8, h9, h10, h11, h12⟩ := h
  have hk : ∀ a : Nat, a < H.size → ¬ xA X a → H1[a]? = H[a]? := fun a _ hA => hq a (Nat.not_le.mp hA)
  refine ⟨h1.warm hW, h2.moved hW.alike, ⟨word_at hW (Or.inr ⟨_, rfl⟩) h3, word_at hW (Or.inr ⟨_, rfl⟩) h4, h5.moved hW.alike⟩, ⟨(h6.moved hW.alike).kept (hq _ h7), h7⟩, h8.warm hW, h9.warm hW, (h10.moved hW.alike).kept hk, (va_Z.moved hW.alike h11).kept hk, ?_⟩
  rcases h12 with h | h
  · exact Or.inl ((va_Z.moved hW.alike h).kept hk)
  · exact Or.inr ((va_Z.moved hW.alike h).kept hk)
/-- the heap H holds hp, k cells after the state s -/
def HR (X : EX) (hp : HPt) (k : Nat) (s : State) (H : Heap) : Prop := s.heap.size + k = x0 X + hp.length ∧ va_P (xD X) vwCl (xw X hp) H
/-! a method: its name, code, locals, answer, room -/
abbrev MT : Type := MethodName × ByteArray × Nat × Option FieldType × Room
def mY (M : MT) : MethodName := M.1
def mB (M : MT) : ByteArray := M.2.1
def mN (M : MT) : Nat := M.2.2.1
def mR (M : MT) : Option FieldType := M.2.2.2.1
def mM (M : MT) : Room := M.2.2.2.2
def CX (X : EX) (M : MT) (p : Program) (s : State) (m : MethodId) (meth : Method) (c : Code) : Prop :=
  p.tables.exec = Jvm.exec ∧ c.code = mB M ∧ c.maxLocals = mN M ∧ s.vm.findClass (mY M).cls = some m.cls ∧ meth.sig.returnType = mR M ∧ meth.locks = false ∧ meth.name = (mY M).name ∧ XF X s s.heap ∧ x0 X ≤ s.heap.size
def LV (X : EX) (ls : Array Slot) (nL : Nat) (lv : List (Option Value)) : Prop := ls.size = nL ∧ lv_wf ls ∧ ∀ (i : Nat) (v : Value), lv[i]? = some (some v) → ls[i]? = some (.val (xv X v))
abbrev ZT : Type := List Frame → Array Value → State → State → Prop
def PZ (l : Launch) (X : EX) (Z : ZT) (M : MT) (pc : Nat) (lv : List (Option Value)) (st : List Value) (hp : HPt) (k n : Nat) : Prop :=
  ∀ (p : Program) (e : Env) (s : State) (m : MethodId) (args : Array Value) (below : List Frame) (meth : Method) (c : Code) (H : Heap) (locs : List Loc) (ls : Array Slot), CX X M p s m meth c → HR X hp k s H → va_S (xA X) s.heap H locs → LV X ls (mN M) lv →
    W p l e (mM M) s m args below meth c H locs k n (Z below args s) (F0 m pc ls (st.map (xv X)))
def QC (X : EX) (k : Nat) (Q : Option Value → HPt → Prop) : Array Value → State → Outcome → State → Prop := fun _ st oc t =>
  (∃ (v : Option Value) (hp' : HPt), oc = .returned (v.map (xv X)) ∧ Q v hp' ∧ HR X hp' k st t.heap) ∧ st.heap.size ≤ t.heap.size ∧ ∀ q, q < x0 X → t.heap[q]? = st.heap[q]?
def MZ (X : EX) (M : MT) (Q : Option Value → HPt → Prop) : ZT := fun below args s => MQ below (QC X (mM M).cells Q) args s (mM M).cells (mM M).slots (xA X)
def PC (X : EX) (args : List Value) (hp : HPt) : Array Value → State → Prop := va_Pc (args.map (xv X)) (fun U => XF X U U.heap ∧ x0 X ≤ U.heap.size ∧ HR X hp 0 U U.heap)
def Sp (l : Launch) (X : EX) (M : MT) (args : List Value) (hp : HPt) (Q : Option Value → HPt → Prop) : Prop :=
  Met l (mY M) [Cond.code (mY M) (mB M) (mN M) (mR M)] (mM M) (PC X args hp) (QC X (mM M).cells Q) (mM M).cells (mM M).slots (xA X)
def DC (M : MT) (pc : Nat) (i : Instr) (len : Nat) : Prop := decode (mB M) pc = .ok (i, len)
/-! entry -/
def lvS : List Value → List (Option Value)
  | [] => []
  | .long x :: t => some (.long x) :: none :: lvS t
  | .double x :: t => some (.double x) :: none :: lvS t
  | v :: t => some v :: lvS t
def lvE (n : Nat) (args : List Value) : List (Option Value) := lvS args ++ List.replicate (n - (lvS args).length) none
theorem xv_cat (X : EX) (v : Value) : (xv X v).category = v.category := by cases v <;> rfl
theorem lvS_cons (v : Value) (t : List Value) : lvS (v :: t) = if v.category = 2 then some v :: none :: lvS t else some v :: lvS t := by
  cases v <;> simp [lvS, Value.category]
theorem lvS_args (X : EX) : ∀ (args : List Value) (o i : Nat) (v : Value), (lvS args)[i]? = some (some v) → (o + i, xv X v) ∈ lv_args o (args.map (xv X))
  | [], o, i, v, h => by simp [lvS] at h
  | a :: t, o, i, v, h => by
    rw [lvS_cons] at h
    show (o + i, xv X v) ∈ (o, xv X a) :: lv_args (if (xv X a).category = 2 then o + 2 else o + 1) (t.map (xv X))
    rw [xv_cat]
    by_cases hc : a.category = 2
    · rw [if_pos hc] at h ⊢
      match i, h with
      | 0, h =>
        cases h
        exact List.mem_cons_self
      | 1, h => cases h
      | i + 2, h =>
        have := lvS_args X t (o + 2) i v h
        rw [show o + 2 + i = o + (i + 2) by omega] at this
        exact List.mem_cons_of_mem _ this
    · rw [if_neg hc] at h ⊢
      match i, h with
      | 0, h =>
        cases h
        exact List.mem_cons_self
      | i + 1, h =>
        have := lvS_args X t (o + 1) i v h
        rw [show o + 1 + i = o + (i + 1) by omega] at this
        exact List.mem_cons_of_mem _ this
theorem LV.entry {X : EX} {ls : Array Slot} {n : Nat} {args : List Value} (h : lv_has ls n (lv_args 0 (args.map (xv X)))) : LV X ls n (lvE n args) := by
  refine ⟨h.1, h.2.1, fun i v hv => ?_⟩
  unfold lvE at hv
  by_cases hi : i < (lvS args).length
  · rw [List.getElem?_append_left hi] at hv
    have := lvS_args X args 0 i v hv
    rw [Nat.zero_add] at this
    exact h.2.2 _ this
  · rw [List.getElem?_append_right (by omega)] at hv
    have := List.eq_of_mem_replicate (List.mem_of_getElem? hv)
    cases this
theorem Sp.of {l : Launch} {X : EX} {M : MT} {args : List Value} {hp : HPt} {Q : Option Value → HPt → Prop} (hy : plainName (mY M).cls = true) (hlen : (lg_sl (args.map (xv X))).length ≤ mN M) {lv : List (Option Value)} (hlv : lvE (mN M) args = lv) (h : PZ l X (MZ X M Q) M 0 lv [] hp 0 0) : Sp l X M args hp Q := by
  refine Met.ofW (cc := mB M) (maxL := mN M) (ret := mR M) hy rfl ?_
  intro p e s m a below meth c s₁ B hml hv
  obtain ⟨rfl, hX, h0, hH⟩ := hv
  have hl := lv_entry (args.map (xv X)) (n := mN M) hlen
  rw [lg_entry_eq]
  generalize (lg_sl (args.map (xv X)) ++ List.replicate (mN M - (lg_sl (args.map (xv X))).length) Slot.unset).toArray = ls at hl ⊢
  subst hlv
  exact h p e s m _ below meth c s.heap [] ls ⟨B.exec, B.bytes, hml, findClass_of_methodNamed B.named, B.returns, B.notSynchronized, (name_of_methodNamed B.named B.method).1, hX, h0⟩ hH va_S.rf (LV.entry hl)
/-- what a method answers may be told weaker -/
theorem Sp.imp {l : Launch} {X : EX} {M : MT} {args : List Value} {hp : HPt} {Q Q' : Option Value → HPt → Prop} (h : Sp l X M args hp Q) (hq : ∀ v hp', Q v hp' → Q' v hp') : Sp l X M args hp Q' := by
  unfold Sp Met at h ⊢
  intro p e ha hc hk s m args below hf happ hP hT
  obtain ⟨kk, o, h1, h2, h3, ⟨⟨v, hp', e1, e2, e3⟩, e4⟩, h5⟩ := h p e ha hc hk s m args below hf happ hP hT
  exact ⟨kk, o, h1, h2, h3, ⟨⟨v, hp', e1, hq v hp' e2, e3⟩, e4⟩, h5⟩
end
section
/-! RULES of the pure machine, an instruction each: stack, locals, numbers, branches -/
section RU
variable {l : Launch} {X : EX} {Z : ZT} {M : MT} {pc : Nat} {lv lv' : List (Option Value)} {st : List Value} {hp : HPt} {k n : Nat}
theorem R_iconst {i : Int} {v : Int32} (hd : DC M pc (.iconst i) 1) (hv : Int32.ofInt i = v) (kk : PZ l X Z M (pc + 1) lv (.int v :: st) hp k n) : PZ l X Z M pc lv st hp k n :=
  fun p e s m args below meth c H locs ls C hH hS hl => lv_iconst C.1 C.2.1 hd hv (kk p e s m args below meth c H locs ls C hH hS hl)
theorem R_bipush {i : Int} {v : Int32} (hd : DC M pc (.bipush i) 2) (hv : (Int8.ofInt i).toInt32 = v) (kk : PZ l X Z M (pc + 2) lv (.int v :: st) hp k n) : PZ l X Z M pc lv st hp k n :=
  fun p e s m args below meth c H locs ls C hH hS hl => lv_bipush C.1 C.2.1 hd hv (kk p e s m args below meth c H locs ls C hH hS hl)
theorem R_sipush {i : Int} {v : Int32} (hd : DC M pc (.sipush i) 3) (hv : (Int16.ofInt i).toInt32 = v) (kk : PZ l X Z M (pc + 3) lv (.int v :: st) hp k n) : PZ l X Z M pc lv st hp k n :=
  fun p e s m args below meth c H locs ls C hH hS hl => lv_sipush C.1 C.2.1 hd hv (kk p e s m args below meth c H locs ls C hH hS hl)
theorem R_lconst {i : Fin 2} {v : Int64} (hd : DC M pc (.lconst i) 1) (hv : Int64.ofNat i.val = v) (kk : PZ l X Z M (pc + 1) lv (.long v :: st) hp k n) : PZ l X Z M pc lv st hp k n :=
  fun p e s m args below meth c H locs ls C hH hS hl => lv_lconst C.1 C.2.1 hd hv (kk p e s m args below meth c H locs ls C hH hS hl)
theorem R_ldc2 {i : Nat} {v : Int64} (hd : DC M pc (.ldc2_w i) 3) (hv : Cond.constantLong (mY M).cls i v ∈ lw_tg) (kk : PZ l X Z M (pc + 3) lv (.long v :: st) hp k n) : PZ l X Z M pc lv st hp k n :=
  fun p e s m args below meth c H locs ls C hH hS hl => lv_ldc2 C.1 C.2.1 C.2.2.2.1 (C.2.2.2.2.2.2.2.1.1 _ hv args) hd (kk p e s m args below meth c H locs ls C hH hS hl)
theorem R_iload_n {j : Fin 4} {i : Nat} {x : Int32} (hd : DC M pc (.iload_n j) 1) (hi : (j : Nat) = i) (hv : lv[i]? = some (some (.int x))) (kk : PZ l X Z M (pc + 1) lv (.int x :: st) hp k n) : PZ l X Z M pc lv st hp k n :=
  fun p e s m args below meth c H locs ls C hH hS hl => lv_iload_n C.1 C.2.1 hd hi (hl.2.2 _ _ hv) (kk p e s m args below meth c H locs ls C hH hS hl)
theorem R_iload {i : Nat} {x : Int32} (hd : DC M pc (.iload i) 2) (hv : lv[i]? = some (some (.int x))) (kk : PZ l X Z M (pc + 2) lv (.int x :: st) hp k n) : PZ l X Z M pc lv st hp k n :=
  fun p e s m args below meth c H locs ls C hH hS hl => lv_iload C.1 C.2.1 hd (hl.2.2 _ _ hv) (kk p e s m args below meth c H locs ls C hH hS hl)
theorem R_lload_n {j : Fin 4} {i : Nat} {x : Int64} (hd : DC M pc (.lload_n j) 1) (hi : (j : Nat) = i) (hv : lv[i]? = some (some (.long x))) (kk : PZ l X Z M (pc + 1) lv (.long x :: st) hp k n) : PZ l X Z M pc lv st hp k n :=
  fun p e s m args below meth c H locs ls C hH hS hl => lv_lload_n C.1 C.2.1 hd hi (hl.2.2 _ _ hv) (kk p e s m args below meth c H locs ls C hH hS hl)
theorem R_lload {i : Nat} {x : Int64} (hd : DC M pc (.lload i) 2) (hv : lv[i]? = some (some (.long x))) (kk : PZ l X Z M (pc + 2) lv (.long x :: st) hp k n) : PZ l X Z M pc lv st hp k n :=
  fun p e s m args below meth c H locs ls C hH hS hl => lv_lload C.1 C.2.1 hd (hl.2.2 _ _ hv) (kk p e s m args below meth c H locs ls C hH hS hl)
theorem R_aload_n {j : Fin 4} {i h : Nat} (hd : DC M pc (.aload_n j) 1) (hi : (j : Nat) = i) (hv : lv[i]? = some (some (.ref h))) (kk : PZ l X Z M (pc + 1) lv (.ref h :: st) hp k n) : PZ l X Z M pc lv st hp k n :=
  fun p e s m args below meth c H locs ls C hH hS hl => lv_aload_n C.1 C.2.1 hd hi (hl.2.2 _ _ hv) (kk p e s m args below meth c H locs ls C hH hS hl)
theorem R_aload {i h : Nat} (hd : DC M pc (.aload i) 2) (hv : lv[i]? = some (some (.ref h))) (kk : PZ l X Z M (pc + 2) lv (.ref h :: st) hp k n) : PZ l X Z M pc lv st hp k n :=
  fun p e s m args below meth c H locs ls C hH hS hl => lv_aload C.1 C.2.1 hd (hl.2.2 _ _ hv) (kk p e s m args below meth c H locs ls C hH hS hl)
/-- an outside cell -/
theorem R_xload_n {j : Fin 4} {i h : Nat} (hd : DC M pc (.aload_n j) 1) (hi : (j : Nat) = i) (hv : lv[i]? = some (some (.retAddr h))) (kk : PZ l X Z M (pc + 1) lv (.retAddr h :: st) hp k n) : PZ l X Z M pc lv st hp k n :=
  fun p e s m args below meth c H locs ls C hH hS hl => lv_aload_n C.1 C.2.1 hd hi (hl.2.2 _ _ hv) (kk p e s m args below meth c H locs ls C hH hS hl)
def clr2 : Option Value → Option Value
  | some (.long _) => none
  | some (.double _) => none
  | o => o
def lput : List (Option Value) → Nat → Value → List (Option Value)
  | [], _, _ => []
  | _ :: t, 0, v => some v :: t
  | o :: t, 1, v => clr2 o :: lput t 0 v
  | o :: t, i + 2, v => o :: lput t (i + 1) v
theorem lput_get : ∀ (lv : List (Option Value)) (i : Nat) (v : Value) (j : Nat) (w : Value), (lput lv i v)[j]? = some (some w) → (j = i ∧ w = v) ∨ (j ≠ i ∧ lv[j]? = some (some w) ∧ ¬ (j + 1 = i ∧ w.category = 2))
  | [], i, v, j, w, h => by simp [lput] at h
  | o :: t, 0, v, 0, w, h => by
    simp only [lput, List.getElem?_cons_zero, Option.some.injEq] at h
    exact Or.inl ⟨rfl, h.symm⟩
  | o :: t, 0, v, j + 1, w, h => by
    simp only [lput, List.getElem?_cons_succ] at h
    exact Or.inr ⟨by omega, by simpa using h, by omega⟩
  | o :: t, 1, v, 0, w, h => by
    simp only [lput, List.getElem?_cons_zero, Option.some.injEq] at h
    cases o with
    | none => cases h
    | some a => cases a <;> first | (simp only [clr2] at h; cases h; exact Or.inr ⟨by omega, rfl, by simp [Value.category]⟩) | cases h
  | o :: t, 1, v, j + 1, w, h => by
    simp only [lput, List.getElem?_cons_succ] at h
    rcases lput_get t 0 v j w h with ⟨h1, h2⟩ | ⟨h1, h2, h3⟩
    · exact Or.inl ⟨by omega, h2⟩
    · exact Or.inr ⟨by omega, by simpa using h2, by omega⟩
  | o :: t, i + 2, v, 0, w, h => by
    simp only [lput, List.getElem?_cons_zero, Option.some.injEq] at h
    exact Or.inr ⟨by omega, by simpa using h, by omega⟩
  | o :: t, i + 2, v, j + 1, w, h => by
    simp only [lput, List.getElem?_cons_succ] at h
    rcases lput_get t (i + 1) v j w h with ⟨h1, h2⟩ | ⟨h1, h2, h3⟩
    · exact Or.inl ⟨by omega, h2⟩
    · exact Or.inr ⟨by omega, by simpa using h2, fun z => h3 ⟨by omega, z.2⟩⟩
def lvA (X : EX) (nL : Nat) (lv : List (Option Value)) : List (Nat × Value) := (List.range nL).filterMap (fun i => match lv[i]? with | some (some v) => some (i, xv X v) | _ => none)
theorem lvA_mem {X : EX} {nL i : Nat} {lv : List (Option Value)} {v : Value} (hi : i < nL) (h : lv[i]? = some (some v)) : (i, xv X v) ∈ lvA X nL lv :=
  List.mem_filterMap.mpr ⟨i, List.mem_range.mpr hi, by rw [h]⟩
theorem LV.has {X : EX} {ls : Array Slot} {nL : Nat} {lv : List (Option Value)} (h : LV X ls nL lv) : lv_has ls nL (lvA X nL lv) := by
  refine ⟨h.1, h.2.1, fun q hq => ?_⟩
  obtain ⟨i, -, hi⟩ := List.mem_filterMap.mp hq
  cases hv : lv[i]? with
  | none => rw [hv] at hi; cases hi
  | some o =>
    cases o with
    | none => rw [hv] at hi; cases hi
    | some v => rw [hv] at hi; cases hi; exact h.2.2 i v hv
theorem LV.lt {X : EX} {ls : Array Slot} {nL i : Nat} {lv : List (Option Value)} {v : Value} (h : LV X ls nL lv) (hv : lv[i]? = some (some v)) : i < nL := by
  rw [← h.1]
  exact (Array.getElem?_eq_some_iff.mp (h.2.2 i v hv)).1
theorem LV.put {X : EX} {ls ls' : Array Slot} {nL i : Nat} {lv : List (Option Value)} {v : Value} (h : LV X ls nL lv) (h' : lv_has ls' nL ((i, xv X v) :: (lvA X nL lv).filter (fun q => !(q.1 == i) && !(q.1 + 1 == i && q.2.category == 2)))) : LV X ls' nL (lput lv i v) := by
  refine ⟨h'.1, h'.2.1, fun j w hj => ?_⟩
  rcases lput_get lv i v j w hj with ⟨rfl, rfl⟩ | ⟨h1, h2, h3⟩
  · exact h'.2.2 _ List.mem_cons_self
  · refine h'.2.2 (j, xv X w) (List.mem_cons_of_mem _ (List.mem_filter.mpr ⟨lvA_mem (h.lt h2) h2, ?_⟩))
    rw [xv_cat]
    simp only [Bool.and_eq_true, Bool.not_eq_true', beq_eq_false_iff_ne, ne_eq, Bool.and_eq_false_iff]
    refine ⟨h1, ?_⟩
    by_cases q : j + 1 = i
    · exact Or.inr (fun z => h3 ⟨q, z⟩)
    · exact Or.inl q
theorem LV.put2 {X : EX} {ls ls' : Array Slot} {nL i : Nat} {lv : List (Option Value)} {v : Value} (h : LV X ls nL lv) (h' : lv_has ls' nL ((i, xv X v) :: (lvA X nL lv).filter (fun q => !(q.1 == i) && (!(q.1 == i + 1) && !(q.1 + 1 == i && q.2.category == 2))))) : LV X ls' nL ((lput lv i v).set (i + 1) none) := by
  refine ⟨h'.1, h'.2.1, fun j w hj => ?_⟩
  rw [List.getElem?_set] at hj
  by_cases hij : i + 1 = j
  · rw [if_pos hij] at hj
    by_cases hl : i + 1 < (lput lv i v).length
    · rw [if_pos hl] at hj; cases hj
    · rw [if_neg hl] at hj; cases hj
  · rw [if_neg hij] at hj
    rcases lput_get lv i v j w hj with ⟨rfl, rfl⟩ | ⟨h1, h2, h3⟩
    · exact h'.2.2 _ List.mem_cons_self
    · refine h'.2.2 (j, xv X w) (List.mem_cons_of_mem _ (List.mem_filter.mpr ⟨lvA_mem (h.lt h2) h2, ?_⟩))
      rw [xv_cat]
      simp only [Bool.and_eq_true, Bool.not_eq_true', beq_eq_false_iff_ne, ne_eq, Bool.and_eq_false_iff]
      refine ⟨h1, fun z => hij z.symm, ?_⟩
      by_cases q : j + 1 = i
      · exact Or.inr (fun z => h3 ⟨q, z⟩)
      · exact Or.inl q
theorem R_istore_n {j : Fin 4} {i : Nat} {x : Int32} (hd : DC M pc (.istore_n j) 1) (hi : (j : Nat) = i) (hn : i < mN M) (hv : lput lv i (.int x) = lv') (kk : PZ l X Z M (pc + 1) lv' st hp k n) : PZ l X Z M pc lv (.int x :: st) hp k n :=
  fun p e s m args below meth c H locs ls C hH hS hl => lv_istore_n C.1 C.2.1 hd hi hl.has hn rfl (fun ls' h' => kk p e s m args below meth c H locs ls' C hH hS (hv ▸ LV.put (v := .int x) hl h'))
theorem R_istore {i : Nat} {x : Int32} (hd : DC M pc (.istore i) 2) (hn : i < mN M) (hv : lput lv i (.int x) = lv') (kk : PZ l X Z M (pc + 2) lv' st hp k n) : PZ l X Z M pc lv (.int x :: st) hp k n :=
  fun p e s m args below meth c H locs ls C hH hS hl => lv_istore C.1 C.2.1 hd hl.has hn rfl (fun ls' h' => kk p e s m args below meth c H locs ls' C hH hS (hv ▸ LV.put (v := .int x) hl h'))
theorem R_astore_n {j : Fin 4} {i h : Nat} (hd : DC M pc (.astore_n j) 1) (hi : (j : Nat) = i) (hn : i < mN M) (hv : lput lv i (.ref h) = lv') (kk : PZ l X Z M (pc + 1) lv' st hp k n) : PZ l X Z M pc lv (.ref h :: st) hp k n :=
  fun p e s m args below meth c H locs ls C hH hS hl => lv_astore_n C.1 C.2.1 hd hi hl.has hn rfl (fun ls' h' => kk p e s m args below meth c H locs ls' C hH hS (hv ▸ LV.put (v := .ref h) hl h'))
theorem R_lstore_n {j : Fin 4} {i : Nat} {x : Int64} (hd : DC M pc (.lstore_n j) 1) (hi : (j : Nat) = i) (hn : i + 1 < mN M) (hv : (lput lv i (.long x)).set (i + 1) none = lv') (kk : PZ l X Z M (pc + 1) lv' st hp k n) : PZ l X Z M pc lv (.long x :: st) hp k n :=
  fun p e s m args below meth c H locs ls C hH hS hl => lv_lstore_n C.1 C.2.1 hd hi hl.has hn rfl (fun ls' h' => kk p e s m args below meth c H locs ls' C hH hS (hv ▸ LV.put2 (v := .long x) hl h'))
theorem R_lstore {i : Nat} {x : Int64} (hd : DC M pc (.lstore i) 2) (hn : i + 1 < mN M) (hv : (lput lv i (.long x)).set (i + 1) none = lv') (kk : PZ l X Z M (pc + 2) lv' st hp k n) : PZ l X Z M pc lv (.long x :: st) hp k n :=
  fun p e s m args below meth c H locs ls C hH hS hl => lv_lstore C.1 C.2.1 hd hl.has hn rfl (fun ls' h' => kk p e s m args below meth c H locs ls' C hH hS (hv ▸ LV.put2 (v := .long x) hl h'))
theorem R_iinc {i : Nat} {d : Int} {x v : Int32} (hd : DC M pc (.iinc i d) 3) (hx : lv[i]? = some (some (.int x))) (hq : x + Int32.ofInt d = v) (hv : lput lv i (.int v) = lv') (kk : PZ l X Z M (pc + 3) lv' st hp k n) : PZ l X Z M pc lv st hp k n := by
  intro p e s m args below meth c H locs ls C hH hS hl
  obtain ⟨kx, hk⟩ := List.getElem?_of_mem (lvA_mem (X := X) (hl.lt hx) hx)
  exact lv_iinc C.1 C.2.1 hd hl.has (k := kx) hk hq (hl.lt hx) rfl (fun ls' h' => kk p e s m args below meth c H locs ls' C hH hS (hv ▸ LV.put (v := .int v) hl h'))
theorem R_iadd {x y : Int32} (hd : DC M pc .iadd 1) (kk : PZ l X Z M (pc + 1) lv (.int (x + y) :: st) hp k n) : PZ l X Z M pc lv (.int y :: .int x :: st) hp k n :=
  fun p e s m args below meth c H locs ls C hH hS hl => lv_iadd C.1 C.2.1 hd (kk p e s m args below meth c H locs ls C hH hS hl)
theorem R_isub {x y : Int32} (hd : DC M pc .isub 1) (kk : PZ l X Z M (pc + 1) lv (.int (x - y) :: st) hp k n) : PZ l X Z M pc lv (.int y :: .int x :: st) hp k n :=
  fun p e s m args below meth c H locs ls C hH hS hl => lv_isub C.1 C.2.1 hd (kk p e s m args below meth c H locs ls C hH hS hl)
theorem R_imul {x y : Int32} (hd : DC M pc .imul 1) (kk : PZ l X Z M (pc + 1) lv (.int (x * y) :: st) hp k n) : PZ l X Z M pc lv (.int y :: .int x :: st) hp k n :=
  fun p e s m args below meth c H locs ls C hH hS hl => lv_imul C.1 C.2.1 hd (kk p e s m args below meth c H locs ls C hH hS hl)
theorem R_iand {x y : Int32} (hd : DC M pc .iand 1) (kk : PZ l X Z M (pc + 1) lv (.int (x &&& y) :: st) hp k n) : PZ l X Z M pc lv (.int y :: .int x :: st) hp k n :=
  fun p e s m args below meth c H locs ls C hH hS hl => lv_iand C.1 C.2.1 hd (kk p e s m args below meth c H locs ls C hH hS hl)
theorem R_ior {x y : Int32} (hd : DC M pc .ior 1) (kk : PZ l X Z M (pc + 1) lv (.int (x ||| y) :: st) hp k n) : PZ l X Z M pc lv (.int y :: .int x :: st) hp k n :=
  fun p e s m args below meth c H locs ls C hH hS hl => lv_ior C.1 C.2.1 hd (kk p e s m args below meth c H locs ls C hH hS hl)
theorem R_ixor {x y : Int32} (hd : DC M pc .ixor 1) (kk : PZ l X Z M (pc + 1) lv (.int (x ^^^ y) :: st) hp k n) : PZ l X Z M pc lv (.int y :: .int x :: st) hp k n :=
  fun p e s m args below meth c H locs ls C hH hS hl => lv_ixor C.1 C.2.1 hd (kk p e s m args below meth c H locs ls C hH hS hl)
theorem R_ishl {x y : Int32} (hd : DC M pc .ishl 1) (kk : PZ l X Z M (pc + 1) lv (.int (x <<< (y &&& 31)) :: st) hp k n) : PZ l X Z M pc lv (.int y :: .int x :: st) hp k n :=
  fun p e s m args below meth c H locs ls C hH hS hl => lv_ishl C.1 C.2.1 hd (kk p e s m args below meth c H locs ls C hH hS hl)
theorem R_ishr {x y : Int32} (hd : DC M pc .ishr 1) (kk : PZ l X Z M (pc + 1) lv (.int (x >>> (y &&& 31)) :: st) hp k n) : PZ l X Z M pc lv (.int y :: .int x :: st) hp k n :=
  fun p e s m args below meth c H locs ls C hH hS hl => lv_ishr C.1 C.2.1 hd (kk p e s m args below meth c H locs ls C hH hS hl)
theorem R_idiv {x y : Int32} (hd : DC M pc .idiv 1) (hy : ¬ y = 0) (kk : PZ l X Z M (pc + 1) lv (.int (x / y) :: st) hp k n) : PZ l X Z M pc lv (.int y :: .int x :: st) hp k n :=
  fun p e s m args below meth c H locs ls C hH hS hl => lv_idiv C.1 C.2.1 hd hy (kk p e s m args below meth c H locs ls C hH hS hl)
theorem R_irem {x y : Int32} (hd : DC M pc .irem 1) (hy : ¬ y = 0) (kk : PZ l X Z M (pc + 1) lv (.int (x - x / y * y) :: st) hp k n) : PZ l X Z M pc lv (.int y :: .int x :: st) hp k n :=
  fun p e s m args below meth c H locs ls C hH hS hl => lv_irem C.1 C.2.1 hd hy (kk p e s m args below meth c H locs ls C hH hS hl)
theorem R_ladd {x y : Int64} (hd : DC M pc .ladd 1) (kk : PZ l X Z M (pc + 1) lv (.long (x + y) :: st) hp k n) : PZ l X Z M pc lv (.long y :: .long x :: st) hp k n :=
  fun p e s m args below meth c H locs ls C hH hS hl => lv_ladd C.1 C.2.1 hd (kk p e s m args below meth c H locs ls C hH hS hl)
theorem R_lsub {x y : Int64} (hd : DC M pc .lsub 1) (kk : PZ l X Z M (pc + 1) lv (.long (x - y) :: st) hp k n) : PZ l X Z M pc lv (.long y :: .long x :: st) hp k n :=
  fun p e s m args below meth c H locs ls C hH hS hl => lv_lsub C.1 C.2.1 hd (kk p e s m args below meth c H locs ls C hH hS hl)
theorem R_lmul {x y : Int64} (hd : DC M pc .lmul 1) (kk : PZ l X Z M (pc + 1) lv (.long (x * y) :: st) hp k n) : PZ l X Z M pc lv (.long y :: .long x :: st) hp k n :=
  fun p e s m args below meth c H locs ls C hH hS hl => lv_lmul C.1 C.2.1 hd (kk p e s m args below meth c H locs ls C hH hS hl)
theorem R_land {x y : Int64} (hd : DC M pc .land 1) (kk : PZ l X Z M (pc + 1) lv (.long (x &&& y) :: st) hp k n) : PZ l X Z M pc lv (.long y :: .long x :: st) hp k n :=
  fun p e s m args below meth c H locs ls C hH hS hl => lv_land C.1 C.2.1 hd (kk p e s m args below meth c H locs ls C hH hS hl)
theorem R_lor {x y : Int64} (hd : DC M pc .lor 1) (kk : PZ l X Z M (pc + 1) lv (.long (x ||| y) :: st) hp k n) : PZ l X Z M pc lv (.long y :: .long x :: st) hp k n :=
  fun p e s m args below meth c H locs ls C hH hS hl => lv_lor C.1 C.2.1 hd (kk p e s m args below meth c H locs ls C hH hS hl)
theorem R_ldiv {x y : Int64} (hd : DC M pc .ldiv 1) (hy : ¬ y = 0) (kk : PZ l X Z M (pc + 1) lv (.long (x / y) :: st) hp k n) : PZ l X Z M pc lv (.long y :: .long x :: st) hp k n :=
  fun p e s m args below meth c H locs ls C hH hS hl => lv_ldiv C.1 C.2.1 hd hy (kk p e s m args below meth c H locs ls C hH hS hl)
theorem R_lrem {x y : Int64} (hd : DC M pc .lrem 1) (hy : ¬ y = 0) (kk : PZ l X Z M (pc + 1) lv (.long (x - x / y * y) :: st) hp k n) : PZ l X Z M pc lv (.long y :: .long x :: st) hp k n :=
  fun p e s m args below meth c H locs ls C hH hS hl => lv_lrem C.1 C.2.1 hd hy (kk p e s m args below meth c H locs ls C hH hS hl)
theorem R_i2l {x : Int32} (hd : DC M pc .i2l 1) (kk : PZ l X Z M (pc + 1) lv (.long x.toInt64 :: st) hp k n) : PZ l X Z M pc lv (.int x :: st) hp k n :=
  fun p e s m args below meth c H locs ls C hH hS hl => lv_i2l C.1 C.2.1 hd rfl (kk p e s m args below meth c H locs ls C hH hS hl)
theorem R_l2i {x : Int64} (hd : DC M pc .l2i 1) (kk : PZ l X Z M (pc + 1) lv (.int x.toInt32 :: st) hp k n) : PZ l X Z M pc lv (.long x :: st) hp k n :=
  fun p e s m args below meth c H locs ls C hH hS hl => lv_l2i C.1 C.2.1 hd rfl (kk p e s m args below meth c H locs ls C hH hS hl)
theorem R_i2c {x v : Int32} (hd : DC M pc .i2c 1) (hv : (x.toUInt32 % 65536).toInt32 = v) (kk : PZ l X Z M (pc + 1) lv (.int v :: st) hp k n) : PZ l X Z M pc lv (.int x :: st) hp k n :=
  fun p e s m args below meth c H locs ls C hH hS hl => lv_i2c C.1 C.2.1 hd hv (kk p e s m args below meth c H locs ls C hH hS hl)
theorem R_i2b {x v : Int32} (hd : DC M pc .i2b 1) (hv : x.toInt8.toInt32 = v) (kk : PZ l X Z M (pc + 1) lv (.int v :: st) hp k n) : PZ l X Z M pc lv (.int x :: st) hp k n :=
  fun p e s m args below meth c H locs ls C hH hS hl => lv_i2b C.1 C.2.1 hd hv (kk p e s m args below meth c H locs ls C hH hS hl)
theorem R_lushr {x v : Int64} {y : Int32} (hd : DC M pc .lushr 1) (hv : (x.toUInt64 >>> (y.toInt64.toUInt64 &&& Int64.toUInt64 63)).toInt64 = v) (kk : PZ l X Z M (pc + 1) lv (.long v :: st) hp k n) : PZ l X Z M pc lv (.int y :: .long x :: st) hp k n :=
  fun p e s m args below meth c H locs ls C hH hS hl => lv_lushr C.1 C.2.1 hd hv (kk p e s m args below meth c H locs ls C hH hS hl)
theorem R_lshl {x v : Int64} {y : Int32} (hd : DC M pc .lshl 1) (hv : x <<< (y.toInt64 &&& 63) = v) (kk : PZ l X Z M (pc + 1) lv (.long v :: st) hp k n) : PZ l X Z M pc lv (.int y :: .long x :: st) hp k n :=
  fun p e s m args below meth c H locs ls C hH hS hl => lv_lshl C.1 C.2.1 hd hv (kk p e s m args below meth c H locs ls C hH hS hl)
theorem R_lcmp {x y : Int64} (hd : DC M pc .lcmp 1) (kk : PZ l X Z M (pc + 1) lv (.int (lg_cmp x y) :: st) hp k n) : PZ l X Z M pc lv (.long y :: .long x :: st) hp k n :=
  fun p e s m args below meth c H locs ls C hH hS hl => W.lcmp C.1 C.2.1 hd (kk p e s m args below meth c H locs ls C hH hS hl)
theorem R_dup {v : Value} (hd : DC M pc .dup 1) (hc : v.category = 1) (kk : PZ l X Z M (pc + 1) lv (v :: v :: st) hp k n) : PZ l X Z M pc lv (v :: st) hp k n :=
  fun p e s m args below meth c H locs ls C hH hS hl => lv_dup C.1 C.2.1 hd ((xv_cat X v).trans hc) (kk p e s m args below meth c H locs ls C hH hS hl)
theorem R_dup2 {v w : Value} (hd : DC M pc .dup2 1) (hc : v.category = 1) (hc2 : w.category = 1) (kk : PZ l X Z M (pc + 1) lv (v :: w :: v :: w :: st) hp k n) : PZ l X Z M pc lv (v :: w :: st) hp k n :=
  fun p e s m args below meth c H locs ls C hH hS hl => lv_dup2_11 C.1 C.2.1 hd ((xv_cat X v).trans hc) ((xv_cat X w).trans hc2) (kk p e s m args below meth c H locs ls C hH hS hl)
theorem R_pop {v : Value} (hd : DC M pc .pop 1) (hc : v.category = 1) (kk : PZ l X Z M (pc + 1) lv st hp k n) : PZ l X Z M pc lv (v :: st) hp k n :=
  fun p e s m args below meth c H locs ls C hH hS hl => lv_pop C.1 C.2.1 hd ((xv_cat X v).trans hc) (kk p e s m args below meth c H locs ls C hH hS hl)
theorem R_goto {off : Int} {tgt : Nat} (hd : DC M pc (.goto off) 3) (ht : (pc : Int) + off = (tgt : Int)) (kk : PZ l X Z M tgt lv st hp k n) : PZ l X Z M pc lv st hp k n :=
  fun p e s m args below meth c H locs ls C hH hS hl => lv_goto C.1 C.2.1 hd ht (kk p e s m args below meth c H locs ls C hH hS hl)
theorem R_if_eq {x : Int32} {off : Int} {tgt : Nat} (hd : DC M pc (.ifCond .eq off) 3) (ht : (pc : Int) + off = (tgt : Int)) (kt : x = 0 → PZ l X Z M tgt lv st hp k n) (kf : ¬ (x = 0) → PZ l X Z M (pc + 3) lv st hp k n) : PZ l X Z M pc lv (.int x :: st) hp k n :=
  fun p e s m args below meth c H locs ls C hH hS hl => lv_if_eq C.1 C.2.1 hd ht (fun h => kt h p e s m args below meth c H locs ls C hH hS hl) (fun h => kf h p e s m args below meth c H locs ls C hH hS hl)
theorem R_if_ne {x : Int32} {off : Int} {tgt : Nat} (hd : DC M pc (.ifCond .ne off) 3) (ht : (pc : Int) + off = (tgt : Int)) (kt : ¬ x = 0 → PZ l X Z M tgt lv st hp k n) (kf : x = 0 → PZ l X Z M (pc + 3) lv st hp k n) : PZ l X Z M pc lv (.int x :: st) hp k n :=
  fun p e s m args below meth c H locs ls C hH hS hl => lv_if_ne C.1 C.2.1 hd ht (fun h => kt h p e s m args below meth c H locs ls C hH hS hl) (fun h => kf h p e s m args below meth c H locs ls C hH hS hl)
theorem R_if_lt {x : Int32} {off : Int} {tgt : Nat} (hd : DC M pc (.ifCond .lt off) 3) (ht : (pc : Int) + off = (tgt : Int)) (kt : x < 0 → PZ l X Z M tgt lv st hp k n) (kf : ¬ (x < 0) → PZ l X Z M (pc + 3) lv st hp k n) : PZ l X Z M pc lv (.int x :: st) hp k n :=
  fun p e s m args below meth c H locs ls C hH hS hl => lv_if_lt C.1 C.2.1 hd ht (fun h => kt h p e s m args below meth c H locs ls C hH hS hl) (fun h => kf h p e s m args below meth c H locs ls C hH hS hl)
theorem R_if_ge {x : Int32} {off : Int} {tgt : Nat} (hd : DC M pc (.ifCond .ge off) 3) (ht : (pc : Int) + off = (tgt : Int)) (kt : 0 ≤ x → PZ l X Z M tgt lv st hp k n) (kf : ¬ (0 ≤ x) → PZ l X Z M (pc + 3) lv st hp k n) : PZ l X Z M pc lv (.int x :: st) hp k n :=
  fun p e s m args below meth c H locs ls C hH hS hl => lv_if_ge C.1 C.2.1 hd ht (fun h => kt h p e s m args below meth c H locs ls C hH hS hl) (fun h => kf h p e s m args below meth c H locs ls C hH hS hl)
theorem R_if_gt {x : Int32} {off : Int} {tgt : Nat} (hd : DC M pc (.ifCond .gt off) 3) (ht : (pc : Int) + off = (tgt : Int)) (kt : 0 < x → PZ l X Z M tgt lv st hp k n) (kf : ¬ (0 < x) → PZ l X Z M (pc + 3) lv st hp k n) : PZ l X Z M pc lv (.int x :: st) hp k n :=
  fun p e s m args below meth c H locs ls C hH hS hl => lv_if_gt C.1 C.2.1 hd ht (fun h => kt h p e s m args below meth c H locs ls C hH hS hl) (fun h => kf h p e s m args below meth c H locs ls C hH hS hl)
theorem R_if_le {x : Int32} {off : Int} {tgt : Nat} (hd : DC M pc (.ifCond .le off) 3) (ht : (pc : Int) + off = (tgt : Int)) (kt : x ≤ 0 → PZ l X Z M tgt lv st hp k n) (kf : ¬ (x ≤ 0) → PZ l X Z M (pc + 3) lv st hp k n) : PZ l X Z M pc lv (.int x :: st) hp k n :=
  fun p e s m args below meth c H locs ls C hH hS hl => lv_if_le C.1 C.2.1 hd ht (fun h => kt h p e s m args below meth c H locs ls C hH hS hl) (fun h => kf h p e s m args below meth c H locs ls C hH hS hl)
theorem R_icmp_eq {x y : Int32} {off : Int} {tgt : Nat} (hd : DC M pc (.if_icmp .eq off) 3) (ht : (pc : Int) + off = (tgt : Int)) (kt : x = y → PZ l X Z M tgt lv st hp k n) (kf : ¬ (x = y) → PZ l X Z M (pc + 3) lv st hp k n) : PZ l X Z M pc lv (.int y :: .int x :: st) hp k n :=
  fun p e s m args below meth c H locs ls C hH hS hl => lv_icmp_eq C.1 C.2.1 hd ht (fun h => kt h p e s m args below meth c H locs ls C hH hS hl) (fun h => kf h p e s m args below meth c H locs ls C hH hS hl)
theorem R_icmp_ne {x y : Int32} {off : Int} {tgt : Nat} (hd : DC M pc (.if_icmp .ne off) 3) (ht : (pc : Int) + off = (tgt : Int)) (kt : ¬ x = y → PZ l X Z M tgt lv st hp k n) (kf : x = y → PZ l X Z M (pc + 3) lv st hp k n) : PZ l X Z M pc lv (.int y :: .int x :: st) hp k n :=
  fun p e s m args below meth c H locs ls C hH hS hl => lv_icmp_ne C.1 C.2.1 hd ht (fun h => kt h p e s m args below meth c H locs ls C hH hS hl) (fun h => kf h p e s m args below meth c H locs ls C hH hS hl)
theorem R_icmp_lt {x y : Int32} {off : Int} {tgt : Nat} (hd : DC M pc (.if_icmp .lt off) 3) (ht : (pc : Int) + off = (tgt : Int)) (kt : x < y → PZ l X Z M tgt lv st hp k n) (kf : ¬ (x < y) → PZ l X Z M (pc + 3) lv st hp k n) : PZ l X Z M pc lv (.int y :: .int x :: st) hp k n :=
  fun p e s m args below meth c H locs ls C hH hS hl => lv_icmp_lt C.1 C.2.1 hd ht (fun h => kt h p e s m args below meth c H locs ls C hH hS hl) (fun h => kf h p e s m args below meth c H locs ls C hH hS hl)
theorem R_icmp_ge {x y : Int32} {off : Int} {tgt : Nat} (hd : DC M pc (.if_icmp .ge off) 3) (ht : (pc : Int) + off = (tgt : Int)) (kt : y ≤ x → PZ l X Z M tgt lv st hp k n) (kf : ¬ (y ≤ x) → PZ l X Z M (pc + 3) lv st hp k n) : PZ l X Z M pc lv (.int y :: .int x :: st) hp k n :=
  fun p e s m args below meth c H locs ls C hH hS hl => lv_icmp_ge C.1 C.2.1 hd ht (fun h => kt h p e s m args below meth c H locs ls C hH hS hl) (fun h => kf h p e s m args below meth c H locs ls C hH hS hl)
theorem R_icmp_gt {x y : Int32} {off : Int} {tgt : Nat} (hd : DC M pc (.if_icmp .gt off) 3) (ht : (pc : Int) + off = (tgt : Int)) (kt : y < x → PZ l X Z M tgt lv st hp k n) (kf : ¬ (y < x) → PZ l X Z M (pc + 3) lv st hp k n) : PZ l X Z M pc lv (.int y :: .int x :: st) hp k n :=
  fun p e s m args below meth c H locs ls C hH hS hl => lv_icmp_gt C.1 C.2.1 hd ht (fun h => kt h p e s m args below meth c H locs ls C hH hS hl) (fun h => kf h p e s m args below meth c H locs ls C hH hS hl)
theorem R_icmp_le {x y : Int32} {off : Int} {tgt : Nat} (hd : DC M pc (.if_icmp .le off) 3) (ht : (pc : Int) + off = (tgt : Int)) (kt : x ≤ y → PZ l X Z M tgt lv st hp k n) (kf : ¬ (x ≤ y) → PZ l X Z M (pc + 3) lv st hp k n) : PZ l X Z M pc lv (.int y :: .int x :: st) hp k n :=
  fun p e s m args below meth c H locs ls C hH hS hl => lv_icmp_le C.1 C.2.1 hd ht (fun h => kt h p e s m args below meth c H locs ls C hH hS hl) (fun h => kf h p e s m args below meth c H locs ls C hH hS hl)
theorem R_lookup {dflt : Int} {ps : Array (Int × Int)} {len : Nat} {x : Int32} {off : Int} {tgt : Nat} (hd : DC M pc (.lookupswitch dflt ps) len) (hp' : (ps.toList.zip (ps.toList.drop 1)).all (fun (a, next) => a.1 < next.1) = true) (ho : Op.lookupswitch.offset ps.toList dflt x.toInt = off) (ht : (pc : Int) + off = (tgt : Int)) (kk : PZ l X Z M tgt lv st hp k n) : PZ l X Z M pc lv (.int x :: st) hp k n :=
  fun p e s m args below meth c H locs ls C hH hS hl => lv_lookup C.1 C.2.1 hd hp' ho ht (kk p e s m args below meth c H locs ls C hH hS hl)
theorem R_tableOut {dflt lo hi : Int} {offs : Array Int} {len : Nat} {x : Int32} {tgt : Nat} (hd : DC M pc (.tableswitch dflt lo hi offs) len) (h : x.toInt < lo ∨ hi < x.toInt) (ht : (pc : Int) + dflt = (tgt : Int)) (kk : PZ l X Z M tgt lv st hp k n) : PZ l X Z M pc lv (.int x :: st) hp k n :=
  fun p e s m args below meth c H locs ls C hH hS hl => lv_tableOut C.1 C.2.1 hd h ht (kk p e s m args below meth c H locs ls C hH hS hl)
theorem R_tableIn {dflt lo hi : Int} {offs : Array Int} {len : Nat} {x : Int32} {off : Int} {tgt : Nat} (hd : DC M pc (.tableswitch dflt lo hi offs) len) (h1 : ¬ x.toInt < lo) (h2 : ¬ hi < x.toInt) (ho : offs[(x.toInt - lo).toNat]? = some off) (ht : (pc : Int) + off = (tgt : Int)) (kk : PZ l X Z M tgt lv st hp k n) : PZ l X Z M pc lv (.int x :: st) hp k n :=
  fun p e s m args below meth c H locs ls C hH hS hl => lv_tableIn C.1 C.2.1 hd h1 h2 ho ht (kk p e s m args below meth c H locs ls C hH hS hl)
end RU
end
section
/-! RULES of the pure machine: fields, arrays, new cells, what lies outside, returns, calls -/
section RH
variable {l : Launch} {X : EX} {Z : ZT} {M : MT} {pc : Nat} {lv lv' : List (Option Value)} {st : List Value} {hp : HPt} {k n : Nat}
def KC (ci : Nat) (C : String) (T : u_T) (N : Nat) (ty0 : Nat → FieldType) : Prop := vwCl[ci]? = some (C, T, N) ∧ (∀ w ∈ u_ws C T N, w ∈ lw_tg) ∧ (∀ k, k < N → parseFieldDescriptor (T k).2.2.1 = some (ty0 k)) ∧ ∀ a, a < N → ∀ b, b < N → a ≠ b → (T a).2.1 ≠ (T b).2.1
def FL (own : String) (idx : Nat) (T : u_T) (j : Nat) : Prop := Cond.fieldLink own idx (T j).1 (T j).2.1 (T j).2.2.1 ∈ lw_tg ∨ ∃ host, Cond.fieldLinkNest own idx (T j).1 (T j).2.1 (T j).2.2.1 host ∈ lw_tg
/-- the entry idx of own's pool is the field j of the class ci -/
def FG (own : String) (idx ci j : Nat) : Prop := ∃ (C : String) (T : u_T) (N : Nat) (ty0 : Nat → FieldType), KC ci C T N ty0 ∧ j < N ∧ FL own idx T j
/-- .. and it may be written, of type ty -/
def FP (own : String) (idx ci j : Nat) (ty : FieldType) : Prop := ∃ (C : String) (T : u_T) (N : Nat) (ty0 : Nat → FieldType), KC ci C T N ty0 ∧ j < N ∧ FL own idx T j ∧ (T j).2.2.2 = false ∧ ty0 j = ty
/-- .. it is final, and own's -/
def FQ (own : String) (idx ci j : Nat) (ty : FieldType) : Prop := ∃ (C : String) (T : u_T) (N : Nat) (ty0 : Nat → FieldType), KC ci C T N ty0 ∧ j < N ∧ Cond.fieldLink own idx (T j).1 (T j).2.1 (T j).2.2.1 ∈ lw_tg ∧ (T j).2.2.2 = true ∧ ty0 j = ty ∧ (T j).1 = own
theorem CX.ts {p : Program} {s : State} {m : MethodId} {meth : Method} {c : Code} (C : CX X M p s m meth c) (args : Array Value) : ∀ w ∈ lw_tg, w.before args s = true := fun w hw => C.2.2.2.2.2.2.2.1.1 w hw args
theorem CX.K {p : Program} {s : State} {m : MethodId} {meth : Method} {c : Code} (C : CX X M p s m meth c) : va_K (xD X) vwCl (xt X) s := C.2.2.2.2.2.2.2.1.2.1
theorem CX.own {p : Program} {s : State} {m : MethodId} {meth : Method} {c : Code} (C : CX X M p s m meth c) : s.vm.findClass (mY M).cls = some m.cls := C.2.2.2.1
theorem CX.xf {p : Program} {s : State} {m : MethodId} {meth : Method} {c : Code} (C : CX X M p s m meth c) : XF X s s.heap := C.2.2.2.2.2.2.2.1
theorem CX.ge {p : Program} {s : State} {m : MethodId} {meth : Method} {c : Code} (C : CX X M p s m meth c) : x0 X ≤ s.heap.size := C.2.2.2.2.2.2.2.2
theorem HR.set {s : State} {H H1 : Heap} {h : Nat} {e : PE} {e' : va_E} (hH : HR X hp k s H) (he : xe X e = e') (hP : va_P (xD X) vwCl ((xw X hp).set h (x0 X + h, e')) H1) : HR X (hp.set h e) k s H1 := by
  refine ⟨by rw [List.length_set]; exact hH.1, ?_⟩
  rw [← xw_set, he]
  exact hP
theorem R_getf {idx ci j h : Nat} {fs : List Value} {v : Value} (hd : DC M pc (.getfield idx) 3) (hf : FG (mY M).cls idx ci j) (hh : hp[h]? = some (.inr (ci, fs))) (hv : fs[j]? = some v) (kk : PZ l X Z M (pc + 3) lv (v :: st) hp k n) : PZ l X Z M pc lv (.ref h :: st) hp k n := by
  obtain ⟨C, T, N, ty0, ⟨h1, h2, h3, h4⟩, hj, hlink⟩ := hf
  intro p e s m args below meth c H locs ls Cx hH hS hl
  have he : (xw X hp)[h]? = some (x0 X + h, .inr (ci, fs.map (xv X))) := xw_at hh
  have hv' : (fs.map (xv X))[j]? = some (xv X v) := by rw [List.getElem?_map, hv]; rfl
  have kk' := kk p e s m args below meth c H locs ls Cx hH hS hl
  rcases hlink with hlink | ⟨host, hlink⟩
  · exact va_get Cx.1 Cx.2.1 (Cx.ts args) h2 Cx.own Cx.K hH.2 h he h1 j hj (Cx.ts args _ hlink) (fun _ z => z) hv' hd kk'
  · exact va_getN Cx.1 Cx.2.1 (Cx.ts args) h2 Cx.own Cx.K hH.2 h he h1 j hj (Cx.ts args _ hlink) (fun _ z => z) hv' hd kk'
theorem R_putf {idx ci j h : Nat} {ty : FieldType} {fs : List Value} {v : Value} (hd : DC M pc (.putfield idx) 3) (hf : FP (mY M).cls idx ci j ty) (hh : hp[h]? = some (.inr (ci, fs))) (hj' : j < fs.length) (hn : narrow ty (xv X v) = xv X v) (hfit : fits ty (xv X v) = true) (kk : PZ l X Z M (pc + 3) lv st (hp.set h (.inr (ci, fs.set j v))) k n) : PZ l X Z M pc lv (v :: .ref h :: st) hp k n := by
  obtain ⟨C, T, N, ty0, ⟨h1, h2, h3, h4⟩, hj, hlink, hfin, hty⟩ := hf
  intro p e s m args below meth c H locs ls Cx hH hS hl
  have he : (xw X hp)[h]? = some (x0 X + h, .inr (ci, fs.map (xv X))) := xw_at hh
  have hl' : j < (fs.map (xv X)).length := by rw [List.length_map]; exact hj'
  have kk' : ∀ (H1 : Heap) (locs1 : List Loc), va_P (xD X) vwCl ((xw X hp).set h (x0 X + h, .inr (ci, (fs.map (xv X)).set j (xv X v)))) H1 → va_D (xA X) ((xw X hp).set h (x0 X + h, .inr (ci, (fs.map (xv X)).set j (xv X v)))) → va_S (xA X) s.heap H1 locs1 → W p l e (mM M) s m args below meth c H1 locs1 k n (Z below args s) (F0 m (pc + 3) ls (st.map (xv X))) :=
    fun H1 locs1 hP1 _ hS1 => kk p e s m args below meth c H1 locs1 ls Cx (hH.set (by show Sum.inr _ = _; rw [List.map_set]) hP1) hS1 hl
  rcases hlink with hlink | ⟨host, hlink⟩
  · exact va_put Cx.1 Cx.2.1 (Cx.ts args) h2 ty0 h3 h4 Cx.own Cx.K hH.2 (xw_D X hp) hS h he h1 j hj (Cx.ts args _ hlink) (fun _ z => z) hfin (by rw [h3 j hj, hty]) hn hfit hl' hd kk'
  · exact va_putN Cx.1 Cx.2.1 (Cx.ts args) h2 ty0 h3 h4 Cx.own Cx.K hH.2 (xw_D X hp) hS h he h1 j hj (Cx.ts args _ hlink) (fun _ z => z) hfin (by rw [h3 j hj, hty]) hn hfit hl' hd kk'
theorem R_putF {idx ci j h : Nat} {ty : FieldType} {fs : List Value} {v : Value} (hd : DC M pc (.putfield idx) 3) (hf : FQ (mY M).cls idx ci j ty) (hi : (mY M).name = "<init>") (hh : hp[h]? = some (.inr (ci, fs))) (hj' : j < fs.length) (hn : narrow ty (xv X v) = xv X v) (hfit : fits ty (xv X v) = true) (kk : PZ l X Z M (pc + 3) lv st (hp.set h (.inr (ci, fs.set j v))) k n) : PZ l X Z M pc lv (v :: .ref h :: st) hp k n := by
  obtain ⟨C, T, N, ty0, ⟨h1, h2, h3, h4⟩, hj, hlink, hfin, hty, hdecl⟩ := hf
  intro p e s m args below meth c H locs ls Cx hH hS hl
  have he : (xw X hp)[h]? = some (x0 X + h, .inr (ci, fs.map (xv X))) := xw_at hh
  have hl' : j < (fs.map (xv X)).length := by rw [List.length_map]; exact hj'
  exact va_putF Cx.1 Cx.2.1 (Cx.ts args) h2 ty0 h3 h4 Cx.own Cx.K hH.2 (xw_D X hp) hS h he h1 j hj (Cx.ts args _ hlink) (fun _ z => z) hfin (Cx.2.2.2.2.2.2.1.trans hi) hdecl (by rw [h3 j hj, hty]) hn hfit hl' hd
    (fun H1 locs1 hP1 _ hS1 => kk p e s m args below meth c H1 locs1 ls Cx (hH.set (by show Sum.inr _ = _; rw [List.map_set]) hP1) hS1 hl)
theorem R_iaload {h N : Nat} {f : Nat → Int32} {i : Int32} (hd : DC M pc .iaload 1) (hh : hp[h]? = some (ia N f)) (hi : vp_in i N) (kk : PZ l X Z M (pc + 1) lv (.int (f i.toNatClampNeg) :: st) hp k n) : PZ l X Z M pc lv (.int i :: .ref h :: st) hp k n :=
  fun p e s m args below meth c H locs ls Cx hH hS hl => va_iald Cx.1 Cx.2.1 Cx.K hH.2 h 0 (xw_at hh) rfl hi hd (kk p e s m args below meth c H locs ls Cx hH hS hl)
theorem R_baload {h N : Nat} {f : Nat → Int32} {i : Int32} (hd : DC M pc .baload 1) (hh : hp[h]? = some (za N f)) (hi : vp_in i N) (kk : PZ l X Z M (pc + 1) lv (.int (f i.toNatClampNeg) :: st) hp k n) : PZ l X Z M pc lv (.int i :: .ref h :: st) hp k n :=
  fun p e s m args below meth c H locs ls Cx hH hS hl => va_zald Cx.1 Cx.2.1 Cx.K hH.2 h 1 (xw_at hh) rfl hi hd (kk p e s m args below meth c H locs ls Cx hH hS hl)
theorem R_iastore {h N : Nat} {f : Nat → Int32} {i x : Int32} (hd : DC M pc .iastore 1) (hh : hp[h]? = some (ia N f)) (hi : vp_in i N) (kk : PZ l X Z M (pc + 1) lv st (hp.set h (ia N (upd f i.toNatClampNeg x))) k n) : PZ l X Z M pc lv (.int x :: .int i :: .ref h :: st) hp k n :=
  fun p e s m args below meth c H locs ls Cx hH hS hl => va_iast Cx.1 Cx.2.1 Cx.K hH.2 (xw_D X hp) hS h 0 (xw_at hh) rfl hi hd (fun H1 locs1 hP1 _ hS1 => kk p e s m args below meth c H1 locs1 ls Cx (hH.set rfl hP1) hS1 hl)
theorem R_bastore {h N : Nat} {f : Nat → Int32} {i x : Int32} (hd : DC M pc .bastore 1) (hh : hp[h]? = some (za N f)) (hi : vp_in i N) (kk : PZ l X Z M (pc + 1) lv st (hp.set h (za N (upd f i.toNatClampNeg (vp_nar .boolean x)))) k n) : PZ l X Z M pc lv (.int x :: .int i :: .ref h :: st) hp k n :=
  fun p e s m args below meth c H locs ls Cx hH hS hl => va_zast Cx.1 Cx.2.1 Cx.K hH.2 (xw_D X hp) hS h 1 (xw_at hh) rfl hi hd (fun H1 locs1 hP1 _ hS1 => kk p e s m args below meth c H1 locs1 ls Cx (hH.set rfl hP1) hS1 hl)
theorem R_aaload {h N q : Nat} {f : Nat → Option Nat} {i : Int32} (hd : DC M pc .aaload 1) (hh : hp[h]? = some (qa N f)) (hi : vp_in i N) (hq : f i.toNatClampNeg = some q) (kk : PZ l X Z M (pc + 1) lv (.ref q :: st) hp k n) : PZ l X Z M pc lv (.int i :: .ref h :: st) hp k n := by
  intro p e s m args below meth c H locs ls Cx hH hS hl
  refine va_aldq Cx.1 Cx.2.1 Cx.K hH.2 h 2 (xw_at hh) rfl hi hd ?_
  have e1 : va_rf ((f i.toNatClampNeg).map (x0 X + ·)) = .ref (x0 X + q) := by rw [hq]; rfl
  rw [e1]
  exact kk p e s m args below meth c H locs ls Cx hH hS hl
theorem R_aastore {h N q : Nat} {f : Nat → Option Nat} {i : Int32} {fs : List Value} (hd : DC M pc .aastore 1) (hh : hp[h]? = some (qa N f)) (hi : vp_in i N) (hq : hp[q]? = some (.inr (8, fs))) (kk : PZ l X Z M (pc + 1) lv st (hp.set h (qa N (va_up f i.toNatClampNeg (some q)))) k n) : PZ l X Z M pc lv (.ref q :: .int i :: .ref h :: st) hp k n := by
  intro p e s m args below meth c H locs ls Cx hH hS hl
  have hu : (fun j => (va_up f i.toNatClampNeg (some q) j).map (x0 X + ·)) = va_up (fun j => (f j).map (x0 X + ·)) i.toNatClampNeg (some (x0 X + q)) := by
    funext j
    unfold va_up
    by_cases hj : j = i.toNatClampNeg <;> simp [hj]
  exact va_astq Cx.1 Cx.2.1 Cx.K hH.2 (xw_D X hp) hS h 2 q 8 (r := (RX9, TX9, 5)) (xw_at hh) rfl (xw_at hq) rfl hi hd (fun H1 locs1 hP1 _ hS1 => kk p e s m args below meth c H1 locs1 ls Cx (hH.set (by show Sum.inl _ = _; simp only [xf, hu]) hP1) hS1 hl)
theorem R_alen {h : Nat} {kd N : Nat} {v : vp_A} {x : Int32} (hd : DC M pc .arraylength 1) (hh : hp[h]? = some (.inl (kd, v))) (hkd : kd < 3) (hx : Int32.ofNat v.1 = x) (kk : PZ l X Z M (pc + 1) lv (.int x :: st) hp k n) : PZ l X Z M pc lv (.ref h :: st) hp k n := by
  intro p e s m args below meth c H locs ls Cx hH hS hl
  have kk' := kk p e s m args below meth c H locs ls Cx hH hS hl
  have he : (xw X hp)[h]? = some (x0 X + h, .inl (xy X kd, (v.1, xf X v.2))) := xw_at hh
  rcases (show kd = 0 ∨ kd = 1 ∨ kd = 2 by omega) with rfl | rfl | rfl
  · exact va_alen Cx.1 Cx.2.1 Cx.K hH.2 h 0 he rfl hx hd kk'
  · exact va_alen Cx.1 Cx.2.1 Cx.K hH.2 h 1 he rfl hx hd kk'
  · exact va_alen Cx.1 Cx.2.1 Cx.K hH.2 h 2 he rfl hx hd kk'
/-- the script -/
theorem R_sload {i : Int32} (hd : DC M pc .iaload 1) (hi : vp_in i (xL X)) (kk : PZ l X Z M (pc + 1) lv (.int (xs X i.toNatClampNeg) :: st) hp k n) : PZ l X Z M pc lv (.int i :: .retAddr 0 :: st) hp k n :=
  fun p e s m args below meth c H locs ls Cx hH hS hl => va_sld Cx.1 Cx.2.1 Cx.xf.2.2.2.1.1 (Nat.lt_of_lt_of_le Cx.xf.2.2.2.1.2 Cx.ge) (Nat.not_le.mpr Cx.xf.2.2.2.1.2) hS hi hd (kk p e s m args below meth c H locs ls Cx hH hS hl)
theorem R_slen (hd : DC M pc .arraylength 1) (kk : PZ l X Z M (pc + 1) lv (.int (Int32.ofNat (xL X)) :: st) hp k n) : PZ l X Z M pc lv (.retAddr 0 :: st) hp k n :=
  fun p e s m args below meth c H locs ls Cx hH hS hl => va_slen Cx.1 Cx.2.1 Cx.xf.2.2.2.1.1 (Nat.lt_of_lt_of_le Cx.xf.2.2.2.1.2 Cx.ge) (Nat.not_le.mpr Cx.xf.2.2.2.1.2) hS hd (kk p e s m args below meth c H locs ls Cx hH hS hl)
/-- System.arraycopy between rows of ints -/
theorem R_copy {idx h0 h1 n0 n1 : Nat} {f g : Nat → Int32} {sp dp c' : Int32} (hd : DC M pc (.invokestatic idx) 3) (hlk : Cond.methodLink (mY M).cls idx arraycopyName ∈ lw_tg) (hh0 : hp[h0]? = some (ia n0 f)) (hh1 : hp[h1]? = some (ia n1 g)) (a1 : ¬ sp < 0) (a2 : ¬ dp < 0) (a3 : ¬ c' < 0) (a4 : sp.toNatClampNeg + c'.toNatClampNeg ≤ n0) (a5 : dp.toNatClampNeg + c'.toNatClampNeg ≤ n1)
    (hw : (st.map fun v => v.category).sum + (nativeFrameWords "java/lang/System" "arraycopy" 5 + 11) ≤ (mM M).locals) (hfr : 1 ≤ (mM M).frames) (hni : Cond.native arraycopyName ∈ lw_tg) (hsi : Cond.static arraycopyName ∈ lw_tg) (hii : Cond.initialized "java/lang/System" ∈ lw_tg)
    (kk : PZ l X Z M (pc + 3) lv st (hp.set h1 (ia n1 (va_cpy f g sp.toNatClampNeg dp.toNatClampNeg c'.toNatClampNeg))) k n) : PZ l X Z M pc lv (.int c' :: .int dp :: .ref h1 :: .int sp :: .ref h0 :: st) hp k n := by
  intro p e s m args below meth c H locs ls Cx hH hS hl
  have hw' : ((st.map (xv X)).map fun v => v.category).sum + (nativeFrameWords "java/lang/System" "arraycopy" 5 + 11) ≤ (mM M).locals := by
    rw [List.map_map]
    have : ((fun v : Value => v.category) ∘ xv X) = fun v : Value => v.category := funext fun v => xv_cat X v
    rw [this]; exact hw
  exact va_copyi Cx.1 Cx.2.1 (Cx.2.2.1.trans hl.1.symm) Cx.own (Cx.ts args _ hlk) (Cx.ts args _ hni) (Cx.ts args _ hsi) (Cx.ts args _ hii) Cx.K hH.2 (xw_D X hp) hS h0 h1 0 0 (ty := .int) (xw_at hh0) (xw_at hh1) rfl rfl rfl a1 a2 a3 a4 a5 (fun _ _ => rfl) hfr hw' hd
    (fun H1 locs1 hP1 _ hS1 => kk p e s m args below meth c H1 locs1 ls Cx (hH.set rfl hP1) hS1 hl)
/-! returns -/
theorem HR.done {s t : State} {H : Heap} {locs : List Loc} {Q : Option Value → HPt → Prop} {v : Option Value} {a : Array Value} (hH : HR X hp k s H) (hS : va_S (xA X) s.heap H locs) (h0 : x0 X ≤ s.heap.size) (ht : t.heap = H) (hq : Q v hp) : QC X k Q a s (.returned (v.map (xv X))) t :=
  ⟨⟨v, hp, rfl, hq, by rw [ht]; exact hH⟩, by rw [ht]; exact hS.1, fun q hq => by rw [ht]; exact hS.2.1 q (Nat.lt_of_lt_of_le hq h0) (Nat.not_le.mpr hq)⟩
theorem R_iret {v : Int32} {Q : Option Value → HPt → Prop} (hd : DC M pc .ireturn 1) (hr : mR M = some .int) (hk : k = (mM M).cells) (hn : n = (mM M).slots) (hq : Q (some (.int v)) hp) : PZ l X (MZ X M Q) M pc lv [.int v] hp k n := by
  subst hk; subst hn
  intro p e s m args below meth c H locs ls Cx hH hS hl
  exact W.iret Cx.1 Cx.2.1 (Cx.2.2.2.2.1.trans hr) (fun t ht _ => hH.done (v := some (.int v)) hS Cx.ge ht hq) hS.2.2 hd Cx.2.2.2.2.2.1
theorem R_zret {v : Int32} {ty : FieldType} {Q : Option Value → HPt → Prop} (hd : DC M pc .ireturn 1) (hr : mR M = some ty) (hv : narrow ty (.int v) = .int v) (hk : k = (mM M).cells) (hn : n = (mM M).slots) (hq : Q (some (.int v)) hp) : PZ l X (MZ X M Q) M pc lv [.int v] hp k n := by
  subst hk; subst hn
  intro p e s m args below meth c H locs ls Cx hH hS hl
  exact W.zret Cx.1 Cx.2.1 (Cx.2.2.2.2.1.trans hr) hv (fun t ht _ => hH.done (v := some (.int v)) hS Cx.ge ht hq) hS.2.2 hd Cx.2.2.2.2.2.1
theorem R_lret {v : Int64} {Q : Option Value → HPt → Prop} (hd : DC M pc .lreturn 1) (hr : mR M = some .long) (hk : k = (mM M).cells) (hn : n = (mM M).slots) (hq : Q (some (.long v)) hp) : PZ l X (MZ X M Q) M pc lv [.long v] hp k n := by
  subst hk; subst hn
  intro p e s m args below meth c H locs ls Cx hH hS hl
  exact W.lret Cx.1 Cx.2.1 (Cx.2.2.2.2.1.trans hr) (fun t ht _ => hH.done (v := some (.long v)) hS Cx.ge ht hq) hS.2.2 hd Cx.2.2.2.2.2.1
theorem R_vret {Q : Option Value → HPt → Prop} (hd : DC M pc .return_ 1) (hr : mR M = none) (hk : k = (mM M).cells) (hn : n = (mM M).slots) (hq : Q none hp) : PZ l X (MZ X M Q) M pc lv [] hp k n := by
  subst hk; subst hn
  intro p e s m args below meth c H locs ls Cx hH hS hl
  exact W.vret Cx.1 Cx.2.1 (Cx.2.2.2.2.1.trans hr) (fun t ht _ => hH.done (v := none) hS Cx.ge ht hq) hS.2.2 hd Cx.2.2.2.2.2.1
/-! calls -/
theorem HR.size {p : Program} {e : Env} {R : Room} {s T : State} {m : MethodId} {args : Array Value} {below : List Frame} {meth : Method} {c : Code} {H : Heap} {locs : List Loc} (hH : HR X hp k s H) (hS : va_S (xA X) s.heap H locs) (h0 : x0 X ≤ s.heap.size) (hT : T.heap = H) (S : Stand p l e R s m args below meth c T locs k n) : H.size = x0 X + hp.length := by
  have h1 : H.size ≤ s.heap.size + k := by rw [← hT]; exact S.heapSize
  have h2 : x0 X + hp.length ≤ H.size := by
    cases hn : hp.length with
    | zero => exact Nat.le_trans h0 hS.1
    | succ j =>
      have hj : j < hp.length := by omega
      have := (hH.2 j _ (xw_at (List.getElem?_eq_getElem hj))).lt
      show x0 X + j < H.size
      exact this
  have h3 := hH.1
  omega
def MLk (own : String) (idx : Nat) (y : MethodName) : Prop := Cond.methodLink own idx y ∈ lw_tg ∨ ∃ host, Cond.methodLinkNest own idx y host ∈ lw_tg
/-- what the tables say of a method -/
def MK (M : MT) (np : Nat) : Prop := Cond.code (mY M) (mB M) (mN M) (mR M) ∈ lw_tg ∧ Cond.initialized (mY M).cls ∈ lw_tg ∧ ((mY M).cls ≠ "java/lang/invoke/MethodHandle" ∧ (mY M).cls ≠ "java/lang/invoke/VarHandle") ∧ (parseMethodDescriptor (mY M).desc).map (fun d => d.parameters.length) = some np
def MS (M : MT) (np : Nat) : Prop := MK M np ∧ Cond.static (mY M) ∈ lw_tg
def MV (M : MT) (np : Nat) : Prop := MK M np ∧ Cond.instanceMethod (mY M) ∈ lw_tg ∧ Cond.selects (mY M).cls (mY M) (mY M) ∈ lw_tg
def MI (M : MT) (np : Nat) : Prop := MK M np ∧ Cond.instanceMethod (mY M) ∈ lw_tg ∧ (mY M).name = "<init>" ∧ mR M = none
def RMk (M M' : MT) : Prop := (mM M').frames + 1 ≤ (mM M).frames ∧ 8 + (mN M' + 11) + (mM M').locals ≤ (mM M).locals
theorem MK.code {M' : MT} {np : Nat} (h : MK M' np) {s : State} (hT : TB s) : ∀ w ∈ [Cond.code (mY M') (mB M') (mN M') (mR M')], ∀ (a' : Array Value) (U : State), s.WarmedH U.vm → w.before a' U = true := by
  intro w hw a' U hW
  rw [List.mem_singleton.mp hw]
  exact hT.warm hW _ h.1 a'
theorem MK.len {M' : MT} {np : Nat} (h : MK M' np) : ∀ sig, parseMethodDescriptor (mY M').desc = some sig → np = sig.parameters.length := by
  intro sig hs
  have h2 := h.2.2.2
  rw [hs] at h2
  exact (Option.some.inj h2).symm
theorem PC.blind {args : List Value} : FrameBlind (PC X args hp) := by
  intro a U g mk h
  obtain ⟨h1, h2, h3, h4⟩ := h
  exact ⟨h1, h2.move (State.WarmedH.refl U) (fun _ _ => rfl), h3, h4⟩
theorem PC.at {p : Program} {s U : State} {m : MethodId} {meth : Method} {c : Code} {H : Heap} {locs : List Loc} {args : List Value} (Cx : CX X M p s m meth c) (hH : HR X hp k s H) (hS : va_S (xA X) s.heap H locs) (hz : H.size = x0 X + hp.length) (hU : U.heap = H) (hW : s.WarmedH U.vm) : PC X args hp (args.map (xv X)).toArray U := by
  refine ⟨rfl, Cx.xf.move hW (fun q hq => ?_), ?_, ?_, ?_⟩
  · rw [hU]; exact hS.2.1 q (Nat.lt_of_lt_of_le hq Cx.ge) (Nat.not_le.mpr hq)
  · rw [hU, hz]; exact Nat.le_add_right _ _
  · rw [hU, hz]; rfl
  · rw [hU]; exact hH.2
/-- behind a call -/
theorem call_on {p : Program} {e : Env} {s : State} {m : MethodId} {args : Array Value} {below : List Frame} {meth : Method} {c : Code} {H : Heap} {locs : List Loc} {ls : Array Slot} {M' : MT} {Q : Option Value → HPt → Prop} {a : Array Value} {stk : List Value} (Cx : CX X M p s m meth c) (hH : HR X hp k s H) (hS : va_S (xA X) s.heap H locs) (hl : LV X ls (mN M) lv)
    (hr : va_Run p l e (mM M) s m args below meth c H locs k n (mM M').cells (mM M').slots (F0 m pc ls stk) (st.map (xv X)) (QC X (mM M').cells Q a) (xA X)) {T : State} (hT : T.heap = H) (S : Stand p l e (mM M) s m args below meth c T locs k n)
    (kk : ∀ (v : Option Value) (hp' : HPt), Q v hp' → PZ l X Z M (pc + 3) lv (v.toList ++ st) hp' (k + (mM M').cells) (n + (mM M').slots)) : ∃ t, Steps p.tables e below (T.setTop (F0 m pc ls stk)) t ∧ Z below args s t := by
  have hz := hH.size hS Cx.ge hT S
  obtain ⟨v, st₀, t, T', L, h0, X', hL, e1, e2, ⟨⟨v', hp', hv, hq, hH'⟩, hsz0, hk'⟩, stp⟩ := hr T hT S
  cases hv
  have hsz : H.size ≤ T'.heap.size := by
    rw [e1, ← h0]; exact hsz0
  have hS1 : va_S (xA X) s.heap T'.heap (locs ++ L) := by
    refine ⟨Nat.le_trans hS.1 hsz, fun q g1 g2 => ?_, fun q hq => ?_⟩
    · rw [e1, hk' q (Nat.not_le.mp g2), h0]; exact hS.2.1 q g1 g2
    · rcases List.mem_append.mp hq with h | h
      · exact hS.2.2 q h
      · exact hL q h
  have hH1 : HR X hp' (k + (mM M').cells) s T'.heap := by
    have h1 := hH'.1
    rw [h0, hz] at h1
    have h2 := hH.1
    exact ⟨by omega, by rw [e1]; exact hH'.2⟩
  obtain ⟨t2, a1, b1⟩ := kk v' hp' hq p e s m args below meth c T'.heap (locs ++ L) ls Cx hH1 hS1 hl T' rfl X'
  refine ⟨t2, stp t2 ?_, b1⟩
  have e3 : (v'.toList ++ st).map (xv X) = (v'.map (xv X)).toList ++ st.map (xv X) := by
    cases v' <;> simp
  rw [e3] at a1
  exact a1
theorem cat_room {m : MethodId} {pc : Nat} {ls : Array Slot} {stk : List Value} (X : EX) {st : List Value} (h : (st.map fun v => v.category).sum ≤ 8) : 2 * (F0 m pc ls stk).monitorRoom + ((st.map (xv X)).map fun v => v.category).sum ≤ 8 := by
  refine lv_room ?_
  rw [List.map_map]
  have : ((fun v : Value => v.category) ∘ xv X) = fun v : Value => v.category := funext fun v => xv_cat X v
  rw [this]; exact h
theorem R_callS {M' : MT} {np idx : Nat} {As stk : List Value} {Q : Option Value → HPt → Prop} (hm : MS M' np) (hlk : MLk (mY M).cls idx (mY M')) (hsp : Sp l X M' As hp Q) (hd : DC M pc (.invokestatic idx) 3) (hst : stk = As.reverse ++ st) (hn : As.length = np) (hw : (st.map fun v => v.category).sum ≤ 8) (hrm : RMk M M') (hc : k + (mM M').cells ≤ (mM M).cells ∧ n + (mM M').slots ≤ (mM M).slots)
    (kk : ∀ (v : Option Value) (hp' : HPt), Q v hp' → PZ l X Z M (pc + 3) lv (v.toList ++ st) hp' (k + (mM M').cells) (n + (mM M').slots)) : PZ l X Z M pc lv stk hp k n := by
  intro p e s m args below meth c H locs ls Cx hH hS hl T hT S
  have hz := hH.size hS Cx.ge hT S
  have hT0 : TB s := Cx.xf.1
  have hstk : stk.map (xv X) = (As.map (xv X)).reverse ++ st.map (xv X) := by rw [hst, List.map_append, List.map_reverse]
  have hp : PreS s H (PC X As hp) (As.map (xv X)) := ⟨PC.blind, fun U hU hW => PC.at Cx hH hS hz hU hW⟩
  have hln : (As.map (xv X)).length = np := by rw [List.length_map]; exact hn
  refine call_on (Q := Q) (M' := M') (a := (As.map (xv X)).toArray) Cx hH hS hl ?_ hT S kk
  rcases hlk with hlk | ⟨host, hlk⟩
  · exact va_runS (ret := mR M') (bytes := mB M') (maxL := mN M') (rest := st.map (xv X)) ⟨Cx.1, Cx.2.1, Cx.2.2.1, Cx.own, Cx.ts args⟩ hsp ⟨⟨rfl, rfl, hrm.1, hrm.2, hm.1.code hT0, List.mem_singleton.mpr rfl, hT0 _ hm.1.1 _, hT0 _ hm.1.2.1 _, hm.1.2.2.1, hm.1.len, hT0 _ hlk _⟩, hT0 _ hm.2 _⟩ hp rfl hln hl.1 hstk (cat_room X hw) hd hc
  · exact va_runSN (ret := mR M') (bytes := mB M') (maxL := mN M') (rest := st.map (xv X)) ⟨Cx.1, Cx.2.1, Cx.2.2.1, Cx.own, Cx.ts args⟩ hsp ⟨⟨⟨rfl, rfl, hrm.1, hrm.2, hm.1.code hT0, List.mem_singleton.mpr rfl⟩, hT0 _ hm.1.1 _, hT0 _ hm.1.2.1 _, hm.1.2.2.1, hm.1.len, hT0 _ hlk _⟩, hT0 _ hm.2 _, trivial⟩ hp rfl hln hl.1 hstk (cat_room X hw) hd hc
theorem R_callI {M' : MT} {np idx h : Nat} {As stk : List Value} {Q : Option Value → HPt → Prop} (hm : MI M' np) (hlk : MLk (mY M).cls idx (mY M')) (hsp : Sp l X M' (.ref h :: As) hp Q) (hd : DC M pc (.invokespecial idx) 3) (hst : stk = As.reverse ++ .ref h :: st) (hn : As.length = np) (hw : (st.map fun v => v.category).sum ≤ 8) (hrm : RMk M M') (hc : k + (mM M').cells ≤ (mM M).cells ∧ n + (mM M').slots ≤ (mM M).slots)
    (kk : ∀ (v : Option Value) (hp' : HPt), Q v hp' → PZ l X Z M (pc + 3) lv (v.toList ++ st) hp' (k + (mM M').cells) (n + (mM M').slots)) : PZ l X Z M pc lv stk hp k n := by
  intro p e s m args below meth c H locs ls Cx hH hS hl T hT S
  have hz := hH.size hS Cx.ge hT S
  have hT0 : TB s := Cx.xf.1
  have hstk : stk.map (xv X) = (As.map (xv X)).reverse ++ .ref (x0 X + h) :: st.map (xv X) := by rw [hst, List.map_append, List.map_reverse]; rfl
  have hp : PreS s H (PC X (.ref h :: As) hp) (.ref (x0 X + h) :: As.map (xv X)) := ⟨PC.blind, fun U hU hW => PC.at (args := .ref h :: As) Cx hH hS hz hU hW⟩
  have hln : (As.map (xv X)).length = np := by rw [List.length_map]; exact hn
  obtain ⟨hmk, hin, hy1, hr0⟩ := hm
  refine call_on (Q := Q) (M' := M') (a := (Value.ref (x0 X + h) :: As.map (xv X)).toArray) Cx hH hS hl ?_ hT S kk
  have hcd := hmk.code hT0
  have hc1 := hT0 _ hmk.1 args
  unfold Sp at hsp
  rw [hr0] at hsp hcd hc1
  rcases hlk with hlk | ⟨host, hlk⟩
  · exact va_runI (bytes := mB M') (maxL := mN M') (rest := st.map (xv X)) ⟨Cx.1, Cx.2.1, Cx.2.2.1, Cx.own, Cx.ts args⟩ hsp ⟨⟨rfl, rfl, hrm.1, hrm.2, hcd, List.mem_singleton.mpr rfl, hc1, hT0 _ hmk.2.1 _, hmk.2.2.1, hmk.len, hT0 _ hlk _⟩, hy1, hT0 _ hin _⟩ hp rfl hln hl.1 hstk (cat_room X hw) hd hc
  · exact va_runIN (bytes := mB M') (maxL := mN M') (rest := st.map (xv X)) ⟨Cx.1, Cx.2.1, Cx.2.2.1, Cx.own, Cx.ts args⟩ hsp ⟨⟨⟨rfl, rfl, hrm.1, hrm.2, hcd, List.mem_singleton.mpr rfl⟩, hc1, hT0 _ hmk.2.1 _, hmk.2.2.1, hmk.len, hT0 _ hlk _⟩, hy1, hT0 _ hin _⟩ hp rfl hln hl.1 hstk (cat_room X hw) hd hc
theorem R_callVg {M' : MT} {np idx : Nat} {b : Nat} {rv : Value} {As stk : List Value} {Q : Option Value → HPt → Prop} (hm : MV M' np) (hlk : MLk (mY M).cls idx (mY M')) (hsp : Sp l X M' (rv :: As) hp Q) (hrv : xv X rv = .ref b) (hrc : ∀ (p : Program) (s : State) (m : MethodId) (meth : Method) (c : Code) (H : Heap) (locs : List Loc), CX X M p s m meth c → HR X hp k s H → va_S (xA X) s.heap H locs → ∃ cell : Cell, H[b]? = some cell ∧ cell.vm.isStatics = false ∧ s.vm.findClass (mY M').cls = some cell.cls)
    (hd : DC M pc (.invokevirtual idx) 3) (hst : stk = As.reverse ++ rv :: st) (hn : As.length = np) (hw : (st.map fun v => v.category).sum ≤ 8) (hrm : RMk M M') (hc : k + (mM M').cells ≤ (mM M).cells ∧ n + (mM M').slots ≤ (mM M).slots)
    (kk : ∀ (v : Option Value) (hp' : HPt), Q v hp' → PZ l X Z M (pc + 3) lv (v.toList ++ st) hp' (k + (mM M').cells) (n + (mM M').slots)) : PZ l X Z M pc lv stk hp k n := by
  intro p e s m args below meth c H locs ls Cx hH hS hl T hT S
  have hz := hH.size hS Cx.ge hT S
  have hT0 : TB s := Cx.xf.1
  have hstk : stk.map (xv X) = (As.map (xv X)).reverse ++ .ref b :: st.map (xv X) := by rw [hst, List.map_append, List.map_reverse, List.map_cons, hrv]
  have hp : PreV s H (mY M').cls b (PC X (rv :: As) hp) (As.map (xv X)) := ⟨PC.blind, hrc p s m meth c H locs Cx hH hS, fun U hU hW => by
    have h1 := PC.at (args := rv :: As) Cx hH hS hz hU hW
    rw [List.map_cons, hrv] at h1
    exact h1⟩
  have hln : (As.map (xv X)).length = np := by rw [List.length_map]; exact hn
  obtain ⟨hmk, hin, hse⟩ := hm
  refine call_on (Q := Q) (M' := M') (a := (Value.ref b :: As.map (xv X)).toArray) Cx hH hS hl ?_ hT S kk
  rcases hlk with hlk | ⟨host, hlk⟩
  · exact va_runV (ret := mR M') (bytes := mB M') (maxL := mN M') (rest := st.map (xv X)) ⟨Cx.1, Cx.2.1, Cx.2.2.1, Cx.own, Cx.ts args⟩ hsp ⟨⟨rfl, rfl, hrm.1, hrm.2, hmk.code hT0, List.mem_singleton.mpr rfl, hT0 _ hmk.1 _, hT0 _ hmk.2.1 _, hmk.2.2.1, hmk.len, hT0 _ hlk _⟩, hT0 _ hin _, hT0 _ hse _⟩ hp rfl hln hl.1 hstk (cat_room X hw) hd hc
  · exact va_runVN (ret := mR M') (bytes := mB M') (maxL := mN M') (rest := st.map (xv X)) ⟨Cx.1, Cx.2.1, Cx.2.2.1, Cx.own, Cx.ts args⟩ hsp ⟨⟨⟨rfl, rfl, hrm.1, hrm.2, hmk.code hT0, List.mem_singleton.mpr rfl⟩, hT0 _ hmk.1 _, hT0 _ hmk.2.1 _, hmk.2.2.1, hmk.len, hT0 _ hlk _⟩, hT0 _ hin _, hT0 _ hse _⟩ hp rfl hln hl.1 hstk (cat_room X hw) hd hc
theorem R_callV {M' : MT} {np idx ci h : Nat} {T' : u_T} {N' : Nat} {fs As stk : List Value} {Q : Option Value → HPt → Prop} (hm : MV M' np) (hlk : MLk (mY M).cls idx (mY M')) (hsp : Sp l X M' (.ref h :: As) hp Q) (hci : vwCl[ci]? = some ((mY M').cls, T', N')) (hh : hp[h]? = some (.inr (ci, fs)))
    (hd : DC M pc (.invokevirtual idx) 3) (hst : stk = As.reverse ++ .ref h :: st) (hn : As.length = np) (hw : (st.map fun v => v.category).sum ≤ 8) (hrm : RMk M M') (hc : k + (mM M').cells ≤ (mM M).cells ∧ n + (mM M').slots ≤ (mM M).slots)
    (kk : ∀ (v : Option Value) (hp' : HPt), Q v hp' → PZ l X Z M (pc + 3) lv (v.toList ++ st) hp' (k + (mM M').cells) (n + (mM M').slots)) : PZ l X Z M pc lv stk hp k n :=
  R_callVg hm hlk hsp (b := x0 X + h) rfl (fun p s m meth c H locs Cx hH hS => va_recv Cx.K hH.2 hci (xw_at hh)) hd hst hn hw hrm hc kk
/-- a text is the receiver -/
theorem R_callVK {M' : MT} {np idx i : Nat} {As stk : List Value} {Q : Option Value → HPt → Prop} (hm : MV M' np) (hcl : (mY M').cls = "java/lang/String") (hi : i < 2) (hlk : MLk (mY M).cls idx (mY M')) (hsp : Sp l X M' (.retAddr (1 + i) :: As) hp Q)
    (hd : DC M pc (.invokevirtual idx) 3) (hst : stk = As.reverse ++ .retAddr (1 + i) :: st) (hn : As.length = np) (hw : (st.map fun v => v.category).sum ≤ 8) (hrm : RMk M M') (hc : k + (mM M').cells ≤ (mM M).cells ∧ n + (mM M').slots ≤ (mM M).slots)
    (kk : ∀ (v : Option Value) (hp' : HPt), Q v hp' → PZ l X Z M (pc + 3) lv (v.toList ++ st) hp' (k + (mM M').cells) (n + (mM M').slots)) : PZ l X Z M pc lv stk hp k n :=
  R_callVg hm hlk hsp (b := xc X (1 + i)) rfl (fun p s m meth c H locs Cx hH hS => by rw [hcl]; exact vk_recv (adK := fun i => xc X (1 + i)) (i := i) Cx.xf.2.2.2.2.2.2.1 hi hS) hd hst hn hw hrm hc kk
/-! new cells -/
theorem R_objInit {idx h : Nat} (hd : DC M pc (.invokespecial idx) 3) (hlk : Cond.methodLink (mY M).cls idx objectInit ∈ lw_tg) (hi : Cond.instanceMethod objectInit ∈ lw_tg) (hcd : Cond.code objectInit ⟨#[0xb1]⟩ 1 none ∈ lw_tg) (hfr : 1 ≤ (mM M).frames) (hlo : (st.map fun v => v.category).sum + 12 ≤ (mM M).locals) (kk : PZ l X Z M (pc + 3) lv st hp k n) : PZ l X Z M pc lv (.ref h :: st) hp k n := by
  intro p e s m args below meth c H locs ls Cx hH hS hl
  have hlo' : ((st.map (xv X)).map fun v => v.category).sum + 12 ≤ (mM M).locals := by
    rw [List.map_map]
    have : ((fun v : Value => v.category) ∘ xv X) = fun v : Value => v.category := funext fun v => xv_cat X v
    rw [this]; exact hlo
  refine W.objInit Cx.1 Cx.2.1 Cx.own (Cx.ts args _ hlk) (Cx.ts args _ hi) (Cx.ts args _ hcd) rfl (by rw [Cx.2.2.1]; exact hl.1) rfl hd hfr ?_ (kk p e s m args below meth c H locs ls Cx hH hS hl)
  first | exact hlo' | (simp; simpa using hlo') | (show 2 * 0 + _ + _ ≤ _; omega)
end RH
end
section
/-! RULES of the pure machine: new cells, and what lies outside -/
section RN
variable {l : Launch} {X : EX} {Z : ZT} {M : MT} {pc : Nat} {lv lv' : List (Option Value)} {st : List Value} {hp : HPt} {k n : Nat}
theorem HR.push {s : State} {H H1 : Heap} {e : PE} (hH : HR X hp k s H) (hz : H.size = x0 X + hp.length) (o1 : ∀ q, q < H.size → H1[q]? = H[q]?) (he : va_at (xD X) vwCl (H.size, xe X e) H1) : HR X (hp ++ [e]) (k + 1) s H1 := by
  refine ⟨by rw [List.length_append, ← Nat.add_assoc, hH.1]; rfl, ?_⟩
  rw [← xw_push, ← hz]
  refine (hH.2.kept (fun i x hx => o1 x.1 ((hH.2 i x hx).lt))).app (fun i x hx => ?_)
  have hi : i < 1 := (List.getElem?_eq_some_iff.mp hx).1
  rw [show i = 0 by omega] at hx
  cases hx
  exact he
theorem S_push {s : State} {H H1 : Heap} {locs : List Loc} {A : Nat → Prop} (hS : va_S A s.heap H locs) (z1 : H1.size = H.size + 1) (o1 : ∀ q, q < H.size → H1[q]? = H[q]?) : va_S A s.heap H1 locs :=
  ⟨Nat.le_trans hS.1 (by omega), fun x h1 h2 => (o1 x (Nat.lt_of_lt_of_le h1 hS.1)).trans (hS.2.1 x h1 h2), hS.2.2⟩
theorem R_new {idx ci N : Nat} {C : String} {T : u_T} {ty0 : Nat → FieldType} {fs : List Value} (hkc : KC ci C T N ty0) (hd : DC M pc (.new idx) 3) (hcl : Cond.classLink (mY M).cls idx C ∈ lw_tg) (hin : Cond.instantiable C N ∈ lw_tg) (hini : Cond.initialized C ∈ lw_tg) (hfs : ∀ j, j < N → defaultValue (ty0 j) = vp_V (fs.map (xv X)) j) (hc : k + 1 ≤ (mM M).cells ∧ n + N ≤ (mM M).slots)
    (kk : PZ l X Z M (pc + 3) lv (.ref hp.length :: st) (hp ++ [.inr (ci, fs)]) (k + 1) (n + N)) : PZ l X Z M pc lv st hp k n := by
  intro p e s m args below meth c H locs ls Cx hH hS hl T' hT S
  have hz := hH.size hS Cx.ge hT S
  have hKn := Cx.K.1 ci _ hkc.1
  suffices w : W p l e (mM M) s m args below meth c H locs k n (Z below args s) (F0 m pc ls (st.map (xv X))) from w T' hT S
  refine W.newcK (h := H.size) Cx.1 Cx.2.1 Cx.own (Cx.ts args _ hcl) (Cx.ts args _ hin) (Cx.ts args _ hini) rfl hd hc.1 hc.2 hKn.2.1 rfl (fun H1 kC hkC e1 z1 o1 => ?_)
  have h9 := kk p e s m args below meth c H1 locs ls Cx (hH.push hz o1 ⟨_, hkc.1, (u_born ty0 (Cx.ts args) hkc.2.1 hKn hkC e1 hkc.2.2.1).to hfs⟩) (S_push hS z1 o1) hl
  rw [hz]
  exact h9
theorem R_newi {x : Int32} {N : Nat} (hd : DC M pc (.newarray .int) 2) (hx : ¬ x < 0) (hN : x.toNatClampNeg = N) (hb : N ≤ 100000) (hc : k + 1 ≤ (mM M).cells ∧ n + N ≤ (mM M).slots) (kk : PZ l X Z M (pc + 2) lv (.ref hp.length :: st) (hp ++ [ia N (fun _ => 0)]) (k + 1) (n + N)) : PZ l X Z M pc lv (.int x :: st) hp k n := by
  intro p e s m args below meth c H locs ls Cx hH hS hl T' hT S
  have hz := hH.size hS Cx.ge hT S
  suffices w : W p l e (mM M) s m args below meth c H locs k n (Z below args s) (F0 m pc ls (.int x :: st.map (xv X))) from w T' hT S
  refine va_newaK (atype := .int) (h := H.size) Cx.1 Cx.2.1 (show (Cond.arrayClass .int).before args s = true from Cx.xf.2.2.1.1) rfl hd rfl hx hN (by show N * 4 ≤ 536870912; omega) hc.1 hc.2 rfl (fun H1 cA e1 z1 o1 hAr hNm => ?_)
  have hy : cA = xy X 0 := Option.some.inj ((show s.vm.findClass ("[" ++ (FieldType.int).toString) = some cA from hNm).symm.trans (Cx.K.2 0 _ rfl).2)
  subst hy
  have h9 := kk p e s m args below meth c H1 locs ls Cx (hH.push hz o1 e1) (S_push hS z1 o1) hl
  rw [hz]
  exact h9
theorem R_newz {x : Int32} {N : Nat} (hd : DC M pc (.newarray .boolean) 2) (hx : ¬ x < 0) (hN : x.toNatClampNeg = N) (hb : N ≤ 100000) (hc : k + 1 ≤ (mM M).cells ∧ n + N ≤ (mM M).slots) (kk : PZ l X Z M (pc + 2) lv (.ref hp.length :: st) (hp ++ [za N (fun _ => 0)]) (k + 1) (n + N)) : PZ l X Z M pc lv (.int x :: st) hp k n := by
  intro p e s m args below meth c H locs ls Cx hH hS hl T' hT S
  have hz := hH.size hS Cx.ge hT S
  suffices w : W p l e (mM M) s m args below meth c H locs k n (Z below args s) (F0 m pc ls (.int x :: st.map (xv X))) from w T' hT S
  refine va_newaK (atype := .boolean) (h := H.size) Cx.1 Cx.2.1 (show (Cond.arrayClass .boolean).before args s = true from Cx.xf.2.2.1.2.1) rfl hd rfl hx hN (by show N * 1 ≤ 536870912; omega) hc.1 hc.2 rfl (fun H1 cA e1 z1 o1 hAr hNm => ?_)
  have hy : cA = xy X 1 := Option.some.inj ((show s.vm.findClass ("[" ++ (FieldType.boolean).toString) = some cA from hNm).symm.trans (Cx.K.2 1 _ rfl).2)
  subst hy
  have h9 := kk p e s m args below meth c H1 locs ls Cx (hH.push hz o1 e1) (S_push hS z1 o1) hl
  rw [hz]
  exact h9
theorem R_newq {x : Int32} {N idx : Nat} (hd : DC M pc (.anewarray idx) 3) (hcl : Cond.classLink (mY M).cls idx RX9 ∈ lw_tg) (hx : ¬ x < 0) (hN : x.toNatClampNeg = N) (hb : N ≤ 100000) (hc : k + 1 ≤ (mM M).cells ∧ n + N ≤ (mM M).slots) (kk : PZ l X Z M (pc + 3) lv (.ref hp.length :: st) (hp ++ [qa N (fun _ => none)]) (k + 1) (n + N)) : PZ l X Z M pc lv (.int x :: st) hp k n := by
  intro p e s m args below meth c H locs ls Cx hH hS hl T' hT S
  have hz := hH.size hS Cx.ge hT S
  subst hN
  suffices w : W p l e (mM M) s m args below meth c H locs k n (Z below args s) (F0 m pc ls (.int x :: st.map (xv X))) from w T' hT S
  refine W.anew Cx.1 Cx.2.1 Cx.own (Cx.ts args _ hcl) (va_AO.use Cx.xf.2.2.1.2.2) rfl hd rfl hx (by omega) hc.1 hc.2 (fun cA kA comp f1 f2 f3 f4 => ?_)
  have hy : cA = xy X 2 := by
    obtain ⟨_, _, _, _, _, g4⟩ := (Cx.K.2 2 _ rfl).2
    exact Option.some.inj (f1.symm.trans g4)
  subst hy
  generalize hH1 : H.push ({ cls := xy X 2, slots := Array.replicate x.toNatClampNeg .null, vm := .none } : Cell) = H1
  have z1 : H1.size = H.size + 1 := by rw [← hH1, Array.size_push]
  have e1 : H1[H.size]? = some (arrV (xy X 2) x.toNatClampNeg (fun _ => .null)) := by rw [← hH1, Array.getElem?_push_size, ← arrV_new]
  have o1 : ∀ q : Nat, q < H.size → H1[q]? = H[q]? := fun q hq => by rw [← hH1, Array.getElem?_push, if_neg (Nat.ne_of_lt hq)]
  have h9 := kk p e s m args below meth c H1 locs ls Cx (hH.push hz o1 e1) (S_push hS z1 o1) hl
  rw [hz]
  exact h9
/-! the two texts -/
theorem R_ldcL (hd : DC M pc (.ldc 23) 2) (hc : (mY M).cls = RX0) (kk : PZ l X Z M (pc + 2) lv (.retAddr 1 :: st) hp k n) : PZ l X Z M pc lv st hp k n :=
  fun p e s m args below meth c H locs ls Cx hH hS hl => va_ldcS Cx.1 Cx.2.1 (own := RX0) (by rw [← hc]; exact Cx.own) Cx.xf.2.2.2.2.1 hd (kk p e s m args below meth c H locs ls Cx hH hS hl)
theorem R_ldcF (hd : DC M pc (.ldc 15) 2) (hc : (mY M).cls = RX0) (kk : PZ l X Z M (pc + 2) lv (.retAddr 2 :: st) hp k n) : PZ l X Z M pc lv st hp k n :=
  fun p e s m args below meth c H locs ls Cx hH hS hl => va_ldcS Cx.1 Cx.2.1 (own := RX0) (by rw [← hc]; exact Cx.own) Cx.xf.2.2.2.2.2.1 hd (kk p e s m args below meth c H locs ls Cx hH hS hl)
theorem R_getsC {idx : Nat} (hd : DC M pc (.getstatic idx) 3) (hlk : Cond.fieldLink (mY M).cls idx "java/lang/String" "COMPACT_STRINGS" "Z" ∈ lw_tg) (kk : PZ l X Z M (pc + 3) lv (.int 1 :: st) hp k n) : PZ l X Z M pc lv st hp k n :=
  fun p e s m args below meth c H locs ls Cx hH hS hl => va_gets Cx.1 Cx.2.1 Cx.xf.2.2.2.2.2.2.2.1 hS Cx.own (Cx.ts args _ hlk) (fun _ z => z) hd (kk p e s m args below meth c H locs ls Cx hH hS hl)
theorem R_getsQ {idx : Nat} (hd : DC M pc (.getstatic idx) 3) (hlk : Cond.fieldLink (mY M).cls idx "jdk/internal/util/Preconditions" "SIOOBE_FORMATTER" "Ljava/util/function/BiFunction;" ∈ lw_tg) (k0 : PZ l X Z M (pc + 3) lv (.null :: st) hp k n) (k1 : PZ l X Z M (pc + 3) lv (.retAddr 5 :: st) hp k n) : PZ l X Z M pc lv st hp k n := by
  intro p e s m args below meth c H locs ls Cx hH hS hl
  rcases Cx.xf.2.2.2.2.2.2.2.2 with h | h
  · exact va_gets Cx.1 Cx.2.1 h hS Cx.own (Cx.ts args _ hlk) (fun _ z => z) hd (k0 p e s m args below meth c H locs ls Cx hH hS hl)
  · exact va_gets Cx.1 Cx.2.1 h hS Cx.own (Cx.ts args _ hlk) (fun _ z => z) hd (k1 p e s m args below meth c H locs ls Cx hH hS hl)
theorem R_coder {idx i : Nat} (hd : DC M pc (.getfield idx) 3) (hlk : Cond.fieldLink (mY M).cls idx "java/lang/String" "coder" "B" ∈ lw_tg) (hi : i < 2) (kk : PZ l X Z M (pc + 3) lv (.int 0 :: st) hp k n) : PZ l X Z M pc lv (.retAddr (1 + i) :: st) hp k n :=
  fun p e s m args below meth c H locs ls Cx hH hS hl => vk_getf Cx.1 Cx.2.1 (Cx.xf.2.2.2.2.2.2.1.1 i hi).2.1 hS Cx.own (Cx.ts args _ hlk) (fun _ z => z) hd (kk p e s m args below meth c H locs ls Cx hH hS hl)
theorem R_value {idx i : Nat} (hd : DC M pc (.getfield idx) 3) (hlk : Cond.fieldLink (mY M).cls idx "java/lang/String" "value" "[B" ∈ lw_tg) (hi : i < 2) (kk : PZ l X Z M (pc + 3) lv (.retAddr (3 + i) :: st) hp k n) : PZ l X Z M pc lv (.retAddr (1 + i) :: st) hp k n :=
  fun p e s m args below meth c H locs ls Cx hH hS hl => vk_getf Cx.1 Cx.2.1 (Cx.xf.2.2.2.2.2.2.1.1 i hi).2.2.1 hS Cx.own (Cx.ts args _ hlk) (fun _ z => z) hd (kk p e s m args below meth c H locs ls Cx hH hS hl)
theorem R_blen {i : Nat} {x : Int32} (hd : DC M pc .arraylength 1) (hi : i < 2) (hx : Int32.ofNat (slen.getD i 0) = x) (kk : PZ l X Z M (pc + 1) lv (.int x :: st) hp k n) : PZ l X Z M pc lv (.retAddr (3 + i) :: st) hp k n :=
  fun p e s m args below meth c H locs ls Cx hH hS hl => va_tlen Cx.1 Cx.2.1 (Cx.xf.2.2.2.2.2.2.1.1 i hi).2.2.2 hS hx hd (kk p e s m args below meth c H locs ls Cx hH hS hl)
theorem R_bld {i : Nat} {x y : Int32} (hd : DC M pc .baload 1) (hi : i < 2) (hx : vp_in x (slen.getD i 0)) (hy : (sbyt.getD i []).getD x.toNatClampNeg 0 = y) (kk : PZ l X Z M (pc + 1) lv (.int y :: st) hp k n) : PZ l X Z M pc lv (.int x :: .retAddr (3 + i) :: st) hp k n := by
  subst hy
  exact fun p e s m args below meth c H locs ls Cx hH hS hl => va_tb Cx.1 Cx.2.1 (Cx.xf.2.2.2.2.2.2.1.1 i hi).2.2.2 hS hx rfl hd (kk p e s m args below meth c H locs ls Cx hH hS hl)
theorem R_nload_n {j : Fin 4} {i : Nat} (hd : DC M pc (.aload_n j) 1) (hi : (j : Nat) = i) (hv : lv[i]? = some (some .null)) (kk : PZ l X Z M (pc + 1) lv (.null :: st) hp k n) : PZ l X Z M pc lv st hp k n :=
  fun p e s m args below meth c H locs ls C hH hS hl => lv_aload_nN C.1 C.2.1 hd hi (hl.2.2 _ _ hv) (kk p e s m args below meth c H locs ls C hH hS hl)
end RN
end
section
/-! RULES in Nat's words (nI), and specs by the kind of the answer -/
section R2
variable {l : Launch} {X : EX} {Z : ZT} {M : MT} {pc : Nat} {lv lv' : List (Option Value)} {st : List Value} {hp : HPt} {k n : Nat}
def SpI (l : Launch) (X : EX) (M : MT) (args : List Value) (hp : HPt) (Q : Int32 → HPt → Prop) : Prop := Sp l X M args hp (fun v hp' => ∃ r, v = some (.int r) ∧ Q r hp')
def SpL (l : Launch) (X : EX) (M : MT) (args : List Value) (hp : HPt) (Q : Int64 → HPt → Prop) : Prop := Sp l X M args hp (fun v hp' => ∃ r, v = some (.long r) ∧ Q r hp')
def SpV (l : Launch) (X : EX) (M : MT) (args : List Value) (hp : HPt) (Q : HPt → Prop) : Prop := Sp l X M args hp (fun v hp' => v = none ∧ Q hp')
def MZi (X : EX) (M : MT) (Q : Int32 → HPt → Prop) : ZT := MZ X M (fun v hp' => ∃ r, v = some (.int r) ∧ Q r hp')
def MZl (X : EX) (M : MT) (Q : Int64 → HPt → Prop) : ZT := MZ X M (fun v hp' => ∃ r, v = some (.long r) ∧ Q r hp')
def MZv (X : EX) (M : MT) (Q : HPt → Prop) : ZT := MZ X M (fun v hp' => v = none ∧ Q hp')
theorem SpI.of {args : List Value} {Q : Int32 → HPt → Prop} (hy : plainName (mY M).cls = true) (hlen : (lg_sl (args.map (xv X))).length ≤ mN M) (hlv : lvE (mN M) args = lv) (h : PZ l X (MZi X M Q) M 0 lv [] hp 0 0) : SpI l X M args hp Q := Sp.of hy hlen hlv h
theorem SpL.of {args : List Value} {Q : Int64 → HPt → Prop} (hy : plainName (mY M).cls = true) (hlen : (lg_sl (args.map (xv X))).length ≤ mN M) (hlv : lvE (mN M) args = lv) (h : PZ l X (MZl X M Q) M 0 lv [] hp 0 0) : SpL l X M args hp Q := Sp.of hy hlen hlv h
theorem SpV.of {args : List Value} {Q : HPt → Prop} (hy : plainName (mY M).cls = true) (hlen : (lg_sl (args.map (xv X))).length ≤ mN M) (hlv : lvE (mN M) args = lv) (h : PZ l X (MZv X M Q) M 0 lv [] hp 0 0) : SpV l X M args hp Q := Sp.of hy hlen hlv h
theorem SpI.imp {args : List Value} {Q Q' : Int32 → HPt → Prop} (h : SpI l X M args hp Q) (hq : ∀ v hp', Q v hp' → Q' v hp') : SpI l X M args hp Q' := Sp.imp h (fun _ _ ⟨r, h1, h2⟩ => ⟨r, h1, hq _ _ h2⟩)
theorem SpV.imp {args : List Value} {Q Q' : HPt → Prop} (h : SpV l X M args hp Q) (hq : ∀ hp', Q hp' → Q' hp') : SpV l X M args hp Q' := Sp.imp h (fun _ _ ⟨h1, h2⟩ => ⟨h1, hq _ h2⟩)
theorem R_reti {v : Int32} {Q : Int32 → HPt → Prop} (hd : DC M pc .ireturn 1) (hr : mR M = some .int) (hk : k = (mM M).cells) (hn : n = (mM M).slots) (hq : Q v hp) : PZ l X (MZi X M Q) M pc lv [.int v] hp k n := R_iret hd hr hk hn ⟨v, rfl, hq⟩
theorem R_retz {v : Int32} {ty : FieldType} {Q : Int32 → HPt → Prop} (hd : DC M pc .ireturn 1) (hr : mR M = some ty) (hv : narrow ty (.int v) = .int v) (hk : k = (mM M).cells) (hn : n = (mM M).slots) (hq : Q v hp) : PZ l X (MZi X M Q) M pc lv [.int v] hp k n := R_zret hd hr hv hk hn ⟨v, rfl, hq⟩
theorem R_retl {v : Int64} {Q : Int64 → HPt → Prop} (hd : DC M pc .lreturn 1) (hr : mR M = some .long) (hk : k = (mM M).cells) (hn : n = (mM M).slots) (hq : Q v hp) : PZ l X (MZl X M Q) M pc lv [.long v] hp k n := R_lret hd hr hk hn ⟨v, rfl, hq⟩
theorem R_retv {Q : HPt → Prop} (hd : DC M pc .return_ 1) (hr : mR M = none) (hk : k = (mM M).cells) (hn : n = (mM M).slots) (hq : Q hp) : PZ l X (MZv X M Q) M pc lv [] hp k n := R_vret hd hr hk hn ⟨rfl, hq⟩
def CZ (M' : MT) : Prop := (mM M').cells = 0 ∧ (mM M').slots = 0
theorem R_calli {M' : MT} {np idx ci h : Nat} {T' : u_T} {N' : Nat} {fs As stk : List Value} {Q : Int32 → HPt → Prop} (hm : MV M' np) (hlk : MLk (mY M).cls idx (mY M')) (hsp : SpI l X M' (.ref h :: As) hp Q) (hci : vwCl[ci]? = some ((mY M').cls, T', N')) (hh : hp[h]? = some (.inr (ci, fs)))
    (hd : DC M pc (.invokevirtual idx) 3) (hst : stk = As.reverse ++ .ref h :: st) (hn : As.length = np) (hw : (st.map fun v => v.category).sum ≤ 8) (hrm : RMk M M') (hz : CZ M') (hc : k ≤ (mM M).cells ∧ n ≤ (mM M).slots)
    (kk : ∀ (r : Int32) (hp' : HPt), Q r hp' → PZ l X Z M (pc + 3) lv (.int r :: st) hp' k n) : PZ l X Z M pc lv stk hp k n :=
  R_callV hm hlk hsp hci hh hd hst hn hw hrm (by rw [hz.1, hz.2]; exact hc) (fun v hp' ⟨r, hv, hq⟩ => by rw [hz.1, hz.2, hv]; exact kk r hp' hq)
theorem R_callv {M' : MT} {np idx ci h : Nat} {T' : u_T} {N' : Nat} {fs As stk : List Value} {Q : HPt → Prop} (hm : MV M' np) (hlk : MLk (mY M).cls idx (mY M')) (hsp : SpV l X M' (.ref h :: As) hp Q) (hci : vwCl[ci]? = some ((mY M').cls, T', N')) (hh : hp[h]? = some (.inr (ci, fs)))
    (hd : DC M pc (.invokevirtual idx) 3) (hst : stk = As.reverse ++ .ref h :: st) (hn : As.length = np) (hw : (st.map fun v => v.category).sum ≤ 8) (hrm : RMk M M') (hz : CZ M') (hc : k ≤ (mM M).cells ∧ n ≤ (mM M).slots)
    (kk : ∀ (hp' : HPt), Q hp' → PZ l X Z M (pc + 3) lv st hp' k n) : PZ l X Z M pc lv stk hp k n :=
  R_callV hm hlk hsp hci hh hd hst hn hw hrm (by rw [hz.1, hz.2]; exact hc) (fun v hp' ⟨hv, hq⟩ => by rw [hz.1, hz.2, hv]; exact kk hp' hq)
theorem R_callKi {M' : MT} {np idx i : Nat} {As stk : List Value} {Q : Int32 → HPt → Prop} (hm : MV M' np) (hcl : (mY M').cls = "java/lang/String") (hi : i < 2) (hlk : MLk (mY M).cls idx (mY M')) (hsp : SpI l X M' (.retAddr (1 + i) :: As) hp Q)
    (hd : DC M pc (.invokevirtual idx) 3) (hst : stk = As.reverse ++ .retAddr (1 + i) :: st) (hn : As.length = np) (hw : (st.map fun v => v.category).sum ≤ 8) (hrm : RMk M M') (hz : CZ M') (hc : k ≤ (mM M).cells ∧ n ≤ (mM M).slots)
    (kk : ∀ (r : Int32) (hp' : HPt), Q r hp' → PZ l X Z M (pc + 3) lv (.int r :: st) hp' k n) : PZ l X Z M pc lv stk hp k n :=
  R_callVK hm hcl hi hlk hsp hd hst hn hw hrm (by rw [hz.1, hz.2]; exact hc) (fun v hp' ⟨r, hv, hq⟩ => by rw [hz.1, hz.2, hv]; exact kk r hp' hq)
theorem R_stati {M' : MT} {np idx : Nat} {As stk : List Value} {Q : Int32 → HPt → Prop} (hm : MS M' np) (hlk : MLk (mY M).cls idx (mY M')) (hsp : SpI l X M' As hp Q)
    (hd : DC M pc (.invokestatic idx) 3) (hst : stk = As.reverse ++ st) (hn : As.length = np) (hw : (st.map fun v => v.category).sum ≤ 8) (hrm : RMk M M') (hz : CZ M') (hc : k ≤ (mM M).cells ∧ n ≤ (mM M).slots)
    (kk : ∀ (r : Int32) (hp' : HPt), Q r hp' → PZ l X Z M (pc + 3) lv (.int r :: st) hp' k n) : PZ l X Z M pc lv stk hp k n :=
  R_callS hm hlk hsp hd hst hn hw hrm (by rw [hz.1, hz.2]; exact hc) (fun v hp' ⟨r, hv, hq⟩ => by rw [hz.1, hz.2, hv]; exact kk r hp' hq)
theorem R_statl {M' : MT} {np idx : Nat} {As stk : List Value} {Q : Int64 → HPt → Prop} (hm : MS M' np) (hlk : MLk (mY M).cls idx (mY M')) (hsp : SpL l X M' As hp Q)
    (hd : DC M pc (.invokestatic idx) 3) (hst : stk = As.reverse ++ st) (hn : As.length = np) (hw : (st.map fun v => v.category).sum ≤ 8) (hrm : RMk M M') (hz : CZ M') (hc : k ≤ (mM M).cells ∧ n ≤ (mM M).slots)
    (kk : ∀ (r : Int64) (hp' : HPt), Q r hp' → PZ l X Z M (pc + 3) lv (.long r :: st) hp' k n) : PZ l X Z M pc lv stk hp k n :=
  R_callS hm hlk hsp hd hst hn hw hrm (by rw [hz.1, hz.2]; exact hc) (fun v hp' ⟨r, hv, hq⟩ => by rw [hz.1, hz.2, hv]; exact kk r hp' hq)
theorem R_statv {M' : MT} {np idx : Nat} {As stk : List Value} {Q : HPt → Prop} (hm : MS M' np) (hlk : MLk (mY M).cls idx (mY M')) (hsp : SpV l X M' As hp Q)
    (hd : DC M pc (.invokestatic idx) 3) (hst : stk = As.reverse ++ st) (hn : As.length = np) (hw : (st.map fun v => v.category).sum ≤ 8) (hrm : RMk M M') (hz : CZ M') (hc : k ≤ (mM M).cells ∧ n ≤ (mM M).slots)
    (kk : ∀ (hp' : HPt), Q hp' → PZ l X Z M (pc + 3) lv st hp' k n) : PZ l X Z M pc lv stk hp k n :=
  R_callS hm hlk hsp hd hst hn hw hrm (by rw [hz.1, hz.2]; exact hc) (fun v hp' ⟨hv, hq⟩ => by rw [hz.1, hz.2, hv]; exact kk hp' hq)
/-! Nat's words -/
theorem N_iadd {a b : Nat} (hd : DC M pc .iadd 1) (kk : PZ l X Z M (pc + 1) lv (.int (nI (a + b)) :: st) hp k n) : PZ l X Z M pc lv (.int (nI b) :: .int (nI a) :: st) hp k n := R_iadd hd (by rw [nI_add]; exact kk)
theorem N_isub {a b : Nat} (hd : DC M pc .isub 1) (h : b ≤ a) (kk : PZ l X Z M (pc + 1) lv (.int (nI (a - b)) :: st) hp k n) : PZ l X Z M pc lv (.int (nI b) :: .int (nI a) :: st) hp k n := R_isub hd (by rw [pk_sub h]; exact kk)
theorem N_imul {a b : Nat} (hd : DC M pc .imul 1) (kk : PZ l X Z M (pc + 1) lv (.int (nI (a * b)) :: st) hp k n) : PZ l X Z M pc lv (.int (nI b) :: .int (nI a) :: st) hp k n := R_imul hd (by rw [pk_mul]; exact kk)
theorem nI_ne {b : Nat} (h0 : 0 < b) (hb : b < 2 ^ 31) : ¬ nI b = 0 := nI_ne0 h0 hb
theorem N_idiv {a b : Nat} (hd : DC M pc .idiv 1) (ha : a < 2 ^ 31) (h0 : 0 < b) (hb : b < 2 ^ 31) (kk : PZ l X Z M (pc + 1) lv (.int (nI (a / b)) :: st) hp k n) : PZ l X Z M pc lv (.int (nI b) :: .int (nI a) :: st) hp k n := R_idiv hd (nI_ne0 h0 hb) (by rw [pk_div ha h0 hb]; exact kk)
theorem N_irem {a b : Nat} (hd : DC M pc .irem 1) (ha : a < 2 ^ 31) (h0 : 0 < b) (hb : b < 2 ^ 31) (kk : PZ l X Z M (pc + 1) lv (.int (nI (a % b)) :: st) hp k n) : PZ l X Z M pc lv (.int (nI b) :: .int (nI a) :: st) hp k n := R_irem hd (nI_ne0 h0 hb) (by rw [pk_rem ha h0 hb]; exact kk)
theorem N_iinc {i d a : Nat} (hd : DC M pc (.iinc i (d : Int)) 3) (hx : lv[i]? = some (some (.int (nI a)))) (hv : lput lv i (.int (nI (a + d))) = lv') (kk : PZ l X Z M (pc + 3) lv' st hp k n) : PZ l X Z M pc lv st hp k n :=
  R_iinc hd hx (by rw [show Int32.ofInt (d : Int) = nI d from by unfold nI; exact Int32.ofInt_eq_ofNat]; exact nI_add a d) hv kk
theorem N_icmp_lt {a b : Nat} {off : Int} {tgt : Nat} (hd : DC M pc (.if_icmp .lt off) 3) (ht : (pc : Int) + off = (tgt : Int)) (ha : a < 2 ^ 31) (hb : b < 2 ^ 31) (kt : a < b → PZ l X Z M tgt lv st hp k n) (kf : b ≤ a → PZ l X Z M (pc + 3) lv st hp k n) : PZ l X Z M pc lv (.int (nI b) :: .int (nI a) :: st) hp k n :=
  R_icmp_lt hd ht (fun h => kt ((nI_ltI ha hb).mp h)) (fun h => kf (Nat.not_lt.mp (fun z => h ((nI_ltI ha hb).mpr z))))
theorem N_icmp_ge {a b : Nat} {off : Int} {tgt : Nat} (hd : DC M pc (.if_icmp .ge off) 3) (ht : (pc : Int) + off = (tgt : Int)) (ha : a < 2 ^ 31) (hb : b < 2 ^ 31) (kt : b ≤ a → PZ l X Z M tgt lv st hp k n) (kf : a < b → PZ l X Z M (pc + 3) lv st hp k n) : PZ l X Z M pc lv (.int (nI b) :: .int (nI a) :: st) hp k n :=
  R_icmp_ge hd ht (fun h => kt ((nI_leI hb ha).mp h)) (fun h => kf (Nat.not_le.mp (fun z => h ((nI_leI hb ha).mpr z))))
theorem N_icmp_gt {a b : Nat} {off : Int} {tgt : Nat} (hd : DC M pc (.if_icmp .gt off) 3) (ht : (pc : Int) + off = (tgt : Int)) (ha : a < 2 ^ 31) (hb : b < 2 ^ 31) (kt : b < a → PZ l X Z M tgt lv st hp k n) (kf : a ≤ b → PZ l X Z M (pc + 3) lv st hp k n) : PZ l X Z M pc lv (.int (nI b) :: .int (nI a) :: st) hp k n :=
  R_icmp_gt hd ht (fun h => kt ((nI_ltI hb ha).mp h)) (fun h => kf (Nat.not_lt.mp (fun z => h ((nI_ltI hb ha).mpr z))))
theorem N_icmp_le {a b : Nat} {off : Int} {tgt : Nat} (hd : DC M pc (.if_icmp .le off) 3) (ht : (pc : Int) + off = (tgt : Int)) (ha : a < 2 ^ 31) (hb : b < 2 ^ 31) (kt : a ≤ b → PZ l X Z M tgt lv st hp k n) (kf : b < a → PZ l X Z M (pc + 3) lv st hp k n) : PZ l X Z M pc lv (.int (nI b) :: .int (nI a) :: st) hp k n :=
  R_icmp_le hd ht (fun h => kt ((nI_leI ha hb).mp h)) (fun h => kf (Nat.not_le.mp (fun z => h ((nI_leI ha hb).mpr z))))
theorem N_icmp_eq {a b : Nat} {off : Int} {tgt : Nat} (hd : DC M pc (.if_icmp .eq off) 3) (ht : (pc : Int) + off = (tgt : Int)) (ha : a < 2 ^ 31) (hb : b < 2 ^ 31) (kt : a = b → PZ l X Z M tgt lv st hp k n) (kf : a ≠ b → PZ l X Z M (pc + 3) lv st hp k n) : PZ l X Z M pc lv (.int (nI b) :: .int (nI a) :: st) hp k n :=
  R_icmp_eq hd ht (fun h => kt ((nI_eq ha hb).mp h)) (fun h => kf (fun z => h ((nI_eq ha hb).mpr z)))
theorem N_icmp_ne {a b : Nat} {off : Int} {tgt : Nat} (hd : DC M pc (.if_icmp .ne off) 3) (ht : (pc : Int) + off = (tgt : Int)) (ha : a < 2 ^ 31) (hb : b < 2 ^ 31) (kt : a ≠ b → PZ l X Z M tgt lv st hp k n) (kf : a = b → PZ l X Z M (pc + 3) lv st hp k n) : PZ l X Z M pc lv (.int (nI b) :: .int (nI a) :: st) hp k n :=
  R_icmp_ne hd ht (fun h => kt (fun z => h ((nI_eq ha hb).mpr z))) (fun h => kf ((nI_eq ha hb).mp h))
theorem N_if_eq {a : Nat} {off : Int} {tgt : Nat} (hd : DC M pc (.ifCond .eq off) 3) (ht : (pc : Int) + off = (tgt : Int)) (ha : a < 2 ^ 31) (kt : a = 0 → PZ l X Z M tgt lv st hp k n) (kf : a ≠ 0 → PZ l X Z M (pc + 3) lv st hp k n) : PZ l X Z M pc lv (.int (nI a) :: st) hp k n :=
  R_if_eq hd ht (fun h => kt (by by_cases z : a = 0; exact z; exact absurd h (nI_ne0 (by omega) ha))) (fun h => kf (fun z => h (by rw [z]; rfl)))
theorem N_if_ne {a : Nat} {off : Int} {tgt : Nat} (hd : DC M pc (.ifCond .ne off) 3) (ht : (pc : Int) + off = (tgt : Int)) (ha : a < 2 ^ 31) (kt : a ≠ 0 → PZ l X Z M tgt lv st hp k n) (kf : a = 0 → PZ l X Z M (pc + 3) lv st hp k n) : PZ l X Z M pc lv (.int (nI a) :: st) hp k n :=
  R_if_ne hd ht (fun h => kt (fun z => h (by rw [z]; rfl))) (fun h => kf (by by_cases z : a = 0; exact z; exact absurd h (nI_ne0 (by omega) ha)))
theorem N_iald {h N j : Nat} {f : Nat → Int32} {y : Int32} (hd : DC M pc .iaload 1) (hh : hp[h]? = some (ia N f)) (hj : j < N) (hN : N < 2 ^ 31) (hy : f j = y) (kk : PZ l X Z M (pc + 1) lv (.int y :: st) hp k n) : PZ l X Z M pc lv (.int (nI j) :: .ref h :: st) hp k n :=
  R_iaload hd hh (vp_in_nI hj hN) (by rw [nI_clamp (by omega), hy]; exact kk)
theorem N_bald {h N j : Nat} {f : Nat → Int32} {y : Int32} (hd : DC M pc .baload 1) (hh : hp[h]? = some (za N f)) (hj : j < N) (hN : N < 2 ^ 31) (hy : f j = y) (kk : PZ l X Z M (pc + 1) lv (.int y :: st) hp k n) : PZ l X Z M pc lv (.int (nI j) :: .ref h :: st) hp k n :=
  R_baload hd hh (vp_in_nI hj hN) (by rw [nI_clamp (by omega), hy]; exact kk)
theorem N_iast {h N j : Nat} {f : Nat → Int32} {x : Int32} (hd : DC M pc .iastore 1) (hh : hp[h]? = some (ia N f)) (hj : j < N) (hN : N < 2 ^ 31) (kk : PZ l X Z M (pc + 1) lv st (hp.set h (ia N (upd f j x))) k n) : PZ l X Z M pc lv (.int x :: .int (nI j) :: .ref h :: st) hp k n :=
  R_iastore hd hh (vp_in_nI hj hN) (by rw [nI_clamp (by omega)]; exact kk)
theorem N_bast {h N j : Nat} {f : Nat → Int32} {x : Int32} (hd : DC M pc .bastore 1) (hh : hp[h]? = some (za N f)) (hj : j < N) (hN : N < 2 ^ 31) (hx : vp_nar .boolean x = x) (kk : PZ l X Z M (pc + 1) lv st (hp.set h (za N (upd f j x))) k n) : PZ l X Z M pc lv (.int x :: .int (nI j) :: .ref h :: st) hp k n :=
  R_bastore hd hh (vp_in_nI hj hN) (by rw [nI_clamp (by omega), hx]; exact kk)
theorem N_aald {h N q j : Nat} {f : Nat → Option Nat} (hd : DC M pc .aaload 1) (hh : hp[h]? = some (qa N f)) (hj : j < N) (hN : N < 2 ^ 31) (hq : f j = some q) (kk : PZ l X Z M (pc + 1) lv (.ref q :: st) hp k n) : PZ l X Z M pc lv (.int (nI j) :: .ref h :: st) hp k n :=
  R_aaload hd hh (vp_in_nI hj hN) (by rw [nI_clamp (by omega)]; exact hq) kk
theorem N_aast {h N q j : Nat} {f : Nat → Option Nat} {fs : List Value} (hd : DC M pc .aastore 1) (hh : hp[h]? = some (qa N f)) (hj : j < N) (hN : N < 2 ^ 31) (hq : hp[q]? = some (.inr (8, fs))) (kk : PZ l X Z M (pc + 1) lv st (hp.set h (qa N (va_up f j (some q)))) k n) : PZ l X Z M pc lv (.ref q :: .int (nI j) :: .ref h :: st) hp k n :=
  R_aastore hd hh (vp_in_nI hj hN) hq (by rw [nI_clamp (by omega)]; exact kk)
theorem R_puti {idx ci j h : Nat} {fs : List Value} {v : Int32} (hd : DC M pc (.putfield idx) 3) (hf : FP (mY M).cls idx ci j .int) (hh : hp[h]? = some (.inr (ci, fs))) (hj' : j < fs.length) (kk : PZ l X Z M (pc + 3) lv st (hp.set h (.inr (ci, fs.set j (.int v)))) k n) : PZ l X Z M pc lv (.int v :: .ref h :: st) hp k n := R_putf hd hf hh hj' rfl rfl kk
theorem R_putl {idx ci j h : Nat} {fs : List Value} {v : Int64} (hd : DC M pc (.putfield idx) 3) (hf : FP (mY M).cls idx ci j .long) (hh : hp[h]? = some (.inr (ci, fs))) (hj' : j < fs.length) (kk : PZ l X Z M (pc + 3) lv st (hp.set h (.inr (ci, fs.set j (.long v)))) k n) : PZ l X Z M pc lv (.long v :: .ref h :: st) hp k n := R_putf hd hf hh hj' rfl rfl kk
theorem R_putz {idx ci j h : Nat} {fs : List Value} {v : Int32} (hd : DC M pc (.putfield idx) 3) (hf : FP (mY M).cls idx ci j .boolean) (hh : hp[h]? = some (.inr (ci, fs))) (hj' : j < fs.length) (hv : narrow .boolean (.int v) = .int v) (hv2 : fits .boolean (.int v) = true) (kk : PZ l X Z M (pc + 3) lv st (hp.set h (.inr (ci, fs.set j (.int v)))) k n) : PZ l X Z M pc lv (.int v :: .ref h :: st) hp k n := R_putf hd hf hh hj' hv hv2 kk
theorem R_jmp {pc' : Nat} {lv' : List (Option Value)} {st' : List Value} {hp' : HPt} {k' n' : Nat} (h1 : pc = pc') (h2 : lv = lv') (h3 : st = st') (h4 : hp = hp') (h5 : k = k') (h6 : n = n') (h : PZ l X Z M pc' lv' st' hp' k' n') : PZ l X Z M pc lv st hp k n := by
  subst h1; subst h2; subst h3; subst h4; subst h5; subst h6; exact h
theorem gs_same {hp : HPt} {i : Nat} {e e0 : PE} (h : hp[i]? = some e0) : (hp.set i e)[i]? = some e := by
  rw [List.getElem?_set_self (List.getElem?_eq_some_iff.mp h).1]
theorem gs_ne {hp : HPt} {i j : Nat} {e : PE} (h : i ≠ j) : (hp.set i e)[j]? = hp[j]? := List.getElem?_set_ne h
theorem gs_ss {hp : HPt} {i : Nat} {e e' : PE} : (hp.set i e).set i e' = hp.set i e' := List.set_set ..
theorem gs_id {hp : HPt} {i : Nat} {e : PE} (h : hp[i]? = some e) : hp.set i e = hp := by
  apply List.ext_getElem?
  intro j
  by_cases hj : i = j
  · subst hj; rw [gs_same h, h]
  · rw [gs_ne hj]
theorem kd_ne {hp : HPt} {i j : Nat} {a : Nat × vp_A} {b : Nat × List Value} (h1 : hp[i]? = some (.inl a)) (h2 : hp[j]? = some (.inr b)) : i ≠ j := fun e => by
  rw [e, h2] at h1; cases h1
end R2
end
