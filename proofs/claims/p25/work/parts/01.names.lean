/-! names, tables, words (begun out of the kit's printed names and its skeleton) -/
/-- a private method of a class that the tables say can be made, by its rows of tables_1 -/
def lw_okq (q : MethodName × Nat) : Prop := (q.1.cls ≠ "java/lang/invoke/MethodHandle" ∧ q.1.cls ≠ "java/lang/invoke/VarHandle") ∧ Cond.instantiable q.1.cls q.2 ∈ tables_1 ∧ Cond.privateMethod q.1 ∈ tables_1 ∧ Cond.instanceMethod q.1 ∈ tables_1
theorem lw_p0 : lw_okq (⟨"StrideBanks$BankRow", "beginAnew", "()V"⟩, 4) := ⟨⟨by decide +kernel, by decide +kernel⟩, List.mem_of_getElem? (i := 72) (by decide +kernel), List.mem_of_getElem? (i := 98) (by decide +kernel), List.mem_of_getElem? (i := 99) (by decide +kernel)⟩
theorem lw_p1 : lw_okq (⟨"StrideBanks$History", "record", "(LStrideBanks$Store;)V"⟩, 2) := ⟨⟨by decide +kernel, by decide +kernel⟩, List.mem_of_getElem? (i := 123) (by decide +kernel), List.mem_of_getElem? (i := 187) (by decide +kernel), List.mem_of_getElem? (i := 188) (by decide +kernel)⟩
theorem lw_p2 : lw_okq (⟨"StrideBanks$History", "forgetOldest", "()V"⟩, 2) := ⟨⟨by decide +kernel, by decide +kernel⟩, List.mem_of_getElem? (i := 123) (by decide +kernel), List.mem_of_getElem? (i := 191) (by decide +kernel), List.mem_of_getElem? (i := 192) (by decide +kernel)⟩
theorem lw_p3 : lw_okq (⟨"StrideBanks$Store", "copy", "(LStrideBanks$Store;)V"⟩, 5) := ⟨⟨by decide +kernel, by decide +kernel⟩, List.mem_of_getElem? (i := 19) (by decide +kernel), List.mem_of_getElem? (i := 195) (by decide +kernel), List.mem_of_getElem? (i := 196) (by decide +kernel)⟩
theorem lw_p4 : lw_okq (⟨"StrideBanks$Store", "copySettings", "(LStrideBanks$Store;)V"⟩, 5) := ⟨⟨by decide +kernel, by decide +kernel⟩, List.mem_of_getElem? (i := 19) (by decide +kernel), List.mem_of_getElem? (i := 199) (by decide +kernel), List.mem_of_getElem? (i := 200) (by decide +kernel)⟩
theorem lw_p5 : lw_okq (⟨"StrideBanks$StreamRow", "copy", "(LStrideBanks$StreamRow;)V"⟩, 8) := ⟨⟨by decide +kernel, by decide +kernel⟩, List.mem_of_getElem? (i := 33) (by decide +kernel), List.mem_of_getElem? (i := 203) (by decide +kernel), List.mem_of_getElem? (i := 204) (by decide +kernel)⟩
theorem lw_p6 : lw_okq (⟨"StrideBanks$BankRow", "copy", "(LStrideBanks$BankRow;)V"⟩, 4) := ⟨⟨by decide +kernel, by decide +kernel⟩, List.mem_of_getElem? (i := 72) (by decide +kernel), List.mem_of_getElem? (i := 207) (by decide +kernel), List.mem_of_getElem? (i := 208) (by decide +kernel)⟩
theorem lw_p7 : lw_okq (⟨"StrideBanks$Store", "passCycle", "()I"⟩, 5) := ⟨⟨by decide +kernel, by decide +kernel⟩, List.mem_of_getElem? (i := 19) (by decide +kernel), List.mem_of_getElem? (i := 211) (by decide +kernel), List.mem_of_getElem? (i := 212) (by decide +kernel)⟩
theorem lw_p8 : lw_okq (⟨"StrideBanks$Store", "ask", "(I)I"⟩, 5) := ⟨⟨by decide +kernel, by decide +kernel⟩, List.mem_of_getElem? (i := 19) (by decide +kernel), List.mem_of_getElem? (i := 215) (by decide +kernel), List.mem_of_getElem? (i := 216) (by decide +kernel)⟩
theorem lw_p9 : lw_okq (⟨"StrideBanks$StreamRow", "nextAddress", "()I"⟩, 8) := ⟨⟨by decide +kernel, by decide +kernel⟩, List.mem_of_getElem? (i := 33) (by decide +kernel), List.mem_of_getElem? (i := 219) (by decide +kernel), List.mem_of_getElem? (i := 220) (by decide +kernel)⟩
theorem lw_p10 : lw_okq (⟨"StrideBanks$Store", "bankAt", "(I)I"⟩, 5) := ⟨⟨by decide +kernel, by decide +kernel⟩, List.mem_of_getElem? (i := 19) (by decide +kernel), List.mem_of_getElem? (i := 223) (by decide +kernel), List.mem_of_getElem? (i := 224) (by decide +kernel)⟩
theorem lw_p11 : lw_okq (⟨"StrideBanks$Store", "greatestPrime", "()I"⟩, 5) := ⟨⟨by decide +kernel, by decide +kernel⟩, List.mem_of_getElem? (i := 19) (by decide +kernel), List.mem_of_getElem? (i := 227) (by decide +kernel), List.mem_of_getElem? (i := 228) (by decide +kernel)⟩
theorem lw_p12 : lw_okq (⟨"StrideBanks$StreamRow", "finishRequest", "(II)V"⟩, 8) := ⟨⟨by decide +kernel, by decide +kernel⟩, List.mem_of_getElem? (i := 33) (by decide +kernel), List.mem_of_getElem? (i := 233) (by decide +kernel), List.mem_of_getElem? (i := 234) (by decide +kernel)⟩
theorem lw_p13 : lw_okq (⟨"StrideBanks$Store", "beginAnew", "()V"⟩, 5) := ⟨⟨by decide +kernel, by decide +kernel⟩, List.mem_of_getElem? (i := 19) (by decide +kernel), List.mem_of_getElem? (i := 241) (by decide +kernel), List.mem_of_getElem? (i := 242) (by decide +kernel)⟩
theorem lw_p14 : lw_okq (⟨"StrideBanks$Store", "freeBanks", "()V"⟩, 5) := ⟨⟨by decide +kernel, by decide +kernel⟩, List.mem_of_getElem? (i := 19) (by decide +kernel), List.mem_of_getElem? (i := 245) (by decide +kernel), List.mem_of_getElem? (i := 246) (by decide +kernel)⟩
theorem lw_p15 : lw_okq (⟨"StrideBanks$StreamRow", "beginAnew", "()V"⟩, 8) := ⟨⟨by decide +kernel, by decide +kernel⟩, List.mem_of_getElem? (i := 33) (by decide +kernel), List.mem_of_getElem? (i := 249) (by decide +kernel), List.mem_of_getElem? (i := 250) (by decide +kernel)⟩
def lw_privs_1 : List (MethodName × Nat) := [(⟨"StrideBanks$BankRow", "beginAnew", "()V"⟩, 4), (⟨"StrideBanks$History", "record", "(LStrideBanks$Store;)V"⟩, 2), (⟨"StrideBanks$History", "forgetOldest", "()V"⟩, 2), (⟨"StrideBanks$Store", "copy", "(LStrideBanks$Store;)V"⟩, 5), (⟨"StrideBanks$Store", "copySettings", "(LStrideBanks$Store;)V"⟩, 5), (⟨"StrideBanks$StreamRow", "copy", "(LStrideBanks$StreamRow;)V"⟩, 8), (⟨"StrideBanks$BankRow", "copy", "(LStrideBanks$BankRow;)V"⟩, 4), (⟨"StrideBanks$Store", "passCycle", "()I"⟩, 5), (⟨"StrideBanks$Store", "ask", "(I)I"⟩, 5), (⟨"StrideBanks$StreamRow", "nextAddress", "()I"⟩, 8), (⟨"StrideBanks$Store", "bankAt", "(I)I"⟩, 5), (⟨"StrideBanks$Store", "greatestPrime", "()I"⟩, 5), (⟨"StrideBanks$StreamRow", "finishRequest", "(II)V"⟩, 8), (⟨"StrideBanks$Store", "beginAnew", "()V"⟩, 5), (⟨"StrideBanks$Store", "freeBanks", "()V"⟩, 5), (⟨"StrideBanks$StreamRow", "beginAnew", "()V"⟩, 8)]
theorem lw_r1 : ∀ q ∈ lw_privs_1, lw_okq q := List.forall_mem_cons.mpr ⟨lw_p0, List.forall_mem_cons.mpr ⟨lw_p1, List.forall_mem_cons.mpr ⟨lw_p2, List.forall_mem_cons.mpr ⟨lw_p3, List.forall_mem_cons.mpr ⟨lw_p4, List.forall_mem_cons.mpr ⟨lw_p5, List.forall_mem_cons.mpr ⟨lw_p6, List.forall_mem_cons.mpr ⟨lw_p7, List.forall_mem_cons.mpr ⟨lw_p8, List.forall_mem_cons.mpr ⟨lw_p9, List.forall_mem_cons.mpr ⟨lw_p10, List.forall_mem_cons.mpr ⟨lw_p11, List.forall_mem_cons.mpr ⟨lw_p12, List.forall_mem_cons.mpr ⟨lw_p13, List.forall_mem_cons.mpr ⟨lw_p14, List.forall_mem_cons.mpr ⟨lw_p15, fun _ h => absurd h List.not_mem_nil⟩⟩⟩⟩⟩⟩⟩⟩⟩⟩⟩⟩⟩⟩⟩⟩
theorem lw_p16 : lw_okq (⟨"StrideBanks$Store", "total", "(I)I"⟩, 5) := ⟨⟨by decide +kernel, by decide +kernel⟩, List.mem_of_getElem? (i := 19) (by decide +kernel), List.mem_of_getElem? (i := 253) (by decide +kernel), List.mem_of_getElem? (i := 254) (by decide +kernel)⟩
theorem lw_p17 : lw_okq (⟨"StrideBanks$StreamRow", "tell", "(I)I"⟩, 8) := ⟨⟨by decide +kernel, by decide +kernel⟩, List.mem_of_getElem? (i := 33) (by decide +kernel), List.mem_of_getElem? (i := 257) (by decide +kernel), List.mem_of_getElem? (i := 258) (by decide +kernel)⟩
theorem lw_p18 : lw_okq (⟨"StrideBanks$Store", "busyBanks", "()I"⟩, 5) := ⟨⟨by decide +kernel, by decide +kernel⟩, List.mem_of_getElem? (i := 19) (by decide +kernel), List.mem_of_getElem? (i := 266) (by decide +kernel), List.mem_of_getElem? (i := 267) (by decide +kernel)⟩
theorem lw_p19 : lw_okq (⟨"StrideBanks$Store", "passAll", "()I"⟩, 5) := ⟨⟨by decide +kernel, by decide +kernel⟩, List.mem_of_getElem? (i := 19) (by decide +kernel), List.mem_of_getElem? (i := 276) (by decide +kernel), List.mem_of_getElem? (i := 277) (by decide +kernel)⟩
theorem lw_p20 : lw_okq (⟨"StrideBanks", "cyclesByMap", "(I)I"⟩, 6) := ⟨⟨by decide +kernel, by decide +kernel⟩, List.mem_of_getElem? (i := 11) (by decide +kernel), List.mem_of_getElem? (i := 287) (by decide +kernel), List.mem_of_getElem? (i := 288) (by decide +kernel)⟩
theorem lw_p21 : lw_okq (⟨"StrideBanks$History", "takeBack", "(LStrideBanks$Store;)V"⟩, 2) := ⟨⟨by decide +kernel, by decide +kernel⟩, List.mem_of_getElem? (i := 123) (by decide +kernel), List.mem_of_getElem? (i := 295) (by decide +kernel), List.mem_of_getElem? (i := 296) (by decide +kernel)⟩
theorem lw_p22 : lw_okq (⟨"StrideBanks$Store", "has", "(I)Z"⟩, 5) := ⟨⟨by decide +kernel, by decide +kernel⟩, List.mem_of_getElem? (i := 19) (by decide +kernel), List.mem_of_getElem? (i := 319) (by decide +kernel), List.mem_of_getElem? (i := 320) (by decide +kernel)⟩
theorem lw_p23 : lw_okq (⟨"StrideBanks$Store", "banksMet", "(LStrideBanks$StreamRow;)I"⟩, 5) := ⟨⟨by decide +kernel, by decide +kernel⟩, List.mem_of_getElem? (i := 19) (by decide +kernel), List.mem_of_getElem? (i := 323) (by decide +kernel), List.mem_of_getElem? (i := 324) (by decide +kernel)⟩
theorem lw_p24 : lw_okq (⟨"StrideBanks$Store", "wordsLeftIn", "(I)I"⟩, 5) := ⟨⟨by decide +kernel, by decide +kernel⟩, List.mem_of_getElem? (i := 19) (by decide +kernel), List.mem_of_getElem? (i := 341) (by decide +kernel), List.mem_of_getElem? (i := 342) (by decide +kernel)⟩
theorem lw_p25 : lw_okq (⟨"StrideBanks$Store", "append", "(III)V"⟩, 5) := ⟨⟨by decide +kernel, by decide +kernel⟩, List.mem_of_getElem? (i := 19) (by decide +kernel), List.mem_of_getElem? (i := 360) (by decide +kernel), List.mem_of_getElem? (i := 361) (by decide +kernel)⟩
theorem lw_p26 : lw_okq (⟨"StrideBanks$Store", "remove", "(I)V"⟩, 5) := ⟨⟨by decide +kernel, by decide +kernel⟩, List.mem_of_getElem? (i := 19) (by decide +kernel), List.mem_of_getElem? (i := 368) (by decide +kernel), List.mem_of_getElem? (i := 369) (by decide +kernel)⟩
def lw_privs_2 : List (MethodName × Nat) := [(⟨"StrideBanks$Store", "total", "(I)I"⟩, 5), (⟨"StrideBanks$StreamRow", "tell", "(I)I"⟩, 8), (⟨"StrideBanks$Store", "busyBanks", "()I"⟩, 5), (⟨"StrideBanks$Store", "passAll", "()I"⟩, 5), (⟨"StrideBanks", "cyclesByMap", "(I)I"⟩, 6), (⟨"StrideBanks$History", "takeBack", "(LStrideBanks$Store;)V"⟩, 2), (⟨"StrideBanks$Store", "has", "(I)Z"⟩, 5), (⟨"StrideBanks$Store", "banksMet", "(LStrideBanks$StreamRow;)I"⟩, 5), (⟨"StrideBanks$Store", "wordsLeftIn", "(I)I"⟩, 5), (⟨"StrideBanks$Store", "append", "(III)V"⟩, 5), (⟨"StrideBanks$Store", "remove", "(I)V"⟩, 5)]
theorem lw_r2 : ∀ q ∈ lw_privs_2, lw_okq q := List.forall_mem_cons.mpr ⟨lw_p16, List.forall_mem_cons.mpr ⟨lw_p17, List.forall_mem_cons.mpr ⟨lw_p18, List.forall_mem_cons.mpr ⟨lw_p19, List.forall_mem_cons.mpr ⟨lw_p20, List.forall_mem_cons.mpr ⟨lw_p21, List.forall_mem_cons.mpr ⟨lw_p22, List.forall_mem_cons.mpr ⟨lw_p23, List.forall_mem_cons.mpr ⟨lw_p24, List.forall_mem_cons.mpr ⟨lw_p25, List.forall_mem_cons.mpr ⟨lw_p26, fun _ h => absurd h List.not_mem_nil⟩⟩⟩⟩⟩⟩⟩⟩⟩⟩⟩
def lw_privs : List (MethodName × Nat) := lw_privs_1 ++ (lw_privs_2)
def lw_tbl : List Cond := k2_sels lw_privs ++ tables_1
theorem lw_privs_ok : ∀ q ∈ lw_privs, lw_okq q := by
  show ∀ q ∈ lw_privs_1 ++ (lw_privs_2), lw_okq q
  exact List.forall_mem_append.mpr ⟨lw_r1, lw_r2⟩
def RX0 : String := "StrideBanks$BankRow"
def TX0 : u_T := fun k => match k with
  | 0 => ("StrideBanks$BankRow", "freeFrom", "I", false)
  | 1 => ("StrideBanks$BankRow", "maker", "I", false)
  | 2 => ("StrideBanks$BankRow", "requests", "I", false)
  | _ => ("StrideBanks$BankRow", "stalls", "I", false)
def tyX0 : Nat → FieldType := fun k => match k with
  | 0 => .int
  | 1 => .int
  | 2 => .int
  | _ => .int
abbrev wsX00 : List Cond := u_ws RX0 TX0 4
theorem nmX0 : ∀ a, a < 4 → ∀ b, b < 4 → a ≠ b → (TX0 a).2.1 ≠ (TX0 b).2.1 := by decide +kernel
theorem tyX0_ok : ∀ k, k < 4 → parseFieldDescriptor (TX0 k).2.2.1 = some (tyX0 k) := by decide +kernel
abbrev cX0_init : ByteArray := prog_2_method_1_code
def yX0_init : MethodName := ⟨RX0, "<init>", "()V"⟩
abbrev cX0_beginAnew : ByteArray := prog_2_method_2_code
def yX0_beginAnew : MethodName := ⟨RX0, "beginAnew", "()V"⟩
abbrev cX0_copy : ByteArray := prog_2_method_3_code
def yX0_copy : MethodName := ⟨RX0, "copy", "(LStrideBanks$BankRow;)V"⟩
def RX1 : String := "StrideBanks$History"
def TX1 : u_T := fun k => match k with
  | 0 => ("StrideBanks$History", "states", "[LStrideBanks$Store;", true)
  | _ => ("StrideBanks$History", "size", "I", false)
def tyX1 : Nat → FieldType := fun k => match k with
  | 0 => .array (.object "StrideBanks$Store")
  | _ => .int
abbrev wsX10 : List Cond := u_ws RX1 TX1 2
theorem nmX1 : ∀ a, a < 2 → ∀ b, b < 2 → a ≠ b → (TX1 a).2.1 ≠ (TX1 b).2.1 := by decide +kernel
theorem tyX1_ok : ∀ k, k < 2 → parseFieldDescriptor (TX1 k).2.2.1 = some (tyX1 k) := by decide +kernel
abbrev cX1_init : ByteArray := prog_3_method_1_code
def yX1_init : MethodName := ⟨RX1, "<init>", "()V"⟩
abbrev cX1_record : ByteArray := prog_3_method_2_code
def yX1_record : MethodName := ⟨RX1, "record", "(LStrideBanks$Store;)V"⟩
abbrev cX1_forgetOldest : ByteArray := prog_3_method_3_code
def yX1_forgetOldest : MethodName := ⟨RX1, "forgetOldest", "()V"⟩
abbrev cX1_takeBack : ByteArray := prog_3_method_4_code
def yX1_takeBack : MethodName := ⟨RX1, "takeBack", "(LStrideBanks$Store;)V"⟩
def RX2 : String := "StrideBanks$Pad"
def TX2 : u_T := fun k => match k with
  | 0 => ("StrideBanks$Pad", "text", "[C", true)
  | 1 => ("StrideBanks$Pad", "length", "I", false)
  | 2 => ("StrideBanks$Pad", "numbers", "[I", true)
  | _ => ("StrideBanks$Pad", "numbersFound", "I", false)
def tyX2 : Nat → FieldType := fun k => match k with
  | 0 => .array .char
  | 1 => .int
  | 2 => .array .int
  | _ => .int
abbrev wsX20 : List Cond := u_ws RX2 TX2 4
theorem nmX2 : ∀ a, a < 4 → ∀ b, b < 4 → a ≠ b → (TX2 a).2.1 ≠ (TX2 b).2.1 := by decide +kernel
theorem tyX2_ok : ∀ k, k < 4 → parseFieldDescriptor (TX2 k).2.2.1 = some (tyX2 k) := by decide +kernel
abbrev cX2_init : ByteArray := prog_4_method_1_code
def yX2_init : MethodName := ⟨RX2, "<init>", "()V"⟩
def RX3 : String := "StrideBanks$Store"
def TX3 : u_T := fun k => match k with
  | 0 => ("StrideBanks$Store", "settings", "[I", true)
  | 1 => ("StrideBanks$Store", "streams", "[LStrideBanks$StreamRow;", true)
  | 2 => ("StrideBanks$Store", "banks", "[LStrideBanks$BankRow;", true)
  | 3 => ("StrideBanks$Store", "streamCount", "I", false)
  | _ => ("StrideBanks$Store", "cycle", "I", false)
def tyX3 : Nat → FieldType := fun k => match k with
  | 0 => .array .int
  | 1 => .array (.object "StrideBanks$StreamRow")
  | 2 => .array (.object "StrideBanks$BankRow")
  | 3 => .int
  | _ => .int
abbrev wsX30 : List Cond := u_ws RX3 TX3 5
theorem nmX3 : ∀ a, a < 5 → ∀ b, b < 5 → a ≠ b → (TX3 a).2.1 ≠ (TX3 b).2.1 := by decide +kernel
theorem tyX3_ok : ∀ k, k < 5 → parseFieldDescriptor (TX3 k).2.2.1 = some (tyX3 k) := by decide +kernel
abbrev cX3_init : ByteArray := prog_5_method_1_code
def yX3_init : MethodName := ⟨RX3, "<init>", "()V"⟩
abbrev cX3_copySettings : ByteArray := prog_5_method_2_code
def yX3_copySettings : MethodName := ⟨RX3, "copySettings", "(LStrideBanks$Store;)V"⟩
abbrev cX3_copy : ByteArray := prog_5_method_3_code
def yX3_copy : MethodName := ⟨RX3, "copy", "(LStrideBanks$Store;)V"⟩
abbrev cX3_freeBanks : ByteArray := prog_5_method_4_code
def yX3_freeBanks : MethodName := ⟨RX3, "freeBanks", "()V"⟩
abbrev cX3_beginAnew : ByteArray := prog_5_method_5_code
def yX3_beginAnew : MethodName := ⟨RX3, "beginAnew", "()V"⟩
abbrev cX3_has : ByteArray := prog_5_method_6_code
def yX3_has : MethodName := ⟨RX3, "has", "(I)Z"⟩
abbrev cX3_append : ByteArray := prog_5_method_7_code
def yX3_append : MethodName := ⟨RX3, "append", "(III)V"⟩
abbrev cX3_remove : ByteArray := prog_5_method_9_code
def yX3_remove : MethodName := ⟨RX3, "remove", "(I)V"⟩
abbrev cX3_greatestPrime : ByteArray := prog_5_method_10_code
def yX3_greatestPrime : MethodName := ⟨RX3, "greatestPrime", "()I"⟩
abbrev cX3_bankAt : ByteArray := prog_5_method_11_code
def yX3_bankAt : MethodName := ⟨RX3, "bankAt", "(I)I"⟩
abbrev cX3_passCycle : ByteArray := prog_5_method_12_code
def yX3_passCycle : MethodName := ⟨RX3, "passCycle", "()I"⟩
abbrev cX3_ask : ByteArray := prog_5_method_13_code
def yX3_ask : MethodName := ⟨RX3, "ask", "(I)I"⟩
abbrev cX3_passAll : ByteArray := prog_5_method_14_code
def yX3_passAll : MethodName := ⟨RX3, "passAll", "()I"⟩
abbrev cX3_banksMet : ByteArray := prog_5_method_16_code
def yX3_banksMet : MethodName := ⟨RX3, "banksMet", "(LStrideBanks$StreamRow;)I"⟩
abbrev cX3_wordsLeftIn : ByteArray := prog_5_method_17_code
def yX3_wordsLeftIn : MethodName := ⟨RX3, "wordsLeftIn", "(I)I"⟩
abbrev cX3_total : ByteArray := prog_5_method_18_code
def yX3_total : MethodName := ⟨RX3, "total", "(I)I"⟩
abbrev cX3_busyBanks : ByteArray := prog_5_method_19_code
def yX3_busyBanks : MethodName := ⟨RX3, "busyBanks", "()I"⟩
def RX4 : String := "StrideBanks$StreamRow"
def TX4 : u_T := fun k => match k with
  | 0 => ("StrideBanks$StreamRow", "start", "I", false)
  | 1 => ("StrideBanks$StreamRow", "stride", "I", false)
  | 2 => ("StrideBanks$StreamRow", "length", "I", false)
  | 3 => ("StrideBanks$StreamRow", "left", "I", false)
  | 4 => ("StrideBanks$StreamRow", "latest", "I", false)
  | 5 => ("StrideBanks$StreamRow", "stalls", "I", false)
  | 6 => ("StrideBanks$StreamRow", "clashes", "I", false)
  | _ => ("StrideBanks$StreamRow", "ended", "I", false)
def tyX4 : Nat → FieldType := fun k => match k with
  | 0 => .int
  | 1 => .int
  | 2 => .int
  | 3 => .int
  | 4 => .int
  | 5 => .int
  | 6 => .int
  | _ => .int
abbrev wsX40 : List Cond := u_ws RX4 TX4 8
theorem nmX4 : ∀ a, a < 8 → ∀ b, b < 8 → a ≠ b → (TX4 a).2.1 ≠ (TX4 b).2.1 := by decide +kernel
theorem tyX4_ok : ∀ k, k < 8 → parseFieldDescriptor (TX4 k).2.2.1 = some (tyX4 k) := by decide +kernel
abbrev cX4_init : ByteArray := prog_6_method_1_code
def yX4_init : MethodName := ⟨RX4, "<init>", "()V"⟩
abbrev cX4_beginAnew : ByteArray := prog_6_method_2_code
def yX4_beginAnew : MethodName := ⟨RX4, "beginAnew", "()V"⟩
abbrev cX4_copy : ByteArray := prog_6_method_3_code
def yX4_copy : MethodName := ⟨RX4, "copy", "(LStrideBanks$StreamRow;)V"⟩
abbrev cX4_tell : ByteArray := prog_6_method_4_code
def yX4_tell : MethodName := ⟨RX4, "tell", "(I)I"⟩
abbrev cX4_nextAddress : ByteArray := prog_6_method_5_code
def yX4_nextAddress : MethodName := ⟨RX4, "nextAddress", "()I"⟩
abbrev cX4_finishRequest : ByteArray := prog_6_method_6_code
def yX4_finishRequest : MethodName := ⟨RX4, "finishRequest", "(II)V"⟩
def RX5 : String := "StrideBanks"
def TX5 : u_T := fun k => match k with
  | 0 => ("StrideBanks", "now", "LStrideBanks$Store;", true)
  | 1 => ("StrideBanks", "trial", "LStrideBanks$Store;", true)
  | 2 => ("StrideBanks", "history", "LStrideBanks$History;", true)
  | 3 => ("StrideBanks", "slots", "[LStrideBanks$Store;", true)
  | 4 => ("StrideBanks", "saved", "[Z", true)
  | _ => ("StrideBanks", "pad", "LStrideBanks$Pad;", true)
def tyX5 : Nat → FieldType := fun k => match k with
  | 0 => .object "StrideBanks$Store"
  | 1 => .object "StrideBanks$Store"
  | 2 => .object "StrideBanks$History"
  | 3 => .array (.object "StrideBanks$Store")
  | 4 => .array .boolean
  | _ => .object "StrideBanks$Pad"
abbrev wsX50 : List Cond := u_ws RX5 TX5 6
theorem nmX5 : ∀ a, a < 6 → ∀ b, b < 6 → a ≠ b → (TX5 a).2.1 ≠ (TX5 b).2.1 := by decide +kernel
theorem tyX5_ok : ∀ k, k < 6 → parseFieldDescriptor (TX5 k).2.2.1 = some (tyX5 k) := by decide +kernel
abbrev cX5_init : ByteArray := prog_1_method_1_code
def yX5_init : MethodName := ⟨RX5, "<init>", "()V"⟩
abbrev cX5_set : ByteArray := prog_1_method_2_code
def yX5_set : MethodName := ⟨RX5, "set", "(II)I"⟩
abbrev cX5_add : ByteArray := prog_1_method_3_code
def yX5_add : MethodName := ⟨RX5, "add", "(III)I"⟩
abbrev cX5_drop : ByteArray := prog_1_method_5_code
def yX5_drop : MethodName := ⟨RX5, "drop", "(I)I"⟩
abbrev cX5_stride : ByteArray := prog_1_method_6_code
def yX5_stride : MethodName := ⟨RX5, "stride", "(II)I"⟩
abbrev cX5_run : ByteArray := prog_1_method_7_code
def yX5_run : MethodName := ⟨RX5, "run", "(I)I"⟩
abbrev cX5_reset : ByteArray := prog_1_method_8_code
def yX5_reset : MethodName := ⟨RX5, "reset", "()I"⟩
abbrev cX5_bankOf : ByteArray := prog_1_method_9_code
def yX5_bankOf : MethodName := ⟨RX5, "bankOf", "(I)I"⟩
abbrev cX5_stream : ByteArray := prog_1_method_10_code
def yX5_stream : MethodName := ⟨RX5, "stream", "(II)I"⟩
abbrev cX5_bank : ByteArray := prog_1_method_11_code
def yX5_bank : MethodName := ⟨RX5, "bank", "(II)I"⟩
abbrev cX5_count : ByteArray := prog_1_method_12_code
def yX5_count : MethodName := ⟨RX5, "count", "(I)I"⟩
abbrev cX5_untilDone : ByteArray := prog_1_method_13_code
def yX5_untilDone : MethodName := ⟨RX5, "untilDone", "()I"⟩
abbrev cX5_bestMap : ByteArray := prog_1_method_16_code
def yX5_bestMap : MethodName := ⟨RX5, "bestMap", "(I)I"⟩
abbrev cX5_undo : ByteArray := prog_1_method_21_code
def yX5_undo : MethodName := ⟨RX5, "undo", "()I"⟩
abbrev cX5_save : ByteArray := prog_1_method_22_code
def yX5_save : MethodName := ⟨RX5, "save", "(I)I"⟩
abbrev cX5_restore : ByteArray := prog_1_method_23_code
def yX5_restore : MethodName := ⟨RX5, "restore", "(I)I"⟩
abbrev cX5_isIn : ByteArray := prog_1_method_24_code
def yX5_isIn : MethodName := ⟨RX5, "isIn", "(III)Z"⟩
abbrev cX5_cyclesByMap : ByteArray := prog_1_method_26_code
def yX5_cyclesByMap : MethodName := ⟨RX5, "cyclesByMap", "(I)I"⟩
def RX6 : String := "StrideBanksModel"
def TX6 : u_T := fun k => match k with
  | _ => ("", "", "", false)
def tyX6 : Nat → FieldType := fun k => match k with
  | _ => .int
abbrev wsX60 : List Cond := u_ws RX6 TX6 0
theorem nmX6 : ∀ a, a < 0 → ∀ b, b < 0 → a ≠ b → (TX6 a).2.1 ≠ (TX6 b).2.1 := by decide +kernel
theorem tyX6_ok : ∀ k, k < 0 → parseFieldDescriptor (TX6 k).2.2.1 = some (tyX6 k) := by decide +kernel
def RJ6 : String := "java/lang/Integer"
def TJ6 : u_T := fun k => match k with
  | _ => ("", "", "", false)
def tyJ6 : Nat → FieldType := fun k => match k with
  | _ => .int
abbrev wsJ60 : List Cond := u_ws RJ6 TJ6 0
theorem nmJ6 : ∀ a, a < 0 → ∀ b, b < 0 → a ≠ b → (TJ6 a).2.1 ≠ (TJ6 b).2.1 := by decide +kernel
theorem tyJ6_ok : ∀ k, k < 0 → parseFieldDescriptor (TJ6 k).2.2.1 = some (tyJ6 k) := by decide +kernel
abbrev cJ6_bitCount_0f7a4 : ByteArray := prog_9_method_49_code
def yJ6_bitCount_0f7a4 : MethodName := ⟨RJ6, "bitCount", "(I)I"⟩
def RJ9 : String := "java/lang/Math"
def TJ9 : u_T := fun k => match k with
  | _ => ("", "", "", false)
def tyJ9 : Nat → FieldType := fun k => match k with
  | _ => .int
abbrev wsJ90 : List Cond := u_ws RJ9 TJ9 0
theorem nmJ9 : ∀ a, a < 0 → ∀ b, b < 0 → a ≠ b → (TJ9 a).2.1 ≠ (TJ9 b).2.1 := by decide +kernel
theorem tyJ9_ok : ∀ k, k < 0 → parseFieldDescriptor (TJ9 k).2.2.1 = some (tyJ9 k) := by decide +kernel
abbrev cJ9_max_7cf53 : ByteArray := prog_10_method_65_code
def yJ9_max_7cf53 : MethodName := ⟨RJ9, "max", "(II)I"⟩
def RJ10 : String := "java/lang/System"
def TJ10 : u_T := fun k => match k with
  | _ => ("", "", "", false)
def tyJ10 : Nat → FieldType := fun k => match k with
  | _ => .int
abbrev wsJ100 : List Cond := u_ws RJ10 TJ10 0
theorem nmJ10 : ∀ a, a < 0 → ∀ b, b < 0 → a ≠ b → (TJ10 a).2.1 ≠ (TJ10 b).2.1 := by decide +kernel
theorem tyJ10_ok : ∀ k, k < 0 → parseFieldDescriptor (TJ10 k).2.2.1 = some (tyJ10 k) := by decide +kernel
def RL : String := "StrideBanksLaw"
abbrev cL_cell : ByteArray := method_2_code
def yL_cell : MethodName := ⟨RL, "cell", "([II)I"⟩
abbrev cL_areSums : ByteArray := method_3_code
def yL_areSums : MethodName := ⟨RL, "areSums", "(LStrideBanks;)Z"⟩
abbrev cL_areBanks : ByteArray := method_4_code
def yL_areBanks : MethodName := ⟨RL, "areBanks", "(LStrideBanks;I)Z"⟩
abbrev cL_acts : ByteArray := method_5_code
def yL_acts : MethodName := ⟨RL, "acts", "(LStrideBanks;I)Z"⟩
abbrev cL_law : ByteArray := code
def yL_law : MethodName := ⟨RL, "law", "([I)Z"⟩
abbrev vwCl : List vw_C := [(RX0, TX0, 4), (RX1, TX1, 2), (RX2, TX2, 4), (RX3, TX3, 5), (RX4, TX4, 8), (RX5, TX5, 6)]
/-- the words of the tables that every call may carry, and those of nest mates and arrays -/
def TB : List Cond := lw_tbl.filter goodWord
def isNW : Cond → Bool
  | .methodLinkNest .. => true
  | .fieldLinkNest .. => true
  | .arrayOver (.object _) => true
  | _ => false
def NW : List Cond := lw_tbl.filter isNW
theorem tb_of {w : Cond} (i : Nat) (h : lw_tbl[i]? = some w) (g : goodWord w = true) : w ∈ TB := List.mem_filter.mpr ⟨List.mem_of_getElem? h, g⟩
theorem nw_of {w : Cond} (i : Nat) (h : lw_tbl[i]? = some w) (g : isNW w = true) : w ∈ NW := List.mem_filter.mpr ⟨List.mem_of_getElem? h, g⟩
theorem tb_good : GoodIn TB TB := fun w h => ⟨h, good_of_word (List.mem_filter.mp h).2⟩
set_option maxRecDepth 20000 in
theorem ws_X0_beginAnew : Cond.selects RX0 yX0_beginAnew yX0_beginAnew ∈ TB := tb_of 0 (by rfl) (by rfl)
set_option maxRecDepth 20000 in
theorem ws_X1_record : Cond.selects RX1 yX1_record yX1_record ∈ TB := tb_of 1 (by rfl) (by rfl)
set_option maxRecDepth 20000 in
theorem ws_X1_forgetOldest : Cond.selects RX1 yX1_forgetOldest yX1_forgetOldest ∈ TB := tb_of 2 (by rfl) (by rfl)
set_option maxRecDepth 20000 in
theorem ws_X3_copy : Cond.selects RX3 yX3_copy yX3_copy ∈ TB := tb_of 3 (by rfl) (by rfl)
set_option maxRecDepth 20000 in
theorem ws_X3_copySettings : Cond.selects RX3 yX3_copySettings yX3_copySettings ∈ TB := tb_of 4 (by rfl) (by rfl)
set_option maxRecDepth 20000 in
theorem ws_X4_copy : Cond.selects RX4 yX4_copy yX4_copy ∈ TB := tb_of 5 (by rfl) (by rfl)
set_option maxRecDepth 20000 in
theorem ws_X0_copy : Cond.selects RX0 yX0_copy yX0_copy ∈ TB := tb_of 6 (by rfl) (by rfl)
set_option maxRecDepth 20000 in
theorem ws_X3_passCycle : Cond.selects RX3 yX3_passCycle yX3_passCycle ∈ TB := tb_of 7 (by rfl) (by rfl)
set_option maxRecDepth 20000 in
theorem ws_X3_ask : Cond.selects RX3 yX3_ask yX3_ask ∈ TB := tb_of 8 (by rfl) (by rfl)
set_option maxRecDepth 20000 in
theorem ws_X4_nextAddress : Cond.selects RX4 yX4_nextAddress yX4_nextAddress ∈ TB := tb_of 9 (by rfl) (by rfl)
set_option maxRecDepth 20000 in
theorem ws_X3_bankAt : Cond.selects RX3 yX3_bankAt yX3_bankAt ∈ TB := tb_of 10 (by rfl) (by rfl)
set_option maxRecDepth 20000 in
theorem ws_X3_greatestPrime : Cond.selects RX3 yX3_greatestPrime yX3_greatestPrime ∈ TB := tb_of 11 (by rfl) (by rfl)
set_option maxRecDepth 20000 in
theorem ws_X4_finishRequest : Cond.selects RX4 yX4_finishRequest yX4_finishRequest ∈ TB := tb_of 12 (by rfl) (by rfl)
set_option maxRecDepth 20000 in
theorem ws_X3_beginAnew : Cond.selects RX3 yX3_beginAnew yX3_beginAnew ∈ TB := tb_of 13 (by rfl) (by rfl)
set_option maxRecDepth 20000 in
theorem ws_X3_freeBanks : Cond.selects RX3 yX3_freeBanks yX3_freeBanks ∈ TB := tb_of 14 (by rfl) (by rfl)
set_option maxRecDepth 20000 in
theorem ws_X4_beginAnew : Cond.selects RX4 yX4_beginAnew yX4_beginAnew ∈ TB := tb_of 15 (by rfl) (by rfl)
set_option maxRecDepth 20000 in
theorem ws_X3_total : Cond.selects RX3 yX3_total yX3_total ∈ TB := tb_of 16 (by rfl) (by rfl)
set_option maxRecDepth 20000 in
theorem ws_X4_tell : Cond.selects RX4 yX4_tell yX4_tell ∈ TB := tb_of 17 (by rfl) (by rfl)
set_option maxRecDepth 20000 in
theorem ws_X3_busyBanks : Cond.selects RX3 yX3_busyBanks yX3_busyBanks ∈ TB := tb_of 18 (by rfl) (by rfl)
set_option maxRecDepth 20000 in
theorem ws_X3_passAll : Cond.selects RX3 yX3_passAll yX3_passAll ∈ TB := tb_of 19 (by rfl) (by rfl)
set_option maxRecDepth 20000 in
theorem ws_X5_cyclesByMap : Cond.selects RX5 yX5_cyclesByMap yX5_cyclesByMap ∈ TB := tb_of 20 (by rfl) (by rfl)
set_option maxRecDepth 20000 in
theorem ws_X1_takeBack : Cond.selects RX1 yX1_takeBack yX1_takeBack ∈ TB := tb_of 21 (by rfl) (by rfl)
set_option maxRecDepth 20000 in
theorem ws_X3_has : Cond.selects RX3 yX3_has yX3_has ∈ TB := tb_of 22 (by rfl) (by rfl)
set_option maxRecDepth 20000 in
theorem ws_X3_banksMet : Cond.selects RX3 yX3_banksMet yX3_banksMet ∈ TB := tb_of 23 (by rfl) (by rfl)
set_option maxRecDepth 20000 in
theorem ws_X3_wordsLeftIn : Cond.selects RX3 yX3_wordsLeftIn yX3_wordsLeftIn ∈ TB := tb_of 24 (by rfl) (by rfl)
set_option maxRecDepth 20000 in
theorem ws_X3_append : Cond.selects RX3 yX3_append yX3_append ∈ TB := tb_of 25 (by rfl) (by rfl)
set_option maxRecDepth 20000 in
theorem ws_X3_remove : Cond.selects RX3 yX3_remove yX3_remove ∈ TB := tb_of 26 (by rfl) (by rfl)
set_option maxRecDepth 20000 in
theorem w0_L : Cond.initialized RL ∈ TB := tb_of 27 (by rfl) (by rfl)
set_option maxRecDepth 20000 in
theorem w0_X5 : Cond.initialized RX5 ∈ TB := tb_of 28 (by rfl) (by rfl)
set_option maxRecDepth 20000 in
theorem w0_X3 : Cond.initialized RX3 ∈ TB := tb_of 29 (by rfl) (by rfl)
set_option maxRecDepth 20000 in
theorem w0_J10 : Cond.initialized RJ10 ∈ TB := tb_of 30 (by rfl) (by rfl)
set_option maxRecDepth 20000 in
theorem w0_X4 : Cond.initialized RX4 ∈ TB := tb_of 31 (by rfl) (by rfl)
set_option maxRecDepth 20000 in
theorem w0_X0 : Cond.initialized RX0 ∈ TB := tb_of 32 (by rfl) (by rfl)
set_option maxRecDepth 20000 in
theorem w0_X1 : Cond.initialized RX1 ∈ TB := tb_of 33 (by rfl) (by rfl)
set_option maxRecDepth 20000 in
theorem w0_X2 : Cond.initialized RX2 ∈ TB := tb_of 34 (by rfl) (by rfl)
set_option maxRecDepth 20000 in
theorem w0_J6 : Cond.initialized RJ6 ∈ TB := tb_of 35 (by rfl) (by rfl)
set_option maxRecDepth 20000 in
theorem w0_J9 : Cond.initialized RJ9 ∈ TB := tb_of 36 (by rfl) (by rfl)
set_option maxRecDepth 20000 in
theorem wk_L_10 : Cond.classLink RL 10 RX5 ∈ TB := tb_of 37 (by rfl) (by rfl)
set_option maxRecDepth 20000 in
theorem w1_X5 : Cond.instantiable RX5 6 ∈ TB := tb_of 38 (by rfl) (by rfl)
set_option maxRecDepth 20000 in
theorem wm_L_51 : Cond.methodLink RL 51 yX5_init ∈ TB := tb_of 39 (by rfl) (by rfl)
set_option maxRecDepth 20000 in
theorem wi_X5_init : Cond.instanceMethod yX5_init ∈ TB := tb_of 40 (by rfl) (by rfl)
set_option maxRecDepth 20000 in
theorem wc_X5_init : Cond.code yX5_init cX5_init 2 none ∈ TB := tb_of 41 (by rfl) (by rfl)
set_option maxRecDepth 20000 in
theorem wm_X5_1 : Cond.methodLink RX5 1 ⟨"java/lang/Object", "<init>", "()V"⟩ ∈ TB := tb_of 42 (by rfl) (by rfl)
set_option maxRecDepth 20000 in
theorem wi_java_lang_Object_init : Cond.instanceMethod ⟨"java/lang/Object", "<init>", "()V"⟩ ∈ TB := tb_of 43 (by rfl) (by rfl)
set_option maxRecDepth 20000 in
theorem wc_java_lang_Object : Cond.code ⟨"java/lang/Object", "<init>", "()V"⟩ object_method_1_code 1 none ∈ TB := tb_of 44 (by rfl) (by rfl)
set_option maxRecDepth 20000 in
theorem wk_X5_7 : Cond.classLink RX5 7 RX3 ∈ TB := tb_of 45 (by rfl) (by rfl)
set_option maxRecDepth 20000 in
theorem w1_X3 : Cond.instantiable RX3 5 ∈ TB := tb_of 46 (by rfl) (by rfl)
set_option maxRecDepth 20000 in
theorem wm_X5_9 : Cond.methodLinkNest RX5 9 yX3_init "StrideBanks" ∈ NW := nw_of 47 (by rfl) (by rfl)
set_option maxRecDepth 20000 in
theorem wi_X3_init : Cond.instanceMethod yX3_init ∈ TB := tb_of 48 (by rfl) (by rfl)
set_option maxRecDepth 20000 in
theorem wc_X3_init : Cond.code yX3_init cX3_init 2 none ∈ TB := tb_of 49 (by rfl) (by rfl)
set_option maxRecDepth 20000 in
theorem wm_X3_3 : Cond.methodLink RX3 3 ⟨"java/lang/Object", "<init>", "()V"⟩ ∈ TB := tb_of 50 (by rfl) (by rfl)
set_option maxRecDepth 20000 in
theorem wk_X3_15 : Cond.classLink RX3 15 RX4 ∈ TB := tb_of 51 (by rfl) (by rfl)
set_option maxRecDepth 20000 in
theorem wo_X4 : Cond.arrayOver (.object RX4) ∈ NW := nw_of 52 (by rfl) (by rfl)
set_option maxRecDepth 20000 in
theorem wk_X3_21 : Cond.classLink RX3 21 RX0 ∈ TB := tb_of 53 (by rfl) (by rfl)
set_option maxRecDepth 20000 in
theorem wo_X0 : Cond.arrayOver (.object RX0) ∈ NW := nw_of 54 (by rfl) (by rfl)
set_option maxRecDepth 20000 in
theorem wf_X3_27 : Cond.fieldLinkNest RX3 27 "StrideBanks" "FIRST_SETTING" "[I" "StrideBanks" ∈ NW := nw_of 55 (by rfl) (by rfl)
set_option maxRecDepth 20000 in
theorem wl_FIRST_SETTING : Cond.laysStatic "StrideBanks" "FIRST_SETTING" "[I" ∈ lw_tbl := List.mem_of_getElem? (i := 56) (by rfl)
set_option maxRecDepth 20000 in
theorem wm_X3_30 : Cond.methodLink RX3 30 ⟨"java/lang/System", "arraycopy", "(Ljava/lang/Object;ILjava/lang/Object;II)V"⟩ ∈ TB := tb_of 57 (by rfl) (by rfl)
set_option maxRecDepth 20000 in
theorem wt_java_lang_System_arraycopy : Cond.static ⟨"java/lang/System", "arraycopy", "(Ljava/lang/Object;ILjava/lang/Object;II)V"⟩ ∈ TB := tb_of 58 (by rfl) (by rfl)
set_option maxRecDepth 20000 in
theorem wn_java_lang_System_arraycopy : Cond.native ⟨"java/lang/System", "arraycopy", "(Ljava/lang/Object;ILjava/lang/Object;II)V"⟩ ∈ TB := tb_of 59 (by rfl) (by rfl)
set_option maxRecDepth 20000 in
theorem w1_X4 : Cond.instantiable RX4 8 ∈ TB := tb_of 60 (by rfl) (by rfl)
set_option maxRecDepth 20000 in
theorem wm_X3_36 : Cond.methodLinkNest RX3 36 yX4_init "StrideBanks" ∈ NW := nw_of 61 (by rfl) (by rfl)
set_option maxRecDepth 20000 in
theorem wi_X4_init : Cond.instanceMethod yX4_init ∈ TB := tb_of 62 (by rfl) (by rfl)
set_option maxRecDepth 20000 in
theorem wc_X4_init : Cond.code yX4_init cX4_init 1 none ∈ TB := tb_of 63 (by rfl) (by rfl)
set_option maxRecDepth 20000 in
theorem wm_X4_3 : Cond.methodLink RX4 3 ⟨"java/lang/Object", "<init>", "()V"⟩ ∈ TB := tb_of 64 (by rfl) (by rfl)
set_option maxRecDepth 20000 in
theorem wf_X4_18 : Cond.fieldLink RX4 18 "StrideBanks$StreamRow" "start" "I" ∈ TB := tb_of 65 (by rfl) (by rfl)
set_option maxRecDepth 20000 in
theorem wf_X3_63 : Cond.fieldLinkNest RX3 63 "StrideBanks$StreamRow" "start" "I" "StrideBanks" ∈ NW := nw_of 66 (by rfl) (by rfl)
set_option maxRecDepth 20000 in
theorem wf_X4_33 : Cond.fieldLink RX4 33 "StrideBanks$StreamRow" "stride" "I" ∈ TB := tb_of 67 (by rfl) (by rfl)
set_option maxRecDepth 20000 in
theorem wf_X5_101 : Cond.fieldLinkNest RX5 101 "StrideBanks$StreamRow" "stride" "I" "StrideBanks" ∈ NW := nw_of 68 (by rfl) (by rfl)
set_option maxRecDepth 20000 in
theorem wf_X3_66 : Cond.fieldLinkNest RX3 66 "StrideBanks$StreamRow" "stride" "I" "StrideBanks" ∈ NW := nw_of 69 (by rfl) (by rfl)
set_option maxRecDepth 20000 in
theorem wf_X4_9 : Cond.fieldLink RX4 9 "StrideBanks$StreamRow" "length" "I" ∈ TB := tb_of 70 (by rfl) (by rfl)
set_option maxRecDepth 20000 in
theorem wf_X3_69 : Cond.fieldLinkNest RX3 69 "StrideBanks$StreamRow" "length" "I" "StrideBanks" ∈ NW := nw_of 71 (by rfl) (by rfl)
set_option maxRecDepth 20000 in
theorem wf_X4_15 : Cond.fieldLink RX4 15 "StrideBanks$StreamRow" "left" "I" ∈ TB := tb_of 72 (by rfl) (by rfl)
set_option maxRecDepth 20000 in
theorem wf_X5_92 : Cond.fieldLinkNest RX5 92 "StrideBanks$StreamRow" "left" "I" "StrideBanks" ∈ NW := nw_of 73 (by rfl) (by rfl)
set_option maxRecDepth 20000 in
theorem wf_X3_90 : Cond.fieldLinkNest RX3 90 "StrideBanks$StreamRow" "left" "I" "StrideBanks" ∈ NW := nw_of 74 (by rfl) (by rfl)
set_option maxRecDepth 20000 in
theorem wf_X4_21 : Cond.fieldLink RX4 21 "StrideBanks$StreamRow" "latest" "I" ∈ TB := tb_of 75 (by rfl) (by rfl)
set_option maxRecDepth 20000 in
theorem wf_X4_24 : Cond.fieldLink RX4 24 "StrideBanks$StreamRow" "stalls" "I" ∈ TB := tb_of 76 (by rfl) (by rfl)
set_option maxRecDepth 20000 in
theorem wf_X3_105 : Cond.fieldLinkNest RX3 105 "StrideBanks$StreamRow" "stalls" "I" "StrideBanks" ∈ NW := nw_of 77 (by rfl) (by rfl)
set_option maxRecDepth 20000 in
theorem wf_X4_27 : Cond.fieldLink RX4 27 "StrideBanks$StreamRow" "clashes" "I" ∈ TB := tb_of 78 (by rfl) (by rfl)
set_option maxRecDepth 20000 in
theorem wf_X3_106 : Cond.fieldLinkNest RX3 106 "StrideBanks$StreamRow" "clashes" "I" "StrideBanks" ∈ NW := nw_of 79 (by rfl) (by rfl)
set_option maxRecDepth 20000 in
theorem wf_X4_30 : Cond.fieldLink RX4 30 "StrideBanks$StreamRow" "ended" "I" ∈ TB := tb_of 80 (by rfl) (by rfl)
set_option maxRecDepth 20000 in
theorem wa_int : Cond.arrayClass .int ∈ TB := tb_of 98 (by rfl) (by rfl)
set_option maxRecDepth 20000 in
theorem w1_X0 : Cond.instantiable RX0 4 ∈ TB := tb_of 99 (by rfl) (by rfl)
set_option maxRecDepth 20000 in
theorem wm_X3_37 : Cond.methodLinkNest RX3 37 yX0_init "StrideBanks" ∈ NW := nw_of 100 (by rfl) (by rfl)
set_option maxRecDepth 20000 in
theorem wi_X0_init : Cond.instanceMethod yX0_init ∈ TB := tb_of 101 (by rfl) (by rfl)
set_option maxRecDepth 20000 in
theorem wc_X0_init : Cond.code yX0_init cX0_init 1 none ∈ TB := tb_of 102 (by rfl) (by rfl)
set_option maxRecDepth 20000 in
theorem wm_X0_3 : Cond.methodLink RX0 3 ⟨"java/lang/Object", "<init>", "()V"⟩ ∈ TB := tb_of 103 (by rfl) (by rfl)
set_option maxRecDepth 20000 in
theorem wf_X0_9 : Cond.fieldLink RX0 9 "StrideBanks$BankRow" "freeFrom" "I" ∈ TB := tb_of 104 (by rfl) (by rfl)
set_option maxRecDepth 20000 in
theorem wf_X5_129 : Cond.fieldLinkNest RX5 129 "StrideBanks$BankRow" "freeFrom" "I" "StrideBanks" ∈ NW := nw_of 105 (by rfl) (by rfl)
set_option maxRecDepth 20000 in
theorem wf_X3_99 : Cond.fieldLinkNest RX3 99 "StrideBanks$BankRow" "freeFrom" "I" "StrideBanks" ∈ NW := nw_of 106 (by rfl) (by rfl)
set_option maxRecDepth 20000 in
theorem wf_X0_15 : Cond.fieldLink RX0 15 "StrideBanks$BankRow" "maker" "I" ∈ TB := tb_of 107 (by rfl) (by rfl)
set_option maxRecDepth 20000 in
theorem wf_X3_76 : Cond.fieldLinkNest RX3 76 "StrideBanks$BankRow" "maker" "I" "StrideBanks" ∈ NW := nw_of 108 (by rfl) (by rfl)
set_option maxRecDepth 20000 in
theorem wf_X0_18 : Cond.fieldLink RX0 18 "StrideBanks$BankRow" "requests" "I" ∈ TB := tb_of 109 (by rfl) (by rfl)
set_option maxRecDepth 20000 in
theorem wf_X5_139 : Cond.fieldLinkNest RX5 139 "StrideBanks$BankRow" "requests" "I" "StrideBanks" ∈ NW := nw_of 110 (by rfl) (by rfl)
set_option maxRecDepth 20000 in
theorem wf_X3_109 : Cond.fieldLinkNest RX3 109 "StrideBanks$BankRow" "requests" "I" "StrideBanks" ∈ NW := nw_of 111 (by rfl) (by rfl)
set_option maxRecDepth 20000 in
theorem wf_X0_21 : Cond.fieldLink RX0 21 "StrideBanks$BankRow" "stalls" "I" ∈ TB := tb_of 112 (by rfl) (by rfl)
set_option maxRecDepth 20000 in
theorem wf_X5_142 : Cond.fieldLinkNest RX5 142 "StrideBanks$BankRow" "stalls" "I" "StrideBanks" ∈ NW := nw_of 113 (by rfl) (by rfl)
set_option maxRecDepth 20000 in
theorem wf_X3_102 : Cond.fieldLinkNest RX3 102 "StrideBanks$BankRow" "stalls" "I" "StrideBanks" ∈ NW := nw_of 114 (by rfl) (by rfl)
set_option maxRecDepth 20000 in
theorem wm_X3_38 : Cond.methodLinkNest RX3 38 yX0_beginAnew "StrideBanks" ∈ NW := nw_of 124 (by rfl) (by rfl)
set_option maxRecDepth 20000 in
theorem wi_X0_beginAnew : Cond.instanceMethod yX0_beginAnew ∈ TB := tb_of 126 (by rfl) (by rfl)
set_option maxRecDepth 20000 in
theorem wc_X0_beginAnew : Cond.code yX0_beginAnew cX0_beginAnew 1 none ∈ TB := tb_of 127 (by rfl) (by rfl)
set_option maxRecDepth 20000 in
theorem wf_X3_9 : Cond.fieldLink RX3 9 "StrideBanks$Store" "settings" "[I" ∈ TB := tb_of 128 (by rfl) (by rfl)
set_option maxRecDepth 20000 in
theorem wf_X5_56 : Cond.fieldLinkNest RX5 56 "StrideBanks$Store" "settings" "[I" "StrideBanks" ∈ NW := nw_of 129 (by rfl) (by rfl)
set_option maxRecDepth 20000 in
theorem wf_X3_17 : Cond.fieldLink RX3 17 "StrideBanks$Store" "streams" "[LStrideBanks$StreamRow;" ∈ TB := tb_of 130 (by rfl) (by rfl)
set_option maxRecDepth 20000 in
theorem wf_X5_88 : Cond.fieldLinkNest RX5 88 "StrideBanks$Store" "streams" "[LStrideBanks$StreamRow;" "StrideBanks" ∈ NW := nw_of 131 (by rfl) (by rfl)
set_option maxRecDepth 20000 in
theorem wf_X3_23 : Cond.fieldLink RX3 23 "StrideBanks$Store" "banks" "[LStrideBanks$BankRow;" ∈ TB := tb_of 132 (by rfl) (by rfl)
set_option maxRecDepth 20000 in
theorem wf_X5_125 : Cond.fieldLinkNest RX5 125 "StrideBanks$Store" "banks" "[LStrideBanks$BankRow;" "StrideBanks" ∈ NW := nw_of 133 (by rfl) (by rfl)
set_option maxRecDepth 20000 in
theorem wf_X5_62 : Cond.fieldLinkNest RX5 62 "StrideBanks$Store" "streamCount" "I" "StrideBanks" ∈ NW := nw_of 134 (by rfl) (by rfl)
set_option maxRecDepth 20000 in
theorem wf_X3_52 : Cond.fieldLink RX3 52 "StrideBanks$Store" "streamCount" "I" ∈ TB := tb_of 135 (by rfl) (by rfl)
set_option maxRecDepth 20000 in
theorem wf_X3_56 : Cond.fieldLink RX3 56 "StrideBanks$Store" "cycle" "I" ∈ TB := tb_of 136 (by rfl) (by rfl)
set_option maxRecDepth 20000 in
theorem wf_X5_104 : Cond.fieldLinkNest RX5 104 "StrideBanks$Store" "cycle" "I" "StrideBanks" ∈ NW := nw_of 137 (by rfl) (by rfl)
set_option maxRecDepth 20000 in
theorem wk_X5_19 : Cond.classLink RX5 19 RX1 ∈ TB := tb_of 149 (by rfl) (by rfl)
set_option maxRecDepth 20000 in
theorem w1_X1 : Cond.instantiable RX1 2 ∈ TB := tb_of 150 (by rfl) (by rfl)
set_option maxRecDepth 20000 in
theorem wm_X5_21 : Cond.methodLinkNest RX5 21 yX1_init "StrideBanks" ∈ NW := nw_of 151 (by rfl) (by rfl)
set_option maxRecDepth 20000 in
theorem wi_X1_init : Cond.instanceMethod yX1_init ∈ TB := tb_of 152 (by rfl) (by rfl)
set_option maxRecDepth 20000 in
theorem wc_X1_init : Cond.code yX1_init cX1_init 2 none ∈ TB := tb_of 153 (by rfl) (by rfl)
set_option maxRecDepth 20000 in
theorem wm_X1_3 : Cond.methodLink RX1 3 ⟨"java/lang/Object", "<init>", "()V"⟩ ∈ TB := tb_of 154 (by rfl) (by rfl)
set_option maxRecDepth 20000 in
theorem wk_X1_9 : Cond.classLink RX1 9 RX3 ∈ TB := tb_of 155 (by rfl) (by rfl)
set_option maxRecDepth 20000 in
theorem wo_X3 : Cond.arrayOver (.object RX3) ∈ NW := nw_of 156 (by rfl) (by rfl)
set_option maxRecDepth 20000 in
theorem wm_X1_17 : Cond.methodLinkNest RX1 17 yX3_init "StrideBanks" ∈ NW := nw_of 157 (by rfl) (by rfl)
set_option maxRecDepth 20000 in
theorem wf_X1_11 : Cond.fieldLink RX1 11 "StrideBanks$History" "states" "[LStrideBanks$Store;" ∈ TB := tb_of 158 (by rfl) (by rfl)
set_option maxRecDepth 20000 in
theorem wf_X1_18 : Cond.fieldLink RX1 18 "StrideBanks$History" "size" "I" ∈ TB := tb_of 159 (by rfl) (by rfl)
set_option maxRecDepth 20000 in
theorem wf_X5_154 : Cond.fieldLinkNest RX5 154 "StrideBanks$History" "size" "I" "StrideBanks" ∈ NW := nw_of 160 (by rfl) (by rfl)
set_option maxRecDepth 20000 in
theorem wk_X5_34 : Cond.classLink RX5 34 RX2 ∈ TB := tb_of 166 (by rfl) (by rfl)
set_option maxRecDepth 20000 in
theorem w1_X2 : Cond.instantiable RX2 4 ∈ TB := tb_of 167 (by rfl) (by rfl)
set_option maxRecDepth 20000 in
theorem wm_X5_36 : Cond.methodLinkNest RX5 36 yX2_init "StrideBanks" ∈ NW := nw_of 168 (by rfl) (by rfl)
set_option maxRecDepth 20000 in
theorem wi_X2_init : Cond.instanceMethod yX2_init ∈ TB := tb_of 169 (by rfl) (by rfl)
set_option maxRecDepth 20000 in
theorem wc_X2_init : Cond.code yX2_init cX2_init 1 none ∈ TB := tb_of 170 (by rfl) (by rfl)
set_option maxRecDepth 20000 in
theorem wm_X2_3 : Cond.methodLink RX2 3 ⟨"java/lang/Object", "<init>", "()V"⟩ ∈ TB := tb_of 171 (by rfl) (by rfl)
set_option maxRecDepth 20000 in
theorem wf_X2_9 : Cond.fieldLink RX2 9 "StrideBanks$Pad" "text" "[C" ∈ TB := tb_of 172 (by rfl) (by rfl)
set_option maxRecDepth 20000 in
theorem wf_X5_81 : Cond.fieldLinkNest RX5 81 "StrideBanks$Pad" "length" "I" "StrideBanks" ∈ NW := nw_of 173 (by rfl) (by rfl)
set_option maxRecDepth 20000 in
theorem wf_X2_15 : Cond.fieldLink RX2 15 "StrideBanks$Pad" "numbers" "[I" ∈ TB := tb_of 174 (by rfl) (by rfl)
set_option maxRecDepth 20000 in
theorem wa_boolean : Cond.arrayClass .boolean ∈ TB := tb_of 184 (by rfl) (by rfl)
set_option maxRecDepth 20000 in
theorem wa_char : Cond.arrayClass .char ∈ TB := tb_of 185 (by rfl) (by rfl)
set_option maxRecDepth 20000 in
theorem wf_X5_10 : Cond.fieldLink RX5 10 "StrideBanks" "now" "LStrideBanks$Store;" ∈ TB := tb_of 186 (by rfl) (by rfl)
set_option maxRecDepth 20000 in
theorem wf_X5_16 : Cond.fieldLink RX5 16 "StrideBanks" "trial" "LStrideBanks$Store;" ∈ TB := tb_of 187 (by rfl) (by rfl)
set_option maxRecDepth 20000 in
theorem wf_X5_22 : Cond.fieldLink RX5 22 "StrideBanks" "history" "LStrideBanks$History;" ∈ TB := tb_of 188 (by rfl) (by rfl)
set_option maxRecDepth 20000 in
theorem wf_X5_26 : Cond.fieldLink RX5 26 "StrideBanks" "slots" "[LStrideBanks$Store;" ∈ TB := tb_of 189 (by rfl) (by rfl)
set_option maxRecDepth 20000 in
theorem wf_X5_30 : Cond.fieldLink RX5 30 "StrideBanks" "saved" "[Z" ∈ TB := tb_of 190 (by rfl) (by rfl)
set_option maxRecDepth 20000 in
theorem wf_X5_37 : Cond.fieldLink RX5 37 "StrideBanks" "pad" "LStrideBanks$Pad;" ∈ TB := tb_of 191 (by rfl) (by rfl)
set_option maxRecDepth 20000 in
theorem wm_L_29 : Cond.methodLink RL 29 yX5_run ∈ TB := tb_of 205 (by rfl) (by rfl)
set_option maxRecDepth 20000 in
theorem wi_X5_run : Cond.instanceMethod yX5_run ∈ TB := tb_of 206 (by rfl) (by rfl)
set_option maxRecDepth 20000 in
theorem ws_X5_run : Cond.selects RX5 yX5_run yX5_run ∈ TB := tb_of 207 (by rfl) (by rfl)
set_option maxRecDepth 20000 in
theorem wc_X5_run : Cond.code yX5_run cX5_run 4 (some .int) ∈ TB := tb_of 208 (by rfl) (by rfl)
set_option maxRecDepth 20000 in
theorem wm_X5_41 : Cond.methodLink RX5 41 yX5_isIn ∈ TB := tb_of 209 (by rfl) (by rfl)
set_option maxRecDepth 20000 in
theorem wt_X5_isIn : Cond.static yX5_isIn ∈ TB := tb_of 210 (by rfl) (by rfl)
set_option maxRecDepth 20000 in
theorem wc_X5_isIn : Cond.code yX5_isIn cX5_isIn 3 (some .boolean) ∈ TB := tb_of 211 (by rfl) (by rfl)
set_option maxRecDepth 20000 in
theorem wv_X5_107 : Cond.constant RX5 107 (99999) ∈ TB := tb_of 212 (by rfl) (by rfl)
set_option maxRecDepth 20000 in
theorem wm_X5_52 : Cond.methodLinkNest RX5 52 yX1_record "StrideBanks" ∈ NW := nw_of 213 (by rfl) (by rfl)
set_option maxRecDepth 20000 in
theorem wi_X1_record : Cond.instanceMethod yX1_record ∈ TB := tb_of 215 (by rfl) (by rfl)
set_option maxRecDepth 20000 in
theorem wc_X1_record : Cond.code yX1_record cX1_record 2 none ∈ TB := tb_of 216 (by rfl) (by rfl)
set_option maxRecDepth 20000 in
theorem wm_X1_22 : Cond.methodLink RX1 22 yX1_forgetOldest ∈ TB := tb_of 217 (by rfl) (by rfl)
set_option maxRecDepth 20000 in
theorem wi_X1_forgetOldest : Cond.instanceMethod yX1_forgetOldest ∈ TB := tb_of 219 (by rfl) (by rfl)
set_option maxRecDepth 20000 in
theorem wc_X1_forgetOldest : Cond.code yX1_forgetOldest cX1_forgetOldest 3 none ∈ TB := tb_of 220 (by rfl) (by rfl)
set_option maxRecDepth 20000 in
theorem wm_X1_25 : Cond.methodLinkNest RX1 25 yX3_copy "StrideBanks" ∈ NW := nw_of 221 (by rfl) (by rfl)
set_option maxRecDepth 20000 in
theorem wi_X3_copy : Cond.instanceMethod yX3_copy ∈ TB := tb_of 223 (by rfl) (by rfl)
set_option maxRecDepth 20000 in
theorem wc_X3_copy : Cond.code yX3_copy cX3_copy 3 none ∈ TB := tb_of 224 (by rfl) (by rfl)
set_option maxRecDepth 20000 in
theorem wm_X3_41 : Cond.methodLink RX3 41 yX3_copySettings ∈ TB := tb_of 225 (by rfl) (by rfl)
set_option maxRecDepth 20000 in
theorem wi_X3_copySettings : Cond.instanceMethod yX3_copySettings ∈ TB := tb_of 227 (by rfl) (by rfl)
set_option maxRecDepth 20000 in
theorem wc_X3_copySettings : Cond.code yX3_copySettings cX3_copySettings 2 none ∈ TB := tb_of 228 (by rfl) (by rfl)
set_option maxRecDepth 20000 in
theorem wm_X3_45 : Cond.methodLinkNest RX3 45 yX4_copy "StrideBanks" ∈ NW := nw_of 229 (by rfl) (by rfl)
set_option maxRecDepth 20000 in
theorem wi_X4_copy : Cond.instanceMethod yX4_copy ∈ TB := tb_of 231 (by rfl) (by rfl)
set_option maxRecDepth 20000 in
theorem wc_X4_copy : Cond.code yX4_copy cX4_copy 2 none ∈ TB := tb_of 232 (by rfl) (by rfl)
set_option maxRecDepth 20000 in
theorem wm_X3_49 : Cond.methodLinkNest RX3 49 yX0_copy "StrideBanks" ∈ NW := nw_of 233 (by rfl) (by rfl)
set_option maxRecDepth 20000 in
theorem wi_X0_copy : Cond.instanceMethod yX0_copy ∈ TB := tb_of 235 (by rfl) (by rfl)
set_option maxRecDepth 20000 in
theorem wc_X0_copy : Cond.code yX0_copy cX0_copy 2 none ∈ TB := tb_of 236 (by rfl) (by rfl)
set_option maxRecDepth 20000 in
theorem wm_X5_108 : Cond.methodLinkNest RX5 108 yX3_passCycle "StrideBanks" ∈ NW := nw_of 237 (by rfl) (by rfl)
set_option maxRecDepth 20000 in
theorem wi_X3_passCycle : Cond.instanceMethod yX3_passCycle ∈ TB := tb_of 239 (by rfl) (by rfl)
set_option maxRecDepth 20000 in
theorem wc_X3_passCycle : Cond.code yX3_passCycle cX3_passCycle 4 (some .int) ∈ TB := tb_of 240 (by rfl) (by rfl)
set_option maxRecDepth 20000 in
theorem wm_X3_86 : Cond.methodLink RX3 86 yX3_ask ∈ TB := tb_of 241 (by rfl) (by rfl)
set_option maxRecDepth 20000 in
theorem wi_X3_ask : Cond.instanceMethod yX3_ask ∈ TB := tb_of 243 (by rfl) (by rfl)
set_option maxRecDepth 20000 in
theorem wc_X3_ask : Cond.code yX3_ask cX3_ask 5 (some .int) ∈ TB := tb_of 244 (by rfl) (by rfl)
set_option maxRecDepth 20000 in
theorem wm_X3_93 : Cond.methodLinkNest RX3 93 yX4_nextAddress "StrideBanks" ∈ NW := nw_of 245 (by rfl) (by rfl)
set_option maxRecDepth 20000 in
theorem wi_X4_nextAddress : Cond.instanceMethod yX4_nextAddress ∈ TB := tb_of 247 (by rfl) (by rfl)
set_option maxRecDepth 20000 in
theorem wc_X4_nextAddress : Cond.code yX4_nextAddress cX4_nextAddress 1 (some .int) ∈ TB := tb_of 248 (by rfl) (by rfl)
set_option maxRecDepth 20000 in
theorem wm_X3_96 : Cond.methodLink RX3 96 yX3_bankAt ∈ TB := tb_of 249 (by rfl) (by rfl)
set_option maxRecDepth 20000 in
theorem wi_X3_bankAt : Cond.instanceMethod yX3_bankAt ∈ TB := tb_of 251 (by rfl) (by rfl)
set_option maxRecDepth 20000 in
theorem wc_X3_bankAt : Cond.code yX3_bankAt cX3_bankAt 4 (some .int) ∈ TB := tb_of 252 (by rfl) (by rfl)
set_option maxRecDepth 20000 in
theorem wm_X3_82 : Cond.methodLink RX3 82 yX3_greatestPrime ∈ TB := tb_of 253 (by rfl) (by rfl)
set_option maxRecDepth 20000 in
theorem wi_X3_greatestPrime : Cond.instanceMethod yX3_greatestPrime ∈ TB := tb_of 255 (by rfl) (by rfl)
set_option maxRecDepth 20000 in
theorem wc_X3_greatestPrime : Cond.code yX3_greatestPrime cX3_greatestPrime 1 (some .int) ∈ TB := tb_of 256 (by rfl) (by rfl)
set_option maxRecDepth 20000 in
theorem wf_X3_79 : Cond.fieldLinkNest RX3 79 "StrideBanks" "GREATEST_PRIME_TO" "[I" "StrideBanks" ∈ NW := nw_of 257 (by rfl) (by rfl)
set_option maxRecDepth 20000 in
theorem wl_GREATEST_PRIME_TO : Cond.laysStatic "StrideBanks" "GREATEST_PRIME_TO" "[I" ∈ lw_tbl := List.mem_of_getElem? (i := 258) (by rfl)
set_option maxRecDepth 20000 in
theorem wm_X3_112 : Cond.methodLinkNest RX3 112 yX4_finishRequest "StrideBanks" ∈ NW := nw_of 259 (by rfl) (by rfl)
set_option maxRecDepth 20000 in
theorem wi_X4_finishRequest : Cond.instanceMethod yX4_finishRequest ∈ TB := tb_of 261 (by rfl) (by rfl)
set_option maxRecDepth 20000 in
theorem wc_X4_finishRequest : Cond.code yX4_finishRequest cX4_finishRequest 3 none ∈ TB := tb_of 262 (by rfl) (by rfl)
set_option maxRecDepth 20000 in
theorem wm_L_48 : Cond.methodLink RL 48 yX5_reset ∈ TB := tb_of 263 (by rfl) (by rfl)
set_option maxRecDepth 20000 in
theorem wi_X5_reset : Cond.instanceMethod yX5_reset ∈ TB := tb_of 264 (by rfl) (by rfl)
set_option maxRecDepth 20000 in
theorem ws_X5_reset : Cond.selects RX5 yX5_reset yX5_reset ∈ TB := tb_of 265 (by rfl) (by rfl)
set_option maxRecDepth 20000 in
theorem wc_X5_reset : Cond.code yX5_reset cX5_reset 1 (some .int) ∈ TB := tb_of 266 (by rfl) (by rfl)
set_option maxRecDepth 20000 in
theorem wm_X5_59 : Cond.methodLinkNest RX5 59 yX3_beginAnew "StrideBanks" ∈ NW := nw_of 267 (by rfl) (by rfl)
set_option maxRecDepth 20000 in
theorem wi_X3_beginAnew : Cond.instanceMethod yX3_beginAnew ∈ TB := tb_of 269 (by rfl) (by rfl)
set_option maxRecDepth 20000 in
theorem wc_X3_beginAnew : Cond.code yX3_beginAnew cX3_beginAnew 2 none ∈ TB := tb_of 270 (by rfl) (by rfl)
set_option maxRecDepth 20000 in
theorem wm_X3_59 : Cond.methodLink RX3 59 yX3_freeBanks ∈ TB := tb_of 271 (by rfl) (by rfl)
set_option maxRecDepth 20000 in
theorem wi_X3_freeBanks : Cond.instanceMethod yX3_freeBanks ∈ TB := tb_of 273 (by rfl) (by rfl)
set_option maxRecDepth 20000 in
theorem wc_X3_freeBanks : Cond.code yX3_freeBanks cX3_freeBanks 2 none ∈ TB := tb_of 274 (by rfl) (by rfl)
set_option maxRecDepth 20000 in
theorem wm_X3_62 : Cond.methodLinkNest RX3 62 yX4_beginAnew "StrideBanks" ∈ NW := nw_of 275 (by rfl) (by rfl)
set_option maxRecDepth 20000 in
theorem wi_X4_beginAnew : Cond.instanceMethod yX4_beginAnew ∈ TB := tb_of 277 (by rfl) (by rfl)
set_option maxRecDepth 20000 in
theorem wc_X4_beginAnew : Cond.code yX4_beginAnew cX4_beginAnew 1 none ∈ TB := tb_of 278 (by rfl) (by rfl)
set_option maxRecDepth 20000 in
theorem wm_X5_111 : Cond.methodLinkNest RX5 111 yX3_total "StrideBanks" ∈ NW := nw_of 279 (by rfl) (by rfl)
set_option maxRecDepth 20000 in
theorem wi_X3_total : Cond.instanceMethod yX3_total ∈ TB := tb_of 281 (by rfl) (by rfl)
set_option maxRecDepth 20000 in
theorem wc_X3_total : Cond.code yX3_total cX3_total 4 (some .int) ∈ TB := tb_of 282 (by rfl) (by rfl)
set_option maxRecDepth 20000 in
theorem wm_X3_134 : Cond.methodLinkNest RX3 134 yX4_tell "StrideBanks" ∈ NW := nw_of 283 (by rfl) (by rfl)
set_option maxRecDepth 20000 in
theorem wi_X4_tell : Cond.instanceMethod yX4_tell ∈ TB := tb_of 285 (by rfl) (by rfl)
set_option maxRecDepth 20000 in
theorem wc_X4_tell : Cond.code yX4_tell cX4_tell 2 (some .int) ∈ TB := tb_of 286 (by rfl) (by rfl)
set_option maxRecDepth 20000 in
theorem wm_X4_36 : Cond.methodLink RX4 36 yX4_nextAddress ∈ TB := tb_of 287 (by rfl) (by rfl)
set_option maxRecDepth 20000 in
theorem wm_L_9 : Cond.methodLink RL 9 yX5_count ∈ TB := tb_of 288 (by rfl) (by rfl)
set_option maxRecDepth 20000 in
theorem wi_X5_count : Cond.instanceMethod yX5_count ∈ TB := tb_of 289 (by rfl) (by rfl)
set_option maxRecDepth 20000 in
theorem ws_X5_count : Cond.selects RX5 yX5_count yX5_count ∈ TB := tb_of 290 (by rfl) (by rfl)
set_option maxRecDepth 20000 in
theorem wc_X5_count : Cond.code yX5_count cX5_count 2 (some .int) ∈ TB := tb_of 291 (by rfl) (by rfl)
set_option maxRecDepth 20000 in
theorem wm_X5_148 : Cond.methodLinkNest RX5 148 yX3_busyBanks "StrideBanks" ∈ NW := nw_of 292 (by rfl) (by rfl)
set_option maxRecDepth 20000 in
theorem wi_X3_busyBanks : Cond.instanceMethod yX3_busyBanks ∈ TB := tb_of 294 (by rfl) (by rfl)
set_option maxRecDepth 20000 in
theorem wc_X3_busyBanks : Cond.code yX3_busyBanks cX3_busyBanks 3 (some .int) ∈ TB := tb_of 295 (by rfl) (by rfl)
set_option maxRecDepth 20000 in
theorem wm_X5_151 : Cond.methodLinkNest RX5 151 yX3_greatestPrime "StrideBanks" ∈ NW := nw_of 296 (by rfl) (by rfl)
set_option maxRecDepth 20000 in
theorem wm_L_44 : Cond.methodLink RL 44 yX5_untilDone ∈ TB := tb_of 297 (by rfl) (by rfl)
set_option maxRecDepth 20000 in
theorem wi_X5_untilDone : Cond.instanceMethod yX5_untilDone ∈ TB := tb_of 298 (by rfl) (by rfl)
set_option maxRecDepth 20000 in
theorem ws_X5_untilDone : Cond.selects RX5 yX5_untilDone yX5_untilDone ∈ TB := tb_of 299 (by rfl) (by rfl)
set_option maxRecDepth 20000 in
theorem wc_X5_untilDone : Cond.code yX5_untilDone cX5_untilDone 1 (some .int) ∈ TB := tb_of 300 (by rfl) (by rfl)
set_option maxRecDepth 20000 in
theorem wm_X5_157 : Cond.methodLinkNest RX5 157 yX3_copy "StrideBanks" ∈ NW := nw_of 301 (by rfl) (by rfl)
set_option maxRecDepth 20000 in
theorem wm_X5_160 : Cond.methodLinkNest RX5 160 yX3_passAll "StrideBanks" ∈ NW := nw_of 302 (by rfl) (by rfl)
set_option maxRecDepth 20000 in
theorem wi_X3_passAll : Cond.instanceMethod yX3_passAll ∈ TB := tb_of 304 (by rfl) (by rfl)
set_option maxRecDepth 20000 in
theorem wc_X3_passAll : Cond.code yX3_passAll cX3_passAll 3 (some .int) ∈ TB := tb_of 305 (by rfl) (by rfl)
set_option maxRecDepth 20000 in
theorem wm_X3_116 : Cond.methodLink RX3 116 yX3_total ∈ TB := tb_of 306 (by rfl) (by rfl)
set_option maxRecDepth 20000 in
theorem wv_X3_119 : Cond.constant RX3 119 (1000000) ∈ TB := tb_of 307 (by rfl) (by rfl)
set_option maxRecDepth 20000 in
theorem wm_X3_120 : Cond.methodLink RX3 120 yX3_passCycle ∈ TB := tb_of 308 (by rfl) (by rfl)
set_option maxRecDepth 20000 in
theorem wm_L_41 : Cond.methodLink RL 41 yX5_bestMap ∈ TB := tb_of 309 (by rfl) (by rfl)
set_option maxRecDepth 20000 in
theorem wi_X5_bestMap : Cond.instanceMethod yX5_bestMap ∈ TB := tb_of 310 (by rfl) (by rfl)
set_option maxRecDepth 20000 in
theorem ws_X5_bestMap : Cond.selects RX5 yX5_bestMap yX5_bestMap ∈ TB := tb_of 311 (by rfl) (by rfl)
set_option maxRecDepth 20000 in
theorem wc_X5_bestMap : Cond.code yX5_bestMap cX5_bestMap 6 (some .int) ∈ TB := tb_of 312 (by rfl) (by rfl)
set_option maxRecDepth 20000 in
theorem wm_X5_169 : Cond.methodLink RX5 169 yX5_cyclesByMap ∈ TB := tb_of 313 (by rfl) (by rfl)
set_option maxRecDepth 20000 in
theorem wi_X5_cyclesByMap : Cond.instanceMethod yX5_cyclesByMap ∈ TB := tb_of 315 (by rfl) (by rfl)
set_option maxRecDepth 20000 in
theorem wc_X5_cyclesByMap : Cond.code yX5_cyclesByMap cX5_cyclesByMap 2 (some .int) ∈ TB := tb_of 316 (by rfl) (by rfl)
set_option maxRecDepth 20000 in
theorem wm_L_52 : Cond.methodLink RL 52 yX5_undo ∈ TB := tb_of 317 (by rfl) (by rfl)
set_option maxRecDepth 20000 in
theorem wi_X5_undo : Cond.instanceMethod yX5_undo ∈ TB := tb_of 318 (by rfl) (by rfl)
set_option maxRecDepth 20000 in
theorem ws_X5_undo : Cond.selects RX5 yX5_undo yX5_undo ∈ TB := tb_of 319 (by rfl) (by rfl)
set_option maxRecDepth 20000 in
theorem wc_X5_undo : Cond.code yX5_undo cX5_undo 1 (some .int) ∈ TB := tb_of 320 (by rfl) (by rfl)
set_option maxRecDepth 20000 in
theorem wm_X5_186 : Cond.methodLinkNest RX5 186 yX1_takeBack "StrideBanks" ∈ NW := nw_of 321 (by rfl) (by rfl)
set_option maxRecDepth 20000 in
theorem wi_X1_takeBack : Cond.instanceMethod yX1_takeBack ∈ TB := tb_of 323 (by rfl) (by rfl)
set_option maxRecDepth 20000 in
theorem wc_X1_takeBack : Cond.code yX1_takeBack cX1_takeBack 2 none ∈ TB := tb_of 324 (by rfl) (by rfl)
set_option maxRecDepth 20000 in
theorem wm_L_75 : Cond.methodLink RL 75 yX5_save ∈ TB := tb_of 325 (by rfl) (by rfl)
set_option maxRecDepth 20000 in
theorem wi_X5_save : Cond.instanceMethod yX5_save ∈ TB := tb_of 326 (by rfl) (by rfl)
set_option maxRecDepth 20000 in
theorem ws_X5_save : Cond.selects RX5 yX5_save yX5_save ∈ TB := tb_of 327 (by rfl) (by rfl)
set_option maxRecDepth 20000 in
theorem wc_X5_save : Cond.code yX5_save cX5_save 2 (some .int) ∈ TB := tb_of 328 (by rfl) (by rfl)
set_option maxRecDepth 20000 in
theorem wm_L_55 : Cond.methodLink RL 55 yX5_restore ∈ TB := tb_of 329 (by rfl) (by rfl)
set_option maxRecDepth 20000 in
theorem wi_X5_restore : Cond.instanceMethod yX5_restore ∈ TB := tb_of 330 (by rfl) (by rfl)
set_option maxRecDepth 20000 in
theorem ws_X5_restore : Cond.selects RX5 yX5_restore yX5_restore ∈ TB := tb_of 331 (by rfl) (by rfl)
set_option maxRecDepth 20000 in
theorem wc_X5_restore : Cond.code yX5_restore cX5_restore 2 (some .int) ∈ TB := tb_of 332 (by rfl) (by rfl)
set_option maxRecDepth 20000 in
theorem wm_L_58 : Cond.methodLink RL 58 yL_cell ∈ TB := tb_of 333 (by rfl) (by rfl)
set_option maxRecDepth 20000 in
theorem wt_L_cell : Cond.static yL_cell ∈ TB := tb_of 334 (by rfl) (by rfl)
set_option maxRecDepth 20000 in
theorem wc_L_cell : Cond.code yL_cell cL_cell 2 (some .int) ∈ TB := tb_of 335 (by rfl) (by rfl)
set_option maxRecDepth 20000 in
theorem wv_L_7 : Cond.constant RL 7 (15485959) ∈ TB := tb_of 336 (by rfl) (by rfl)
set_option maxRecDepth 20000 in
theorem wv_L_8 : Cond.constant RL 8 (2147483647) ∈ TB := tb_of 337 (by rfl) (by rfl)
set_option maxRecDepth 20000 in
theorem wm_L_68 : Cond.methodLink RL 68 yL_areSums ∈ TB := tb_of 338 (by rfl) (by rfl)
set_option maxRecDepth 20000 in
theorem wt_L_areSums : Cond.static yL_areSums ∈ TB := tb_of 339 (by rfl) (by rfl)
set_option maxRecDepth 20000 in
theorem wc_L_areSums : Cond.code yL_areSums cL_areSums 12 (some .boolean) ∈ TB := tb_of 340 (by rfl) (by rfl)
set_option maxRecDepth 20000 in
theorem wm_L_15 : Cond.methodLink RL 15 yX5_stream ∈ TB := tb_of 341 (by rfl) (by rfl)
set_option maxRecDepth 20000 in
theorem wi_X5_stream : Cond.instanceMethod yX5_stream ∈ TB := tb_of 342 (by rfl) (by rfl)
set_option maxRecDepth 20000 in
theorem ws_X5_stream : Cond.selects RX5 yX5_stream yX5_stream ∈ TB := tb_of 343 (by rfl) (by rfl)
set_option maxRecDepth 20000 in
theorem wc_X5_stream : Cond.code yX5_stream cX5_stream 4 (some .int) ∈ TB := tb_of 344 (by rfl) (by rfl)
set_option maxRecDepth 20000 in
theorem wm_X5_84 : Cond.methodLinkNest RX5 84 yX3_has "StrideBanks" ∈ NW := nw_of 345 (by rfl) (by rfl)
set_option maxRecDepth 20000 in
theorem wi_X3_has : Cond.instanceMethod yX3_has ∈ TB := tb_of 347 (by rfl) (by rfl)
set_option maxRecDepth 20000 in
theorem wc_X3_has : Cond.code yX3_has cX3_has 2 (some .boolean) ∈ TB := tb_of 348 (by rfl) (by rfl)
set_option maxRecDepth 20000 in
theorem wm_X5_118 : Cond.methodLinkNest RX5 118 yX3_banksMet "StrideBanks" ∈ NW := nw_of 349 (by rfl) (by rfl)
set_option maxRecDepth 20000 in
theorem wi_X3_banksMet : Cond.instanceMethod yX3_banksMet ∈ TB := tb_of 351 (by rfl) (by rfl)
set_option maxRecDepth 20000 in
theorem wc_X3_banksMet : Cond.code yX3_banksMet cX3_banksMet 5 (some .int) ∈ TB := tb_of 352 (by rfl) (by rfl)
set_option maxRecDepth 20000 in
theorem wm_X3_129 : Cond.methodLink RX3 129 yJ6_bitCount_0f7a4 ∈ TB := tb_of 353 (by rfl) (by rfl)
set_option maxRecDepth 20000 in
theorem wt_J6_bitCount_0f7a4 : Cond.static yJ6_bitCount_0f7a4 ∈ TB := tb_of 354 (by rfl) (by rfl)
set_option maxRecDepth 20000 in
theorem wc_J6_bitCount_0f7a4 : Cond.code yJ6_bitCount_0f7a4 cJ6_bitCount_0f7a4 1 (some .int) ∈ TB := tb_of 355 (by rfl) (by rfl)
set_option maxRecDepth 20000 in
theorem wv_J6_265 : Cond.constant RJ6 265 (1431655765) ∈ TB := tb_of 356 (by rfl) (by rfl)
set_option maxRecDepth 20000 in
theorem wv_J6_266 : Cond.constant RJ6 266 (858993459) ∈ TB := tb_of 357 (by rfl) (by rfl)
set_option maxRecDepth 20000 in
theorem wv_J6_267 : Cond.constant RJ6 267 (252645135) ∈ TB := tb_of 358 (by rfl) (by rfl)
set_option maxRecDepth 20000 in
theorem wm_X5_122 : Cond.methodLinkNest RX5 122 yX4_tell "StrideBanks" ∈ NW := nw_of 359 (by rfl) (by rfl)
set_option maxRecDepth 20000 in
theorem wm_L_19 : Cond.methodLink RL 19 yX5_bank ∈ TB := tb_of 360 (by rfl) (by rfl)
set_option maxRecDepth 20000 in
theorem wi_X5_bank : Cond.instanceMethod yX5_bank ∈ TB := tb_of 361 (by rfl) (by rfl)
set_option maxRecDepth 20000 in
theorem ws_X5_bank : Cond.selects RX5 yX5_bank yX5_bank ∈ TB := tb_of 362 (by rfl) (by rfl)
set_option maxRecDepth 20000 in
theorem wc_X5_bank : Cond.code yX5_bank cX5_bank 4 (some .int) ∈ TB := tb_of 363 (by rfl) (by rfl)
set_option maxRecDepth 20000 in
theorem wm_X5_134 : Cond.methodLink RX5 134 yJ9_max_7cf53 ∈ TB := tb_of 364 (by rfl) (by rfl)
set_option maxRecDepth 20000 in
theorem wt_J9_max_7cf53 : Cond.static yJ9_max_7cf53 ∈ TB := tb_of 365 (by rfl) (by rfl)
set_option maxRecDepth 20000 in
theorem wc_J9_max_7cf53 : Cond.code yJ9_max_7cf53 cJ9_max_7cf53 2 (some .int) ∈ TB := tb_of 366 (by rfl) (by rfl)
set_option maxRecDepth 20000 in
theorem wm_X5_145 : Cond.methodLinkNest RX5 145 yX3_wordsLeftIn "StrideBanks" ∈ NW := nw_of 367 (by rfl) (by rfl)
set_option maxRecDepth 20000 in
theorem wi_X3_wordsLeftIn : Cond.instanceMethod yX3_wordsLeftIn ∈ TB := tb_of 369 (by rfl) (by rfl)
set_option maxRecDepth 20000 in
theorem wc_X3_wordsLeftIn : Cond.code yX3_wordsLeftIn cX3_wordsLeftIn 7 (some .int) ∈ TB := tb_of 370 (by rfl) (by rfl)
set_option maxRecDepth 20000 in
theorem wm_L_72 : Cond.methodLink RL 72 yL_areBanks ∈ TB := tb_of 371 (by rfl) (by rfl)
set_option maxRecDepth 20000 in
theorem wt_L_areBanks : Cond.static yL_areBanks ∈ TB := tb_of 372 (by rfl) (by rfl)
set_option maxRecDepth 20000 in
theorem wc_L_areBanks : Cond.code yL_areBanks cL_areBanks 8 (some .boolean) ∈ TB := tb_of 373 (by rfl) (by rfl)
set_option maxRecDepth 20000 in
theorem wm_L_22 : Cond.methodLink RL 22 yX5_bankOf ∈ TB := tb_of 374 (by rfl) (by rfl)
set_option maxRecDepth 20000 in
theorem wi_X5_bankOf : Cond.instanceMethod yX5_bankOf ∈ TB := tb_of 375 (by rfl) (by rfl)
set_option maxRecDepth 20000 in
theorem ws_X5_bankOf : Cond.selects RX5 yX5_bankOf yX5_bankOf ∈ TB := tb_of 376 (by rfl) (by rfl)
set_option maxRecDepth 20000 in
theorem wc_X5_bankOf : Cond.code yX5_bankOf cX5_bankOf 2 (some .int) ∈ TB := tb_of 377 (by rfl) (by rfl)
set_option maxRecDepth 20000 in
theorem wm_X5_115 : Cond.methodLinkNest RX5 115 yX3_bankAt "StrideBanks" ∈ NW := nw_of 378 (by rfl) (by rfl)
set_option maxRecDepth 20000 in
theorem wm_L_64 : Cond.methodLink RL 64 yL_acts ∈ TB := tb_of 379 (by rfl) (by rfl)
set_option maxRecDepth 20000 in
theorem wt_L_acts : Cond.static yL_acts ∈ TB := tb_of 380 (by rfl) (by rfl)
set_option maxRecDepth 20000 in
theorem wc_L_acts : Cond.code yL_acts cL_acts 27 (some .boolean) ∈ TB := tb_of 381 (by rfl) (by rfl)
set_option maxRecDepth 20000 in
theorem wm_L_25 : Cond.methodLink RL 25 yX5_add ∈ TB := tb_of 382 (by rfl) (by rfl)
set_option maxRecDepth 20000 in
theorem wi_X5_add : Cond.instanceMethod yX5_add ∈ TB := tb_of 383 (by rfl) (by rfl)
set_option maxRecDepth 20000 in
theorem ws_X5_add : Cond.selects RX5 yX5_add yX5_add ∈ TB := tb_of 384 (by rfl) (by rfl)
set_option maxRecDepth 20000 in
theorem wc_X5_add : Cond.code yX5_add cX5_add 4 (some .int) ∈ TB := tb_of 385 (by rfl) (by rfl)
set_option maxRecDepth 20000 in
theorem wm_X5_66 : Cond.methodLinkNest RX5 66 yX3_append "StrideBanks" ∈ NW := nw_of 386 (by rfl) (by rfl)
set_option maxRecDepth 20000 in
theorem wi_X3_append : Cond.instanceMethod yX3_append ∈ TB := tb_of 388 (by rfl) (by rfl)
set_option maxRecDepth 20000 in
theorem wc_X3_append : Cond.code yX3_append cX3_append 5 none ∈ TB := tb_of 389 (by rfl) (by rfl)
set_option maxRecDepth 20000 in
theorem wm_L_32 : Cond.methodLink RL 32 yX5_drop ∈ TB := tb_of 390 (by rfl) (by rfl)
set_option maxRecDepth 20000 in
theorem wi_X5_drop : Cond.instanceMethod yX5_drop ∈ TB := tb_of 391 (by rfl) (by rfl)
set_option maxRecDepth 20000 in
theorem ws_X5_drop : Cond.selects RX5 yX5_drop yX5_drop ∈ TB := tb_of 392 (by rfl) (by rfl)
set_option maxRecDepth 20000 in
theorem wc_X5_drop : Cond.code yX5_drop cX5_drop 3 (some .int) ∈ TB := tb_of 393 (by rfl) (by rfl)
set_option maxRecDepth 20000 in
theorem wm_X5_97 : Cond.methodLinkNest RX5 97 yX3_remove "StrideBanks" ∈ NW := nw_of 394 (by rfl) (by rfl)
set_option maxRecDepth 20000 in
theorem wi_X3_remove : Cond.instanceMethod yX3_remove ∈ TB := tb_of 396 (by rfl) (by rfl)
set_option maxRecDepth 20000 in
theorem wc_X3_remove : Cond.code yX3_remove cX3_remove 4 none ∈ TB := tb_of 397 (by rfl) (by rfl)
set_option maxRecDepth 20000 in
theorem wm_L_35 : Cond.methodLink RL 35 yX5_stride ∈ TB := tb_of 398 (by rfl) (by rfl)
set_option maxRecDepth 20000 in
theorem wi_X5_stride : Cond.instanceMethod yX5_stride ∈ TB := tb_of 399 (by rfl) (by rfl)
set_option maxRecDepth 20000 in
theorem ws_X5_stride : Cond.selects RX5 yX5_stride yX5_stride ∈ TB := tb_of 400 (by rfl) (by rfl)
set_option maxRecDepth 20000 in
theorem wc_X5_stride : Cond.code yX5_stride cX5_stride 4 (some .int) ∈ TB := tb_of 401 (by rfl) (by rfl)
set_option maxRecDepth 20000 in
theorem wm_L_38 : Cond.methodLink RL 38 yX5_set ∈ TB := tb_of 402 (by rfl) (by rfl)
set_option maxRecDepth 20000 in
theorem wi_X5_set : Cond.instanceMethod yX5_set ∈ TB := tb_of 403 (by rfl) (by rfl)
set_option maxRecDepth 20000 in
theorem ws_X5_set : Cond.selects RX5 yX5_set yX5_set ∈ TB := tb_of 404 (by rfl) (by rfl)
set_option maxRecDepth 20000 in
theorem wc_X5_set : Cond.code yX5_set cX5_set 4 (some .int) ∈ TB := tb_of 405 (by rfl) (by rfl)
set_option maxRecDepth 20000 in
theorem wf_X5_45 : Cond.fieldLink RX5 45 "StrideBanks" "LEAST_SETTING" "[I" ∈ TB := tb_of 406 (by rfl) (by rfl)
set_option maxRecDepth 20000 in
theorem wl_LEAST_SETTING : Cond.laysStatic "StrideBanks" "LEAST_SETTING" "[I" ∈ lw_tbl := List.mem_of_getElem? (i := 407) (by rfl)
set_option maxRecDepth 20000 in
theorem wf_X5_49 : Cond.fieldLink RX5 49 "StrideBanks" "MOST_SETTING" "[I" ∈ TB := tb_of 408 (by rfl) (by rfl)
set_option maxRecDepth 20000 in
theorem wl_MOST_SETTING : Cond.laysStatic "StrideBanks" "MOST_SETTING" "[I" ∈ lw_tbl := List.mem_of_getElem? (i := 409) (by rfl)
set_option maxRecDepth 20000 in
theorem wy_X0_freeFrom : Cond.lays "StrideBanks$BankRow" "StrideBanks$BankRow" "freeFrom" "I" ∈ TB := tb_of 115 (by rfl) (by rfl)
set_option maxRecDepth 20000 in
theorem wy_X0_maker : Cond.lays "StrideBanks$BankRow" "StrideBanks$BankRow" "maker" "I" ∈ TB := tb_of 117 (by rfl) (by rfl)
set_option maxRecDepth 20000 in
theorem wy_X0_requests : Cond.lays "StrideBanks$BankRow" "StrideBanks$BankRow" "requests" "I" ∈ TB := tb_of 119 (by rfl) (by rfl)
set_option maxRecDepth 20000 in
theorem wy_X0_stalls : Cond.lays "StrideBanks$BankRow" "StrideBanks$BankRow" "stalls" "I" ∈ TB := tb_of 121 (by rfl) (by rfl)
theorem uw_X0 : ∀ w ∈ u_ws RX0 TX0 4, w ∈ TB := (List.forall_mem_cons.mpr ⟨wy_X0_freeFrom, List.forall_mem_cons.mpr ⟨wy_X0_maker, List.forall_mem_cons.mpr ⟨wy_X0_requests, List.forall_mem_cons.mpr ⟨wy_X0_stalls, fun _ h => absurd h List.not_mem_nil⟩⟩⟩⟩ : ∀ w ∈ ([Cond.lays RX0 "StrideBanks$BankRow" "freeFrom" "I", Cond.lays RX0 "StrideBanks$BankRow" "maker" "I", Cond.lays RX0 "StrideBanks$BankRow" "requests" "I", Cond.lays RX0 "StrideBanks$BankRow" "stalls" "I"] : List Cond), w ∈ TB)
set_option maxRecDepth 20000 in
theorem wy_X1_states : Cond.laysFinal "StrideBanks$History" "StrideBanks$History" "states" "[LStrideBanks$Store;" ∈ TB := tb_of 161 (by rfl) (by rfl)
set_option maxRecDepth 20000 in
theorem wy_X1_size : Cond.lays "StrideBanks$History" "StrideBanks$History" "size" "I" ∈ TB := tb_of 163 (by rfl) (by rfl)
theorem uw_X1 : ∀ w ∈ u_ws RX1 TX1 2, w ∈ TB := (List.forall_mem_cons.mpr ⟨wy_X1_states, List.forall_mem_cons.mpr ⟨wy_X1_size, fun _ h => absurd h List.not_mem_nil⟩⟩ : ∀ w ∈ ([Cond.laysFinal RX1 "StrideBanks$History" "states" "[LStrideBanks$Store;", Cond.lays RX1 "StrideBanks$History" "size" "I"] : List Cond), w ∈ TB)
set_option maxRecDepth 20000 in
theorem wy_X2_text : Cond.laysFinal "StrideBanks$Pad" "StrideBanks$Pad" "text" "[C" ∈ TB := tb_of 175 (by rfl) (by rfl)
set_option maxRecDepth 20000 in
theorem wy_X2_length : Cond.lays "StrideBanks$Pad" "StrideBanks$Pad" "length" "I" ∈ TB := tb_of 177 (by rfl) (by rfl)
set_option maxRecDepth 20000 in
theorem wy_X2_numbers : Cond.laysFinal "StrideBanks$Pad" "StrideBanks$Pad" "numbers" "[I" ∈ TB := tb_of 179 (by rfl) (by rfl)
set_option maxRecDepth 20000 in
theorem wy_X2_numbersFound : Cond.lays "StrideBanks$Pad" "StrideBanks$Pad" "numbersFound" "I" ∈ TB := tb_of 181 (by rfl) (by rfl)
theorem uw_X2 : ∀ w ∈ u_ws RX2 TX2 4, w ∈ TB := (List.forall_mem_cons.mpr ⟨wy_X2_text, List.forall_mem_cons.mpr ⟨wy_X2_length, List.forall_mem_cons.mpr ⟨wy_X2_numbers, List.forall_mem_cons.mpr ⟨wy_X2_numbersFound, fun _ h => absurd h List.not_mem_nil⟩⟩⟩⟩ : ∀ w ∈ ([Cond.laysFinal RX2 "StrideBanks$Pad" "text" "[C", Cond.lays RX2 "StrideBanks$Pad" "length" "I", Cond.laysFinal RX2 "StrideBanks$Pad" "numbers" "[I", Cond.lays RX2 "StrideBanks$Pad" "numbersFound" "I"] : List Cond), w ∈ TB)
set_option maxRecDepth 20000 in
theorem wy_X3_settings : Cond.laysFinal "StrideBanks$Store" "StrideBanks$Store" "settings" "[I" ∈ TB := tb_of 138 (by rfl) (by rfl)
set_option maxRecDepth 20000 in
theorem wy_X3_streams : Cond.laysFinal "StrideBanks$Store" "StrideBanks$Store" "streams" "[LStrideBanks$StreamRow;" ∈ TB := tb_of 140 (by rfl) (by rfl)
set_option maxRecDepth 20000 in
theorem wy_X3_banks : Cond.laysFinal "StrideBanks$Store" "StrideBanks$Store" "banks" "[LStrideBanks$BankRow;" ∈ TB := tb_of 142 (by rfl) (by rfl)
set_option maxRecDepth 20000 in
theorem wy_X3_streamCount : Cond.lays "StrideBanks$Store" "StrideBanks$Store" "streamCount" "I" ∈ TB := tb_of 144 (by rfl) (by rfl)
set_option maxRecDepth 20000 in
theorem wy_X3_cycle : Cond.lays "StrideBanks$Store" "StrideBanks$Store" "cycle" "I" ∈ TB := tb_of 146 (by rfl) (by rfl)
theorem uw_X3 : ∀ w ∈ u_ws RX3 TX3 5, w ∈ TB := (List.forall_mem_cons.mpr ⟨wy_X3_settings, List.forall_mem_cons.mpr ⟨wy_X3_streams, List.forall_mem_cons.mpr ⟨wy_X3_banks, List.forall_mem_cons.mpr ⟨wy_X3_streamCount, List.forall_mem_cons.mpr ⟨wy_X3_cycle, fun _ h => absurd h List.not_mem_nil⟩⟩⟩⟩⟩ : ∀ w ∈ ([Cond.laysFinal RX3 "StrideBanks$Store" "settings" "[I", Cond.laysFinal RX3 "StrideBanks$Store" "streams" "[LStrideBanks$StreamRow;", Cond.laysFinal RX3 "StrideBanks$Store" "banks" "[LStrideBanks$BankRow;", Cond.lays RX3 "StrideBanks$Store" "streamCount" "I", Cond.lays RX3 "StrideBanks$Store" "cycle" "I"] : List Cond), w ∈ TB)
set_option maxRecDepth 20000 in
theorem wy_X4_start : Cond.lays "StrideBanks$StreamRow" "StrideBanks$StreamRow" "start" "I" ∈ TB := tb_of 81 (by rfl) (by rfl)
set_option maxRecDepth 20000 in
theorem wy_X4_stride : Cond.lays "StrideBanks$StreamRow" "StrideBanks$StreamRow" "stride" "I" ∈ TB := tb_of 83 (by rfl) (by rfl)
set_option maxRecDepth 20000 in
theorem wy_X4_length : Cond.lays "StrideBanks$StreamRow" "StrideBanks$StreamRow" "length" "I" ∈ TB := tb_of 85 (by rfl) (by rfl)
set_option maxRecDepth 20000 in
theorem wy_X4_left : Cond.lays "StrideBanks$StreamRow" "StrideBanks$StreamRow" "left" "I" ∈ TB := tb_of 87 (by rfl) (by rfl)
set_option maxRecDepth 20000 in
theorem wy_X4_latest : Cond.lays "StrideBanks$StreamRow" "StrideBanks$StreamRow" "latest" "I" ∈ TB := tb_of 89 (by rfl) (by rfl)
set_option maxRecDepth 20000 in
theorem wy_X4_stalls : Cond.lays "StrideBanks$StreamRow" "StrideBanks$StreamRow" "stalls" "I" ∈ TB := tb_of 91 (by rfl) (by rfl)
set_option maxRecDepth 20000 in
theorem wy_X4_clashes : Cond.lays "StrideBanks$StreamRow" "StrideBanks$StreamRow" "clashes" "I" ∈ TB := tb_of 93 (by rfl) (by rfl)
set_option maxRecDepth 20000 in
theorem wy_X4_ended : Cond.lays "StrideBanks$StreamRow" "StrideBanks$StreamRow" "ended" "I" ∈ TB := tb_of 95 (by rfl) (by rfl)
theorem uw_X4 : ∀ w ∈ u_ws RX4 TX4 8, w ∈ TB := (List.forall_mem_cons.mpr ⟨wy_X4_start, List.forall_mem_cons.mpr ⟨wy_X4_stride, List.forall_mem_cons.mpr ⟨wy_X4_length, List.forall_mem_cons.mpr ⟨wy_X4_left, List.forall_mem_cons.mpr ⟨wy_X4_latest, List.forall_mem_cons.mpr ⟨wy_X4_stalls, List.forall_mem_cons.mpr ⟨wy_X4_clashes, List.forall_mem_cons.mpr ⟨wy_X4_ended, fun _ h => absurd h List.not_mem_nil⟩⟩⟩⟩⟩⟩⟩⟩ : ∀ w ∈ ([Cond.lays RX4 "StrideBanks$StreamRow" "start" "I", Cond.lays RX4 "StrideBanks$StreamRow" "stride" "I", Cond.lays RX4 "StrideBanks$StreamRow" "length" "I", Cond.lays RX4 "StrideBanks$StreamRow" "left" "I", Cond.lays RX4 "StrideBanks$StreamRow" "latest" "I", Cond.lays RX4 "StrideBanks$StreamRow" "stalls" "I", Cond.lays RX4 "StrideBanks$StreamRow" "clashes" "I", Cond.lays RX4 "StrideBanks$StreamRow" "ended" "I"] : List Cond), w ∈ TB)
set_option maxRecDepth 20000 in
theorem wy_X5_now : Cond.laysFinal "StrideBanks" "StrideBanks" "now" "LStrideBanks$Store;" ∈ TB := tb_of 192 (by rfl) (by rfl)
set_option maxRecDepth 20000 in
theorem wy_X5_trial : Cond.laysFinal "StrideBanks" "StrideBanks" "trial" "LStrideBanks$Store;" ∈ TB := tb_of 194 (by rfl) (by rfl)
set_option maxRecDepth 20000 in
theorem wy_X5_history : Cond.laysFinal "StrideBanks" "StrideBanks" "history" "LStrideBanks$History;" ∈ TB := tb_of 196 (by rfl) (by rfl)
set_option maxRecDepth 20000 in
theorem wy_X5_slots : Cond.laysFinal "StrideBanks" "StrideBanks" "slots" "[LStrideBanks$Store;" ∈ TB := tb_of 198 (by rfl) (by rfl)
set_option maxRecDepth 20000 in
theorem wy_X5_saved : Cond.laysFinal "StrideBanks" "StrideBanks" "saved" "[Z" ∈ TB := tb_of 200 (by rfl) (by rfl)
set_option maxRecDepth 20000 in
theorem wy_X5_pad : Cond.laysFinal "StrideBanks" "StrideBanks" "pad" "LStrideBanks$Pad;" ∈ TB := tb_of 202 (by rfl) (by rfl)
theorem uw_X5 : ∀ w ∈ u_ws RX5 TX5 6, w ∈ TB := (List.forall_mem_cons.mpr ⟨wy_X5_now, List.forall_mem_cons.mpr ⟨wy_X5_trial, List.forall_mem_cons.mpr ⟨wy_X5_history, List.forall_mem_cons.mpr ⟨wy_X5_slots, List.forall_mem_cons.mpr ⟨wy_X5_saved, List.forall_mem_cons.mpr ⟨wy_X5_pad, fun _ h => absurd h List.not_mem_nil⟩⟩⟩⟩⟩⟩ : ∀ w ∈ ([Cond.laysFinal RX5 "StrideBanks" "now" "LStrideBanks$Store;", Cond.laysFinal RX5 "StrideBanks" "trial" "LStrideBanks$Store;", Cond.laysFinal RX5 "StrideBanks" "history" "LStrideBanks$History;", Cond.laysFinal RX5 "StrideBanks" "slots" "[LStrideBanks$Store;", Cond.laysFinal RX5 "StrideBanks" "saved" "[Z", Cond.laysFinal RX5 "StrideBanks" "pad" "LStrideBanks$Pad;"] : List Cond), w ∈ TB)
