section
/-! names, tables, words (begun out of the kit's printed names and its skeleton) -/
/-- a private method of a class that the tables say can be made, by its rows of tables_1 -/
def lw_okq (q : MethodName × Nat) : Prop := (q.1.cls ≠ "java/lang/invoke/MethodHandle" ∧ q.1.cls ≠ "java/lang/invoke/VarHandle") ∧ Cond.instantiable q.1.cls q.2 ∈ tables_1 ∧ Cond.privateMethod q.1 ∈ tables_1 ∧ Cond.instanceMethod q.1 ∈ tables_1
theorem lw_p0 : lw_okq (⟨"StrideBanks$BankRow", "beginAnew", "()V"⟩, 4) := ⟨⟨by decide +kernel, by decide +kernel⟩, List.mem_of_getElem? (i := 73) (by decide +kernel), List.mem_of_getElem? (i := 99) (by decide +kernel), List.mem_of_getElem? (i := 100) (by decide +kernel)⟩
theorem lw_p1 : lw_okq (⟨"StrideBanks$History", "record", "(LStrideBanks$Store;)V"⟩, 2) := ⟨⟨by decide +kernel, by decide +kernel⟩, List.mem_of_getElem? (i := 124) (by decide +kernel), List.mem_of_getElem? (i := 193) (by decide +kernel), List.mem_of_getElem? (i := 194) (by decide +kernel)⟩
theorem lw_p2 : lw_okq (⟨"StrideBanks$History", "forgetOldest", "()V"⟩, 2) := ⟨⟨by decide +kernel, by decide +kernel⟩, List.mem_of_getElem? (i := 124) (by decide +kernel), List.mem_of_getElem? (i := 197) (by decide +kernel), List.mem_of_getElem? (i := 198) (by decide +kernel)⟩
theorem lw_p3 : lw_okq (⟨"StrideBanks$Store", "copy", "(LStrideBanks$Store;)V"⟩, 5) := ⟨⟨by decide +kernel, by decide +kernel⟩, List.mem_of_getElem? (i := 20) (by decide +kernel), List.mem_of_getElem? (i := 201) (by decide +kernel), List.mem_of_getElem? (i := 202) (by decide +kernel)⟩
theorem lw_p4 : lw_okq (⟨"StrideBanks$Store", "copySettings", "(LStrideBanks$Store;)V"⟩, 5) := ⟨⟨by decide +kernel, by decide +kernel⟩, List.mem_of_getElem? (i := 20) (by decide +kernel), List.mem_of_getElem? (i := 205) (by decide +kernel), List.mem_of_getElem? (i := 206) (by decide +kernel)⟩
theorem lw_p5 : lw_okq (⟨"StrideBanks$StreamRow", "copy", "(LStrideBanks$StreamRow;)V"⟩, 8) := ⟨⟨by decide +kernel, by decide +kernel⟩, List.mem_of_getElem? (i := 34) (by decide +kernel), List.mem_of_getElem? (i := 209) (by decide +kernel), List.mem_of_getElem? (i := 210) (by decide +kernel)⟩
theorem lw_p6 : lw_okq (⟨"StrideBanks$BankRow", "copy", "(LStrideBanks$BankRow;)V"⟩, 4) := ⟨⟨by decide +kernel, by decide +kernel⟩, List.mem_of_getElem? (i := 73) (by decide +kernel), List.mem_of_getElem? (i := 213) (by decide +kernel), List.mem_of_getElem? (i := 214) (by decide +kernel)⟩
theorem lw_p7 : lw_okq (⟨"StrideBanks$Store", "beginAnew", "()V"⟩, 5) := ⟨⟨by decide +kernel, by decide +kernel⟩, List.mem_of_getElem? (i := 20) (by decide +kernel), List.mem_of_getElem? (i := 217) (by decide +kernel), List.mem_of_getElem? (i := 218) (by decide +kernel)⟩
theorem lw_p8 : lw_okq (⟨"StrideBanks$Store", "freeBanks", "()V"⟩, 5) := ⟨⟨by decide +kernel, by decide +kernel⟩, List.mem_of_getElem? (i := 20) (by decide +kernel), List.mem_of_getElem? (i := 221) (by decide +kernel), List.mem_of_getElem? (i := 222) (by decide +kernel)⟩
theorem lw_p9 : lw_okq (⟨"StrideBanks$StreamRow", "beginAnew", "()V"⟩, 8) := ⟨⟨by decide +kernel, by decide +kernel⟩, List.mem_of_getElem? (i := 34) (by decide +kernel), List.mem_of_getElem? (i := 225) (by decide +kernel), List.mem_of_getElem? (i := 226) (by decide +kernel)⟩
theorem lw_p10 : lw_okq (⟨"StrideBanks$Store", "append", "(III)V"⟩, 5) := ⟨⟨by decide +kernel, by decide +kernel⟩, List.mem_of_getElem? (i := 20) (by decide +kernel), List.mem_of_getElem? (i := 233) (by decide +kernel), List.mem_of_getElem? (i := 234) (by decide +kernel)⟩
theorem lw_p11 : lw_okq (⟨"StrideBanks$Pad", "firstFault", "()I"⟩, 4) := ⟨⟨by decide +kernel, by decide +kernel⟩, List.mem_of_getElem? (i := 141) (by decide +kernel), List.mem_of_getElem? (i := 241) (by decide +kernel), List.mem_of_getElem? (i := 242) (by decide +kernel)⟩
theorem lw_p12 : lw_okq (⟨"StrideBanks$Pad", "takesDigit", "(III)Z"⟩, 4) := ⟨⟨by decide +kernel, by decide +kernel⟩, List.mem_of_getElem? (i := 141) (by decide +kernel), List.mem_of_getElem? (i := 246) (by decide +kernel), List.mem_of_getElem? (i := 247) (by decide +kernel)⟩
theorem lw_p13 : lw_okq (⟨"StrideBanks$Pad", "streamsFound", "()I"⟩, 4) := ⟨⟨by decide +kernel, by decide +kernel⟩, List.mem_of_getElem? (i := 141) (by decide +kernel), List.mem_of_getElem? (i := 256) (by decide +kernel), List.mem_of_getElem? (i := 257) (by decide +kernel)⟩
theorem lw_p14 : lw_okq (⟨"StrideBanks$Pad", "numberOf", "(II)I"⟩, 4) := ⟨⟨by decide +kernel, by decide +kernel⟩, List.mem_of_getElem? (i := 141) (by decide +kernel), List.mem_of_getElem? (i := 260) (by decide +kernel), List.mem_of_getElem? (i := 261) (by decide +kernel)⟩
theorem lw_p15 : lw_okq (⟨"StrideBanks$Store", "has", "(I)Z"⟩, 5) := ⟨⟨by decide +kernel, by decide +kernel⟩, List.mem_of_getElem? (i := 20) (by decide +kernel), List.mem_of_getElem? (i := 268) (by decide +kernel), List.mem_of_getElem? (i := 269) (by decide +kernel)⟩
def lw_privs_1 : List (MethodName × Nat) := [(⟨"StrideBanks$BankRow", "beginAnew", "()V"⟩, 4), (⟨"StrideBanks$History", "record", "(LStrideBanks$Store;)V"⟩, 2), (⟨"StrideBanks$History", "forgetOldest", "()V"⟩, 2), (⟨"StrideBanks$Store", "copy", "(LStrideBanks$Store;)V"⟩, 5), (⟨"StrideBanks$Store", "copySettings", "(LStrideBanks$Store;)V"⟩, 5), (⟨"StrideBanks$StreamRow", "copy", "(LStrideBanks$StreamRow;)V"⟩, 8), (⟨"StrideBanks$BankRow", "copy", "(LStrideBanks$BankRow;)V"⟩, 4), (⟨"StrideBanks$Store", "beginAnew", "()V"⟩, 5), (⟨"StrideBanks$Store", "freeBanks", "()V"⟩, 5), (⟨"StrideBanks$StreamRow", "beginAnew", "()V"⟩, 8), (⟨"StrideBanks$Store", "append", "(III)V"⟩, 5), (⟨"StrideBanks$Pad", "firstFault", "()I"⟩, 4), (⟨"StrideBanks$Pad", "takesDigit", "(III)Z"⟩, 4), (⟨"StrideBanks$Pad", "streamsFound", "()I"⟩, 4), (⟨"StrideBanks$Pad", "numberOf", "(II)I"⟩, 4), (⟨"StrideBanks$Store", "has", "(I)Z"⟩, 5)]
theorem lw_r1 : ∀ q ∈ lw_privs_1, lw_okq q := List.forall_mem_cons.mpr ⟨lw_p0, List.forall_mem_cons.mpr ⟨lw_p1, List.forall_mem_cons.mpr ⟨lw_p2, List.forall_mem_cons.mpr ⟨lw_p3, List.forall_mem_cons.mpr ⟨lw_p4, List.forall_mem_cons.mpr ⟨lw_p5, List.forall_mem_cons.mpr ⟨lw_p6, List.forall_mem_cons.mpr ⟨lw_p7, List.forall_mem_cons.mpr ⟨lw_p8, List.forall_mem_cons.mpr ⟨lw_p9, List.forall_mem_cons.mpr ⟨lw_p10, List.forall_mem_cons.mpr ⟨lw_p11, List.forall_mem_cons.mpr ⟨lw_p12, List.forall_mem_cons.mpr ⟨lw_p13, List.forall_mem_cons.mpr ⟨lw_p14, List.forall_mem_cons.mpr ⟨lw_p15, fun _ h => absurd h List.not_mem_nil⟩⟩⟩⟩⟩⟩⟩⟩⟩⟩⟩⟩⟩⟩⟩⟩
theorem lw_p16 : lw_okq (⟨"StrideBanks$Store", "remove", "(I)V"⟩, 5) := ⟨⟨by decide +kernel, by decide +kernel⟩, List.mem_of_getElem? (i := 20) (by decide +kernel), List.mem_of_getElem? (i := 272) (by decide +kernel), List.mem_of_getElem? (i := 273) (by decide +kernel)⟩
theorem lw_p17 : lw_okq (⟨"StrideBanks$Store", "passCycle", "()I"⟩, 5) := ⟨⟨by decide +kernel, by decide +kernel⟩, List.mem_of_getElem? (i := 20) (by decide +kernel), List.mem_of_getElem? (i := 285) (by decide +kernel), List.mem_of_getElem? (i := 286) (by decide +kernel)⟩
theorem lw_p18 : lw_okq (⟨"StrideBanks$Store", "ask", "(I)I"⟩, 5) := ⟨⟨by decide +kernel, by decide +kernel⟩, List.mem_of_getElem? (i := 20) (by decide +kernel), List.mem_of_getElem? (i := 289) (by decide +kernel), List.mem_of_getElem? (i := 290) (by decide +kernel)⟩
theorem lw_p19 : lw_okq (⟨"StrideBanks$StreamRow", "nextAddress", "()I"⟩, 8) := ⟨⟨by decide +kernel, by decide +kernel⟩, List.mem_of_getElem? (i := 34) (by decide +kernel), List.mem_of_getElem? (i := 293) (by decide +kernel), List.mem_of_getElem? (i := 294) (by decide +kernel)⟩
theorem lw_p20 : lw_okq (⟨"StrideBanks$Store", "bankAt", "(I)I"⟩, 5) := ⟨⟨by decide +kernel, by decide +kernel⟩, List.mem_of_getElem? (i := 20) (by decide +kernel), List.mem_of_getElem? (i := 297) (by decide +kernel), List.mem_of_getElem? (i := 298) (by decide +kernel)⟩
theorem lw_p21 : lw_okq (⟨"StrideBanks$Store", "greatestPrime", "()I"⟩, 5) := ⟨⟨by decide +kernel, by decide +kernel⟩, List.mem_of_getElem? (i := 20) (by decide +kernel), List.mem_of_getElem? (i := 301) (by decide +kernel), List.mem_of_getElem? (i := 302) (by decide +kernel)⟩
theorem lw_p22 : lw_okq (⟨"StrideBanks$StreamRow", "finishRequest", "(II)V"⟩, 8) := ⟨⟨by decide +kernel, by decide +kernel⟩, List.mem_of_getElem? (i := 34) (by decide +kernel), List.mem_of_getElem? (i := 307) (by decide +kernel), List.mem_of_getElem? (i := 308) (by decide +kernel)⟩
theorem lw_p23 : lw_okq (⟨"StrideBanks$Store", "total", "(I)I"⟩, 5) := ⟨⟨by decide +kernel, by decide +kernel⟩, List.mem_of_getElem? (i := 20) (by decide +kernel), List.mem_of_getElem? (i := 315) (by decide +kernel), List.mem_of_getElem? (i := 316) (by decide +kernel)⟩
theorem lw_p24 : lw_okq (⟨"StrideBanks$StreamRow", "tell", "(I)I"⟩, 8) := ⟨⟨by decide +kernel, by decide +kernel⟩, List.mem_of_getElem? (i := 34) (by decide +kernel), List.mem_of_getElem? (i := 319) (by decide +kernel), List.mem_of_getElem? (i := 320) (by decide +kernel)⟩
theorem lw_p25 : lw_okq (⟨"StrideBanks$Store", "banksMet", "(LStrideBanks$StreamRow;)I"⟩, 5) := ⟨⟨by decide +kernel, by decide +kernel⟩, List.mem_of_getElem? (i := 20) (by decide +kernel), List.mem_of_getElem? (i := 333) (by decide +kernel), List.mem_of_getElem? (i := 334) (by decide +kernel)⟩
theorem lw_p26 : lw_okq (⟨"StrideBanks$Store", "wordsLeftIn", "(I)I"⟩, 5) := ⟨⟨by decide +kernel, by decide +kernel⟩, List.mem_of_getElem? (i := 20) (by decide +kernel), List.mem_of_getElem? (i := 351) (by decide +kernel), List.mem_of_getElem? (i := 352) (by decide +kernel)⟩
theorem lw_p27 : lw_okq (⟨"StrideBanks$Store", "busyBanks", "()I"⟩, 5) := ⟨⟨by decide +kernel, by decide +kernel⟩, List.mem_of_getElem? (i := 20) (by decide +kernel), List.mem_of_getElem? (i := 359) (by decide +kernel), List.mem_of_getElem? (i := 360) (by decide +kernel)⟩
theorem lw_p28 : lw_okq (⟨"StrideBanks$Store", "passAll", "()I"⟩, 5) := ⟨⟨by decide +kernel, by decide +kernel⟩, List.mem_of_getElem? (i := 20) (by decide +kernel), List.mem_of_getElem? (i := 369) (by decide +kernel), List.mem_of_getElem? (i := 370) (by decide +kernel)⟩
theorem lw_p29 : lw_okq (⟨"StrideBanks", "cyclesAlone", "(II)I"⟩, 6) := ⟨⟨by decide +kernel, by decide +kernel⟩, List.mem_of_getElem? (i := 12) (by decide +kernel), List.mem_of_getElem? (i := 380) (by decide +kernel), List.mem_of_getElem? (i := 381) (by decide +kernel)⟩
theorem lw_p30 : lw_okq (⟨"StrideBanks$Store", "lonelyCycles", "(LStrideBanks$StreamRow;I)I"⟩, 5) := ⟨⟨by decide +kernel, by decide +kernel⟩, List.mem_of_getElem? (i := 20) (by decide +kernel), List.mem_of_getElem? (i := 386) (by decide +kernel), List.mem_of_getElem? (i := 387) (by decide +kernel)⟩
theorem lw_p31 : lw_okq (⟨"StrideBanks", "cyclesByMap", "(I)I"⟩, 6) := ⟨⟨by decide +kernel, by decide +kernel⟩, List.mem_of_getElem? (i := 12) (by decide +kernel), List.mem_of_getElem? (i := 402) (by decide +kernel), List.mem_of_getElem? (i := 403) (by decide +kernel)⟩
def lw_privs_2 : List (MethodName × Nat) := [(⟨"StrideBanks$Store", "remove", "(I)V"⟩, 5), (⟨"StrideBanks$Store", "passCycle", "()I"⟩, 5), (⟨"StrideBanks$Store", "ask", "(I)I"⟩, 5), (⟨"StrideBanks$StreamRow", "nextAddress", "()I"⟩, 8), (⟨"StrideBanks$Store", "bankAt", "(I)I"⟩, 5), (⟨"StrideBanks$Store", "greatestPrime", "()I"⟩, 5), (⟨"StrideBanks$StreamRow", "finishRequest", "(II)V"⟩, 8), (⟨"StrideBanks$Store", "total", "(I)I"⟩, 5), (⟨"StrideBanks$StreamRow", "tell", "(I)I"⟩, 8), (⟨"StrideBanks$Store", "banksMet", "(LStrideBanks$StreamRow;)I"⟩, 5), (⟨"StrideBanks$Store", "wordsLeftIn", "(I)I"⟩, 5), (⟨"StrideBanks$Store", "busyBanks", "()I"⟩, 5), (⟨"StrideBanks$Store", "passAll", "()I"⟩, 5), (⟨"StrideBanks", "cyclesAlone", "(II)I"⟩, 6), (⟨"StrideBanks$Store", "lonelyCycles", "(LStrideBanks$StreamRow;I)I"⟩, 5), (⟨"StrideBanks", "cyclesByMap", "(I)I"⟩, 6)]
theorem lw_r2 : ∀ q ∈ lw_privs_2, lw_okq q := List.forall_mem_cons.mpr ⟨lw_p16, List.forall_mem_cons.mpr ⟨lw_p17, List.forall_mem_cons.mpr ⟨lw_p18, List.forall_mem_cons.mpr ⟨lw_p19, List.forall_mem_cons.mpr ⟨lw_p20, List.forall_mem_cons.mpr ⟨lw_p21, List.forall_mem_cons.mpr ⟨lw_p22, List.forall_mem_cons.mpr ⟨lw_p23, List.forall_mem_cons.mpr ⟨lw_p24, List.forall_mem_cons.mpr ⟨lw_p25, List.forall_mem_cons.mpr ⟨lw_p26, List.forall_mem_cons.mpr ⟨lw_p27, List.forall_mem_cons.mpr ⟨lw_p28, List.forall_mem_cons.mpr ⟨lw_p29, List.forall_mem_cons.mpr ⟨lw_p30, List.forall_mem_cons.mpr ⟨lw_p31, fun _ h => absurd h List.not_mem_nil⟩⟩⟩⟩⟩⟩⟩⟩⟩⟩⟩⟩⟩⟩⟩⟩
theorem lw_p32 : lw_okq (⟨"StrideBanks$Store", "appendLike", "(LStrideBanks$StreamRow;)V"⟩, 5) := ⟨⟨by decide +kernel, by decide +kernel⟩, List.mem_of_getElem? (i := 20) (by decide +kernel), List.mem_of_getElem? (i := 410) (by decide +kernel), List.mem_of_getElem? (i := 411) (by decide +kernel)⟩
theorem lw_p33 : lw_okq (⟨"StrideBanks$Pad", "append", "(JI)V"⟩, 4) := ⟨⟨by decide +kernel, by decide +kernel⟩, List.mem_of_getElem? (i := 141) (by decide +kernel), List.mem_of_getElem? (i := 423) (by decide +kernel), List.mem_of_getElem? (i := 424) (by decide +kernel)⟩
theorem lw_p34 : lw_okq (⟨"StrideBanks$History", "takeBack", "(LStrideBanks$Store;)V"⟩, 2) := ⟨⟨by decide +kernel, by decide +kernel⟩, List.mem_of_getElem? (i := 124) (by decide +kernel), List.mem_of_getElem? (i := 440) (by decide +kernel), List.mem_of_getElem? (i := 441) (by decide +kernel)⟩
theorem lw_p35 : lw_okq (⟨"StrideBanksModel", "hold", "()V"⟩, 12) := ⟨⟨by decide +kernel, by decide +kernel⟩, List.mem_of_getElem? (i := 452) (by decide +kernel), List.mem_of_getElem? (i := 505) (by decide +kernel), List.mem_of_getElem? (i := 506) (by decide +kernel)⟩
theorem lw_p36 : lw_okq (⟨"StrideBanksModel", "beginsAnew", "()V"⟩, 12) := ⟨⟨by decide +kernel, by decide +kernel⟩, List.mem_of_getElem? (i := 452) (by decide +kernel), List.mem_of_getElem? (i := 509) (by decide +kernel), List.mem_of_getElem? (i := 510) (by decide +kernel)⟩
theorem lw_p37 : lw_okq (⟨"StrideBanksModel", "begins", "(I)V"⟩, 12) := ⟨⟨by decide +kernel, by decide +kernel⟩, List.mem_of_getElem? (i := 452) (by decide +kernel), List.mem_of_getElem? (i := 513) (by decide +kernel), List.mem_of_getElem? (i := 514) (by decide +kernel)⟩
theorem lw_p38 : lw_okq (⟨"StrideBanksModel", "recorded", "(I)I"⟩, 12) := ⟨⟨by decide +kernel, by decide +kernel⟩, List.mem_of_getElem? (i := 452) (by decide +kernel), List.mem_of_getElem? (i := 520) (by decide +kernel), List.mem_of_getElem? (i := 521) (by decide +kernel)⟩
theorem lw_p39 : lw_okq (⟨"StrideBanksModel", "puts", "(III)I"⟩, 12) := ⟨⟨by decide +kernel, by decide +kernel⟩, List.mem_of_getElem? (i := 452) (by decide +kernel), List.mem_of_getElem? (i := 528) (by decide +kernel), List.mem_of_getElem? (i := 529) (by decide +kernel)⟩
theorem lw_p40 : lw_okq (⟨"StrideBanksModel", "isStream", "(I)Z"⟩, 12) := ⟨⟨by decide +kernel, by decide +kernel⟩, List.mem_of_getElem? (i := 452) (by decide +kernel), List.mem_of_getElem? (i := 536) (by decide +kernel), List.mem_of_getElem? (i := 537) (by decide +kernel)⟩
theorem lw_p41 : lw_okq (⟨"StrideBanksModel", "cycle", "()I"⟩, 12) := ⟨⟨by decide +kernel, by decide +kernel⟩, List.mem_of_getElem? (i := 452) (by decide +kernel), List.mem_of_getElem? (i := 552) (by decide +kernel), List.mem_of_getElem? (i := 553) (by decide +kernel)⟩
theorem lw_p42 : lw_okq (⟨"StrideBanksModel", "asks", "(I)I"⟩, 12) := ⟨⟨by decide +kernel, by decide +kernel⟩, List.mem_of_getElem? (i := 452) (by decide +kernel), List.mem_of_getElem? (i := 556) (by decide +kernel), List.mem_of_getElem? (i := 557) (by decide +kernel)⟩
theorem lw_p43 : lw_okq (⟨"StrideBanksModel", "bankAt", "(I)I"⟩, 12) := ⟨⟨by decide +kernel, by decide +kernel⟩, List.mem_of_getElem? (i := 452) (by decide +kernel), List.mem_of_getElem? (i := 560) (by decide +kernel), List.mem_of_getElem? (i := 561) (by decide +kernel)⟩
theorem lw_p44 : lw_okq (⟨"StrideBanksModel", "prime", "()I"⟩, 12) := ⟨⟨by decide +kernel, by decide +kernel⟩, List.mem_of_getElem? (i := 452) (by decide +kernel), List.mem_of_getElem? (i := 564) (by decide +kernel), List.mem_of_getElem? (i := 565) (by decide +kernel)⟩
theorem lw_p45 : lw_okq (⟨"StrideBanksModel", "wordsLeft", "()I"⟩, 12) := ⟨⟨by decide +kernel, by decide +kernel⟩, List.mem_of_getElem? (i := 452) (by decide +kernel), List.mem_of_getElem? (i := 575) (by decide +kernel), List.mem_of_getElem? (i := 576) (by decide +kernel)⟩
theorem lw_p46 : lw_okq (⟨"StrideBanksModel", "faultOf", "()I"⟩, 12) := ⟨⟨by decide +kernel, by decide +kernel⟩, List.mem_of_getElem? (i := 452) (by decide +kernel), List.mem_of_getElem? (i := 583) (by decide +kernel), List.mem_of_getElem? (i := 584) (by decide +kernel)⟩
theorem lw_p47 : lw_okq (⟨"StrideBanksModel", "readsStream", "()Z"⟩, 12) := ⟨⟨by decide +kernel, by decide +kernel⟩, List.mem_of_getElem? (i := 452) (by decide +kernel), List.mem_of_getElem? (i := 587) (by decide +kernel), List.mem_of_getElem? (i := 588) (by decide +kernel)⟩
def lw_privs_3 : List (MethodName × Nat) := [(⟨"StrideBanks$Store", "appendLike", "(LStrideBanks$StreamRow;)V"⟩, 5), (⟨"StrideBanks$Pad", "append", "(JI)V"⟩, 4), (⟨"StrideBanks$History", "takeBack", "(LStrideBanks$Store;)V"⟩, 2), (⟨"StrideBanksModel", "hold", "()V"⟩, 12), (⟨"StrideBanksModel", "beginsAnew", "()V"⟩, 12), (⟨"StrideBanksModel", "begins", "(I)V"⟩, 12), (⟨"StrideBanksModel", "recorded", "(I)I"⟩, 12), (⟨"StrideBanksModel", "puts", "(III)I"⟩, 12), (⟨"StrideBanksModel", "isStream", "(I)Z"⟩, 12), (⟨"StrideBanksModel", "cycle", "()I"⟩, 12), (⟨"StrideBanksModel", "asks", "(I)I"⟩, 12), (⟨"StrideBanksModel", "bankAt", "(I)I"⟩, 12), (⟨"StrideBanksModel", "prime", "()I"⟩, 12), (⟨"StrideBanksModel", "wordsLeft", "()I"⟩, 12), (⟨"StrideBanksModel", "faultOf", "()I"⟩, 12), (⟨"StrideBanksModel", "readsStream", "()Z"⟩, 12)]
theorem lw_r3 : ∀ q ∈ lw_privs_3, lw_okq q := List.forall_mem_cons.mpr ⟨lw_p32, List.forall_mem_cons.mpr ⟨lw_p33, List.forall_mem_cons.mpr ⟨lw_p34, List.forall_mem_cons.mpr ⟨lw_p35, List.forall_mem_cons.mpr ⟨lw_p36, List.forall_mem_cons.mpr ⟨lw_p37, List.forall_mem_cons.mpr ⟨lw_p38, List.forall_mem_cons.mpr ⟨lw_p39, List.forall_mem_cons.mpr ⟨lw_p40, List.forall_mem_cons.mpr ⟨lw_p41, List.forall_mem_cons.mpr ⟨lw_p42, List.forall_mem_cons.mpr ⟨lw_p43, List.forall_mem_cons.mpr ⟨lw_p44, List.forall_mem_cons.mpr ⟨lw_p45, List.forall_mem_cons.mpr ⟨lw_p46, List.forall_mem_cons.mpr ⟨lw_p47, fun _ h => absurd h List.not_mem_nil⟩⟩⟩⟩⟩⟩⟩⟩⟩⟩⟩⟩⟩⟩⟩⟩
theorem lw_p48 : lw_okq (⟨"StrideBanksModel", "number", "(III)Z"⟩, 12) := ⟨⟨by decide +kernel, by decide +kernel⟩, List.mem_of_getElem? (i := 452) (by decide +kernel), List.mem_of_getElem? (i := 591) (by decide +kernel), List.mem_of_getElem? (i := 592) (by decide +kernel)⟩
theorem lw_p49 : lw_okq (⟨"StrideBanksModel", "isSign", "(CC)Z"⟩, 12) := ⟨⟨by decide +kernel, by decide +kernel⟩, List.mem_of_getElem? (i := 452) (by decide +kernel), List.mem_of_getElem? (i := 595) (by decide +kernel), List.mem_of_getElem? (i := 596) (by decide +kernel)⟩
theorem lw_p50 : lw_okq (⟨"StrideBanksModel", "accepts", "(C)Z"⟩, 12) := ⟨⟨by decide +kernel, by decide +kernel⟩, List.mem_of_getElem? (i := 452) (by decide +kernel), List.mem_of_getElem? (i := 599) (by decide +kernel), List.mem_of_getElem? (i := 600) (by decide +kernel)⟩
theorem lw_p51 : lw_okq (⟨"StrideBanksModel", "meets", "(I)I"⟩, 12) := ⟨⟨by decide +kernel, by decide +kernel⟩, List.mem_of_getElem? (i := 452) (by decide +kernel), List.mem_of_getElem? (i := 611) (by decide +kernel), List.mem_of_getElem? (i := 612) (by decide +kernel)⟩
theorem lw_p52 : lw_okq (⟨"StrideBanksModel", "busy", "(I)I"⟩, 12) := ⟨⟨by decide +kernel, by decide +kernel⟩, List.mem_of_getElem? (i := 452) (by decide +kernel), List.mem_of_getElem? (i := 619) (by decide +kernel), List.mem_of_getElem? (i := 620) (by decide +kernel)⟩
theorem lw_p53 : lw_okq (⟨"StrideBanksModel", "wordsIn", "(I)I"⟩, 12) := ⟨⟨by decide +kernel, by decide +kernel⟩, List.mem_of_getElem? (i := 452) (by decide +kernel), List.mem_of_getElem? (i := 623) (by decide +kernel), List.mem_of_getElem? (i := 624) (by decide +kernel)⟩
theorem lw_p54 : lw_okq (⟨"StrideBanksModel", "ofStreams", "(I)I"⟩, 12) := ⟨⟨by decide +kernel, by decide +kernel⟩, List.mem_of_getElem? (i := 452) (by decide +kernel), List.mem_of_getElem? (i := 631) (by decide +kernel), List.mem_of_getElem? (i := 632) (by decide +kernel)⟩
theorem lw_p55 : lw_okq (⟨"StrideBanksModel", "busyBanks", "()I"⟩, 12) := ⟨⟨by decide +kernel, by decide +kernel⟩, List.mem_of_getElem? (i := 452) (by decide +kernel), List.mem_of_getElem? (i := 635) (by decide +kernel), List.mem_of_getElem? (i := 636) (by decide +kernel)⟩
theorem lw_p56 : lw_okq (⟨"StrideBanksModel", "keepTrial", "()V"⟩, 12) := ⟨⟨by decide +kernel, by decide +kernel⟩, List.mem_of_getElem? (i := 452) (by decide +kernel), List.mem_of_getElem? (i := 643) (by decide +kernel), List.mem_of_getElem? (i := 644) (by decide +kernel)⟩
theorem lw_p57 : lw_okq (⟨"StrideBanksModel", "runsOut", "()I"⟩, 12) := ⟨⟨by decide +kernel, by decide +kernel⟩, List.mem_of_getElem? (i := 452) (by decide +kernel), List.mem_of_getElem? (i := 647) (by decide +kernel), List.mem_of_getElem? (i := 648) (by decide +kernel)⟩
theorem lw_p58 : lw_okq (⟨"StrideBanksModel", "putBack", "()V"⟩, 12) := ⟨⟨by decide +kernel, by decide +kernel⟩, List.mem_of_getElem? (i := 452) (by decide +kernel), List.mem_of_getElem? (i := 651) (by decide +kernel), List.mem_of_getElem? (i := 652) (by decide +kernel)⟩
theorem lw_p59 : lw_okq (⟨"StrideBanksModel", "cyclesWith", "(II)I"⟩, 12) := ⟨⟨by decide +kernel, by decide +kernel⟩, List.mem_of_getElem? (i := 452) (by decide +kernel), List.mem_of_getElem? (i := 659) (by decide +kernel), List.mem_of_getElem? (i := 660) (by decide +kernel)⟩
theorem lw_p60 : lw_okq (⟨"StrideBanksModel", "comes", "(II)V"⟩, 12) := ⟨⟨by decide +kernel, by decide +kernel⟩, List.mem_of_getElem? (i := 452) (by decide +kernel), List.mem_of_getElem? (i := 663) (by decide +kernel), List.mem_of_getElem? (i := 664) (by decide +kernel)⟩
def lw_privs_4 : List (MethodName × Nat) := [(⟨"StrideBanksModel", "number", "(III)Z"⟩, 12), (⟨"StrideBanksModel", "isSign", "(CC)Z"⟩, 12), (⟨"StrideBanksModel", "accepts", "(C)Z"⟩, 12), (⟨"StrideBanksModel", "meets", "(I)I"⟩, 12), (⟨"StrideBanksModel", "busy", "(I)I"⟩, 12), (⟨"StrideBanksModel", "wordsIn", "(I)I"⟩, 12), (⟨"StrideBanksModel", "ofStreams", "(I)I"⟩, 12), (⟨"StrideBanksModel", "busyBanks", "()I"⟩, 12), (⟨"StrideBanksModel", "keepTrial", "()V"⟩, 12), (⟨"StrideBanksModel", "runsOut", "()I"⟩, 12), (⟨"StrideBanksModel", "putBack", "()V"⟩, 12), (⟨"StrideBanksModel", "cyclesWith", "(II)I"⟩, 12), (⟨"StrideBanksModel", "comes", "(II)V"⟩, 12)]
theorem lw_r4 : ∀ q ∈ lw_privs_4, lw_okq q := List.forall_mem_cons.mpr ⟨lw_p48, List.forall_mem_cons.mpr ⟨lw_p49, List.forall_mem_cons.mpr ⟨lw_p50, List.forall_mem_cons.mpr ⟨lw_p51, List.forall_mem_cons.mpr ⟨lw_p52, List.forall_mem_cons.mpr ⟨lw_p53, List.forall_mem_cons.mpr ⟨lw_p54, List.forall_mem_cons.mpr ⟨lw_p55, List.forall_mem_cons.mpr ⟨lw_p56, List.forall_mem_cons.mpr ⟨lw_p57, List.forall_mem_cons.mpr ⟨lw_p58, List.forall_mem_cons.mpr ⟨lw_p59, List.forall_mem_cons.mpr ⟨lw_p60, fun _ h => absurd h List.not_mem_nil⟩⟩⟩⟩⟩⟩⟩⟩⟩⟩⟩⟩⟩
def lw_privs : List (MethodName × Nat) := lw_privs_1 ++ (lw_privs_2 ++ (lw_privs_3 ++ (lw_privs_4)))
def lw_tbl : List Cond := k2_sels lw_privs ++ tables_1
theorem lw_privs_ok : ∀ q ∈ lw_privs, lw_okq q := by
  show ∀ q ∈ lw_privs_1 ++ (lw_privs_2 ++ (lw_privs_3 ++ (lw_privs_4))), lw_okq q
  exact List.forall_mem_append.mpr ⟨lw_r1, List.forall_mem_append.mpr ⟨lw_r2, List.forall_mem_append.mpr ⟨lw_r3, lw_r4⟩⟩⟩
def RX0 : String := "StrideBanks$BankRow"
def TX0 : u_T := fun k => match k with
  | 0 => ("StrideBanks$BankRow", "freeFrom", "I", false)
  | 1 => ("StrideBanks$BankRow", "maker", "I", false)
  | 2 => ("StrideBanks$BankRow", "requests", "I", false)
  | _ => ("StrideBanks$BankRow", "stalls", "I", false)
def tyX0 : Nat → FieldType := fun k => match k with
  | 0 => .int
  | 1 => .int
  | 2 => .int
  | _ => .int
abbrev wsX00 : List Cond := u_ws RX0 TX0 4
theorem nmX0 : ∀ a, a < 4 → ∀ b, b < 4 → a ≠ b → (TX0 a).2.1 ≠ (TX0 b).2.1 := by decide +kernel
theorem tyX0_ok : ∀ k, k < 4 → parseFieldDescriptor (TX0 k).2.2.1 = some (tyX0 k) := by decide +kernel
abbrev cX0_init : ByteArray := prog_2_method_1_code
def yX0_init : MethodName := ⟨RX0, "<init>", "()V"⟩
abbrev cX0_beginAnew : ByteArray := prog_2_method_2_code
def yX0_beginAnew : MethodName := ⟨RX0, "beginAnew", "()V"⟩
abbrev cX0_copy : ByteArray := prog_2_method_3_code
def yX0_copy : MethodName := ⟨RX0, "copy", "(LStrideBanks$BankRow;)V"⟩
def RX1 : String := "StrideBanks$History"
def TX1 : u_T := fun k => match k with
  | 0 => ("StrideBanks$History", "states", "[LStrideBanks$Store;", true)
  | _ => ("StrideBanks$History", "size", "I", false)
def tyX1 : Nat → FieldType := fun k => match k with
  | 0 => .array (.object "StrideBanks$Store")
  | _ => .int
abbrev wsX10 : List Cond := u_ws RX1 TX1 2
theorem nmX1 : ∀ a, a < 2 → ∀ b, b < 2 → a ≠ b → (TX1 a).2.1 ≠ (TX1 b).2.1 := by decide +kernel
theorem tyX1_ok : ∀ k, k < 2 → parseFieldDescriptor (TX1 k).2.2.1 = some (tyX1 k) := by decide +kernel
abbrev cX1_init : ByteArray := prog_3_method_1_code
def yX1_init : MethodName := ⟨RX1, "<init>", "()V"⟩
abbrev cX1_record : ByteArray := prog_3_method_2_code
def yX1_record : MethodName := ⟨RX1, "record", "(LStrideBanks$Store;)V"⟩
abbrev cX1_forgetOldest : ByteArray := prog_3_method_3_code
def yX1_forgetOldest : MethodName := ⟨RX1, "forgetOldest", "()V"⟩
abbrev cX1_takeBack : ByteArray := prog_3_method_4_code
def yX1_takeBack : MethodName := ⟨RX1, "takeBack", "(LStrideBanks$Store;)V"⟩
def RX2 : String := "StrideBanks$Pad"
def TX2 : u_T := fun k => match k with
  | 0 => ("StrideBanks$Pad", "text", "[C", true)
  | 1 => ("StrideBanks$Pad", "length", "I", false)
  | 2 => ("StrideBanks$Pad", "numbers", "[I", true)
  | _ => ("StrideBanks$Pad", "numbersFound", "I", false)
def tyX2 : Nat → FieldType := fun k => match k with
  | 0 => .array .char
  | 1 => .int
  | 2 => .array .int
  | _ => .int
abbrev wsX20 : List Cond := u_ws RX2 TX2 4
theorem nmX2 : ∀ a, a < 4 → ∀ b, b < 4 → a ≠ b → (TX2 a).2.1 ≠ (TX2 b).2.1 := by decide +kernel
theorem tyX2_ok : ∀ k, k < 4 → parseFieldDescriptor (TX2 k).2.2.1 = some (tyX2 k) := by decide +kernel
abbrev cX2_init : ByteArray := prog_4_method_1_code
def yX2_init : MethodName := ⟨RX2, "<init>", "()V"⟩
abbrev cX2_append : ByteArray := prog_4_method_2_code
def yX2_append : MethodName := ⟨RX2, "append", "(JI)V"⟩
abbrev cX2_firstFault : ByteArray := prog_4_method_3_code
def yX2_firstFault : MethodName := ⟨RX2, "firstFault", "()I"⟩
abbrev cX2_takesDigit : ByteArray := prog_4_method_4_code
def yX2_takesDigit : MethodName := ⟨RX2, "takesDigit", "(III)Z"⟩
abbrev cX2_streamsFound : ByteArray := prog_4_method_5_code
def yX2_streamsFound : MethodName := ⟨RX2, "streamsFound", "()I"⟩
abbrev cX2_numberOf : ByteArray := prog_4_method_6_code
def yX2_numberOf : MethodName := ⟨RX2, "numberOf", "(II)I"⟩
def RX3 : String := "StrideBanks$Store"
def TX3 : u_T := fun k => match k with
  | 0 => ("StrideBanks$Store", "settings", "[I", true)
  | 1 => ("StrideBanks$Store", "streams", "[LStrideBanks$StreamRow;", true)
  | 2 => ("StrideBanks$Store", "banks", "[LStrideBanks$BankRow;", true)
  | 3 => ("StrideBanks$Store", "streamCount", "I", false)
  | _ => ("StrideBanks$Store", "cycle", "I", false)
def tyX3 : Nat → FieldType := fun k => match k with
  | 0 => .array .int
  | 1 => .array (.object "StrideBanks$StreamRow")
  | 2 => .array (.object "StrideBanks$BankRow")
  | 3 => .int
  | _ => .int
abbrev wsX30 : List Cond := u_ws RX3 TX3 5
theorem nmX3 : ∀ a, a < 5 → ∀ b, b < 5 → a ≠ b → (TX3 a).2.1 ≠ (TX3 b).2.1 := by decide +kernel
theorem tyX3_ok : ∀ k, k < 5 → parseFieldDescriptor (TX3 k).2.2.1 = some (tyX3 k) := by decide +kernel
abbrev cX3_init : ByteArray := prog_5_method_1_code
def yX3_init : MethodName := ⟨RX3, "<init>", "()V"⟩
abbrev cX3_copySettings : ByteArray := prog_5_method_2_code
def yX3_copySettings : MethodName := ⟨RX3, "copySettings", "(LStrideBanks$Store;)V"⟩
abbrev cX3_copy : ByteArray := prog_5_method_3_code
def yX3_copy : MethodName := ⟨RX3, "copy", "(LStrideBanks$Store;)V"⟩
abbrev cX3_freeBanks : ByteArray := prog_5_method_4_code
def yX3_freeBanks : MethodName := ⟨RX3, "freeBanks", "()V"⟩
abbrev cX3_beginAnew : ByteArray := prog_5_method_5_code
def yX3_beginAnew : MethodName := ⟨RX3, "beginAnew", "()V"⟩
abbrev cX3_has : ByteArray := prog_5_method_6_code
def yX3_has : MethodName := ⟨RX3, "has", "(I)Z"⟩
abbrev cX3_append : ByteArray := prog_5_method_7_code
def yX3_append : MethodName := ⟨RX3, "append", "(III)V"⟩
abbrev cX3_appendLike : ByteArray := prog_5_method_8_code
def yX3_appendLike : MethodName := ⟨RX3, "appendLike", "(LStrideBanks$StreamRow;)V"⟩
abbrev cX3_remove : ByteArray := prog_5_method_9_code
def yX3_remove : MethodName := ⟨RX3, "remove", "(I)V"⟩
abbrev cX3_greatestPrime : ByteArray := prog_5_method_10_code
def yX3_greatestPrime : MethodName := ⟨RX3, "greatestPrime", "()I"⟩
abbrev cX3_bankAt : ByteArray := prog_5_method_11_code
def yX3_bankAt : MethodName := ⟨RX3, "bankAt", "(I)I"⟩
abbrev cX3_passCycle : ByteArray := prog_5_method_12_code
def yX3_passCycle : MethodName := ⟨RX3, "passCycle", "()I"⟩
abbrev cX3_ask : ByteArray := prog_5_method_13_code
def yX3_ask : MethodName := ⟨RX3, "ask", "(I)I"⟩
abbrev cX3_passAll : ByteArray := prog_5_method_14_code
def yX3_passAll : MethodName := ⟨RX3, "passAll", "()I"⟩
abbrev cX3_lonelyCycles : ByteArray := prog_5_method_15_code
def yX3_lonelyCycles : MethodName := ⟨RX3, "lonelyCycles", "(LStrideBanks$StreamRow;I)I"⟩
abbrev cX3_banksMet : ByteArray := prog_5_method_16_code
def yX3_banksMet : MethodName := ⟨RX3, "banksMet", "(LStrideBanks$StreamRow;)I"⟩
abbrev cX3_wordsLeftIn : ByteArray := prog_5_method_17_code
def yX3_wordsLeftIn : MethodName := ⟨RX3, "wordsLeftIn", "(I)I"⟩
abbrev cX3_total : ByteArray := prog_5_method_18_code
def yX3_total : MethodName := ⟨RX3, "total", "(I)I"⟩
abbrev cX3_busyBanks : ByteArray := prog_5_method_19_code
def yX3_busyBanks : MethodName := ⟨RX3, "busyBanks", "()I"⟩
def RX4 : String := "StrideBanks$StreamRow"
def TX4 : u_T := fun k => match k with
  | 0 => ("StrideBanks$StreamRow", "start", "I", false)
  | 1 => ("StrideBanks$StreamRow", "stride", "I", false)
  | 2 => ("StrideBanks$StreamRow", "length", "I", false)
  | 3 => ("StrideBanks$StreamRow", "left", "I", false)
  | 4 => ("StrideBanks$StreamRow", "latest", "I", false)
  | 5 => ("StrideBanks$StreamRow", "stalls", "I", false)
  | 6 => ("StrideBanks$StreamRow", "clashes", "I", false)
  | _ => ("StrideBanks$StreamRow", "ended", "I", false)
def tyX4 : Nat → FieldType := fun k => match k with
  | 0 => .int
  | 1 => .int
  | 2 => .int
  | 3 => .int
  | 4 => .int
  | 5 => .int
  | 6 => .int
  | _ => .int
abbrev wsX40 : List Cond := u_ws RX4 TX4 8
theorem nmX4 : ∀ a, a < 8 → ∀ b, b < 8 → a ≠ b → (TX4 a).2.1 ≠ (TX4 b).2.1 := by decide +kernel
theorem tyX4_ok : ∀ k, k < 8 → parseFieldDescriptor (TX4 k).2.2.1 = some (tyX4 k) := by decide +kernel
abbrev cX4_init : ByteArray := prog_6_method_1_code
def yX4_init : MethodName := ⟨RX4, "<init>", "()V"⟩
abbrev cX4_beginAnew : ByteArray := prog_6_method_2_code
def yX4_beginAnew : MethodName := ⟨RX4, "beginAnew", "()V"⟩
abbrev cX4_copy : ByteArray := prog_6_method_3_code
def yX4_copy : MethodName := ⟨RX4, "copy", "(LStrideBanks$StreamRow;)V"⟩
abbrev cX4_tell : ByteArray := prog_6_method_4_code
def yX4_tell : MethodName := ⟨RX4, "tell", "(I)I"⟩
abbrev cX4_nextAddress : ByteArray := prog_6_method_5_code
def yX4_nextAddress : MethodName := ⟨RX4, "nextAddress", "()I"⟩
abbrev cX4_finishRequest : ByteArray := prog_6_method_6_code
def yX4_finishRequest : MethodName := ⟨RX4, "finishRequest", "(II)V"⟩
def RX5 : String := "StrideBanks"
def TX5 : u_T := fun k => match k with
  | 0 => ("StrideBanks", "now", "LStrideBanks$Store;", true)
  | 1 => ("StrideBanks", "trial", "LStrideBanks$Store;", true)
  | 2 => ("StrideBanks", "history", "LStrideBanks$History;", true)
  | 3 => ("StrideBanks", "slots", "[LStrideBanks$Store;", true)
  | 4 => ("StrideBanks", "saved", "[Z", true)
  | _ => ("StrideBanks", "pad", "LStrideBanks$Pad;", true)
def tyX5 : Nat → FieldType := fun k => match k with
  | 0 => .object "StrideBanks$Store"
  | 1 => .object "StrideBanks$Store"
  | 2 => .object "StrideBanks$History"
  | 3 => .array (.object "StrideBanks$Store")
  | 4 => .array .boolean
  | _ => .object "StrideBanks$Pad"
abbrev wsX50 : List Cond := u_ws RX5 TX5 6
theorem nmX5 : ∀ a, a < 6 → ∀ b, b < 6 → a ≠ b → (TX5 a).2.1 ≠ (TX5 b).2.1 := by decide +kernel
theorem tyX5_ok : ∀ k, k < 6 → parseFieldDescriptor (TX5 k).2.2.1 = some (tyX5 k) := by decide +kernel
abbrev cX5_init : ByteArray := prog_1_method_1_code
def yX5_init : MethodName := ⟨RX5, "<init>", "()V"⟩
abbrev cX5_set : ByteArray := prog_1_method_2_code
def yX5_set : MethodName := ⟨RX5, "set", "(II)I"⟩
abbrev cX5_add : ByteArray := prog_1_method_3_code
def yX5_add : MethodName := ⟨RX5, "add", "(III)I"⟩
abbrev cX5_read : ByteArray := prog_1_method_4_code
def yX5_read : MethodName := ⟨RX5, "read", "()I"⟩
abbrev cX5_drop : ByteArray := prog_1_method_5_code
def yX5_drop : MethodName := ⟨RX5, "drop", "(I)I"⟩
abbrev cX5_stride : ByteArray := prog_1_method_6_code
def yX5_stride : MethodName := ⟨RX5, "stride", "(II)I"⟩
abbrev cX5_run : ByteArray := prog_1_method_7_code
def yX5_run : MethodName := ⟨RX5, "run", "(I)I"⟩
abbrev cX5_reset : ByteArray := prog_1_method_8_code
def yX5_reset : MethodName := ⟨RX5, "reset", "()I"⟩
abbrev cX5_bankOf : ByteArray := prog_1_method_9_code
def yX5_bankOf : MethodName := ⟨RX5, "bankOf", "(I)I"⟩
abbrev cX5_stream : ByteArray := prog_1_method_10_code
def yX5_stream : MethodName := ⟨RX5, "stream", "(II)I"⟩
abbrev cX5_bank : ByteArray := prog_1_method_11_code
def yX5_bank : MethodName := ⟨RX5, "bank", "(II)I"⟩
abbrev cX5_count : ByteArray := prog_1_method_12_code
def yX5_count : MethodName := ⟨RX5, "count", "(I)I"⟩
abbrev cX5_untilDone : ByteArray := prog_1_method_13_code
def yX5_untilDone : MethodName := ⟨RX5, "untilDone", "()I"⟩
abbrev cX5_alone : ByteArray := prog_1_method_14_code
def yX5_alone : MethodName := ⟨RX5, "alone", "(II)I"⟩
abbrev cX5_bestStride : ByteArray := prog_1_method_15_code
def yX5_bestStride : MethodName := ⟨RX5, "bestStride", "(III)I"⟩
abbrev cX5_bestMap : ByteArray := prog_1_method_16_code
def yX5_bestMap : MethodName := ⟨RX5, "bestMap", "(I)I"⟩
abbrev cX5_clashes : ByteArray := prog_1_method_17_code
def yX5_clashes : MethodName := ⟨RX5, "clashes", "(II)I"⟩
abbrev cX5_put : ByteArray := prog_1_method_18_code
def yX5_put : MethodName := ⟨RX5, "put", "(J)I"⟩
abbrev cX5_wipe : ByteArray := prog_1_method_19_code
def yX5_wipe : MethodName := ⟨RX5, "wipe", "()I"⟩
abbrev cX5_fault : ByteArray := prog_1_method_20_code
def yX5_fault : MethodName := ⟨RX5, "fault", "()I"⟩
abbrev cX5_undo : ByteArray := prog_1_method_21_code
def yX5_undo : MethodName := ⟨RX5, "undo", "()I"⟩
abbrev cX5_save : ByteArray := prog_1_method_22_code
def yX5_save : MethodName := ⟨RX5, "save", "(I)I"⟩
abbrev cX5_restore : ByteArray := prog_1_method_23_code
def yX5_restore : MethodName := ⟨RX5, "restore", "(I)I"⟩
abbrev cX5_isIn : ByteArray := prog_1_method_24_code
def yX5_isIn : MethodName := ⟨RX5, "isIn", "(III)Z"⟩
abbrev cX5_cyclesAlone : ByteArray := prog_1_method_25_code
def yX5_cyclesAlone : MethodName := ⟨RX5, "cyclesAlone", "(II)I"⟩
abbrev cX5_cyclesByMap : ByteArray := prog_1_method_26_code
def yX5_cyclesByMap : MethodName := ⟨RX5, "cyclesByMap", "(I)I"⟩
abbrev cX5_charactersIn : ByteArray := prog_1_method_27_code
def yX5_charactersIn : MethodName := ⟨RX5, "charactersIn", "(J)I"⟩
def RX6 : String := "StrideBanksModel"
def TX6 : u_T := fun k => match k with
  | 0 => ("StrideBanksModel", "s", "[I", true)
  | 1 => ("StrideBanksModel", "spare", "[I", true)
  | 2 => ("StrideBanksModel", "trial", "[I", true)
  | 3 => ("StrideBanksModel", "before", "[I", true)
  | 4 => ("StrideBanksModel", "saved", "[I", true)
  | 5 => ("StrideBanksModel", "isSaved", "[Z", true)
  | 6 => ("StrideBanksModel", "read", "[I", true)
  | 7 => ("StrideBanksModel", "pad", "[C", true)
  | 8 => ("StrideBanksModel", "length", "I", false)
  | 9 => ("StrideBanksModel", "states", "I", false)
  | 10 => ("StrideBanksModel", "told", "I", false)
  | _ => ("StrideBanksModel", "at", "I", false)
def tyX6 : Nat → FieldType := fun k => match k with
  | 0 => .array .int
  | 1 => .array .int
  | 2 => .array .int
  | 3 => .array .int
  | 4 => .array .int
  | 5 => .array .boolean
  | 6 => .array .int
  | 7 => .array .char
  | 8 => .int
  | 9 => .int
  | 10 => .int
  | _ => .int
abbrev wsX60 : List Cond := u_ws RX6 TX6 12
theorem nmX6 : ∀ a, a < 12 → ∀ b, b < 12 → a ≠ b → (TX6 a).2.1 ≠ (TX6 b).2.1 := by decide +kernel
theorem tyX6_ok : ∀ k, k < 12 → parseFieldDescriptor (TX6 k).2.2.1 = some (tyX6 k) := by decide +kernel
abbrev cX6_init : ByteArray := prog_8_method_1_code
def yX6_init : MethodName := ⟨RX6, "<init>", "()V"⟩
abbrev cX6_in : ByteArray := prog_8_method_2_code
def yX6_in : MethodName := ⟨RX6, "in", "(III)Z"⟩
abbrev cX6_b : ByteArray := prog_8_method_3_code
def yX6_b : MethodName := ⟨RX6, "b", "(I)I"⟩
abbrev cX6_m : ByteArray := prog_8_method_4_code
def yX6_m : MethodName := ⟨RX6, "m", "(I)I"⟩
abbrev cX6_isStream : ByteArray := prog_8_method_5_code
def yX6_isStream : MethodName := ⟨RX6, "isStream", "(I)Z"⟩
abbrev cX6_hold : ByteArray := prog_8_method_6_code
def yX6_hold : MethodName := ⟨RX6, "hold", "()V"⟩
abbrev cX6_recorded : ByteArray := prog_8_method_7_code
def yX6_recorded : MethodName := ⟨RX6, "recorded", "(I)I"⟩
abbrev cX6_keepTrial : ByteArray := prog_8_method_8_code
def yX6_keepTrial : MethodName := ⟨RX6, "keepTrial", "()V"⟩
abbrev cX6_putBack : ByteArray := prog_8_method_9_code
def yX6_putBack : MethodName := ⟨RX6, "putBack", "()V"⟩
abbrev cX6_isPrime : ByteArray := prog_8_method_10_code
def yX6_isPrime : MethodName := ⟨RX6, "isPrime", "(I)Z"⟩
abbrev cX6_prime : ByteArray := prog_8_method_11_code
def yX6_prime : MethodName := ⟨RX6, "prime", "()I"⟩
abbrev cX6_bankAt : ByteArray := prog_8_method_12_code
def yX6_bankAt : MethodName := ⟨RX6, "bankAt", "(I)I"⟩
abbrev cX6_asks : ByteArray := prog_8_method_13_code
def yX6_asks : MethodName := ⟨RX6, "asks", "(I)I"⟩
abbrev cX6_cycle : ByteArray := prog_8_method_14_code
def yX6_cycle : MethodName := ⟨RX6, "cycle", "()I"⟩
abbrev cX6_wordsLeft : ByteArray := prog_8_method_15_code
def yX6_wordsLeft : MethodName := ⟨RX6, "wordsLeft", "()I"⟩
abbrev cX6_begins : ByteArray := prog_8_method_16_code
def yX6_begins : MethodName := ⟨RX6, "begins", "(I)V"⟩
abbrev cX6_beginsAnew : ByteArray := prog_8_method_17_code
def yX6_beginsAnew : MethodName := ⟨RX6, "beginsAnew", "()V"⟩
abbrev cX6_runsOut : ByteArray := prog_8_method_18_code
def yX6_runsOut : MethodName := ⟨RX6, "runsOut", "()I"⟩
abbrev cX6_isSetting : ByteArray := prog_8_method_19_code
def yX6_isSetting : MethodName := ⟨RX6, "isSetting", "(II)Z"⟩
abbrev cX6_set : ByteArray := prog_8_method_20_code
def yX6_set : MethodName := ⟨RX6, "set", "(II)I"⟩
abbrev cX6_puts : ByteArray := prog_8_method_21_code
def yX6_puts : MethodName := ⟨RX6, "puts", "(III)I"⟩
abbrev cX6_add : ByteArray := prog_8_method_22_code
def yX6_add : MethodName := ⟨RX6, "add", "(III)I"⟩
abbrev cX6_drop : ByteArray := prog_8_method_23_code
def yX6_drop : MethodName := ⟨RX6, "drop", "(I)I"⟩
abbrev cX6_stride : ByteArray := prog_8_method_24_code
def yX6_stride : MethodName := ⟨RX6, "stride", "(II)I"⟩
abbrev cX6_run : ByteArray := prog_8_method_25_code
def yX6_run : MethodName := ⟨RX6, "run", "(I)I"⟩
abbrev cX6_reset : ByteArray := prog_8_method_26_code
def yX6_reset : MethodName := ⟨RX6, "reset", "()I"⟩
abbrev cX6_isSign : ByteArray := prog_8_method_27_code
def yX6_isSign : MethodName := ⟨RX6, "isSign", "(CC)Z"⟩
abbrev cX6_accepts : ByteArray := prog_8_method_28_code
def yX6_accepts : MethodName := ⟨RX6, "accepts", "(C)Z"⟩
abbrev cX6_number : ByteArray := prog_8_method_29_code
def yX6_number : MethodName := ⟨RX6, "number", "(III)Z"⟩
abbrev cX6_readsStream : ByteArray := prog_8_method_30_code
def yX6_readsStream : MethodName := ⟨RX6, "readsStream", "()Z"⟩
abbrev cX6_faultOf : ByteArray := prog_8_method_31_code
def yX6_faultOf : MethodName := ⟨RX6, "faultOf", "()I"⟩
abbrev cX6_read : ByteArray := prog_8_method_32_code
def yX6_read : MethodName := ⟨RX6, "read", "()I"⟩
abbrev cX6_bankOf : ByteArray := prog_8_method_33_code
def yX6_bankOf : MethodName := ⟨RX6, "bankOf", "(I)I"⟩
abbrev cX6_meets : ByteArray := prog_8_method_34_code
def yX6_meets : MethodName := ⟨RX6, "meets", "(I)I"⟩
abbrev cX6_stream : ByteArray := prog_8_method_35_code
def yX6_stream : MethodName := ⟨RX6, "stream", "(II)I"⟩
abbrev cX6_wordsIn : ByteArray := prog_8_method_36_code
def yX6_wordsIn : MethodName := ⟨RX6, "wordsIn", "(I)I"⟩
abbrev cX6_busy : ByteArray := prog_8_method_37_code
def yX6_busy : MethodName := ⟨RX6, "busy", "(I)I"⟩
abbrev cX6_bank : ByteArray := prog_8_method_38_code
def yX6_bank : MethodName := ⟨RX6, "bank", "(II)I"⟩
abbrev cX6_ofStreams : ByteArray := prog_8_method_39_code
def yX6_ofStreams : MethodName := ⟨RX6, "ofStreams", "(I)I"⟩
abbrev cX6_busyBanks : ByteArray := prog_8_method_40_code
def yX6_busyBanks : MethodName := ⟨RX6, "busyBanks", "()I"⟩
abbrev cX6_count : ByteArray := prog_8_method_41_code
def yX6_count : MethodName := ⟨RX6, "count", "(I)I"⟩
abbrev cX6_untilDone : ByteArray := prog_8_method_42_code
def yX6_untilDone : MethodName := ⟨RX6, "untilDone", "()I"⟩
abbrev cX6_comes : ByteArray := prog_8_method_43_code
def yX6_comes : MethodName := ⟨RX6, "comes", "(II)V"⟩
abbrev cX6_cyclesWith : ByteArray := prog_8_method_44_code
def yX6_cyclesWith : MethodName := ⟨RX6, "cyclesWith", "(II)I"⟩
abbrev cX6_alone : ByteArray := prog_8_method_45_code
def yX6_alone : MethodName := ⟨RX6, "alone", "(II)I"⟩
abbrev cX6_bestStride : ByteArray := prog_8_method_46_code
def yX6_bestStride : MethodName := ⟨RX6, "bestStride", "(III)I"⟩
abbrev cX6_bestMap : ByteArray := prog_8_method_47_code
def yX6_bestMap : MethodName := ⟨RX6, "bestMap", "(I)I"⟩
abbrev cX6_clashes : ByteArray := prog_8_method_48_code
def yX6_clashes : MethodName := ⟨RX6, "clashes", "(II)I"⟩
abbrev cX6_put : ByteArray := prog_8_method_49_code
def yX6_put : MethodName := ⟨RX6, "put", "(J)I"⟩
abbrev cX6_wipe : ByteArray := prog_8_method_50_code
def yX6_wipe : MethodName := ⟨RX6, "wipe", "()I"⟩
abbrev cX6_fault : ByteArray := prog_8_method_51_code
def yX6_fault : MethodName := ⟨RX6, "fault", "()I"⟩
abbrev cX6_undo : ByteArray := prog_8_method_52_code
def yX6_undo : MethodName := ⟨RX6, "undo", "()I"⟩
abbrev cX6_save : ByteArray := prog_8_method_53_code
def yX6_save : MethodName := ⟨RX6, "save", "(I)I"⟩
abbrev cX6_restore : ByteArray := prog_8_method_54_code
def yX6_restore : MethodName := ⟨RX6, "restore", "(I)I"⟩
def RJ6 : String := "java/lang/Integer"
def TJ6 : u_T := fun k => match k with
  | _ => ("", "", "", false)
def tyJ6 : Nat → FieldType := fun k => match k with
  | _ => .int
abbrev wsJ60 : List Cond := u_ws RJ6 TJ6 0
theorem nmJ6 : ∀ a, a < 0 → ∀ b, b < 0 → a ≠ b → (TJ6 a).2.1 ≠ (TJ6 b).2.1 := by decide +kernel
theorem tyJ6_ok : ∀ k, k < 0 → parseFieldDescriptor (TJ6 k).2.2.1 = some (tyJ6 k) := by decide +kernel
abbrev cJ6_bitCount_0f7a4 : ByteArray := prog_9_method_49_code
def yJ6_bitCount_0f7a4 : MethodName := ⟨RJ6, "bitCount", "(I)I"⟩
def RJ9 : String := "java/lang/Math"
def TJ9 : u_T := fun k => match k with
  | _ => ("", "", "", false)
def tyJ9 : Nat → FieldType := fun k => match k with
  | _ => .int
abbrev wsJ90 : List Cond := u_ws RJ9 TJ9 0
theorem nmJ9 : ∀ a, a < 0 → ∀ b, b < 0 → a ≠ b → (TJ9 a).2.1 ≠ (TJ9 b).2.1 := by decide +kernel
theorem tyJ9_ok : ∀ k, k < 0 → parseFieldDescriptor (TJ9 k).2.2.1 = some (tyJ9 k) := by decide +kernel
abbrev cJ9_max_7cf53 : ByteArray := prog_10_method_65_code
def yJ9_max_7cf53 : MethodName := ⟨RJ9, "max", "(II)I"⟩
abbrev cJ9_min_7cf53 : ByteArray := prog_10_method_69_code
def yJ9_min_7cf53 : MethodName := ⟨RJ9, "min", "(II)I"⟩
def RJ10 : String := "java/lang/System"
def TJ10 : u_T := fun k => match k with
  | _ => ("", "", "", false)
def tyJ10 : Nat → FieldType := fun k => match k with
  | _ => .int
abbrev wsJ100 : List Cond := u_ws RJ10 TJ10 0
theorem nmJ10 : ∀ a, a < 0 → ∀ b, b < 0 → a ≠ b → (TJ10 a).2.1 ≠ (TJ10 b).2.1 := by decide +kernel
theorem tyJ10_ok : ∀ k, k < 0 → parseFieldDescriptor (TJ10 k).2.2.1 = some (tyJ10 k) := by decide +kernel
def RL : String := "StrideBanksLaw"
abbrev cL_law : ByteArray := code
def yL_law : MethodName := ⟨RL, "law", "([I)Z"⟩
abbrev vwCl : List vw_C := [(RX0, TX0, 4), (RX1, TX1, 2), (RX2, TX2, 4), (RX3, TX3, 5), (RX4, TX4, 8), (RX5, TX5, 6), (RX6, TX6, 12)]
/-- the words of the tables that every call may carry, and those of nest mates and arrays -/
def TB : List Cond := lw_tbl.filter goodWord
def isNW : Cond → Bool
  | .methodLinkNest .. => true
  | .fieldLinkNest .. => true
  | .arrayOver (.object _) => true
  | _ => false
def NW : List Cond := lw_tbl.filter isNW
theorem tb_of {w : Cond} (i : Nat) (h : lw_tbl[i]? = some w) (g : goodWord w = true) : w ∈ TB := List.mem_filter.mpr ⟨List.mem_of_getElem? h, g⟩
theorem nw_of {w : Cond} (i : Nat) (h : lw_tbl[i]? = some w) (g : isNW w = true) : w ∈ NW := List.mem_filter.mpr ⟨List.mem_of_getElem? h, g⟩
theorem tb_good : GoodIn TB TB := fun w h => ⟨h, good_of_word (List.mem_filter.mp h).2⟩
set_option maxRecDepth 20000 in
theorem ws_X0_beginAnew : Cond.selects RX0 yX0_beginAnew yX0_beginAnew ∈ TB := tb_of 0 (by rfl) (by rfl)
set_option maxRecDepth 20000 in
theorem ws_X1_record : Cond.selects RX1 yX1_record yX1_record ∈ TB := tb_of 1 (by rfl) (by rfl)
set_option maxRecDepth 20000 in
theorem ws_X1_forgetOldest : Cond.selects RX1 yX1_forgetOldest yX1_forgetOldest ∈ TB := tb_of 2 (by rfl) (by rfl)
set_option maxRecDepth 20000 in
theorem ws_X3_copy : Cond.selects RX3 yX3_copy yX3_copy ∈ TB := tb_of 3 (by rfl) (by rfl)
set_option maxRecDepth 20000 in
theorem ws_X3_copySettings : Cond.selects RX3 yX3_copySettings yX3_copySettings ∈ TB := tb_of 4 (by rfl) (by rfl)
set_option maxRecDepth 20000 in
theorem ws_X4_copy : Cond.selects RX4 yX4_copy yX4_copy ∈ TB := tb_of 5 (by rfl) (by rfl)
set_option maxRecDepth 20000 in
theorem ws_X0_copy : Cond.selects RX0 yX0_copy yX0_copy ∈ TB := tb_of 6 (by rfl) (by rfl)
set_option maxRecDepth 20000 in
theorem ws_X3_beginAnew : Cond.selects RX3 yX3_beginAnew yX3_beginAnew ∈ TB := tb_of 7 (by rfl) (by rfl)
set_option maxRecDepth 20000 in
theorem ws_X3_freeBanks : Cond.selects RX3 yX3_freeBanks yX3_freeBanks ∈ TB := tb_of 8 (by rfl) (by rfl)
set_option maxRecDepth 20000 in
theorem ws_X4_beginAnew : Cond.selects RX4 yX4_beginAnew yX4_beginAnew ∈ TB := tb_of 9 (by rfl) (by rfl)
set_option maxRecDepth 20000 in
theorem ws_X3_append : Cond.selects RX3 yX3_append yX3_append ∈ TB := tb_of 10 (by rfl) (by rfl)
set_option maxRecDepth 20000 in
theorem ws_X2_firstFault : Cond.selects RX2 yX2_firstFault yX2_firstFault ∈ TB := tb_of 11 (by rfl) (by rfl)
set_option maxRecDepth 20000 in
theorem ws_X2_takesDigit : Cond.selects RX2 yX2_takesDigit yX2_takesDigit ∈ TB := tb_of 12 (by rfl) (by rfl)
set_option maxRecDepth 20000 in
theorem ws_X2_streamsFound : Cond.selects RX2 yX2_streamsFound yX2_streamsFound ∈ TB := tb_of 13 (by rfl) (by rfl)
set_option maxRecDepth 20000 in
theorem ws_X2_numberOf : Cond.selects RX2 yX2_numberOf yX2_numberOf ∈ TB := tb_of 14 (by rfl) (by rfl)
set_option maxRecDepth 20000 in
theorem ws_X3_has : Cond.selects RX3 yX3_has yX3_has ∈ TB := tb_of 15 (by rfl) (by rfl)
set_option maxRecDepth 20000 in
theorem ws_X3_remove : Cond.selects RX3 yX3_remove yX3_remove ∈ TB := tb_of 16 (by rfl) (by rfl)
set_option maxRecDepth 20000 in
theorem ws_X3_passCycle : Cond.selects RX3 yX3_passCycle yX3_passCycle ∈ TB := tb_of 17 (by rfl) (by rfl)
set_option maxRecDepth 20000 in
theorem ws_X3_ask : Cond.selects RX3 yX3_ask yX3_ask ∈ TB := tb_of 18 (by rfl) (by rfl)
set_option maxRecDepth 20000 in
theorem ws_X4_nextAddress : Cond.selects RX4 yX4_nextAddress yX4_nextAddress ∈ TB := tb_of 19 (by rfl) (by rfl)
set_option maxRecDepth 20000 in
theorem ws_X3_bankAt : Cond.selects RX3 yX3_bankAt yX3_bankAt ∈ TB := tb_of 20 (by rfl) (by rfl)
set_option maxRecDepth 20000 in
theorem ws_X3_greatestPrime : Cond.selects RX3 yX3_greatestPrime yX3_greatestPrime ∈ TB := tb_of 21 (by rfl) (by rfl)
set_option maxRecDepth 20000 in
theorem ws_X4_finishRequest : Cond.selects RX4 yX4_finishRequest yX4_finishRequest ∈ TB := tb_of 22 (by rfl) (by rfl)
set_option maxRecDepth 20000 in
theorem ws_X3_total : Cond.selects RX3 yX3_total yX3_total ∈ TB := tb_of 23 (by rfl) (by rfl)
set_option maxRecDepth 20000 in
theorem ws_X4_tell : Cond.selects RX4 yX4_tell yX4_tell ∈ TB := tb_of 24 (by rfl) (by rfl)
set_option maxRecDepth 20000 in
theorem ws_X3_banksMet : Cond.selects RX3 yX3_banksMet yX3_banksMet ∈ TB := tb_of 25 (by rfl) (by rfl)
set_option maxRecDepth 20000 in
theorem ws_X3_wordsLeftIn : Cond.selects RX3 yX3_wordsLeftIn yX3_wordsLeftIn ∈ TB := tb_of 26 (by rfl) (by rfl)
set_option maxRecDepth 20000 in
theorem ws_X3_busyBanks : Cond.selects RX3 yX3_busyBanks yX3_busyBanks ∈ TB := tb_of 27 (by rfl) (by rfl)
set_option maxRecDepth 20000 in
theorem ws_X3_passAll : Cond.selects RX3 yX3_passAll yX3_passAll ∈ TB := tb_of 28 (by rfl) (by rfl)
set_option maxRecDepth 20000 in
theorem ws_X5_cyclesAlone : Cond.selects RX5 yX5_cyclesAlone yX5_cyclesAlone ∈ TB := tb_of 29 (by rfl) (by rfl)
set_option maxRecDepth 20000 in
theorem ws_X3_lonelyCycles : Cond.selects RX3 yX3_lonelyCycles yX3_lonelyCycles ∈ TB := tb_of 30 (by rfl) (by rfl)
set_option maxRecDepth 20000 in
theorem ws_X5_cyclesByMap : Cond.selects RX5 yX5_cyclesByMap yX5_cyclesByMap ∈ TB := tb_of 31 (by rfl) (by rfl)
set_option maxRecDepth 20000 in
theorem ws_X3_appendLike : Cond.selects RX3 yX3_appendLike yX3_appendLike ∈ TB := tb_of 32 (by rfl) (by rfl)
set_option maxRecDepth 20000 in
theorem ws_X2_append : Cond.selects RX2 yX2_append yX2_append ∈ TB := tb_of 33 (by rfl) (by rfl)
set_option maxRecDepth 20000 in
theorem ws_X1_takeBack : Cond.selects RX1 yX1_takeBack yX1_takeBack ∈ TB := tb_of 34 (by rfl) (by rfl)
set_option maxRecDepth 20000 in
theorem ws_X6_hold : Cond.selects RX6 yX6_hold yX6_hold ∈ TB := tb_of 35 (by rfl) (by rfl)
set_option maxRecDepth 20000 in
theorem ws_X6_beginsAnew : Cond.selects RX6 yX6_beginsAnew yX6_beginsAnew ∈ TB := tb_of 36 (by rfl) (by rfl)
set_option maxRecDepth 20000 in
theorem ws_X6_begins : Cond.selects RX6 yX6_begins yX6_begins ∈ TB := tb_of 37 (by rfl) (by rfl)
set_option maxRecDepth 20000 in
theorem ws_X6_recorded : Cond.selects RX6 yX6_recorded yX6_recorded ∈ TB := tb_of 38 (by rfl) (by rfl)
set_option maxRecDepth 20000 in
theorem ws_X6_puts : Cond.selects RX6 yX6_puts yX6_puts ∈ TB := tb_of 39 (by rfl) (by rfl)
set_option maxRecDepth 20000 in
theorem ws_X6_isStream : Cond.selects RX6 yX6_isStream yX6_isStream ∈ TB := tb_of 40 (by rfl) (by rfl)
set_option maxRecDepth 20000 in
theorem ws_X6_cycle : Cond.selects RX6 yX6_cycle yX6_cycle ∈ TB := tb_of 41 (by rfl) (by rfl)
set_option maxRecDepth 20000 in
theorem ws_X6_asks : Cond.selects RX6 yX6_asks yX6_asks ∈ TB := tb_of 42 (by rfl) (by rfl)
set_option maxRecDepth 20000 in
theorem ws_X6_bankAt : Cond.selects RX6 yX6_bankAt yX6_bankAt ∈ TB := tb_of 43 (by rfl) (by rfl)
set_option maxRecDepth 20000 in
theorem ws_X6_prime : Cond.selects RX6 yX6_prime yX6_prime ∈ TB := tb_of 44 (by rfl) (by rfl)
set_option maxRecDepth 20000 in
theorem ws_X6_wordsLeft : Cond.selects RX6 yX6_wordsLeft yX6_wordsLeft ∈ TB := tb_of 45 (by rfl) (by rfl)
set_option maxRecDepth 20000 in
theorem ws_X6_faultOf : Cond.selects RX6 yX6_faultOf yX6_faultOf ∈ TB := tb_of 46 (by rfl) (by rfl)
set_option maxRecDepth 20000 in
theorem ws_X6_readsStream : Cond.selects RX6 yX6_readsStream yX6_readsStream ∈ TB := tb_of 47 (by rfl) (by rfl)
set_option maxRecDepth 20000 in
theorem ws_X6_number : Cond.selects RX6 yX6_number yX6_number ∈ TB := tb_of 48 (by rfl) (by rfl)
set_option maxRecDepth 20000 in
theorem ws_X6_isSign : Cond.selects RX6 yX6_isSign yX6_isSign ∈ TB := tb_of 49 (by rfl) (by rfl)
set_option maxRecDepth 20000 in
theorem ws_X6_accepts : Cond.selects RX6 yX6_accepts yX6_accepts ∈ TB := tb_of 50 (by rfl) (by rfl)
set_option maxRecDepth 20000 in
theorem ws_X6_meets : Cond.selects RX6 yX6_meets yX6_meets ∈ TB := tb_of 51 (by rfl) (by rfl)
set_option maxRecDepth 20000 in
theorem ws_X6_busy : Cond.selects RX6 yX6_busy yX6_busy ∈ TB := tb_of 52 (by rfl) (by rfl)
set_option maxRecDepth 20000 in
theorem ws_X6_wordsIn : Cond.selects RX6 yX6_wordsIn yX6_wordsIn ∈ TB := tb_of 53 (by rfl) (by rfl)
set_option maxRecDepth 20000 in
theorem ws_X6_ofStreams : Cond.selects RX6 yX6_ofStreams yX6_ofStreams ∈ TB := tb_of 54 (by rfl) (by rfl)
set_option maxRecDepth 20000 in
theorem ws_X6_busyBanks : Cond.selects RX6 yX6_busyBanks yX6_busyBanks ∈ TB := tb_of 55 (by rfl) (by rfl)
set_option maxRecDepth 20000 in
theorem ws_X6_keepTrial : Cond.selects RX6 yX6_keepTrial yX6_keepTrial ∈ TB := tb_of 56 (by rfl) (by rfl)
set_option maxRecDepth 20000 in
theorem ws_X6_runsOut : Cond.selects RX6 yX6_runsOut yX6_runsOut ∈ TB := tb_of 57 (by rfl) (by rfl)
set_option maxRecDepth 20000 in
theorem ws_X6_putBack : Cond.selects RX6 yX6_putBack yX6_putBack ∈ TB := tb_of 58 (by rfl) (by rfl)
set_option maxRecDepth 20000 in
theorem ws_X6_cyclesWith : Cond.selects RX6 yX6_cyclesWith yX6_cyclesWith ∈ TB := tb_of 59 (by rfl) (by rfl)
set_option maxRecDepth 20000 in
theorem ws_X6_comes : Cond.selects RX6 yX6_comes yX6_comes ∈ TB := tb_of 60 (by rfl) (by rfl)
set_option maxRecDepth 20000 in
theorem w0_L : Cond.initialized RL ∈ TB := tb_of 61 (by rfl) (by rfl)
set_option maxRecDepth 20000 in
theorem w0_X5 : Cond.initialized RX5 ∈ TB := tb_of 62 (by rfl) (by rfl)
set_option maxRecDepth 20000 in
theorem w0_X3 : Cond.initialized RX3 ∈ TB := tb_of 63 (by rfl) (by rfl)
set_option maxRecDepth 20000 in
theorem w0_J10 : Cond.initialized RJ10 ∈ TB := tb_of 64 (by rfl) (by rfl)
set_option maxRecDepth 20000 in
theorem w0_X4 : Cond.initialized RX4 ∈ TB := tb_of 65 (by rfl) (by rfl)
set_option maxRecDepth 20000 in
theorem w0_X0 : Cond.initialized RX0 ∈ TB := tb_of 66 (by rfl) (by rfl)
set_option maxRecDepth 20000 in
theorem w0_X1 : Cond.initialized RX1 ∈ TB := tb_of 67 (by rfl) (by rfl)
set_option maxRecDepth 20000 in
theorem w0_X2 : Cond.initialized RX2 ∈ TB := tb_of 68 (by rfl) (by rfl)
set_option maxRecDepth 20000 in
theorem w0_X6 : Cond.initialized RX6 ∈ TB := tb_of 69 (by rfl) (by rfl)
set_option maxRecDepth 20000 in
theorem w0_J6 : Cond.initialized RJ6 ∈ TB := tb_of 70 (by rfl) (by rfl)
set_option maxRecDepth 20000 in
theorem w0_J9 : Cond.initialized RJ9 ∈ TB := tb_of 71 (by rfl) (by rfl)
set_option maxRecDepth 20000 in
theorem wk_L_7 : Cond.classLink RL 7 RX5 ∈ TB := tb_of 72 (by rfl) (by rfl)
set_option maxRecDepth 20000 in
theorem w1_X5 : Cond.instantiable RX5 6 ∈ TB := tb_of 73 (by rfl) (by rfl)
set_option maxRecDepth 20000 in
theorem wm_L_9 : Cond.methodLink RL 9 yX5_init ∈ TB := tb_of 74 (by rfl) (by rfl)
set_option maxRecDepth 20000 in
theorem wi_X5_init : Cond.instanceMethod yX5_init ∈ TB := tb_of 75 (by rfl) (by rfl)
set_option maxRecDepth 20000 in
theorem wc_X5_init : Cond.code yX5_init cX5_init 2 none ∈ TB := tb_of 76 (by rfl) (by rfl)
set_option maxRecDepth 20000 in
theorem wm_X5_1 : Cond.methodLink RX5 1 ⟨"java/lang/Object", "<init>", "()V"⟩ ∈ TB := tb_of 77 (by rfl) (by rfl)
set_option maxRecDepth 20000 in
theorem wi_java_lang_Object_init : Cond.instanceMethod ⟨"java/lang/Object", "<init>", "()V"⟩ ∈ TB := tb_of 78 (by rfl) (by rfl)
set_option maxRecDepth 20000 in
theorem wc_java_lang_Object : Cond.code ⟨"java/lang/Object", "<init>", "()V"⟩ object_method_1_code 1 none ∈ TB := tb_of 79 (by rfl) (by rfl)
set_option maxRecDepth 20000 in
theorem wk_X5_7 : Cond.classLink RX5 7 RX3 ∈ TB := tb_of 80 (by rfl) (by rfl)
set_option maxRecDepth 20000 in
theorem w1_X3 : Cond.instantiable RX3 5 ∈ TB := tb_of 81 (by rfl) (by rfl)
set_option maxRecDepth 20000 in
theorem wm_X5_9 : Cond.methodLinkNest RX5 9 yX3_init "StrideBanks" ∈ NW := nw_of 82 (by rfl) (by rfl)
set_option maxRecDepth 20000 in
theorem wi_X3_init : Cond.instanceMethod yX3_init ∈ TB := tb_of 83 (by rfl) (by rfl)
set_option maxRecDepth 20000 in
theorem wc_X3_init : Cond.code yX3_init cX3_init 2 none ∈ TB := tb_of 84 (by rfl) (by rfl)
set_option maxRecDepth 20000 in
theorem wm_X3_3 : Cond.methodLink RX3 3 ⟨"java/lang/Object", "<init>", "()V"⟩ ∈ TB := tb_of 85 (by rfl) (by rfl)
set_option maxRecDepth 20000 in
theorem wk_X3_15 : Cond.classLink RX3 15 RX4 ∈ TB := tb_of 86 (by rfl) (by rfl)
set_option maxRecDepth 20000 in
theorem wo_X4 : Cond.arrayOver (.object RX4) ∈ NW := nw_of 87 (by rfl) (by rfl)
set_option maxRecDepth 20000 in
theorem wk_X3_21 : Cond.classLink RX3 21 RX0 ∈ TB := tb_of 88 (by rfl) (by rfl)
set_option maxRecDepth 20000 in
theorem wo_X0 : Cond.arrayOver (.object RX0) ∈ NW := nw_of 89 (by rfl) (by rfl)
set_option maxRecDepth 20000 in
theorem wf_X3_27 : Cond.fieldLinkNest RX3 27 "StrideBanks" "FIRST_SETTING" "[I" "StrideBanks" ∈ NW := nw_of 90 (by rfl) (by rfl)
set_option maxRecDepth 20000 in
theorem wl_FIRST_SETTING : Cond.laysStatic "StrideBanks" "FIRST_SETTING" "[I" ∈ lw_tbl := List.mem_of_getElem? (i := 91) (by rfl)
set_option maxRecDepth 20000 in
theorem wm_X3_30 : Cond.methodLink RX3 30 ⟨"java/lang/System", "arraycopy", "(Ljava/lang/Object;ILjava/lang/Object;II)V"⟩ ∈ TB := tb_of 92 (by rfl) (by rfl)
set_option maxRecDepth 20000 in
theorem wt_java_lang_System_arraycopy : Cond.static ⟨"java/lang/System", "arraycopy", "(Ljava/lang/Object;ILjava/lang/Object;II)V"⟩ ∈ TB := tb_of 93 (by rfl) (by rfl)
set_option maxRecDepth 20000 in
theorem wn_java_lang_System_arraycopy : Cond.native ⟨"java/lang/System", "arraycopy", "(Ljava/lang/Object;ILjava/lang/Object;II)V"⟩ ∈ TB := tb_of 94 (by rfl) (by rfl)
set_option maxRecDepth 20000 in
theorem w1_X4 : Cond.instantiable RX4 8 ∈ TB := tb_of 95 (by rfl) (by rfl)
set_option maxRecDepth 20000 in
theorem wm_X3_36 : Cond.methodLinkNest RX3 36 yX4_init "StrideBanks" ∈ NW := nw_of 96 (by rfl) (by rfl)
set_option maxRecDepth 20000 in
theorem wi_X4_init : Cond.instanceMethod yX4_init ∈ TB := tb_of 97 (by rfl) (by rfl)
set_option maxRecDepth 20000 in
theorem wc_X4_init : Cond.code yX4_init cX4_init 1 none ∈ TB := tb_of 98 (by rfl) (by rfl)
set_option maxRecDepth 20000 in
theorem wm_X4_3 : Cond.methodLink RX4 3 ⟨"java/lang/Object", "<init>", "()V"⟩ ∈ TB := tb_of 99 (by rfl) (by rfl)
set_option maxRecDepth 20000 in
theorem wf_X4_18 : Cond.fieldLink RX4 18 "StrideBanks$StreamRow" "start" "I" ∈ TB := tb_of 100 (by rfl) (by rfl)
set_option maxRecDepth 20000 in
theorem wf_X3_63 : Cond.fieldLinkNest RX3 63 "StrideBanks$StreamRow" "start" "I" "StrideBanks" ∈ NW := nw_of 101 (by rfl) (by rfl)
set_option maxRecDepth 20000 in
theorem wf_X4_33 : Cond.fieldLink RX4 33 "StrideBanks$StreamRow" "stride" "I" ∈ TB := tb_of 102 (by rfl) (by rfl)
set_option maxRecDepth 20000 in
theorem wf_X5_101 : Cond.fieldLinkNest RX5 101 "StrideBanks$StreamRow" "stride" "I" "StrideBanks" ∈ NW := nw_of 103 (by rfl) (by rfl)
set_option maxRecDepth 20000 in
theorem wf_X3_66 : Cond.fieldLinkNest RX3 66 "StrideBanks$StreamRow" "stride" "I" "StrideBanks" ∈ NW := nw_of 104 (by rfl) (by rfl)
set_option maxRecDepth 20000 in
theorem wf_X4_9 : Cond.fieldLink RX4 9 "StrideBanks$StreamRow" "length" "I" ∈ TB := tb_of 105 (by rfl) (by rfl)
set_option maxRecDepth 20000 in
theorem wf_X3_69 : Cond.fieldLinkNest RX3 69 "StrideBanks$StreamRow" "length" "I" "StrideBanks" ∈ NW := nw_of 106 (by rfl) (by rfl)
set_option maxRecDepth 20000 in
theorem wf_X4_15 : Cond.fieldLink RX4 15 "StrideBanks$StreamRow" "left" "I" ∈ TB := tb_of 107 (by rfl) (by rfl)
set_option maxRecDepth 20000 in
theorem wf_X5_92 : Cond.fieldLinkNest RX5 92 "StrideBanks$StreamRow" "left" "I" "StrideBanks" ∈ NW := nw_of 108 (by rfl) (by rfl)
set_option maxRecDepth 20000 in
theorem wf_X3_90 : Cond.fieldLinkNest RX3 90 "StrideBanks$StreamRow" "left" "I" "StrideBanks" ∈ NW := nw_of 109 (by rfl) (by rfl)
set_option maxRecDepth 20000 in
theorem wf_X4_21 : Cond.fieldLink RX4 21 "StrideBanks$StreamRow" "latest" "I" ∈ TB := tb_of 110 (by rfl) (by rfl)
set_option maxRecDepth 20000 in
theorem wf_X4_24 : Cond.fieldLink RX4 24 "StrideBanks$StreamRow" "stalls" "I" ∈ TB := tb_of 111 (by rfl) (by rfl)
set_option maxRecDepth 20000 in
theorem wf_X3_105 : Cond.fieldLinkNest RX3 105 "StrideBanks$StreamRow" "stalls" "I" "StrideBanks" ∈ NW := nw_of 112 (by rfl) (by rfl)
set_option maxRecDepth 20000 in
theorem wf_X4_27 : Cond.fieldLink RX4 27 "StrideBanks$StreamRow" "clashes" "I" ∈ TB := tb_of 113 (by rfl) (by rfl)
set_option maxRecDepth 20000 in
theorem wf_X3_106 : Cond.fieldLinkNest RX3 106 "StrideBanks$StreamRow" "clashes" "I" "StrideBanks" ∈ NW := nw_of 114 (by rfl) (by rfl)
set_option maxRecDepth 20000 in
theorem wf_X4_30 : Cond.fieldLink RX4 30 "StrideBanks$StreamRow" "ended" "I" ∈ TB := tb_of 115 (by rfl) (by rfl)
set_option maxRecDepth 20000 in
theorem wa_int : Cond.arrayClass .int ∈ TB := tb_of 133 (by rfl) (by rfl)
set_option maxRecDepth 20000 in
theorem w1_X0 : Cond.instantiable RX0 4 ∈ TB := tb_of 134 (by rfl) (by rfl)
set_option maxRecDepth 20000 in
theorem wm_X3_37 : Cond.methodLinkNest RX3 37 yX0_init "StrideBanks" ∈ NW := nw_of 135 (by rfl) (by rfl)
set_option maxRecDepth 20000 in
theorem wi_X0_init : Cond.instanceMethod yX0_init ∈ TB := tb_of 136 (by rfl) (by rfl)
set_option maxRecDepth 20000 in
theorem wc_X0_init : Cond.code yX0_init cX0_init 1 none ∈ TB := tb_of 137 (by rfl) (by rfl)
set_option maxRecDepth 20000 in
theorem wm_X0_3 : Cond.methodLink RX0 3 ⟨"java/lang/Object", "<init>", "()V"⟩ ∈ TB := tb_of 138 (by rfl) (by rfl)
set_option maxRecDepth 20000 in
theorem wf_X0_9 : Cond.fieldLink RX0 9 "StrideBanks$BankRow" "freeFrom" "I" ∈ TB := tb_of 139 (by rfl) (by rfl)
set_option maxRecDepth 20000 in
theorem wf_X5_129 : Cond.fieldLinkNest RX5 129 "StrideBanks$BankRow" "freeFrom" "I" "StrideBanks" ∈ NW := nw_of 140 (by rfl) (by rfl)
set_option maxRecDepth 20000 in
theorem wf_X3_99 : Cond.fieldLinkNest RX3 99 "StrideBanks$BankRow" "freeFrom" "I" "StrideBanks" ∈ NW := nw_of 141 (by rfl) (by rfl)
set_option maxRecDepth 20000 in
theorem wf_X0_15 : Cond.fieldLink RX0 15 "StrideBanks$BankRow" "maker" "I" ∈ TB := tb_of 142 (by rfl) (by rfl)
set_option maxRecDepth 20000 in
theorem wf_X3_76 : Cond.fieldLinkNest RX3 76 "StrideBanks$BankRow" "maker" "I" "StrideBanks" ∈ NW := nw_of 143 (by rfl) (by rfl)
set_option maxRecDepth 20000 in
theorem wf_X0_18 : Cond.fieldLink RX0 18 "StrideBanks$BankRow" "requests" "I" ∈ TB := tb_of 144 (by rfl) (by rfl)
set_option maxRecDepth 20000 in
theorem wf_X5_139 : Cond.fieldLinkNest RX5 139 "StrideBanks$BankRow" "requests" "I" "StrideBanks" ∈ NW := nw_of 145 (by rfl) (by rfl)
set_option maxRecDepth 20000 in
theorem wf_X3_109 : Cond.fieldLinkNest RX3 109 "StrideBanks$BankRow" "requests" "I" "StrideBanks" ∈ NW := nw_of 146 (by rfl) (by rfl)
set_option maxRecDepth 20000 in
theorem wf_X0_21 : Cond.fieldLink RX0 21 "StrideBanks$BankRow" "stalls" "I" ∈ TB := tb_of 147 (by rfl) (by rfl)
set_option maxRecDepth 20000 in
theorem wf_X5_142 : Cond.fieldLinkNest RX5 142 "StrideBanks$BankRow" "stalls" "I" "StrideBanks" ∈ NW := nw_of 148 (by rfl) (by rfl)
set_option maxRecDepth 20000 in
theorem wf_X3_102 : Cond.fieldLinkNest RX3 102 "StrideBanks$BankRow" "stalls" "I" "StrideBanks" ∈ NW := nw_of 149 (by rfl) (by rfl)
set_option maxRecDepth 20000 in
theorem wm_X3_38 : Cond.methodLinkNest RX3 38 yX0_beginAnew "StrideBanks" ∈ NW := nw_of 159 (by rfl) (by rfl)
set_option maxRecDepth 20000 in
theorem wi_X0_beginAnew : Cond.instanceMethod yX0_beginAnew ∈ TB := tb_of 161 (by rfl) (by rfl)
set_option maxRecDepth 20000 in
theorem wc_X0_beginAnew : Cond.code yX0_beginAnew cX0_beginAnew 1 none ∈ TB := tb_of 162 (by rfl) (by rfl)
set_option maxRecDepth 20000 in
theorem wf_X3_9 : Cond.fieldLink RX3 9 "StrideBanks$Store" "settings" "[I" ∈ TB := tb_of 163 (by rfl) (by rfl)
set_option maxRecDepth 20000 in
theorem wf_X5_56 : Cond.fieldLinkNest RX5 56 "StrideBanks$Store" "settings" "[I" "StrideBanks" ∈ NW := nw_of 164 (by rfl) (by rfl)
set_option maxRecDepth 20000 in
theorem wf_X3_17 : Cond.fieldLink RX3 17 "StrideBanks$Store" "streams" "[LStrideBanks$StreamRow;" ∈ TB := tb_of 165 (by rfl) (by rfl)
set_option maxRecDepth 20000 in
theorem wf_X5_88 : Cond.fieldLinkNest RX5 88 "StrideBanks$Store" "streams" "[LStrideBanks$StreamRow;" "StrideBanks" ∈ NW := nw_of 166 (by rfl) (by rfl)
set_option maxRecDepth 20000 in
theorem wf_X3_23 : Cond.fieldLink RX3 23 "StrideBanks$Store" "banks" "[LStrideBanks$BankRow;" ∈ TB := tb_of 167 (by rfl) (by rfl)
set_option maxRecDepth 20000 in
theorem wf_X5_125 : Cond.fieldLinkNest RX5 125 "StrideBanks$Store" "banks" "[LStrideBanks$BankRow;" "StrideBanks" ∈ NW := nw_of 168 (by rfl) (by rfl)
set_option maxRecDepth 20000 in
theorem wf_X5_62 : Cond.fieldLinkNest RX5 62 "StrideBanks$Store" "streamCount" "I" "StrideBanks" ∈ NW := nw_of 169 (by rfl) (by rfl)
set_option maxRecDepth 20000 in
theorem wf_X3_52 : Cond.fieldLink RX3 52 "StrideBanks$Store" "streamCount" "I" ∈ TB := tb_of 170 (by rfl) (by rfl)
set_option maxRecDepth 20000 in
theorem wf_X3_56 : Cond.fieldLink RX3 56 "StrideBanks$Store" "cycle" "I" ∈ TB := tb_of 171 (by rfl) (by rfl)
set_option maxRecDepth 20000 in
theorem wf_X5_104 : Cond.fieldLinkNest RX5 104 "StrideBanks$Store" "cycle" "I" "StrideBanks" ∈ NW := nw_of 172 (by rfl) (by rfl)
set_option maxRecDepth 20000 in
theorem wk_X5_19 : Cond.classLink RX5 19 RX1 ∈ TB := tb_of 184 (by rfl) (by rfl)
set_option maxRecDepth 20000 in
theorem w1_X1 : Cond.instantiable RX1 2 ∈ TB := tb_of 185 (by rfl) (by rfl)
set_option maxRecDepth 20000 in
theorem wm_X5_21 : Cond.methodLinkNest RX5 21 yX1_init "StrideBanks" ∈ NW := nw_of 186 (by rfl) (by rfl)
set_option maxRecDepth 20000 in
theorem wi_X1_init : Cond.instanceMethod yX1_init ∈ TB := tb_of 187 (by rfl) (by rfl)
set_option maxRecDepth 20000 in
theorem wc_X1_init : Cond.code yX1_init cX1_init 2 none ∈ TB := tb_of 188 (by rfl) (by rfl)
set_option maxRecDepth 20000 in
theorem wm_X1_3 : Cond.methodLink RX1 3 ⟨"java/lang/Object", "<init>", "()V"⟩ ∈ TB := tb_of 189 (by rfl) (by rfl)
set_option maxRecDepth 20000 in
theorem wk_X1_9 : Cond.classLink RX1 9 RX3 ∈ TB := tb_of 190 (by rfl) (by rfl)
set_option maxRecDepth 20000 in
theorem wo_X3 : Cond.arrayOver (.object RX3) ∈ NW := nw_of 191 (by rfl) (by rfl)
set_option maxRecDepth 20000 in
theorem wm_X1_17 : Cond.methodLinkNest RX1 17 yX3_init "StrideBanks" ∈ NW := nw_of 192 (by rfl) (by rfl)
set_option maxRecDepth 20000 in
theorem wf_X1_11 : Cond.fieldLink RX1 11 "StrideBanks$History" "states" "[LStrideBanks$Store;" ∈ TB := tb_of 193 (by rfl) (by rfl)
set_option maxRecDepth 20000 in
theorem wf_X1_18 : Cond.fieldLink RX1 18 "StrideBanks$History" "size" "I" ∈ TB := tb_of 194 (by rfl) (by rfl)
set_option maxRecDepth 20000 in
theorem wf_X5_154 : Cond.fieldLinkNest RX5 154 "StrideBanks$History" "size" "I" "StrideBanks" ∈ NW := nw_of 195 (by rfl) (by rfl)
set_option maxRecDepth 20000 in
theorem wk_X5_34 : Cond.classLink RX5 34 RX2 ∈ TB := tb_of 201 (by rfl) (by rfl)
set_option maxRecDepth 20000 in
theorem w1_X2 : Cond.instantiable RX2 4 ∈ TB := tb_of 202 (by rfl) (by rfl)
set_option maxRecDepth 20000 in
theorem wm_X5_36 : Cond.methodLinkNest RX5 36 yX2_init "StrideBanks" ∈ NW := nw_of 203 (by rfl) (by rfl)
set_option maxRecDepth 20000 in
theorem wi_X2_init : Cond.instanceMethod yX2_init ∈ TB := tb_of 204 (by rfl) (by rfl)
set_option maxRecDepth 20000 in
theorem wc_X2_init : Cond.code yX2_init cX2_init 1 none ∈ TB := tb_of 205 (by rfl) (by rfl)
set_option maxRecDepth 20000 in
theorem wm_X2_3 : Cond.methodLink RX2 3 ⟨"java/lang/Object", "<init>", "()V"⟩ ∈ TB := tb_of 206 (by rfl) (by rfl)
set_option maxRecDepth 20000 in
theorem wf_X2_9 : Cond.fieldLink RX2 9 "StrideBanks$Pad" "text" "[C" ∈ TB := tb_of 207 (by rfl) (by rfl)
set_option maxRecDepth 20000 in
theorem wf_X2_19 : Cond.fieldLink RX2 19 "StrideBanks$Pad" "length" "I" ∈ TB := tb_of 208 (by rfl) (by rfl)
set_option maxRecDepth 20000 in
theorem wf_X5_81 : Cond.fieldLinkNest RX5 81 "StrideBanks$Pad" "length" "I" "StrideBanks" ∈ NW := nw_of 209 (by rfl) (by rfl)
set_option maxRecDepth 20000 in
theorem wf_X2_15 : Cond.fieldLink RX2 15 "StrideBanks$Pad" "numbers" "[I" ∈ TB := tb_of 210 (by rfl) (by rfl)
set_option maxRecDepth 20000 in
theorem wf_X2_25 : Cond.fieldLink RX2 25 "StrideBanks$Pad" "numbersFound" "I" ∈ TB := tb_of 211 (by rfl) (by rfl)
set_option maxRecDepth 20000 in
theorem wa_boolean : Cond.arrayClass .boolean ∈ TB := tb_of 221 (by rfl) (by rfl)
set_option maxRecDepth 20000 in
theorem wa_char : Cond.arrayClass .char ∈ TB := tb_of 222 (by rfl) (by rfl)
set_option maxRecDepth 20000 in
theorem wf_X5_10 : Cond.fieldLink RX5 10 "StrideBanks" "now" "LStrideBanks$Store;" ∈ TB := tb_of 223 (by rfl) (by rfl)
set_option maxRecDepth 20000 in
theorem wf_X5_16 : Cond.fieldLink RX5 16 "StrideBanks" "trial" "LStrideBanks$Store;" ∈ TB := tb_of 224 (by rfl) (by rfl)
set_option maxRecDepth 20000 in
theorem wf_X5_22 : Cond.fieldLink RX5 22 "StrideBanks" "history" "LStrideBanks$History;" ∈ TB := tb_of 225 (by rfl) (by rfl)
set_option maxRecDepth 20000 in
theorem wf_X5_26 : Cond.fieldLink RX5 26 "StrideBanks" "slots" "[LStrideBanks$Store;" ∈ TB := tb_of 226 (by rfl) (by rfl)
set_option maxRecDepth 20000 in
theorem wf_X5_30 : Cond.fieldLink RX5 30 "StrideBanks" "saved" "[Z" ∈ TB := tb_of 227 (by rfl) (by rfl)
set_option maxRecDepth 20000 in
theorem wf_X5_37 : Cond.fieldLink RX5 37 "StrideBanks" "pad" "LStrideBanks$Pad;" ∈ TB := tb_of 228 (by rfl) (by rfl)
set_option maxRecDepth 20000 in
theorem wm_L_13 : Cond.methodLink RL 13 yX5_set ∈ TB := tb_of 242 (by rfl) (by rfl)
set_option maxRecDepth 20000 in
theorem wi_X5_set : Cond.instanceMethod yX5_set ∈ TB := tb_of 243 (by rfl) (by rfl)
set_option maxRecDepth 20000 in
theorem ws_X5_set : Cond.selects RX5 yX5_set yX5_set ∈ TB := tb_of 244 (by rfl) (by rfl)
set_option maxRecDepth 20000 in
theorem wc_X5_set : Cond.code yX5_set cX5_set 4 (some .int) ∈ TB := tb_of 245 (by rfl) (by rfl)
set_option maxRecDepth 20000 in
theorem wm_X5_41 : Cond.methodLink RX5 41 yX5_isIn ∈ TB := tb_of 246 (by rfl) (by rfl)
set_option maxRecDepth 20000 in
theorem wt_X5_isIn : Cond.static yX5_isIn ∈ TB := tb_of 247 (by rfl) (by rfl)
set_option maxRecDepth 20000 in
theorem wc_X5_isIn : Cond.code yX5_isIn cX5_isIn 3 (some .boolean) ∈ TB := tb_of 248 (by rfl) (by rfl)
set_option maxRecDepth 20000 in
theorem wf_X5_45 : Cond.fieldLink RX5 45 "StrideBanks" "LEAST_SETTING" "[I" ∈ TB := tb_of 249 (by rfl) (by rfl)
set_option maxRecDepth 20000 in
theorem wl_LEAST_SETTING : Cond.laysStatic "StrideBanks" "LEAST_SETTING" "[I" ∈ lw_tbl := List.mem_of_getElem? (i := 250) (by rfl)
set_option maxRecDepth 20000 in
theorem wf_X5_49 : Cond.fieldLink RX5 49 "StrideBanks" "MOST_SETTING" "[I" ∈ TB := tb_of 251 (by rfl) (by rfl)
set_option maxRecDepth 20000 in
theorem wl_MOST_SETTING : Cond.laysStatic "StrideBanks" "MOST_SETTING" "[I" ∈ lw_tbl := List.mem_of_getElem? (i := 252) (by rfl)
set_option maxRecDepth 20000 in
theorem wm_X5_52 : Cond.methodLinkNest RX5 52 yX1_record "StrideBanks" ∈ NW := nw_of 253 (by rfl) (by rfl)
set_option maxRecDepth 20000 in
theorem wi_X1_record : Cond.instanceMethod yX1_record ∈ TB := tb_of 255 (by rfl) (by rfl)
set_option maxRecDepth 20000 in
theorem wc_X1_record : Cond.code yX1_record cX1_record 2 none ∈ TB := tb_of 256 (by rfl) (by rfl)
set_option maxRecDepth 20000 in
theorem wm_X1_22 : Cond.methodLink RX1 22 yX1_forgetOldest ∈ TB := tb_of 257 (by rfl) (by rfl)
set_option maxRecDepth 20000 in
theorem wi_X1_forgetOldest : Cond.instanceMethod yX1_forgetOldest ∈ TB := tb_of 259 (by rfl) (by rfl)
set_option maxRecDepth 20000 in
theorem wc_X1_forgetOldest : Cond.code yX1_forgetOldest cX1_forgetOldest 3 none ∈ TB := tb_of 260 (by rfl) (by rfl)
set_option maxRecDepth 20000 in
theorem wm_X1_25 : Cond.methodLinkNest RX1 25 yX3_copy "StrideBanks" ∈ NW := nw_of 261 (by rfl) (by rfl)
set_option maxRecDepth 20000 in
theorem wi_X3_copy : Cond.instanceMethod yX3_copy ∈ TB := tb_of 263 (by rfl) (by rfl)
set_option maxRecDepth 20000 in
theorem wc_X3_copy : Cond.code yX3_copy cX3_copy 3 none ∈ TB := tb_of 264 (by rfl) (by rfl)
set_option maxRecDepth 20000 in
theorem wm_X3_41 : Cond.methodLink RX3 41 yX3_copySettings ∈ TB := tb_of 265 (by rfl) (by rfl)
set_option maxRecDepth 20000 in
theorem wi_X3_copySettings : Cond.instanceMethod yX3_copySettings ∈ TB := tb_of 267 (by rfl) (by rfl)
set_option maxRecDepth 20000 in
theorem wc_X3_copySettings : Cond.code yX3_copySettings cX3_copySettings 2 none ∈ TB := tb_of 268 (by rfl) (by rfl)
set_option maxRecDepth 20000 in
theorem wm_X3_45 : Cond.methodLinkNest RX3 45 yX4_copy "StrideBanks" ∈ NW := nw_of 269 (by rfl) (by rfl)
set_option maxRecDepth 20000 in
theorem wi_X4_copy : Cond.instanceMethod yX4_copy ∈ TB := tb_of 271 (by rfl) (by rfl)
set_option maxRecDepth 20000 in
theorem wc_X4_copy : Cond.code yX4_copy cX4_copy 2 none ∈ TB := tb_of 272 (by rfl) (by rfl)
set_option maxRecDepth 20000 in
theorem wm_X3_49 : Cond.methodLinkNest RX3 49 yX0_copy "StrideBanks" ∈ NW := nw_of 273 (by rfl) (by rfl)
set_option maxRecDepth 20000 in
theorem wi_X0_copy : Cond.instanceMethod yX0_copy ∈ TB := tb_of 275 (by rfl) (by rfl)
set_option maxRecDepth 20000 in
theorem wc_X0_copy : Cond.code yX0_copy cX0_copy 2 none ∈ TB := tb_of 276 (by rfl) (by rfl)
set_option maxRecDepth 20000 in
theorem wm_X5_59 : Cond.methodLinkNest RX5 59 yX3_beginAnew "StrideBanks" ∈ NW := nw_of 277 (by rfl) (by rfl)
set_option maxRecDepth 20000 in
theorem wi_X3_beginAnew : Cond.instanceMethod yX3_beginAnew ∈ TB := tb_of 279 (by rfl) (by rfl)
set_option maxRecDepth 20000 in
theorem wc_X3_beginAnew : Cond.code yX3_beginAnew cX3_beginAnew 2 none ∈ TB := tb_of 280 (by rfl) (by rfl)
set_option maxRecDepth 20000 in
theorem wm_X3_59 : Cond.methodLink RX3 59 yX3_freeBanks ∈ TB := tb_of 281 (by rfl) (by rfl)
set_option maxRecDepth 20000 in
theorem wi_X3_freeBanks : Cond.instanceMethod yX3_freeBanks ∈ TB := tb_of 283 (by rfl) (by rfl)
set_option maxRecDepth 20000 in
theorem wc_X3_freeBanks : Cond.code yX3_freeBanks cX3_freeBanks 2 none ∈ TB := tb_of 284 (by rfl) (by rfl)
set_option maxRecDepth 20000 in
theorem wm_X3_62 : Cond.methodLinkNest RX3 62 yX4_beginAnew "StrideBanks" ∈ NW := nw_of 285 (by rfl) (by rfl)
set_option maxRecDepth 20000 in
theorem wi_X4_beginAnew : Cond.instanceMethod yX4_beginAnew ∈ TB := tb_of 287 (by rfl) (by rfl)
set_option maxRecDepth 20000 in
theorem wc_X4_beginAnew : Cond.code yX4_beginAnew cX4_beginAnew 1 none ∈ TB := tb_of 288 (by rfl) (by rfl)
set_option maxRecDepth 20000 in
theorem wm_L_18 : Cond.methodLink RL 18 yX5_add ∈ TB := tb_of 289 (by rfl) (by rfl)
set_option maxRecDepth 20000 in
theorem wi_X5_add : Cond.instanceMethod yX5_add ∈ TB := tb_of 290 (by rfl) (by rfl)
set_option maxRecDepth 20000 in
theorem ws_X5_add : Cond.selects RX5 yX5_add yX5_add ∈ TB := tb_of 291 (by rfl) (by rfl)
set_option maxRecDepth 20000 in
theorem wc_X5_add : Cond.code yX5_add cX5_add 4 (some .int) ∈ TB := tb_of 292 (by rfl) (by rfl)
set_option maxRecDepth 20000 in
theorem wm_X5_66 : Cond.methodLinkNest RX5 66 yX3_append "StrideBanks" ∈ NW := nw_of 293 (by rfl) (by rfl)
set_option maxRecDepth 20000 in
theorem wi_X3_append : Cond.instanceMethod yX3_append ∈ TB := tb_of 295 (by rfl) (by rfl)
set_option maxRecDepth 20000 in
theorem wc_X3_append : Cond.code yX3_append cX3_append 5 none ∈ TB := tb_of 296 (by rfl) (by rfl)
set_option maxRecDepth 20000 in
theorem wm_L_23 : Cond.methodLink RL 23 yX5_read ∈ TB := tb_of 297 (by rfl) (by rfl)
set_option maxRecDepth 20000 in
theorem wi_X5_read : Cond.instanceMethod yX5_read ∈ TB := tb_of 298 (by rfl) (by rfl)
set_option maxRecDepth 20000 in
theorem ws_X5_read : Cond.selects RX5 yX5_read yX5_read ∈ TB := tb_of 299 (by rfl) (by rfl)
set_option maxRecDepth 20000 in
theorem wc_X5_read : Cond.code yX5_read cX5_read 3 (some .int) ∈ TB := tb_of 300 (by rfl) (by rfl)
set_option maxRecDepth 20000 in
theorem wm_X5_70 : Cond.methodLinkNest RX5 70 yX2_firstFault "StrideBanks" ∈ NW := nw_of 301 (by rfl) (by rfl)
set_option maxRecDepth 20000 in
theorem wi_X2_firstFault : Cond.instanceMethod yX2_firstFault ∈ TB := tb_of 303 (by rfl) (by rfl)
set_option maxRecDepth 20000 in
theorem wc_X2_firstFault : Cond.code yX2_firstFault cX2_firstFault 4 (some .int) ∈ TB := tb_of 304 (by rfl) (by rfl)
set_option maxRecDepth 20000 in
theorem wm_X2_28 : Cond.methodLinkNest RX2 28 yX5_isIn "StrideBanks" ∈ NW := nw_of 305 (by rfl) (by rfl)
set_option maxRecDepth 20000 in
theorem wm_X2_32 : Cond.methodLink RX2 32 yX2_takesDigit ∈ TB := tb_of 306 (by rfl) (by rfl)
set_option maxRecDepth 20000 in
theorem wi_X2_takesDigit : Cond.instanceMethod yX2_takesDigit ∈ TB := tb_of 308 (by rfl) (by rfl)
set_option maxRecDepth 20000 in
theorem wc_X2_takesDigit : Cond.code yX2_takesDigit cX2_takesDigit 7 (some .boolean) ∈ TB := tb_of 309 (by rfl) (by rfl)
set_option maxRecDepth 20000 in
theorem wf_X2_38 : Cond.fieldLinkNest RX2 38 "StrideBanks" "LEAST_NUMBER" "[I" "StrideBanks" ∈ NW := nw_of 310 (by rfl) (by rfl)
set_option maxRecDepth 20000 in
theorem wl_LEAST_NUMBER : Cond.laysStatic "StrideBanks" "LEAST_NUMBER" "[I" ∈ lw_tbl := List.mem_of_getElem? (i := 311) (by rfl)
set_option maxRecDepth 20000 in
theorem wf_X2_41 : Cond.fieldLinkNest RX2 41 "StrideBanks" "MOST_NUMBER" "[I" "StrideBanks" ∈ NW := nw_of 312 (by rfl) (by rfl)
set_option maxRecDepth 20000 in
theorem wl_MOST_NUMBER : Cond.laysStatic "StrideBanks" "MOST_NUMBER" "[I" ∈ lw_tbl := List.mem_of_getElem? (i := 313) (by rfl)
set_option maxRecDepth 20000 in
theorem wf_X2_35 : Cond.fieldLinkNest RX2 35 "StrideBanks" "BEHIND_NUMBER" "[C" "StrideBanks" ∈ NW := nw_of 314 (by rfl) (by rfl)
set_option maxRecDepth 20000 in
theorem wl_BEHIND_NUMBER : Cond.laysStatic "StrideBanks" "BEHIND_NUMBER" "[C" ∈ lw_tbl := List.mem_of_getElem? (i := 315) (by rfl)
set_option maxRecDepth 20000 in
theorem wm_X5_74 : Cond.methodLinkNest RX5 74 yX2_streamsFound "StrideBanks" ∈ NW := nw_of 316 (by rfl) (by rfl)
set_option maxRecDepth 20000 in
theorem wi_X2_streamsFound : Cond.instanceMethod yX2_streamsFound ∈ TB := tb_of 318 (by rfl) (by rfl)
set_option maxRecDepth 20000 in
theorem wc_X2_streamsFound : Cond.code yX2_streamsFound cX2_streamsFound 1 (some .int) ∈ TB := tb_of 319 (by rfl) (by rfl)
set_option maxRecDepth 20000 in
theorem wm_X5_77 : Cond.methodLinkNest RX5 77 yX2_numberOf "StrideBanks" ∈ NW := nw_of 320 (by rfl) (by rfl)
set_option maxRecDepth 20000 in
theorem wi_X2_numberOf : Cond.instanceMethod yX2_numberOf ∈ TB := tb_of 322 (by rfl) (by rfl)
set_option maxRecDepth 20000 in
theorem wc_X2_numberOf : Cond.code yX2_numberOf cX2_numberOf 3 (some .int) ∈ TB := tb_of 323 (by rfl) (by rfl)
set_option maxRecDepth 20000 in
theorem wm_L_28 : Cond.methodLink RL 28 yX5_drop ∈ TB := tb_of 324 (by rfl) (by rfl)
set_option maxRecDepth 20000 in
theorem wi_X5_drop : Cond.instanceMethod yX5_drop ∈ TB := tb_of 325 (by rfl) (by rfl)
set_option maxRecDepth 20000 in
theorem ws_X5_drop : Cond.selects RX5 yX5_drop yX5_drop ∈ TB := tb_of 326 (by rfl) (by rfl)
set_option maxRecDepth 20000 in
theorem wc_X5_drop : Cond.code yX5_drop cX5_drop 3 (some .int) ∈ TB := tb_of 327 (by rfl) (by rfl)
set_option maxRecDepth 20000 in
theorem wm_X5_84 : Cond.methodLinkNest RX5 84 yX3_has "StrideBanks" ∈ NW := nw_of 328 (by rfl) (by rfl)
set_option maxRecDepth 20000 in
theorem wi_X3_has : Cond.instanceMethod yX3_has ∈ TB := tb_of 330 (by rfl) (by rfl)
set_option maxRecDepth 20000 in
theorem wc_X3_has : Cond.code yX3_has cX3_has 2 (some .boolean) ∈ TB := tb_of 331 (by rfl) (by rfl)
set_option maxRecDepth 20000 in
theorem wm_X5_97 : Cond.methodLinkNest RX5 97 yX3_remove "StrideBanks" ∈ NW := nw_of 332 (by rfl) (by rfl)
set_option maxRecDepth 20000 in
theorem wi_X3_remove : Cond.instanceMethod yX3_remove ∈ TB := tb_of 334 (by rfl) (by rfl)
set_option maxRecDepth 20000 in
theorem wc_X3_remove : Cond.code yX3_remove cX3_remove 4 none ∈ TB := tb_of 335 (by rfl) (by rfl)
set_option maxRecDepth 20000 in
theorem wm_L_33 : Cond.methodLink RL 33 yX5_stride ∈ TB := tb_of 336 (by rfl) (by rfl)
set_option maxRecDepth 20000 in
theorem wi_X5_stride : Cond.instanceMethod yX5_stride ∈ TB := tb_of 337 (by rfl) (by rfl)
set_option maxRecDepth 20000 in
theorem ws_X5_stride : Cond.selects RX5 yX5_stride yX5_stride ∈ TB := tb_of 338 (by rfl) (by rfl)
set_option maxRecDepth 20000 in
theorem wc_X5_stride : Cond.code yX5_stride cX5_stride 4 (some .int) ∈ TB := tb_of 339 (by rfl) (by rfl)
set_option maxRecDepth 20000 in
theorem wm_L_37 : Cond.methodLink RL 37 yX5_run ∈ TB := tb_of 340 (by rfl) (by rfl)
set_option maxRecDepth 20000 in
theorem wi_X5_run : Cond.instanceMethod yX5_run ∈ TB := tb_of 341 (by rfl) (by rfl)
set_option maxRecDepth 20000 in
theorem ws_X5_run : Cond.selects RX5 yX5_run yX5_run ∈ TB := tb_of 342 (by rfl) (by rfl)
set_option maxRecDepth 20000 in
theorem wc_X5_run : Cond.code yX5_run cX5_run 4 (some .int) ∈ TB := tb_of 343 (by rfl) (by rfl)
set_option maxRecDepth 20000 in
theorem wv_X5_107 : Cond.constant RX5 107 (99999) ∈ TB := tb_of 344 (by rfl) (by rfl)
set_option maxRecDepth 20000 in
theorem wm_X5_108 : Cond.methodLinkNest RX5 108 yX3_passCycle "StrideBanks" ∈ NW := nw_of 345 (by rfl) (by rfl)
set_option maxRecDepth 20000 in
theorem wi_X3_passCycle : Cond.instanceMethod yX3_passCycle ∈ TB := tb_of 347 (by rfl) (by rfl)
set_option maxRecDepth 20000 in
theorem wc_X3_passCycle : Cond.code yX3_passCycle cX3_passCycle 4 (some .int) ∈ TB := tb_of 348 (by rfl) (by rfl)
set_option maxRecDepth 20000 in
theorem wm_X3_86 : Cond.methodLink RX3 86 yX3_ask ∈ TB := tb_of 349 (by rfl) (by rfl)
set_option maxRecDepth 20000 in
theorem wi_X3_ask : Cond.instanceMethod yX3_ask ∈ TB := tb_of 351 (by rfl) (by rfl)
set_option maxRecDepth 20000 in
theorem wc_X3_ask : Cond.code yX3_ask cX3_ask 5 (some .int) ∈ TB := tb_of 352 (by rfl) (by rfl)
set_option maxRecDepth 20000 in
theorem wm_X3_93 : Cond.methodLinkNest RX3 93 yX4_nextAddress "StrideBanks" ∈ NW := nw_of 353 (by rfl) (by rfl)
set_option maxRecDepth 20000 in
theorem wi_X4_nextAddress : Cond.instanceMethod yX4_nextAddress ∈ TB := tb_of 355 (by rfl) (by rfl)
set_option maxRecDepth 20000 in
theorem wc_X4_nextAddress : Cond.code yX4_nextAddress cX4_nextAddress 1 (some .int) ∈ TB := tb_of 356 (by rfl) (by rfl)
set_option maxRecDepth 20000 in
theorem wm_X3_96 : Cond.methodLink RX3 96 yX3_bankAt ∈ TB := tb_of 357 (by rfl) (by rfl)
set_option maxRecDepth 20000 in
theorem wi_X3_bankAt : Cond.instanceMethod yX3_bankAt ∈ TB := tb_of 359 (by rfl) (by rfl)
set_option maxRecDepth 20000 in
theorem wc_X3_bankAt : Cond.code yX3_bankAt cX3_bankAt 4 (some .int) ∈ TB := tb_of 360 (by rfl) (by rfl)
set_option maxRecDepth 20000 in
theorem wm_X3_82 : Cond.methodLink RX3 82 yX3_greatestPrime ∈ TB := tb_of 361 (by rfl) (by rfl)
set_option maxRecDepth 20000 in
theorem wi_X3_greatestPrime : Cond.instanceMethod yX3_greatestPrime ∈ TB := tb_of 363 (by rfl) (by rfl)
set_option maxRecDepth 20000 in
theorem wc_X3_greatestPrime : Cond.code yX3_greatestPrime cX3_greatestPrime 1 (some .int) ∈ TB := tb_of 364 (by rfl) (by rfl)
set_option maxRecDepth 20000 in
theorem wf_X3_79 : Cond.fieldLinkNest RX3 79 "StrideBanks" "GREATEST_PRIME_TO" "[I" "StrideBanks" ∈ NW := nw_of 365 (by rfl) (by rfl)
set_option maxRecDepth 20000 in
theorem wl_GREATEST_PRIME_TO : Cond.laysStatic "StrideBanks" "GREATEST_PRIME_TO" "[I" ∈ lw_tbl := List.mem_of_getElem? (i := 366) (by rfl)
set_option maxRecDepth 20000 in
theorem wm_X3_112 : Cond.methodLinkNest RX3 112 yX4_finishRequest "StrideBanks" ∈ NW := nw_of 367 (by rfl) (by rfl)
set_option maxRecDepth 20000 in
theorem wi_X4_finishRequest : Cond.instanceMethod yX4_finishRequest ∈ TB := tb_of 369 (by rfl) (by rfl)
set_option maxRecDepth 20000 in
theorem wc_X4_finishRequest : Cond.code yX4_finishRequest cX4_finishRequest 3 none ∈ TB := tb_of 370 (by rfl) (by rfl)
set_option maxRecDepth 20000 in
theorem wm_L_41 : Cond.methodLink RL 41 yX5_reset ∈ TB := tb_of 371 (by rfl) (by rfl)
set_option maxRecDepth 20000 in
theorem wi_X5_reset : Cond.instanceMethod yX5_reset ∈ TB := tb_of 372 (by rfl) (by rfl)
set_option maxRecDepth 20000 in
theorem ws_X5_reset : Cond.selects RX5 yX5_reset yX5_reset ∈ TB := tb_of 373 (by rfl) (by rfl)
set_option maxRecDepth 20000 in
theorem wc_X5_reset : Cond.code yX5_reset cX5_reset 1 (some .int) ∈ TB := tb_of 374 (by rfl) (by rfl)
set_option maxRecDepth 20000 in
theorem wm_X5_111 : Cond.methodLinkNest RX5 111 yX3_total "StrideBanks" ∈ NW := nw_of 375 (by rfl) (by rfl)
set_option maxRecDepth 20000 in
theorem wi_X3_total : Cond.instanceMethod yX3_total ∈ TB := tb_of 377 (by rfl) (by rfl)
set_option maxRecDepth 20000 in
theorem wc_X3_total : Cond.code yX3_total cX3_total 4 (some .int) ∈ TB := tb_of 378 (by rfl) (by rfl)
set_option maxRecDepth 20000 in
theorem wm_X3_134 : Cond.methodLinkNest RX3 134 yX4_tell "StrideBanks" ∈ NW := nw_of 379 (by rfl) (by rfl)
set_option maxRecDepth 20000 in
theorem wi_X4_tell : Cond.instanceMethod yX4_tell ∈ TB := tb_of 381 (by rfl) (by rfl)
set_option maxRecDepth 20000 in
theorem wc_X4_tell : Cond.code yX4_tell cX4_tell 2 (some .int) ∈ TB := tb_of 382 (by rfl) (by rfl)
set_option maxRecDepth 20000 in
theorem wm_X4_36 : Cond.methodLink RX4 36 yX4_nextAddress ∈ TB := tb_of 383 (by rfl) (by rfl)
set_option maxRecDepth 20000 in
theorem wm_L_45 : Cond.methodLink RL 45 yX5_bankOf ∈ TB := tb_of 384 (by rfl) (by rfl)
set_option maxRecDepth 20000 in
theorem wi_X5_bankOf : Cond.instanceMethod yX5_bankOf ∈ TB := tb_of 385 (by rfl) (by rfl)
set_option maxRecDepth 20000 in
theorem ws_X5_bankOf : Cond.selects RX5 yX5_bankOf yX5_bankOf ∈ TB := tb_of 386 (by rfl) (by rfl)
set_option maxRecDepth 20000 in
theorem wc_X5_bankOf : Cond.code yX5_bankOf cX5_bankOf 2 (some .int) ∈ TB := tb_of 387 (by rfl) (by rfl)
set_option maxRecDepth 20000 in
theorem wm_X5_115 : Cond.methodLinkNest RX5 115 yX3_bankAt "StrideBanks" ∈ NW := nw_of 388 (by rfl) (by rfl)
set_option maxRecDepth 20000 in
theorem wm_L_49 : Cond.methodLink RL 49 yX5_stream ∈ TB := tb_of 389 (by rfl) (by rfl)
set_option maxRecDepth 20000 in
theorem wi_X5_stream : Cond.instanceMethod yX5_stream ∈ TB := tb_of 390 (by rfl) (by rfl)
set_option maxRecDepth 20000 in
theorem ws_X5_stream : Cond.selects RX5 yX5_stream yX5_stream ∈ TB := tb_of 391 (by rfl) (by rfl)
set_option maxRecDepth 20000 in
theorem wc_X5_stream : Cond.code yX5_stream cX5_stream 4 (some .int) ∈ TB := tb_of 392 (by rfl) (by rfl)
set_option maxRecDepth 20000 in
theorem wm_X5_118 : Cond.methodLinkNest RX5 118 yX3_banksMet "StrideBanks" ∈ NW := nw_of 393 (by rfl) (by rfl)
set_option maxRecDepth 20000 in
theorem wi_X3_banksMet : Cond.instanceMethod yX3_banksMet ∈ TB := tb_of 395 (by rfl) (by rfl)
set_option maxRecDepth 20000 in
theorem wc_X3_banksMet : Cond.code yX3_banksMet cX3_banksMet 5 (some .int) ∈ TB := tb_of 396 (by rfl) (by rfl)
set_option maxRecDepth 20000 in
theorem wm_X3_129 : Cond.methodLink RX3 129 yJ6_bitCount_0f7a4 ∈ TB := tb_of 397 (by rfl) (by rfl)
set_option maxRecDepth 20000 in
theorem wt_J6_bitCount_0f7a4 : Cond.static yJ6_bitCount_0f7a4 ∈ TB := tb_of 398 (by rfl) (by rfl)
set_option maxRecDepth 20000 in
theorem wc_J6_bitCount_0f7a4 : Cond.code yJ6_bitCount_0f7a4 cJ6_bitCount_0f7a4 1 (some .int) ∈ TB := tb_of 399 (by rfl) (by rfl)
set_option maxRecDepth 20000 in
theorem wv_J6_265 : Cond.constant RJ6 265 (1431655765) ∈ TB := tb_of 400 (by rfl) (by rfl)
set_option maxRecDepth 20000 in
theorem wv_J6_266 : Cond.constant RJ6 266 (858993459) ∈ TB := tb_of 401 (by rfl) (by rfl)
set_option maxRecDepth 20000 in
theorem wv_J6_267 : Cond.constant RJ6 267 (252645135) ∈ TB := tb_of 402 (by rfl) (by rfl)
set_option maxRecDepth 20000 in
theorem wm_X5_122 : Cond.methodLinkNest RX5 122 yX4_tell "StrideBanks" ∈ NW := nw_of 403 (by rfl) (by rfl)
set_option maxRecDepth 20000 in
theorem wm_L_53 : Cond.methodLink RL 53 yX5_bank ∈ TB := tb_of 404 (by rfl) (by rfl)
set_option maxRecDepth 20000 in
theorem wi_X5_bank : Cond.instanceMethod yX5_bank ∈ TB := tb_of 405 (by rfl) (by rfl)
set_option maxRecDepth 20000 in
theorem ws_X5_bank : Cond.selects RX5 yX5_bank yX5_bank ∈ TB := tb_of 406 (by rfl) (by rfl)
set_option maxRecDepth 20000 in
theorem wc_X5_bank : Cond.code yX5_bank cX5_bank 4 (some .int) ∈ TB := tb_of 407 (by rfl) (by rfl)
set_option maxRecDepth 20000 in
theorem wm_X5_134 : Cond.methodLink RX5 134 yJ9_max_7cf53 ∈ TB := tb_of 408 (by rfl) (by rfl)
set_option maxRecDepth 20000 in
theorem wt_J9_max_7cf53 : Cond.static yJ9_max_7cf53 ∈ TB := tb_of 409 (by rfl) (by rfl)
set_option maxRecDepth 20000 in
theorem wc_J9_max_7cf53 : Cond.code yJ9_max_7cf53 cJ9_max_7cf53 2 (some .int) ∈ TB := tb_of 410 (by rfl) (by rfl)
set_option maxRecDepth 20000 in
theorem wm_X5_145 : Cond.methodLinkNest RX5 145 yX3_wordsLeftIn "StrideBanks" ∈ NW := nw_of 411 (by rfl) (by rfl)
set_option maxRecDepth 20000 in
theorem wi_X3_wordsLeftIn : Cond.instanceMethod yX3_wordsLeftIn ∈ TB := tb_of 413 (by rfl) (by rfl)
set_option maxRecDepth 20000 in
theorem wc_X3_wordsLeftIn : Cond.code yX3_wordsLeftIn cX3_wordsLeftIn 7 (some .int) ∈ TB := tb_of 414 (by rfl) (by rfl)
set_option maxRecDepth 20000 in
theorem wm_L_57 : Cond.methodLink RL 57 yX5_count ∈ TB := tb_of 415 (by rfl) (by rfl)
set_option maxRecDepth 20000 in
theorem wi_X5_count : Cond.instanceMethod yX5_count ∈ TB := tb_of 416 (by rfl) (by rfl)
set_option maxRecDepth 20000 in
theorem ws_X5_count : Cond.selects RX5 yX5_count yX5_count ∈ TB := tb_of 417 (by rfl) (by rfl)
set_option maxRecDepth 20000 in
theorem wc_X5_count : Cond.code yX5_count cX5_count 2 (some .int) ∈ TB := tb_of 418 (by rfl) (by rfl)
set_option maxRecDepth 20000 in
theorem wm_X5_148 : Cond.methodLinkNest RX5 148 yX3_busyBanks "StrideBanks" ∈ NW := nw_of 419 (by rfl) (by rfl)
set_option maxRecDepth 20000 in
theorem wi_X3_busyBanks : Cond.instanceMethod yX3_busyBanks ∈ TB := tb_of 421 (by rfl) (by rfl)
set_option maxRecDepth 20000 in
theorem wc_X3_busyBanks : Cond.code yX3_busyBanks cX3_busyBanks 3 (some .int) ∈ TB := tb_of 422 (by rfl) (by rfl)
set_option maxRecDepth 20000 in
theorem wm_X5_151 : Cond.methodLinkNest RX5 151 yX3_greatestPrime "StrideBanks" ∈ NW := nw_of 423 (by rfl) (by rfl)
set_option maxRecDepth 20000 in
theorem wm_L_61 : Cond.methodLink RL 61 yX5_untilDone ∈ TB := tb_of 424 (by rfl) (by rfl)
set_option maxRecDepth 20000 in
theorem wi_X5_untilDone : Cond.instanceMethod yX5_untilDone ∈ TB := tb_of 425 (by rfl) (by rfl)
set_option maxRecDepth 20000 in
theorem ws_X5_untilDone : Cond.selects RX5 yX5_untilDone yX5_untilDone ∈ TB := tb_of 426 (by rfl) (by rfl)
set_option maxRecDepth 20000 in
theorem wc_X5_untilDone : Cond.code yX5_untilDone cX5_untilDone 1 (some .int) ∈ TB := tb_of 427 (by rfl) (by rfl)
set_option maxRecDepth 20000 in
theorem wm_X5_157 : Cond.methodLinkNest RX5 157 yX3_copy "StrideBanks" ∈ NW := nw_of 428 (by rfl) (by rfl)
set_option maxRecDepth 20000 in
theorem wm_X5_160 : Cond.methodLinkNest RX5 160 yX3_passAll "StrideBanks" ∈ NW := nw_of 429 (by rfl) (by rfl)
set_option maxRecDepth 20000 in
theorem wi_X3_passAll : Cond.instanceMethod yX3_passAll ∈ TB := tb_of 431 (by rfl) (by rfl)
set_option maxRecDepth 20000 in
theorem wc_X3_passAll : Cond.code yX3_passAll cX3_passAll 3 (some .int) ∈ TB := tb_of 432 (by rfl) (by rfl)
set_option maxRecDepth 20000 in
theorem wm_X3_116 : Cond.methodLink RX3 116 yX3_total ∈ TB := tb_of 433 (by rfl) (by rfl)
set_option maxRecDepth 20000 in
theorem wv_X3_119 : Cond.constant RX3 119 (1000000) ∈ TB := tb_of 434 (by rfl) (by rfl)
set_option maxRecDepth 20000 in
theorem wm_X3_120 : Cond.methodLink RX3 120 yX3_passCycle ∈ TB := tb_of 435 (by rfl) (by rfl)
set_option maxRecDepth 20000 in
theorem wm_L_65 : Cond.methodLink RL 65 yX5_alone ∈ TB := tb_of 436 (by rfl) (by rfl)
set_option maxRecDepth 20000 in
theorem wi_X5_alone : Cond.instanceMethod yX5_alone ∈ TB := tb_of 437 (by rfl) (by rfl)
set_option maxRecDepth 20000 in
theorem ws_X5_alone : Cond.selects RX5 yX5_alone yX5_alone ∈ TB := tb_of 438 (by rfl) (by rfl)
set_option maxRecDepth 20000 in
theorem wc_X5_alone : Cond.code yX5_alone cX5_alone 3 (some .int) ∈ TB := tb_of 439 (by rfl) (by rfl)
set_option maxRecDepth 20000 in
theorem wm_X5_163 : Cond.methodLink RX5 163 yX5_cyclesAlone ∈ TB := tb_of 440 (by rfl) (by rfl)
set_option maxRecDepth 20000 in
theorem wi_X5_cyclesAlone : Cond.instanceMethod yX5_cyclesAlone ∈ TB := tb_of 442 (by rfl) (by rfl)
set_option maxRecDepth 20000 in
theorem wc_X5_cyclesAlone : Cond.code yX5_cyclesAlone cX5_cyclesAlone 3 (some .int) ∈ TB := tb_of 443 (by rfl) (by rfl)
set_option maxRecDepth 20000 in
theorem wm_X5_172 : Cond.methodLinkNest RX5 172 yX3_copySettings "StrideBanks" ∈ NW := nw_of 444 (by rfl) (by rfl)
set_option maxRecDepth 20000 in
theorem wm_X5_189 : Cond.methodLinkNest RX5 189 yX3_freeBanks "StrideBanks" ∈ NW := nw_of 445 (by rfl) (by rfl)
set_option maxRecDepth 20000 in
theorem wm_X5_192 : Cond.methodLinkNest RX5 192 yX3_lonelyCycles "StrideBanks" ∈ NW := nw_of 446 (by rfl) (by rfl)
set_option maxRecDepth 20000 in
theorem wi_X3_lonelyCycles : Cond.instanceMethod yX3_lonelyCycles ∈ TB := tb_of 448 (by rfl) (by rfl)
set_option maxRecDepth 20000 in
theorem wc_X3_lonelyCycles : Cond.code yX3_lonelyCycles cX3_lonelyCycles 8 (some .int) ∈ TB := tb_of 449 (by rfl) (by rfl)
set_option maxRecDepth 20000 in
theorem wm_X3_123 : Cond.methodLink RX3 123 yJ9_max_7cf53 ∈ TB := tb_of 450 (by rfl) (by rfl)
set_option maxRecDepth 20000 in
theorem wm_L_69 : Cond.methodLink RL 69 yX5_bestStride ∈ TB := tb_of 451 (by rfl) (by rfl)
set_option maxRecDepth 20000 in
theorem wi_X5_bestStride : Cond.instanceMethod yX5_bestStride ∈ TB := tb_of 452 (by rfl) (by rfl)
set_option maxRecDepth 20000 in
theorem ws_X5_bestStride : Cond.selects RX5 yX5_bestStride yX5_bestStride ∈ TB := tb_of 453 (by rfl) (by rfl)
set_option maxRecDepth 20000 in
theorem wc_X5_bestStride : Cond.code yX5_bestStride cX5_bestStride 8 (some .int) ∈ TB := tb_of 454 (by rfl) (by rfl)
set_option maxRecDepth 20000 in
theorem wm_X5_166 : Cond.methodLink RX5 166 yJ9_min_7cf53 ∈ TB := tb_of 455 (by rfl) (by rfl)
set_option maxRecDepth 20000 in
theorem wt_J9_min_7cf53 : Cond.static yJ9_min_7cf53 ∈ TB := tb_of 456 (by rfl) (by rfl)
set_option maxRecDepth 20000 in
theorem wc_J9_min_7cf53 : Cond.code yJ9_min_7cf53 cJ9_min_7cf53 2 (some .int) ∈ TB := tb_of 457 (by rfl) (by rfl)
set_option maxRecDepth 20000 in
theorem wm_L_73 : Cond.methodLink RL 73 yX5_bestMap ∈ TB := tb_of 458 (by rfl) (by rfl)
set_option maxRecDepth 20000 in
theorem wi_X5_bestMap : Cond.instanceMethod yX5_bestMap ∈ TB := tb_of 459 (by rfl) (by rfl)
set_option maxRecDepth 20000 in
theorem ws_X5_bestMap : Cond.selects RX5 yX5_bestMap yX5_bestMap ∈ TB := tb_of 460 (by rfl) (by rfl)
set_option maxRecDepth 20000 in
theorem wc_X5_bestMap : Cond.code yX5_bestMap cX5_bestMap 6 (some .int) ∈ TB := tb_of 461 (by rfl) (by rfl)
set_option maxRecDepth 20000 in
theorem wm_X5_169 : Cond.methodLink RX5 169 yX5_cyclesByMap ∈ TB := tb_of 462 (by rfl) (by rfl)
set_option maxRecDepth 20000 in
theorem wi_X5_cyclesByMap : Cond.instanceMethod yX5_cyclesByMap ∈ TB := tb_of 464 (by rfl) (by rfl)
set_option maxRecDepth 20000 in
theorem wc_X5_cyclesByMap : Cond.code yX5_cyclesByMap cX5_cyclesByMap 2 (some .int) ∈ TB := tb_of 465 (by rfl) (by rfl)
set_option maxRecDepth 20000 in
theorem wm_L_77 : Cond.methodLink RL 77 yX5_clashes ∈ TB := tb_of 466 (by rfl) (by rfl)
set_option maxRecDepth 20000 in
theorem wi_X5_clashes : Cond.instanceMethod yX5_clashes ∈ TB := tb_of 467 (by rfl) (by rfl)
set_option maxRecDepth 20000 in
theorem ws_X5_clashes : Cond.selects RX5 yX5_clashes yX5_clashes ∈ TB := tb_of 468 (by rfl) (by rfl)
set_option maxRecDepth 20000 in
theorem wc_X5_clashes : Cond.code yX5_clashes cX5_clashes 3 (some .int) ∈ TB := tb_of 469 (by rfl) (by rfl)
set_option maxRecDepth 20000 in
theorem wm_X5_175 : Cond.methodLinkNest RX5 175 yX3_appendLike "StrideBanks" ∈ NW := nw_of 470 (by rfl) (by rfl)
set_option maxRecDepth 20000 in
theorem wi_X3_appendLike : Cond.instanceMethod yX3_appendLike ∈ TB := tb_of 472 (by rfl) (by rfl)
set_option maxRecDepth 20000 in
theorem wc_X3_appendLike : Cond.code yX3_appendLike cX3_appendLike 2 none ∈ TB := tb_of 473 (by rfl) (by rfl)
set_option maxRecDepth 20000 in
theorem wm_X3_72 : Cond.methodLink RX3 72 yX3_append ∈ TB := tb_of 474 (by rfl) (by rfl)
set_option maxRecDepth 20000 in
theorem wm_L_83 : Cond.methodLink RL 83 yX5_put ∈ TB := tb_of 475 (by rfl) (by rfl)
set_option maxRecDepth 20000 in
theorem wi_X5_put : Cond.instanceMethod yX5_put ∈ TB := tb_of 476 (by rfl) (by rfl)
set_option maxRecDepth 20000 in
theorem ws_X5_put : Cond.selects RX5 yX5_put yX5_put ∈ TB := tb_of 477 (by rfl) (by rfl)
set_option maxRecDepth 20000 in
theorem wc_X5_put : Cond.code yX5_put cX5_put 4 (some .int) ∈ TB := tb_of 478 (by rfl) (by rfl)
set_option maxRecDepth 20000 in
theorem wm_X5_179 : Cond.methodLink RX5 179 yX5_charactersIn ∈ TB := tb_of 479 (by rfl) (by rfl)
set_option maxRecDepth 20000 in
theorem wt_X5_charactersIn : Cond.static yX5_charactersIn ∈ TB := tb_of 480 (by rfl) (by rfl)
set_option maxRecDepth 20000 in
theorem wc_X5_charactersIn : Cond.code yX5_charactersIn cX5_charactersIn 6 (some .int) ∈ TB := tb_of 481 (by rfl) (by rfl)
set_option maxRecDepth 20000 in
theorem wv_X5_196 : Cond.constantLong RX5 196 (255) ∈ TB := tb_of 482 (by rfl) (by rfl)
set_option maxRecDepth 20000 in
theorem wm_X5_183 : Cond.methodLinkNest RX5 183 yX2_append "StrideBanks" ∈ NW := nw_of 483 (by rfl) (by rfl)
set_option maxRecDepth 20000 in
theorem wi_X2_append : Cond.instanceMethod yX2_append ∈ TB := tb_of 485 (by rfl) (by rfl)
set_option maxRecDepth 20000 in
theorem wc_X2_append : Cond.code yX2_append cX2_append 5 none ∈ TB := tb_of 486 (by rfl) (by rfl)
set_option maxRecDepth 20000 in
theorem wv_X2_23 : Cond.constantLong RX2 23 (255) ∈ TB := tb_of 487 (by rfl) (by rfl)
set_option maxRecDepth 20000 in
theorem wm_L_88 : Cond.methodLink RL 88 yX5_wipe ∈ TB := tb_of 488 (by rfl) (by rfl)
set_option maxRecDepth 20000 in
theorem wi_X5_wipe : Cond.instanceMethod yX5_wipe ∈ TB := tb_of 489 (by rfl) (by rfl)
set_option maxRecDepth 20000 in
theorem ws_X5_wipe : Cond.selects RX5 yX5_wipe yX5_wipe ∈ TB := tb_of 490 (by rfl) (by rfl)
set_option maxRecDepth 20000 in
theorem wc_X5_wipe : Cond.code yX5_wipe cX5_wipe 2 (some .int) ∈ TB := tb_of 491 (by rfl) (by rfl)
set_option maxRecDepth 20000 in
theorem wm_L_92 : Cond.methodLink RL 92 yX5_fault ∈ TB := tb_of 492 (by rfl) (by rfl)
set_option maxRecDepth 20000 in
theorem wi_X5_fault : Cond.instanceMethod yX5_fault ∈ TB := tb_of 493 (by rfl) (by rfl)
set_option maxRecDepth 20000 in
theorem ws_X5_fault : Cond.selects RX5 yX5_fault yX5_fault ∈ TB := tb_of 494 (by rfl) (by rfl)
set_option maxRecDepth 20000 in
theorem wc_X5_fault : Cond.code yX5_fault cX5_fault 1 (some .int) ∈ TB := tb_of 495 (by rfl) (by rfl)
set_option maxRecDepth 20000 in
theorem wm_L_96 : Cond.methodLink RL 96 yX5_undo ∈ TB := tb_of 496 (by rfl) (by rfl)
set_option maxRecDepth 20000 in
theorem wi_X5_undo : Cond.instanceMethod yX5_undo ∈ TB := tb_of 497 (by rfl) (by rfl)
set_option maxRecDepth 20000 in
theorem ws_X5_undo : Cond.selects RX5 yX5_undo yX5_undo ∈ TB := tb_of 498 (by rfl) (by rfl)
set_option maxRecDepth 20000 in
theorem wc_X5_undo : Cond.code yX5_undo cX5_undo 1 (some .int) ∈ TB := tb_of 499 (by rfl) (by rfl)
set_option maxRecDepth 20000 in
theorem wm_X5_186 : Cond.methodLinkNest RX5 186 yX1_takeBack "StrideBanks" ∈ NW := nw_of 500 (by rfl) (by rfl)
set_option maxRecDepth 20000 in
theorem wi_X1_takeBack : Cond.instanceMethod yX1_takeBack ∈ TB := tb_of 502 (by rfl) (by rfl)
set_option maxRecDepth 20000 in
theorem wc_X1_takeBack : Cond.code yX1_takeBack cX1_takeBack 2 none ∈ TB := tb_of 503 (by rfl) (by rfl)
set_option maxRecDepth 20000 in
theorem wm_L_100 : Cond.methodLink RL 100 yX5_save ∈ TB := tb_of 504 (by rfl) (by rfl)
set_option maxRecDepth 20000 in
theorem wi_X5_save : Cond.instanceMethod yX5_save ∈ TB := tb_of 505 (by rfl) (by rfl)
set_option maxRecDepth 20000 in
theorem ws_X5_save : Cond.selects RX5 yX5_save yX5_save ∈ TB := tb_of 506 (by rfl) (by rfl)
set_option maxRecDepth 20000 in
theorem wc_X5_save : Cond.code yX5_save cX5_save 2 (some .int) ∈ TB := tb_of 507 (by rfl) (by rfl)
set_option maxRecDepth 20000 in
theorem wm_L_104 : Cond.methodLink RL 104 yX5_restore ∈ TB := tb_of 508 (by rfl) (by rfl)
set_option maxRecDepth 20000 in
theorem wi_X5_restore : Cond.instanceMethod yX5_restore ∈ TB := tb_of 509 (by rfl) (by rfl)
set_option maxRecDepth 20000 in
theorem ws_X5_restore : Cond.selects RX5 yX5_restore yX5_restore ∈ TB := tb_of 510 (by rfl) (by rfl)
set_option maxRecDepth 20000 in
theorem wc_X5_restore : Cond.code yX5_restore cX5_restore 2 (some .int) ∈ TB := tb_of 511 (by rfl) (by rfl)
set_option maxRecDepth 20000 in
theorem wk_L_10 : Cond.classLink RL 10 RX6 ∈ TB := tb_of 512 (by rfl) (by rfl)
set_option maxRecDepth 20000 in
theorem w1_X6 : Cond.instantiable RX6 12 ∈ TB := tb_of 513 (by rfl) (by rfl)
set_option maxRecDepth 20000 in
theorem wm_L_12 : Cond.methodLink RL 12 yX6_init ∈ TB := tb_of 514 (by rfl) (by rfl)
set_option maxRecDepth 20000 in
theorem wi_X6_init : Cond.instanceMethod yX6_init ∈ TB := tb_of 515 (by rfl) (by rfl)
set_option maxRecDepth 20000 in
theorem wc_X6_init : Cond.code yX6_init cX6_init 1 none ∈ TB := tb_of 516 (by rfl) (by rfl)
set_option maxRecDepth 20000 in
theorem wm_X6_1 : Cond.methodLink RX6 1 ⟨"java/lang/Object", "<init>", "()V"⟩ ∈ TB := tb_of 517 (by rfl) (by rfl)
set_option maxRecDepth 20000 in
theorem wf_X6_7 : Cond.fieldLink RX6 7 "StrideBanksModel" "s" "[I" ∈ TB := tb_of 518 (by rfl) (by rfl)
set_option maxRecDepth 20000 in
theorem wf_X6_13 : Cond.fieldLink RX6 13 "StrideBanksModel" "spare" "[I" ∈ TB := tb_of 519 (by rfl) (by rfl)
set_option maxRecDepth 20000 in
theorem wf_X6_16 : Cond.fieldLink RX6 16 "StrideBanksModel" "trial" "[I" ∈ TB := tb_of 520 (by rfl) (by rfl)
set_option maxRecDepth 20000 in
theorem wf_X6_19 : Cond.fieldLink RX6 19 "StrideBanksModel" "before" "[I" ∈ TB := tb_of 521 (by rfl) (by rfl)
set_option maxRecDepth 20000 in
theorem wf_X6_22 : Cond.fieldLink RX6 22 "StrideBanksModel" "saved" "[I" ∈ TB := tb_of 522 (by rfl) (by rfl)
set_option maxRecDepth 20000 in
theorem wf_X6_25 : Cond.fieldLink RX6 25 "StrideBanksModel" "isSaved" "[Z" ∈ TB := tb_of 523 (by rfl) (by rfl)
set_option maxRecDepth 20000 in
theorem wf_X6_29 : Cond.fieldLink RX6 29 "StrideBanksModel" "read" "[I" ∈ TB := tb_of 524 (by rfl) (by rfl)
set_option maxRecDepth 20000 in
theorem wf_X6_32 : Cond.fieldLink RX6 32 "StrideBanksModel" "pad" "[C" ∈ TB := tb_of 525 (by rfl) (by rfl)
set_option maxRecDepth 20000 in
theorem wf_X6_99 : Cond.fieldLink RX6 99 "StrideBanksModel" "length" "I" ∈ TB := tb_of 526 (by rfl) (by rfl)
set_option maxRecDepth 20000 in
theorem wf_X6_40 : Cond.fieldLink RX6 40 "StrideBanksModel" "states" "I" ∈ TB := tb_of 527 (by rfl) (by rfl)
set_option maxRecDepth 20000 in
theorem wf_X6_106 : Cond.fieldLink RX6 106 "StrideBanksModel" "told" "I" ∈ TB := tb_of 528 (by rfl) (by rfl)
set_option maxRecDepth 20000 in
theorem wf_X6_96 : Cond.fieldLink RX6 96 "StrideBanksModel" "at" "I" ∈ TB := tb_of 529 (by rfl) (by rfl)
set_option maxRecDepth 20000 in
theorem wm_L_17 : Cond.methodLink RL 17 yX6_set ∈ TB := tb_of 555 (by rfl) (by rfl)
set_option maxRecDepth 20000 in
theorem wi_X6_set : Cond.instanceMethod yX6_set ∈ TB := tb_of 556 (by rfl) (by rfl)
set_option maxRecDepth 20000 in
theorem ws_X6_set : Cond.selects RX6 yX6_set yX6_set ∈ TB := tb_of 557 (by rfl) (by rfl)
set_option maxRecDepth 20000 in
theorem wc_X6_set : Cond.code yX6_set cX6_set 4 (some .int) ∈ TB := tb_of 558 (by rfl) (by rfl)
set_option maxRecDepth 20000 in
theorem wm_X6_75 : Cond.methodLink RX6 75 yX6_isSetting ∈ TB := tb_of 559 (by rfl) (by rfl)
set_option maxRecDepth 20000 in
theorem wt_X6_isSetting : Cond.static yX6_isSetting ∈ TB := tb_of 560 (by rfl) (by rfl)
set_option maxRecDepth 20000 in
theorem wc_X6_isSetting : Cond.code yX6_isSetting cX6_isSetting 2 (some .boolean) ∈ TB := tb_of 561 (by rfl) (by rfl)
set_option maxRecDepth 20000 in
theorem wm_X6_36 : Cond.methodLink RX6 36 yX6_in ∈ TB := tb_of 562 (by rfl) (by rfl)
set_option maxRecDepth 20000 in
theorem wt_X6_in : Cond.static yX6_in ∈ TB := tb_of 563 (by rfl) (by rfl)
set_option maxRecDepth 20000 in
theorem wc_X6_in : Cond.code yX6_in cX6_in 3 (some .boolean) ∈ TB := tb_of 564 (by rfl) (by rfl)
set_option maxRecDepth 20000 in
theorem wm_X6_79 : Cond.methodLink RX6 79 yX6_hold ∈ TB := tb_of 565 (by rfl) (by rfl)
set_option maxRecDepth 20000 in
theorem wi_X6_hold : Cond.instanceMethod yX6_hold ∈ TB := tb_of 567 (by rfl) (by rfl)
set_option maxRecDepth 20000 in
theorem wc_X6_hold : Cond.code yX6_hold cX6_hold 2 none ∈ TB := tb_of 568 (by rfl) (by rfl)
set_option maxRecDepth 20000 in
theorem wm_X6_82 : Cond.methodLink RX6 82 yX6_beginsAnew ∈ TB := tb_of 569 (by rfl) (by rfl)
set_option maxRecDepth 20000 in
theorem wi_X6_beginsAnew : Cond.instanceMethod yX6_beginsAnew ∈ TB := tb_of 571 (by rfl) (by rfl)
set_option maxRecDepth 20000 in
theorem wc_X6_beginsAnew : Cond.code yX6_beginsAnew cX6_beginsAnew 2 none ∈ TB := tb_of 572 (by rfl) (by rfl)
set_option maxRecDepth 20000 in
theorem wm_X6_65 : Cond.methodLink RX6 65 yX6_begins ∈ TB := tb_of 573 (by rfl) (by rfl)
set_option maxRecDepth 20000 in
theorem wi_X6_begins : Cond.instanceMethod yX6_begins ∈ TB := tb_of 575 (by rfl) (by rfl)
set_option maxRecDepth 20000 in
theorem wc_X6_begins : Cond.code yX6_begins cX6_begins 3 none ∈ TB := tb_of 576 (by rfl) (by rfl)
set_option maxRecDepth 20000 in
theorem wm_X6_52 : Cond.methodLink RX6 52 yX6_m ∈ TB := tb_of 577 (by rfl) (by rfl)
set_option maxRecDepth 20000 in
theorem wt_X6_m : Cond.static yX6_m ∈ TB := tb_of 578 (by rfl) (by rfl)
set_option maxRecDepth 20000 in
theorem wc_X6_m : Cond.code yX6_m cX6_m 1 (some .int) ∈ TB := tb_of 579 (by rfl) (by rfl)
set_option maxRecDepth 20000 in
theorem wm_X6_85 : Cond.methodLink RX6 85 yX6_recorded ∈ TB := tb_of 580 (by rfl) (by rfl)
set_option maxRecDepth 20000 in
theorem wi_X6_recorded : Cond.instanceMethod yX6_recorded ∈ TB := tb_of 582 (by rfl) (by rfl)
set_option maxRecDepth 20000 in
theorem wc_X6_recorded : Cond.code yX6_recorded cX6_recorded 3 (some .int) ∈ TB := tb_of 583 (by rfl) (by rfl)
set_option maxRecDepth 20000 in
theorem wm_L_22 : Cond.methodLink RL 22 yX6_add ∈ TB := tb_of 584 (by rfl) (by rfl)
set_option maxRecDepth 20000 in
theorem wi_X6_add : Cond.instanceMethod yX6_add ∈ TB := tb_of 585 (by rfl) (by rfl)
set_option maxRecDepth 20000 in
theorem ws_X6_add : Cond.selects RX6 yX6_add yX6_add ∈ TB := tb_of 586 (by rfl) (by rfl)
set_option maxRecDepth 20000 in
theorem wc_X6_add : Cond.code yX6_add cX6_add 4 (some .int) ∈ TB := tb_of 587 (by rfl) (by rfl)
set_option maxRecDepth 20000 in
theorem wm_X6_88 : Cond.methodLink RX6 88 yX6_puts ∈ TB := tb_of 588 (by rfl) (by rfl)
set_option maxRecDepth 20000 in
theorem wi_X6_puts : Cond.instanceMethod yX6_puts ∈ TB := tb_of 590 (by rfl) (by rfl)
set_option maxRecDepth 20000 in
theorem wc_X6_puts : Cond.code yX6_puts cX6_puts 5 (some .int) ∈ TB := tb_of 591 (by rfl) (by rfl)
set_option maxRecDepth 20000 in
theorem wm_L_32 : Cond.methodLink RL 32 yX6_drop ∈ TB := tb_of 592 (by rfl) (by rfl)
set_option maxRecDepth 20000 in
theorem wi_X6_drop : Cond.instanceMethod yX6_drop ∈ TB := tb_of 593 (by rfl) (by rfl)
set_option maxRecDepth 20000 in
theorem ws_X6_drop : Cond.selects RX6 yX6_drop yX6_drop ∈ TB := tb_of 594 (by rfl) (by rfl)
set_option maxRecDepth 20000 in
theorem wc_X6_drop : Cond.code yX6_drop cX6_drop 5 (some .int) ∈ TB := tb_of 595 (by rfl) (by rfl)
set_option maxRecDepth 20000 in
theorem wm_X6_92 : Cond.methodLink RX6 92 yX6_isStream ∈ TB := tb_of 596 (by rfl) (by rfl)
set_option maxRecDepth 20000 in
theorem wi_X6_isStream : Cond.instanceMethod yX6_isStream ∈ TB := tb_of 598 (by rfl) (by rfl)
set_option maxRecDepth 20000 in
theorem wc_X6_isStream : Cond.code yX6_isStream cX6_isStream 2 (some .boolean) ∈ TB := tb_of 599 (by rfl) (by rfl)
set_option maxRecDepth 20000 in
theorem wm_X6_59 : Cond.methodLink RX6 59 yX6_b ∈ TB := tb_of 600 (by rfl) (by rfl)
set_option maxRecDepth 20000 in
theorem wt_X6_b : Cond.static yX6_b ∈ TB := tb_of 601 (by rfl) (by rfl)
set_option maxRecDepth 20000 in
theorem wc_X6_b : Cond.code yX6_b cX6_b 1 (some .int) ∈ TB := tb_of 602 (by rfl) (by rfl)
set_option maxRecDepth 20000 in
theorem wm_L_36 : Cond.methodLink RL 36 yX6_stride ∈ TB := tb_of 603 (by rfl) (by rfl)
set_option maxRecDepth 20000 in
theorem wi_X6_stride : Cond.instanceMethod yX6_stride ∈ TB := tb_of 604 (by rfl) (by rfl)
set_option maxRecDepth 20000 in
theorem ws_X6_stride : Cond.selects RX6 yX6_stride yX6_stride ∈ TB := tb_of 605 (by rfl) (by rfl)
set_option maxRecDepth 20000 in
theorem wc_X6_stride : Cond.code yX6_stride cX6_stride 5 (some .int) ∈ TB := tb_of 606 (by rfl) (by rfl)
set_option maxRecDepth 20000 in
theorem wm_L_40 : Cond.methodLink RL 40 yX6_run ∈ TB := tb_of 607 (by rfl) (by rfl)
set_option maxRecDepth 20000 in
theorem wi_X6_run : Cond.instanceMethod yX6_run ∈ TB := tb_of 608 (by rfl) (by rfl)
set_option maxRecDepth 20000 in
theorem ws_X6_run : Cond.selects RX6 yX6_run yX6_run ∈ TB := tb_of 609 (by rfl) (by rfl)
set_option maxRecDepth 20000 in
theorem wc_X6_run : Cond.code yX6_run cX6_run 4 (some .int) ∈ TB := tb_of 610 (by rfl) (by rfl)
set_option maxRecDepth 20000 in
theorem wv_X6_95 : Cond.constant RX6 95 (99999) ∈ TB := tb_of 611 (by rfl) (by rfl)
set_option maxRecDepth 20000 in
theorem wm_X6_72 : Cond.methodLink RX6 72 yX6_cycle ∈ TB := tb_of 612 (by rfl) (by rfl)
set_option maxRecDepth 20000 in
theorem wi_X6_cycle : Cond.instanceMethod yX6_cycle ∈ TB := tb_of 614 (by rfl) (by rfl)
set_option maxRecDepth 20000 in
theorem wc_X6_cycle : Cond.code yX6_cycle cX6_cycle 5 (some .int) ∈ TB := tb_of 615 (by rfl) (by rfl)
set_option maxRecDepth 20000 in
theorem wm_X6_62 : Cond.methodLink RX6 62 yX6_asks ∈ TB := tb_of 616 (by rfl) (by rfl)
set_option maxRecDepth 20000 in
theorem wi_X6_asks : Cond.instanceMethod yX6_asks ∈ TB := tb_of 618 (by rfl) (by rfl)
set_option maxRecDepth 20000 in
theorem wc_X6_asks : Cond.code yX6_asks cX6_asks 4 (some .int) ∈ TB := tb_of 619 (by rfl) (by rfl)
set_option maxRecDepth 20000 in
theorem wm_X6_56 : Cond.methodLink RX6 56 yX6_bankAt ∈ TB := tb_of 620 (by rfl) (by rfl)
set_option maxRecDepth 20000 in
theorem wi_X6_bankAt : Cond.instanceMethod yX6_bankAt ∈ TB := tb_of 622 (by rfl) (by rfl)
set_option maxRecDepth 20000 in
theorem wc_X6_bankAt : Cond.code yX6_bankAt cX6_bankAt 3 (some .int) ∈ TB := tb_of 623 (by rfl) (by rfl)
set_option maxRecDepth 20000 in
theorem wm_X6_48 : Cond.methodLink RX6 48 yX6_prime ∈ TB := tb_of 624 (by rfl) (by rfl)
set_option maxRecDepth 20000 in
theorem wi_X6_prime : Cond.instanceMethod yX6_prime ∈ TB := tb_of 626 (by rfl) (by rfl)
set_option maxRecDepth 20000 in
theorem wc_X6_prime : Cond.code yX6_prime cX6_prime 2 (some .int) ∈ TB := tb_of 627 (by rfl) (by rfl)
set_option maxRecDepth 20000 in
theorem wm_X6_44 : Cond.methodLink RX6 44 yX6_isPrime ∈ TB := tb_of 628 (by rfl) (by rfl)
set_option maxRecDepth 20000 in
theorem wt_X6_isPrime : Cond.static yX6_isPrime ∈ TB := tb_of 629 (by rfl) (by rfl)
set_option maxRecDepth 20000 in
theorem wc_X6_isPrime : Cond.code yX6_isPrime cX6_isPrime 3 (some .boolean) ∈ TB := tb_of 630 (by rfl) (by rfl)
set_option maxRecDepth 20000 in
theorem wm_L_44 : Cond.methodLink RL 44 yX6_reset ∈ TB := tb_of 631 (by rfl) (by rfl)
set_option maxRecDepth 20000 in
theorem wi_X6_reset : Cond.instanceMethod yX6_reset ∈ TB := tb_of 632 (by rfl) (by rfl)
set_option maxRecDepth 20000 in
theorem ws_X6_reset : Cond.selects RX6 yX6_reset yX6_reset ∈ TB := tb_of 633 (by rfl) (by rfl)
set_option maxRecDepth 20000 in
theorem wc_X6_reset : Cond.code yX6_reset cX6_reset 1 (some .int) ∈ TB := tb_of 634 (by rfl) (by rfl)
set_option maxRecDepth 20000 in
theorem wm_X6_69 : Cond.methodLink RX6 69 yX6_wordsLeft ∈ TB := tb_of 635 (by rfl) (by rfl)
set_option maxRecDepth 20000 in
theorem wi_X6_wordsLeft : Cond.instanceMethod yX6_wordsLeft ∈ TB := tb_of 637 (by rfl) (by rfl)
set_option maxRecDepth 20000 in
theorem wc_X6_wordsLeft : Cond.code yX6_wordsLeft cX6_wordsLeft 3 (some .int) ∈ TB := tb_of 638 (by rfl) (by rfl)
set_option maxRecDepth 20000 in
theorem wm_L_27 : Cond.methodLink RL 27 yX6_read ∈ TB := tb_of 639 (by rfl) (by rfl)
set_option maxRecDepth 20000 in
theorem wi_X6_read : Cond.instanceMethod yX6_read ∈ TB := tb_of 640 (by rfl) (by rfl)
set_option maxRecDepth 20000 in
theorem ws_X6_read : Cond.selects RX6 yX6_read yX6_read ∈ TB := tb_of 641 (by rfl) (by rfl)
set_option maxRecDepth 20000 in
theorem wc_X6_read : Cond.code yX6_read cX6_read 3 (some .int) ∈ TB := tb_of 642 (by rfl) (by rfl)
set_option maxRecDepth 20000 in
theorem wm_X6_120 : Cond.methodLink RX6 120 yX6_faultOf ∈ TB := tb_of 643 (by rfl) (by rfl)
set_option maxRecDepth 20000 in
theorem wi_X6_faultOf : Cond.instanceMethod yX6_faultOf ∈ TB := tb_of 645 (by rfl) (by rfl)
set_option maxRecDepth 20000 in
theorem wc_X6_faultOf : Cond.code yX6_faultOf cX6_faultOf 2 (some .int) ∈ TB := tb_of 646 (by rfl) (by rfl)
set_option maxRecDepth 20000 in
theorem wm_X6_116 : Cond.methodLink RX6 116 yX6_readsStream ∈ TB := tb_of 647 (by rfl) (by rfl)
set_option maxRecDepth 20000 in
theorem wi_X6_readsStream : Cond.instanceMethod yX6_readsStream ∈ TB := tb_of 649 (by rfl) (by rfl)
set_option maxRecDepth 20000 in
theorem wc_X6_readsStream : Cond.code yX6_readsStream cX6_readsStream 2 (some .boolean) ∈ TB := tb_of 650 (by rfl) (by rfl)
set_option maxRecDepth 20000 in
theorem wm_X6_109 : Cond.methodLink RX6 109 yX6_number ∈ TB := tb_of 651 (by rfl) (by rfl)
set_option maxRecDepth 20000 in
theorem wi_X6_number : Cond.instanceMethod yX6_number ∈ TB := tb_of 653 (by rfl) (by rfl)
set_option maxRecDepth 20000 in
theorem wc_X6_number : Cond.code yX6_number cX6_number 5 (some .boolean) ∈ TB := tb_of 654 (by rfl) (by rfl)
set_option maxRecDepth 20000 in
theorem wm_X6_102 : Cond.methodLink RX6 102 yX6_isSign ∈ TB := tb_of 655 (by rfl) (by rfl)
set_option maxRecDepth 20000 in
theorem wi_X6_isSign : Cond.instanceMethod yX6_isSign ∈ TB := tb_of 657 (by rfl) (by rfl)
set_option maxRecDepth 20000 in
theorem wc_X6_isSign : Cond.code yX6_isSign cX6_isSign 3 (some .boolean) ∈ TB := tb_of 658 (by rfl) (by rfl)
set_option maxRecDepth 20000 in
theorem wm_X6_112 : Cond.methodLink RX6 112 yX6_accepts ∈ TB := tb_of 659 (by rfl) (by rfl)
set_option maxRecDepth 20000 in
theorem wi_X6_accepts : Cond.instanceMethod yX6_accepts ∈ TB := tb_of 661 (by rfl) (by rfl)
set_option maxRecDepth 20000 in
theorem wc_X6_accepts : Cond.code yX6_accepts cX6_accepts 3 (some .boolean) ∈ TB := tb_of 662 (by rfl) (by rfl)
set_option maxRecDepth 20000 in
theorem wm_L_48 : Cond.methodLink RL 48 yX6_bankOf ∈ TB := tb_of 663 (by rfl) (by rfl)
set_option maxRecDepth 20000 in
theorem wi_X6_bankOf : Cond.instanceMethod yX6_bankOf ∈ TB := tb_of 664 (by rfl) (by rfl)
set_option maxRecDepth 20000 in
theorem ws_X6_bankOf : Cond.selects RX6 yX6_bankOf yX6_bankOf ∈ TB := tb_of 665 (by rfl) (by rfl)
set_option maxRecDepth 20000 in
theorem wc_X6_bankOf : Cond.code yX6_bankOf cX6_bankOf 2 (some .int) ∈ TB := tb_of 666 (by rfl) (by rfl)
set_option maxRecDepth 20000 in
theorem wm_L_52 : Cond.methodLink RL 52 yX6_stream ∈ TB := tb_of 667 (by rfl) (by rfl)
set_option maxRecDepth 20000 in
theorem wi_X6_stream : Cond.instanceMethod yX6_stream ∈ TB := tb_of 668 (by rfl) (by rfl)
set_option maxRecDepth 20000 in
theorem ws_X6_stream : Cond.selects RX6 yX6_stream yX6_stream ∈ TB := tb_of 669 (by rfl) (by rfl)
set_option maxRecDepth 20000 in
theorem wc_X6_stream : Cond.code yX6_stream cX6_stream 4 (some .int) ∈ TB := tb_of 670 (by rfl) (by rfl)
set_option maxRecDepth 20000 in
theorem wm_X6_123 : Cond.methodLink RX6 123 yX6_meets ∈ TB := tb_of 671 (by rfl) (by rfl)
set_option maxRecDepth 20000 in
theorem wi_X6_meets : Cond.instanceMethod yX6_meets ∈ TB := tb_of 673 (by rfl) (by rfl)
set_option maxRecDepth 20000 in
theorem wc_X6_meets : Cond.code yX6_meets cX6_meets 6 (some .int) ∈ TB := tb_of 674 (by rfl) (by rfl)
set_option maxRecDepth 20000 in
theorem wm_L_56 : Cond.methodLink RL 56 yX6_bank ∈ TB := tb_of 675 (by rfl) (by rfl)
set_option maxRecDepth 20000 in
theorem wi_X6_bank : Cond.instanceMethod yX6_bank ∈ TB := tb_of 676 (by rfl) (by rfl)
set_option maxRecDepth 20000 in
theorem ws_X6_bank : Cond.selects RX6 yX6_bank yX6_bank ∈ TB := tb_of 677 (by rfl) (by rfl)
set_option maxRecDepth 20000 in
theorem wc_X6_bank : Cond.code yX6_bank cX6_bank 3 (some .int) ∈ TB := tb_of 678 (by rfl) (by rfl)
set_option maxRecDepth 20000 in
theorem wm_X6_126 : Cond.methodLink RX6 126 yX6_busy ∈ TB := tb_of 679 (by rfl) (by rfl)
set_option maxRecDepth 20000 in
theorem wi_X6_busy : Cond.instanceMethod yX6_busy ∈ TB := tb_of 681 (by rfl) (by rfl)
set_option maxRecDepth 20000 in
theorem wc_X6_busy : Cond.code yX6_busy cX6_busy 3 (some .int) ∈ TB := tb_of 682 (by rfl) (by rfl)
set_option maxRecDepth 20000 in
theorem wm_X6_129 : Cond.methodLink RX6 129 yX6_wordsIn ∈ TB := tb_of 683 (by rfl) (by rfl)
set_option maxRecDepth 20000 in
theorem wi_X6_wordsIn : Cond.instanceMethod yX6_wordsIn ∈ TB := tb_of 685 (by rfl) (by rfl)
set_option maxRecDepth 20000 in
theorem wc_X6_wordsIn : Cond.code yX6_wordsIn cX6_wordsIn 6 (some .int) ∈ TB := tb_of 686 (by rfl) (by rfl)
set_option maxRecDepth 20000 in
theorem wm_L_60 : Cond.methodLink RL 60 yX6_count ∈ TB := tb_of 687 (by rfl) (by rfl)
set_option maxRecDepth 20000 in
theorem wi_X6_count : Cond.instanceMethod yX6_count ∈ TB := tb_of 688 (by rfl) (by rfl)
set_option maxRecDepth 20000 in
theorem ws_X6_count : Cond.selects RX6 yX6_count yX6_count ∈ TB := tb_of 689 (by rfl) (by rfl)
set_option maxRecDepth 20000 in
theorem wc_X6_count : Cond.code yX6_count cX6_count 2 (some .int) ∈ TB := tb_of 690 (by rfl) (by rfl)
set_option maxRecDepth 20000 in
theorem wm_X6_132 : Cond.methodLink RX6 132 yX6_ofStreams ∈ TB := tb_of 691 (by rfl) (by rfl)
set_option maxRecDepth 20000 in
theorem wi_X6_ofStreams : Cond.instanceMethod yX6_ofStreams ∈ TB := tb_of 693 (by rfl) (by rfl)
set_option maxRecDepth 20000 in
theorem wc_X6_ofStreams : Cond.code yX6_ofStreams cX6_ofStreams 5 (some .int) ∈ TB := tb_of 694 (by rfl) (by rfl)
set_option maxRecDepth 20000 in
theorem wm_X6_135 : Cond.methodLink RX6 135 yX6_busyBanks ∈ TB := tb_of 695 (by rfl) (by rfl)
set_option maxRecDepth 20000 in
theorem wi_X6_busyBanks : Cond.instanceMethod yX6_busyBanks ∈ TB := tb_of 697 (by rfl) (by rfl)
set_option maxRecDepth 20000 in
theorem wc_X6_busyBanks : Cond.code yX6_busyBanks cX6_busyBanks 3 (some .int) ∈ TB := tb_of 698 (by rfl) (by rfl)
set_option maxRecDepth 20000 in
theorem wm_L_64 : Cond.methodLink RL 64 yX6_untilDone ∈ TB := tb_of 699 (by rfl) (by rfl)
set_option maxRecDepth 20000 in
theorem wi_X6_untilDone : Cond.instanceMethod yX6_untilDone ∈ TB := tb_of 700 (by rfl) (by rfl)
set_option maxRecDepth 20000 in
theorem ws_X6_untilDone : Cond.selects RX6 yX6_untilDone yX6_untilDone ∈ TB := tb_of 701 (by rfl) (by rfl)
set_option maxRecDepth 20000 in
theorem wc_X6_untilDone : Cond.code yX6_untilDone cX6_untilDone 2 (some .int) ∈ TB := tb_of 702 (by rfl) (by rfl)
set_option maxRecDepth 20000 in
theorem wm_X6_138 : Cond.methodLink RX6 138 yX6_keepTrial ∈ TB := tb_of 703 (by rfl) (by rfl)
set_option maxRecDepth 20000 in
theorem wi_X6_keepTrial : Cond.instanceMethod yX6_keepTrial ∈ TB := tb_of 705 (by rfl) (by rfl)
set_option maxRecDepth 20000 in
theorem wc_X6_keepTrial : Cond.code yX6_keepTrial cX6_keepTrial 2 none ∈ TB := tb_of 706 (by rfl) (by rfl)
set_option maxRecDepth 20000 in
theorem wm_X6_141 : Cond.methodLink RX6 141 yX6_runsOut ∈ TB := tb_of 707 (by rfl) (by rfl)
set_option maxRecDepth 20000 in
theorem wi_X6_runsOut : Cond.instanceMethod yX6_runsOut ∈ TB := tb_of 709 (by rfl) (by rfl)
set_option maxRecDepth 20000 in
theorem wc_X6_runsOut : Cond.code yX6_runsOut cX6_runsOut 3 (some .int) ∈ TB := tb_of 710 (by rfl) (by rfl)
set_option maxRecDepth 20000 in
theorem wm_X6_144 : Cond.methodLink RX6 144 yX6_putBack ∈ TB := tb_of 711 (by rfl) (by rfl)
set_option maxRecDepth 20000 in
theorem wi_X6_putBack : Cond.instanceMethod yX6_putBack ∈ TB := tb_of 713 (by rfl) (by rfl)
set_option maxRecDepth 20000 in
theorem wc_X6_putBack : Cond.code yX6_putBack cX6_putBack 2 none ∈ TB := tb_of 714 (by rfl) (by rfl)
set_option maxRecDepth 20000 in
theorem wm_L_68 : Cond.methodLink RL 68 yX6_alone ∈ TB := tb_of 715 (by rfl) (by rfl)
set_option maxRecDepth 20000 in
theorem wi_X6_alone : Cond.instanceMethod yX6_alone ∈ TB := tb_of 716 (by rfl) (by rfl)
set_option maxRecDepth 20000 in
theorem ws_X6_alone : Cond.selects RX6 yX6_alone yX6_alone ∈ TB := tb_of 717 (by rfl) (by rfl)
set_option maxRecDepth 20000 in
theorem wc_X6_alone : Cond.code yX6_alone cX6_alone 3 (some .int) ∈ TB := tb_of 718 (by rfl) (by rfl)
set_option maxRecDepth 20000 in
theorem wm_X6_151 : Cond.methodLink RX6 151 yX6_cyclesWith ∈ TB := tb_of 719 (by rfl) (by rfl)
set_option maxRecDepth 20000 in
theorem wi_X6_cyclesWith : Cond.instanceMethod yX6_cyclesWith ∈ TB := tb_of 721 (by rfl) (by rfl)
set_option maxRecDepth 20000 in
theorem wc_X6_cyclesWith : Cond.code yX6_cyclesWith cX6_cyclesWith 4 (some .int) ∈ TB := tb_of 722 (by rfl) (by rfl)
set_option maxRecDepth 20000 in
theorem wm_X6_147 : Cond.methodLink RX6 147 yX6_comes ∈ TB := tb_of 723 (by rfl) (by rfl)
set_option maxRecDepth 20000 in
theorem wi_X6_comes : Cond.instanceMethod yX6_comes ∈ TB := tb_of 725 (by rfl) (by rfl)
set_option maxRecDepth 20000 in
theorem wc_X6_comes : Cond.code yX6_comes cX6_comes 4 none ∈ TB := tb_of 726 (by rfl) (by rfl)
set_option maxRecDepth 20000 in
theorem wm_L_72 : Cond.methodLink RL 72 yX6_bestStride ∈ TB := tb_of 727 (by rfl) (by rfl)
set_option maxRecDepth 20000 in
theorem wi_X6_bestStride : Cond.instanceMethod yX6_bestStride ∈ TB := tb_of 728 (by rfl) (by rfl)
set_option maxRecDepth 20000 in
theorem ws_X6_bestStride : Cond.selects RX6 yX6_bestStride yX6_bestStride ∈ TB := tb_of 729 (by rfl) (by rfl)
set_option maxRecDepth 20000 in
theorem wc_X6_bestStride : Cond.code yX6_bestStride cX6_bestStride 8 (some .int) ∈ TB := tb_of 730 (by rfl) (by rfl)
set_option maxRecDepth 20000 in
theorem wv_X6_155 : Cond.constant RX6 155 (1000000) ∈ TB := tb_of 731 (by rfl) (by rfl)
set_option maxRecDepth 20000 in
theorem wm_L_76 : Cond.methodLink RL 76 yX6_bestMap ∈ TB := tb_of 732 (by rfl) (by rfl)
set_option maxRecDepth 20000 in
theorem wi_X6_bestMap : Cond.instanceMethod yX6_bestMap ∈ TB := tb_of 733 (by rfl) (by rfl)
set_option maxRecDepth 20000 in
theorem ws_X6_bestMap : Cond.selects RX6 yX6_bestMap yX6_bestMap ∈ TB := tb_of 734 (by rfl) (by rfl)
set_option maxRecDepth 20000 in
theorem wc_X6_bestMap : Cond.code yX6_bestMap cX6_bestMap 6 (some .int) ∈ TB := tb_of 735 (by rfl) (by rfl)
set_option maxRecDepth 20000 in
theorem wm_L_80 : Cond.methodLink RL 80 yX6_clashes ∈ TB := tb_of 736 (by rfl) (by rfl)
set_option maxRecDepth 20000 in
theorem wi_X6_clashes : Cond.instanceMethod yX6_clashes ∈ TB := tb_of 737 (by rfl) (by rfl)
set_option maxRecDepth 20000 in
theorem ws_X6_clashes : Cond.selects RX6 yX6_clashes yX6_clashes ∈ TB := tb_of 738 (by rfl) (by rfl)
set_option maxRecDepth 20000 in
theorem wc_X6_clashes : Cond.code yX6_clashes cX6_clashes 5 (some .int) ∈ TB := tb_of 739 (by rfl) (by rfl)
set_option maxRecDepth 20000 in
theorem wm_L_87 : Cond.methodLink RL 87 yX6_put ∈ TB := tb_of 740 (by rfl) (by rfl)
set_option maxRecDepth 20000 in
theorem wi_X6_put : Cond.instanceMethod yX6_put ∈ TB := tb_of 741 (by rfl) (by rfl)
set_option maxRecDepth 20000 in
theorem ws_X6_put : Cond.selects RX6 yX6_put yX6_put ∈ TB := tb_of 742 (by rfl) (by rfl)
set_option maxRecDepth 20000 in
theorem wc_X6_put : Cond.code yX6_put cX6_put 8 (some .int) ∈ TB := tb_of 743 (by rfl) (by rfl)
set_option maxRecDepth 20000 in
theorem wv_X6_156 : Cond.constantLong RX6 156 (255) ∈ TB := tb_of 744 (by rfl) (by rfl)
set_option maxRecDepth 20000 in
theorem wv_X6_158 : Cond.constantLong RX6 158 (33) ∈ TB := tb_of 745 (by rfl) (by rfl)
set_option maxRecDepth 20000 in
theorem wv_X6_160 : Cond.constantLong RX6 160 (126) ∈ TB := tb_of 746 (by rfl) (by rfl)
set_option maxRecDepth 20000 in
theorem wm_L_91 : Cond.methodLink RL 91 yX6_wipe ∈ TB := tb_of 747 (by rfl) (by rfl)
set_option maxRecDepth 20000 in
theorem wi_X6_wipe : Cond.instanceMethod yX6_wipe ∈ TB := tb_of 748 (by rfl) (by rfl)
set_option maxRecDepth 20000 in
theorem ws_X6_wipe : Cond.selects RX6 yX6_wipe yX6_wipe ∈ TB := tb_of 749 (by rfl) (by rfl)
set_option maxRecDepth 20000 in
theorem wc_X6_wipe : Cond.code yX6_wipe cX6_wipe 2 (some .int) ∈ TB := tb_of 750 (by rfl) (by rfl)
set_option maxRecDepth 20000 in
theorem wm_L_95 : Cond.methodLink RL 95 yX6_fault ∈ TB := tb_of 751 (by rfl) (by rfl)
set_option maxRecDepth 20000 in
theorem wi_X6_fault : Cond.instanceMethod yX6_fault ∈ TB := tb_of 752 (by rfl) (by rfl)
set_option maxRecDepth 20000 in
theorem ws_X6_fault : Cond.selects RX6 yX6_fault yX6_fault ∈ TB := tb_of 753 (by rfl) (by rfl)
set_option maxRecDepth 20000 in
theorem wc_X6_fault : Cond.code yX6_fault cX6_fault 2 (some .int) ∈ TB := tb_of 754 (by rfl) (by rfl)
set_option maxRecDepth 20000 in
theorem wm_L_99 : Cond.methodLink RL 99 yX6_undo ∈ TB := tb_of 755 (by rfl) (by rfl)
set_option maxRecDepth 20000 in
theorem wi_X6_undo : Cond.instanceMethod yX6_undo ∈ TB := tb_of 756 (by rfl) (by rfl)
set_option maxRecDepth 20000 in
theorem ws_X6_undo : Cond.selects RX6 yX6_undo yX6_undo ∈ TB := tb_of 757 (by rfl) (by rfl)
set_option maxRecDepth 20000 in
theorem wc_X6_undo : Cond.code yX6_undo cX6_undo 2 (some .int) ∈ TB := tb_of 758 (by rfl) (by rfl)
set_option maxRecDepth 20000 in
theorem wm_L_103 : Cond.methodLink RL 103 yX6_save ∈ TB := tb_of 759 (by rfl) (by rfl)
set_option maxRecDepth 20000 in
theorem wi_X6_save : Cond.instanceMethod yX6_save ∈ TB := tb_of 760 (by rfl) (by rfl)
set_option maxRecDepth 20000 in
theorem ws_X6_save : Cond.selects RX6 yX6_save yX6_save ∈ TB := tb_of 761 (by rfl) (by rfl)
set_option maxRecDepth 20000 in
theorem wc_X6_save : Cond.code yX6_save cX6_save 3 (some .int) ∈ TB := tb_of 762 (by rfl) (by rfl)
set_option maxRecDepth 20000 in
theorem wm_L_107 : Cond.methodLink RL 107 yX6_restore ∈ TB := tb_of 763 (by rfl) (by rfl)
set_option maxRecDepth 20000 in
theorem wi_X6_restore : Cond.instanceMethod yX6_restore ∈ TB := tb_of 764 (by rfl) (by rfl)
set_option maxRecDepth 20000 in
theorem ws_X6_restore : Cond.selects RX6 yX6_restore yX6_restore ∈ TB := tb_of 765 (by rfl) (by rfl)
set_option maxRecDepth 20000 in
theorem wc_X6_restore : Cond.code yX6_restore cX6_restore 3 (some .int) ∈ TB := tb_of 766 (by rfl) (by rfl)
set_option maxRecDepth 20000 in
theorem wv_L_81 : Cond.constantLong RL 81 (4294967295) ∈ TB := tb_of 767 (by rfl) (by rfl)
set_option maxRecDepth 20000 in
theorem wy_X0_freeFrom : Cond.lays "StrideBanks$BankRow" "StrideBanks$BankRow" "freeFrom" "I" ∈ TB := tb_of 150 (by rfl) (by rfl)
set_option maxRecDepth 20000 in
theorem wy_X0_maker : Cond.lays "StrideBanks$BankRow" "StrideBanks$BankRow" "maker" "I" ∈ TB := tb_of 152 (by rfl) (by rfl)
set_option maxRecDepth 20000 in
theorem wy_X0_requests : Cond.lays "StrideBanks$BankRow" "StrideBanks$BankRow" "requests" "I" ∈ TB := tb_of 154 (by rfl) (by rfl)
set_option maxRecDepth 20000 in
theorem wy_X0_stalls : Cond.lays "StrideBanks$BankRow" "StrideBanks$BankRow" "stalls" "I" ∈ TB := tb_of 156 (by rfl) (by rfl)
theorem uw_X0 : ∀ w ∈ u_ws RX0 TX0 4, w ∈ TB := (List.forall_mem_cons.mpr ⟨wy_X0_freeFrom, List.forall_mem_cons.mpr ⟨wy_X0_maker, List.forall_mem_cons.mpr ⟨wy_X0_requests, List.forall_mem_cons.mpr ⟨wy_X0_stalls, fun _ h => absurd h List.not_mem_nil⟩⟩⟩⟩ : ∀ w ∈ ([Cond.lays RX0 "StrideBanks$BankRow" "freeFrom" "I", Cond.lays RX0 "StrideBanks$BankRow" "maker" "I", Cond.lays RX0 "StrideBanks$BankRow" "requests" "I", Cond.lays RX0 "StrideBanks$BankRow" "stalls" "I"] : List Cond), w ∈ TB)
set_option maxRecDepth 20000 in
theorem wy_X1_states : Cond.laysFinal "StrideBanks$History" "StrideBanks$History" "states" "[LStrideBanks$Store;" ∈ TB := tb_of 196 (by rfl) (by rfl)
set_option maxRecDepth 20000 in
theorem wy_X1_size : Cond.lays "StrideBanks$History" "StrideBanks$History" "size" "I" ∈ TB := tb_of 198 (by rfl) (by rfl)
theorem uw_X1 : ∀ w ∈ u_ws RX1 TX1 2, w ∈ TB := (List.forall_mem_cons.mpr ⟨wy_X1_states, List.forall_mem_cons.mpr ⟨wy_X1_size, fun _ h => absurd h List.not_mem_nil⟩⟩ : ∀ w ∈ ([Cond.laysFinal RX1 "StrideBanks$History" "states" "[LStrideBanks$Store;", Cond.lays RX1 "StrideBanks$History" "size" "I"] : List Cond), w ∈ TB)
set_option maxRecDepth 20000 in
theorem wy_X2_text : Cond.laysFinal "StrideBanks$Pad" "StrideBanks$Pad" "text" "[C" ∈ TB := tb_of 212 (by rfl) (by rfl)
set_option maxRecDepth 20000 in
theorem wy_X2_length : Cond.lays "StrideBanks$Pad" "StrideBanks$Pad" "length" "I" ∈ TB := tb_of 214 (by rfl) (by rfl)
set_option maxRecDepth 20000 in
theorem wy_X2_numbers : Cond.laysFinal "StrideBanks$Pad" "StrideBanks$Pad" "numbers" "[I" ∈ TB := tb_of 216 (by rfl) (by rfl)
set_option maxRecDepth 20000 in
theorem wy_X2_numbersFound : Cond.lays "StrideBanks$Pad" "StrideBanks$Pad" "numbersFound" "I" ∈ TB := tb_of 218 (by rfl) (by rfl)
theorem uw_X2 : ∀ w ∈ u_ws RX2 TX2 4, w ∈ TB := (List.forall_mem_cons.mpr ⟨wy_X2_text, List.forall_mem_cons.mpr ⟨wy_X2_length, List.forall_mem_cons.mpr ⟨wy_X2_numbers, List.forall_mem_cons.mpr ⟨wy_X2_numbersFound, fun _ h => absurd h List.not_mem_nil⟩⟩⟩⟩ : ∀ w ∈ ([Cond.laysFinal RX2 "StrideBanks$Pad" "text" "[C", Cond.lays RX2 "StrideBanks$Pad" "length" "I", Cond.laysFinal RX2 "StrideBanks$Pad" "numbers" "[I", Cond.lays RX2 "StrideBanks$Pad" "numbersFound" "I"] : List Cond), w ∈ TB)
set_option maxRecDepth 20000 in
theorem wy_X3_settings : Cond.laysFinal "StrideBanks$Store" "StrideBanks$Store" "settings" "[I" ∈ TB := tb_of 173 (by rfl) (by rfl)
set_option maxRecDepth 20000 in
theorem wy_X3_streams : Cond.laysFinal "StrideBanks$Store" "StrideBanks$Store" "streams" "[LStrideBanks$StreamRow;" ∈ TB := tb_of 175 (by rfl) (by rfl)
set_option maxRecDepth 20000 in
theorem wy_X3_banks : Cond.laysFinal "StrideBanks$Store" "StrideBanks$Store" "banks" "[LStrideBanks$BankRow;" ∈ TB := tb_of 177 (by rfl) (by rfl)
set_option maxRecDepth 20000 in
theorem wy_X3_streamCount : Cond.lays "StrideBanks$Store" "StrideBanks$Store" "streamCount" "I" ∈ TB := tb_of 179 (by rfl) (by rfl)
set_option maxRecDepth 20000 in
theorem wy_X3_cycle : Cond.lays "StrideBanks$Store" "StrideBanks$Store" "cycle" "I" ∈ TB := tb_of 181 (by rfl) (by rfl)
theorem uw_X3 : ∀ w ∈ u_ws RX3 TX3 5, w ∈ TB := (List.forall_mem_cons.mpr ⟨wy_X3_settings, List.forall_mem_cons.mpr ⟨wy_X3_streams, List.forall_mem_cons.mpr ⟨wy_X3_banks, List.forall_mem_cons.mpr ⟨wy_X3_streamCount, List.forall_mem_cons.mpr ⟨wy_X3_cycle, fun _ h => absurd h List.not_mem_nil⟩⟩⟩⟩⟩ : ∀ w ∈ ([Cond.laysFinal RX3 "StrideBanks$Store" "settings" "[I", Cond.laysFinal RX3 "StrideBanks$Store" "streams" "[LStrideBanks$StreamRow;", Cond.laysFinal RX3 "StrideBanks$Store" "banks" "[LStrideBanks$BankRow;", Cond.lays RX3 "StrideBanks$Store" "streamCount" "I", Cond.lays RX3 "StrideBanks$Store" "cycle" "I"] : List Cond), w ∈ TB)
set_option maxRecDepth 20000 in
theorem wy_X4_start : Cond.lays "StrideBanks$StreamRow" "StrideBanks$StreamRow" "start" "I" ∈ TB := tb_of 116 (by rfl) (by rfl)
set_option maxRecDepth 20000 in
theorem wy_X4_stride : Cond.lays "StrideBanks$StreamRow" "StrideBanks$StreamRow" "stride" "I" ∈ TB := tb_of 118 (by rfl) (by rfl)
set_option maxRecDepth 20000 in
theorem wy_X4_length : Cond.lays "StrideBanks$StreamRow" "StrideBanks$StreamRow" "length" "I" ∈ TB := tb_of 120 (by rfl) (by rfl)
set_option maxRecDepth 20000 in
theorem wy_X4_left : Cond.lays "StrideBanks$StreamRow" "StrideBanks$StreamRow" "left" "I" ∈ TB := tb_of 122 (by rfl) (by rfl)
set_option maxRecDepth 20000 in
theorem wy_X4_latest : Cond.lays "StrideBanks$StreamRow" "StrideBanks$StreamRow" "latest" "I" ∈ TB := tb_of 124 (by rfl) (by rfl)
set_option maxRecDepth 20000 in
theorem wy_X4_stalls : Cond.lays "StrideBanks$StreamRow" "StrideBanks$StreamRow" "stalls" "I" ∈ TB := tb_of 126 (by rfl) (by rfl)
set_option maxRecDepth 20000 in
theorem wy_X4_clashes : Cond.lays "StrideBanks$StreamRow" "StrideBanks$StreamRow" "clashes" "I" ∈ TB := tb_of 128 (by rfl) (by rfl)
set_option maxRecDepth 20000 in
theorem wy_X4_ended : Cond.lays "StrideBanks$StreamRow" "StrideBanks$StreamRow" "ended" "I" ∈ TB := tb_of 130 (by rfl) (by rfl)
theorem uw_X4 : ∀ w ∈ u_ws RX4 TX4 8, w ∈ TB := (List.forall_mem_cons.mpr ⟨wy_X4_start, List.forall_mem_cons.mpr ⟨wy_X4_stride, List.forall_mem_cons.mpr ⟨wy_X4_length, List.forall_mem_cons.mpr ⟨wy_X4_left, List.forall_mem_cons.mpr ⟨wy_X4_latest, List.forall_mem_cons.mpr ⟨wy_X4_stalls, List.forall_mem_cons.mpr ⟨wy_X4_clashes, List.forall_mem_cons.mpr ⟨wy_X4_ended, fun _ h => absurd h List.not_mem_nil⟩⟩⟩⟩⟩⟩⟩⟩ : ∀ w ∈ ([Cond.lays RX4 "StrideBanks$StreamRow" "start" "I", Cond.lays RX4 "StrideBanks$StreamRow" "stride" "I", Cond.lays RX4 "StrideBanks$StreamRow" "length" "I", Cond.lays RX4 "StrideBanks$StreamRow" "left" "I", Cond.lays RX4 "StrideBanks$StreamRow" "latest" "I", Cond.lays RX4 "StrideBanks$StreamRow" "stalls" "I", Cond.lays RX4 "StrideBanks$StreamRow" "clashes" "I", Cond.lays RX4 "StrideBanks$StreamRow" "ended" "I"] : List Cond), w ∈ TB)
set_option maxRecDepth 20000 in
theorem wy_X5_now : Cond.laysFinal "StrideBanks" "StrideBanks" "now" "LStrideBanks$Store;" ∈ TB := tb_of 229 (by rfl) (by rfl)
set_option maxRecDepth 20000 in
theorem wy_X5_trial : Cond.laysFinal "StrideBanks" "StrideBanks" "trial" "LStrideBanks$Store;" ∈ TB := tb_of 231 (by rfl) (by rfl)
set_option maxRecDepth 20000 in
theorem wy_X5_history : Cond.laysFinal "StrideBanks" "StrideBanks" "history" "LStrideBanks$History;" ∈ TB := tb_of 233 (by rfl) (by rfl)
set_option maxRecDepth 20000 in
theorem wy_X5_slots : Cond.laysFinal "StrideBanks" "StrideBanks" "slots" "[LStrideBanks$Store;" ∈ TB := tb_of 235 (by rfl) (by rfl)
set_option maxRecDepth 20000 in
theorem wy_X5_saved : Cond.laysFinal "StrideBanks" "StrideBanks" "saved" "[Z" ∈ TB := tb_of 237 (by rfl) (by rfl)
set_option maxRecDepth 20000 in
theorem wy_X5_pad : Cond.laysFinal "StrideBanks" "StrideBanks" "pad" "LStrideBanks$Pad;" ∈ TB := tb_of 239 (by rfl) (by rfl)
theorem uw_X5 : ∀ w ∈ u_ws RX5 TX5 6, w ∈ TB := (List.forall_mem_cons.mpr ⟨wy_X5_now, List.forall_mem_cons.mpr ⟨wy_X5_trial, List.forall_mem_cons.mpr ⟨wy_X5_history, List.forall_mem_cons.mpr ⟨wy_X5_slots, List.forall_mem_cons.mpr ⟨wy_X5_saved, List.forall_mem_cons.mpr ⟨wy_X5_pad, fun _ h => absurd h List.not_mem_nil⟩⟩⟩⟩⟩⟩ : ∀ w ∈ ([Cond.laysFinal RX5 "StrideBanks" "now" "LStrideBanks$Store;", Cond.laysFinal RX5 "StrideBanks" "trial" "LStrideBanks$Store;", Cond.laysFinal RX5 "StrideBanks" "history" "LStrideBanks$History;", Cond.laysFinal RX5 "StrideBanks" "slots" "[LStrideBanks$Store;", Cond.laysFinal RX5 "StrideBanks" "saved" "[Z", Cond.laysFinal RX5 "StrideBanks" "pad" "LStrideBanks$Pad;"] : List Cond), w ∈ TB)
set_option maxRecDepth 20000 in
theorem wy_X6_s : Cond.laysFinal "StrideBanksModel" "StrideBanksModel" "s" "[I" ∈ TB := tb_of 530 (by rfl) (by rfl)
set_option maxRecDepth 20000 in
theorem wy_X6_spare : Cond.laysFinal "StrideBanksModel" "StrideBanksModel" "spare" "[I" ∈ TB := tb_of 532 (by rfl) (by rfl)
set_option maxRecDepth 20000 in
theorem wy_X6_trial : Cond.laysFinal "StrideBanksModel" "StrideBanksModel" "trial" "[I" ∈ TB := tb_of 534 (by rfl) (by rfl)
set_option maxRecDepth 20000 in
theorem wy_X6_before : Cond.laysFinal "StrideBanksModel" "StrideBanksModel" "before" "[I" ∈ TB := tb_of 536 (by rfl) (by rfl)
set_option maxRecDepth 20000 in
theorem wy_X6_saved : Cond.laysFinal "StrideBanksModel" "StrideBanksModel" "saved" "[I" ∈ TB := tb_of 538 (by rfl) (by rfl)
set_option maxRecDepth 20000 in
theorem wy_X6_isSaved : Cond.laysFinal "StrideBanksModel" "StrideBanksModel" "isSaved" "[Z" ∈ TB := tb_of 540 (by rfl) (by rfl)
set_option maxRecDepth 20000 in
theorem wy_X6_read : Cond.laysFinal "StrideBanksModel" "StrideBanksModel" "read" "[I" ∈ TB := tb_of 542 (by rfl) (by rfl)
set_option maxRecDepth 20000 in
theorem wy_X6_pad : Cond.laysFinal "StrideBanksModel" "StrideBanksModel" "pad" "[C" ∈ TB := tb_of 544 (by rfl) (by rfl)
set_option maxRecDepth 20000 in
theorem wy_X6_length : Cond.lays "StrideBanksModel" "StrideBanksModel" "length" "I" ∈ TB := tb_of 546 (by rfl) (by rfl)
set_option maxRecDepth 20000 in
theorem wy_X6_states : Cond.lays "StrideBanksModel" "StrideBanksModel" "states" "I" ∈ TB := tb_of 548 (by rfl) (by rfl)
set_option maxRecDepth 20000 in
theorem wy_X6_told : Cond.lays "StrideBanksModel" "StrideBanksModel" "told" "I" ∈ TB := tb_of 550 (by rfl) (by rfl)
set_option maxRecDepth 20000 in
theorem wy_X6_at : Cond.lays "StrideBanksModel" "StrideBanksModel" "at" "I" ∈ TB := tb_of 552 (by rfl) (by rfl)
theorem uw_X6 : ∀ w ∈ u_ws RX6 TX6 12, w ∈ TB := (List.forall_mem_cons.mpr ⟨wy_X6_s, List.forall_mem_cons.mpr ⟨wy_X6_spare, List.forall_mem_cons.mpr ⟨wy_X6_trial, List.forall_mem_cons.mpr ⟨wy_X6_before, List.forall_mem_cons.mpr ⟨wy_X6_saved, List.forall_mem_cons.mpr ⟨wy_X6_isSaved, List.forall_mem_cons.mpr ⟨wy_X6_read, List.forall_mem_cons.mpr ⟨wy_X6_pad, List.forall_mem_cons.mpr ⟨wy_X6_length, List.forall_mem_cons.mpr ⟨wy_X6_states, List.forall_mem_cons.mpr ⟨wy_X6_told, List.forall_mem_cons.mpr ⟨wy_X6_at, fun _ h => absurd h List.not_mem_nil⟩⟩⟩⟩⟩⟩⟩⟩⟩⟩⟩⟩ : ∀ w ∈ ([Cond.laysFinal RX6 "StrideBanksModel" "s" "[I", Cond.laysFinal RX6 "StrideBanksModel" "spare" "[I", Cond.laysFinal RX6 "StrideBanksModel" "trial" "[I", Cond.laysFinal RX6 "StrideBanksModel" "before" "[I", Cond.laysFinal RX6 "StrideBanksModel" "saved" "[I", Cond.laysFinal RX6 "StrideBanksModel" "isSaved" "[Z", Cond.laysFinal RX6 "StrideBanksModel" "read" "[I", Cond.laysFinal RX6 "StrideBanksModel" "pad" "[C", Cond.lays RX6 "StrideBanksModel" "length" "I", Cond.lays RX6 "StrideBanksModel" "states" "I", Cond.lays RX6 "StrideBanksModel" "told" "I", Cond.lays RX6 "StrideBanksModel" "at" "I"] : List Cond), w ∈ TB)
end
section
theorem dX0_init_0 : decode cX0_init 0 = .ok (.aload_n 0, 1) := by decide +kernel
theorem dX0_init_1 : decode cX0_init 1 = .ok (.invokespecial 3, 3) := by decide +kernel
theorem dX0_init_4 : decode cX0_init 4 = .ok (.return_, 1) := by decide +kernel
theorem dX0_beginAnew_0 : decode cX0_beginAnew 0 = .ok (.aload_n 0, 1) := by decide +kernel
theorem dX0_beginAnew_1 : decode cX0_beginAnew 1 = .ok (.iconst 0, 1) := by decide +kernel
theorem dX0_beginAnew_2 : decode cX0_beginAnew 2 = .ok (.putfield 9, 3) := by decide +kernel
theorem dX0_beginAnew_5 : decode cX0_beginAnew 5 = .ok (.aload_n 0, 1) := by decide +kernel
theorem dX0_beginAnew_6 : decode cX0_beginAnew 6 = .ok (.iconst (-1), 1) := by decide +kernel
theorem dX0_beginAnew_7 : decode cX0_beginAnew 7 = .ok (.putfield 15, 3) := by decide +kernel
theorem dX0_beginAnew_10 : decode cX0_beginAnew 10 = .ok (.aload_n 0, 1) := by decide +kernel
theorem dX0_beginAnew_11 : decode cX0_beginAnew 11 = .ok (.iconst 0, 1) := by decide +kernel
theorem dX0_beginAnew_12 : decode cX0_beginAnew 12 = .ok (.putfield 18, 3) := by decide +kernel
theorem dX0_beginAnew_15 : decode cX0_beginAnew 15 = .ok (.aload_n 0, 1) := by decide +kernel
theorem dX0_beginAnew_16 : decode cX0_beginAnew 16 = .ok (.iconst 0, 1) := by decide +kernel
theorem dX0_beginAnew_17 : decode cX0_beginAnew 17 = .ok (.putfield 21, 3) := by decide +kernel
theorem dX0_beginAnew_20 : decode cX0_beginAnew 20 = .ok (.return_, 1) := by decide +kernel
theorem dX0_copy_0 : decode cX0_copy 0 = .ok (.aload_n 0, 1) := by decide +kernel
theorem dX0_copy_1 : decode cX0_copy 1 = .ok (.aload_n 1, 1) := by decide +kernel
theorem dX0_copy_2 : decode cX0_copy 2 = .ok (.getfield 9, 3) := by decide +kernel
theorem dX0_copy_5 : decode cX0_copy 5 = .ok (.putfield 9, 3) := by decide +kernel
theorem dX0_copy_8 : decode cX0_copy 8 = .ok (.aload_n 0, 1) := by decide +kernel
theorem dX0_copy_9 : decode cX0_copy 9 = .ok (.aload_n 1, 1) := by decide +kernel
theorem dX0_copy_10 : decode cX0_copy 10 = .ok (.getfield 15, 3) := by decide +kernel
theorem dX0_copy_13 : decode cX0_copy 13 = .ok (.putfield 15, 3) := by decide +kernel
theorem dX0_copy_16 : decode cX0_copy 16 = .ok (.aload_n 0, 1) := by decide +kernel
theorem dX0_copy_17 : decode cX0_copy 17 = .ok (.aload_n 1, 1) := by decide +kernel
theorem dX0_copy_18 : decode cX0_copy 18 = .ok (.getfield 18, 3) := by decide +kernel
theorem dX0_copy_21 : decode cX0_copy 21 = .ok (.putfield 18, 3) := by decide +kernel
theorem dX0_copy_24 : decode cX0_copy 24 = .ok (.aload_n 0, 1) := by decide +kernel
theorem dX0_copy_25 : decode cX0_copy 25 = .ok (.aload_n 1, 1) := by decide +kernel
theorem dX0_copy_26 : decode cX0_copy 26 = .ok (.getfield 21, 3) := by decide +kernel
theorem dX0_copy_29 : decode cX0_copy 29 = .ok (.putfield 21, 3) := by decide +kernel
theorem dX0_copy_32 : decode cX0_copy 32 = .ok (.return_, 1) := by decide +kernel
theorem dX1_init_0 : decode cX1_init 0 = .ok (.aload_n 0, 1) := by decide +kernel
theorem dX1_init_1 : decode cX1_init 1 = .ok (.invokespecial 3, 3) := by decide +kernel
theorem dX1_init_4 : decode cX1_init 4 = .ok (.aload_n 0, 1) := by decide +kernel
theorem dX1_init_5 : decode cX1_init 5 = .ok (.bipush 6, 2) := by decide +kernel
theorem dX1_init_7 : decode cX1_init 7 = .ok (.anewarray 9, 3) := by decide +kernel
theorem dX1_init_10 : decode cX1_init 10 = .ok (.putfield 11, 3) := by decide +kernel
theorem dX1_init_13 : decode cX1_init 13 = .ok (.iconst 0, 1) := by decide +kernel
theorem dX1_init_14 : decode cX1_init 14 = .ok (.istore_n 1, 1) := by decide +kernel
theorem dX1_init_15 : decode cX1_init 15 = .ok (.iload_n 1, 1) := by decide +kernel
theorem dX1_init_16 : decode cX1_init 16 = .ok (.bipush 6, 2) := by decide +kernel
theorem dX1_init_18 : decode cX1_init 18 = .ok (.if_icmp .ge 22, 3) := by decide +kernel
theorem dX1_init_21 : decode cX1_init 21 = .ok (.aload_n 0, 1) := by decide +kernel
theorem dX1_init_22 : decode cX1_init 22 = .ok (.getfield 11, 3) := by decide +kernel
theorem dX1_init_25 : decode cX1_init 25 = .ok (.iload_n 1, 1) := by decide +kernel
theorem dX1_init_26 : decode cX1_init 26 = .ok (.new 9, 3) := by decide +kernel
theorem dX1_init_29 : decode cX1_init 29 = .ok (.dup, 1) := by decide +kernel
theorem dX1_init_30 : decode cX1_init 30 = .ok (.invokespecial 17, 3) := by decide +kernel
theorem dX1_init_33 : decode cX1_init 33 = .ok (.aastore, 1) := by decide +kernel
theorem dX1_init_34 : decode cX1_init 34 = .ok (.iinc 1 1, 3) := by decide +kernel
theorem dX1_init_37 : decode cX1_init 37 = .ok (.goto (-22), 3) := by decide +kernel
theorem dX1_init_40 : decode cX1_init 40 = .ok (.return_, 1) := by decide +kernel
theorem dX1_record_0 : decode cX1_record 0 = .ok (.aload_n 0, 1) := by decide +kernel
theorem dX1_record_1 : decode cX1_record 1 = .ok (.getfield 18, 3) := by decide +kernel
theorem dX1_record_4 : decode cX1_record 4 = .ok (.bipush 6, 2) := by decide +kernel
theorem dX1_record_6 : decode cX1_record 6 = .ok (.if_icmp .ne 7, 3) := by decide +kernel
theorem dX1_record_9 : decode cX1_record 9 = .ok (.aload_n 0, 1) := by decide +kernel
theorem dX1_record_10 : decode cX1_record 10 = .ok (.invokevirtual 22, 3) := by decide +kernel
theorem dX1_record_13 : decode cX1_record 13 = .ok (.aload_n 0, 1) := by decide +kernel
theorem dX1_record_14 : decode cX1_record 14 = .ok (.getfield 11, 3) := by decide +kernel
theorem dX1_record_17 : decode cX1_record 17 = .ok (.aload_n 0, 1) := by decide +kernel
theorem dX1_record_18 : decode cX1_record 18 = .ok (.getfield 18, 3) := by decide +kernel
theorem dX1_record_21 : decode cX1_record 21 = .ok (.aaload, 1) := by decide +kernel
theorem dX1_record_22 : decode cX1_record 22 = .ok (.aload_n 1, 1) := by decide +kernel
theorem dX1_record_23 : decode cX1_record 23 = .ok (.invokevirtual 25, 3) := by decide +kernel
theorem dX1_record_26 : decode cX1_record 26 = .ok (.aload_n 0, 1) := by decide +kernel
theorem dX1_record_27 : decode cX1_record 27 = .ok (.dup, 1) := by decide +kernel
theorem dX1_record_28 : decode cX1_record 28 = .ok (.getfield 18, 3) := by decide +kernel
theorem dX1_record_31 : decode cX1_record 31 = .ok (.iconst 1, 1) := by decide +kernel
theorem dX1_record_32 : decode cX1_record 32 = .ok (.iadd, 1) := by decide +kernel
theorem dX1_record_33 : decode cX1_record 33 = .ok (.putfield 18, 3) := by decide +kernel
theorem dX1_record_36 : decode cX1_record 36 = .ok (.return_, 1) := by decide +kernel
theorem dX1_forgetOldest_0 : decode cX1_forgetOldest 0 = .ok (.aload_n 0, 1) := by decide +kernel
theorem dX1_forgetOldest_1 : decode cX1_forgetOldest 1 = .ok (.getfield 11, 3) := by decide +kernel
theorem dX1_forgetOldest_4 : decode cX1_forgetOldest 4 = .ok (.iconst 0, 1) := by decide +kernel
theorem dX1_forgetOldest_5 : decode cX1_forgetOldest 5 = .ok (.aaload, 1) := by decide +kernel
theorem dX1_forgetOldest_6 : decode cX1_forgetOldest 6 = .ok (.astore_n 1, 1) := by decide +kernel
theorem dX1_forgetOldest_7 : decode cX1_forgetOldest 7 = .ok (.iconst 1, 1) := by decide +kernel
theorem dX1_forgetOldest_8 : decode cX1_forgetOldest 8 = .ok (.istore_n 2, 1) := by decide +kernel
theorem dX1_forgetOldest_9 : decode cX1_forgetOldest 9 = .ok (.iload_n 2, 1) := by decide +kernel
theorem dX1_forgetOldest_10 : decode cX1_forgetOldest 10 = .ok (.bipush 6, 2) := by decide +kernel
theorem dX1_forgetOldest_12 : decode cX1_forgetOldest 12 = .ok (.if_icmp .ge 23, 3) := by decide +kernel
theorem dX1_forgetOldest_15 : decode cX1_forgetOldest 15 = .ok (.aload_n 0, 1) := by decide +kernel
theorem dX1_forgetOldest_16 : decode cX1_forgetOldest 16 = .ok (.getfield 11, 3) := by decide +kernel
theorem dX1_forgetOldest_19 : decode cX1_forgetOldest 19 = .ok (.iload_n 2, 1) := by decide +kernel
theorem dX1_forgetOldest_20 : decode cX1_forgetOldest 20 = .ok (.iconst 1, 1) := by decide +kernel
theorem dX1_forgetOldest_21 : decode cX1_forgetOldest 21 = .ok (.isub, 1) := by decide +kernel
theorem dX1_forgetOldest_22 : decode cX1_forgetOldest 22 = .ok (.aload_n 0, 1) := by decide +kernel
theorem dX1_forgetOldest_23 : decode cX1_forgetOldest 23 = .ok (.getfield 11, 3) := by decide +kernel
theorem dX1_forgetOldest_26 : decode cX1_forgetOldest 26 = .ok (.iload_n 2, 1) := by decide +kernel
theorem dX1_forgetOldest_27 : decode cX1_forgetOldest 27 = .ok (.aaload, 1) := by decide +kernel
theorem dX1_forgetOldest_28 : decode cX1_forgetOldest 28 = .ok (.aastore, 1) := by decide +kernel
theorem dX1_forgetOldest_29 : decode cX1_forgetOldest 29 = .ok (.iinc 2 1, 3) := by decide +kernel
theorem dX1_forgetOldest_32 : decode cX1_forgetOldest 32 = .ok (.goto (-23), 3) := by decide +kernel
theorem dX1_forgetOldest_35 : decode cX1_forgetOldest 35 = .ok (.aload_n 0, 1) := by decide +kernel
theorem dX1_forgetOldest_36 : decode cX1_forgetOldest 36 = .ok (.getfield 11, 3) := by decide +kernel
theorem dX1_forgetOldest_39 : decode cX1_forgetOldest 39 = .ok (.iconst 5, 1) := by decide +kernel
theorem dX1_forgetOldest_40 : decode cX1_forgetOldest 40 = .ok (.aload_n 1, 1) := by decide +kernel
theorem dX1_forgetOldest_41 : decode cX1_forgetOldest 41 = .ok (.aastore, 1) := by decide +kernel
theorem dX1_forgetOldest_42 : decode cX1_forgetOldest 42 = .ok (.aload_n 0, 1) := by decide +kernel
theorem dX1_forgetOldest_43 : decode cX1_forgetOldest 43 = .ok (.dup, 1) := by decide +kernel
theorem dX1_forgetOldest_44 : decode cX1_forgetOldest 44 = .ok (.getfield 18, 3) := by decide +kernel
theorem dX1_forgetOldest_47 : decode cX1_forgetOldest 47 = .ok (.iconst 1, 1) := by decide +kernel
theorem dX1_forgetOldest_48 : decode cX1_forgetOldest 48 = .ok (.isub, 1) := by decide +kernel
theorem dX1_forgetOldest_49 : decode cX1_forgetOldest 49 = .ok (.putfield 18, 3) := by decide +kernel
theorem dX1_forgetOldest_52 : decode cX1_forgetOldest 52 = .ok (.return_, 1) := by decide +kernel
theorem dX1_takeBack_0 : decode cX1_takeBack 0 = .ok (.aload_n 0, 1) := by decide +kernel
theorem dX1_takeBack_1 : decode cX1_takeBack 1 = .ok (.getfield 18, 3) := by decide +kernel
theorem dX1_takeBack_4 : decode cX1_takeBack 4 = .ok (.ifCond .ne 4, 3) := by decide +kernel
theorem dX1_takeBack_7 : decode cX1_takeBack 7 = .ok (.return_, 1) := by decide +kernel
theorem dX1_takeBack_8 : decode cX1_takeBack 8 = .ok (.aload_n 0, 1) := by decide +kernel
theorem dX1_takeBack_9 : decode cX1_takeBack 9 = .ok (.dup, 1) := by decide +kernel
theorem dX1_takeBack_10 : decode cX1_takeBack 10 = .ok (.getfield 18, 3) := by decide +kernel
theorem dX1_takeBack_13 : decode cX1_takeBack 13 = .ok (.iconst 1, 1) := by decide +kernel
theorem dX1_takeBack_14 : decode cX1_takeBack 14 = .ok (.isub, 1) := by decide +kernel
theorem dX1_takeBack_15 : decode cX1_takeBack 15 = .ok (.putfield 18, 3) := by decide +kernel
theorem dX1_takeBack_18 : decode cX1_takeBack 18 = .ok (.aload_n 1, 1) := by decide +kernel
theorem dX1_takeBack_19 : decode cX1_takeBack 19 = .ok (.aload_n 0, 1) := by decide +kernel
theorem dX1_takeBack_20 : decode cX1_takeBack 20 = .ok (.getfield 11, 3) := by decide +kernel
theorem dX1_takeBack_23 : decode cX1_takeBack 23 = .ok (.aload_n 0, 1) := by decide +kernel
theorem dX1_takeBack_24 : decode cX1_takeBack 24 = .ok (.getfield 18, 3) := by decide +kernel
theorem dX1_takeBack_27 : decode cX1_takeBack 27 = .ok (.aaload, 1) := by decide +kernel
theorem dX1_takeBack_28 : decode cX1_takeBack 28 = .ok (.invokevirtual 25, 3) := by decide +kernel
theorem dX1_takeBack_31 : decode cX1_takeBack 31 = .ok (.return_, 1) := by decide +kernel
theorem dX2_init_0 : decode cX2_init 0 = .ok (.aload_n 0, 1) := by decide +kernel
theorem dX2_init_1 : decode cX2_init 1 = .ok (.invokespecial 3, 3) := by decide +kernel
theorem dX2_init_4 : decode cX2_init 4 = .ok (.aload_n 0, 1) := by decide +kernel
theorem dX2_init_5 : decode cX2_init 5 = .ok (.bipush 60, 2) := by decide +kernel
theorem dX2_init_7 : decode cX2_init 7 = .ok (.newarray .char, 2) := by decide +kernel
theorem dX2_init_9 : decode cX2_init 9 = .ok (.putfield 9, 3) := by decide +kernel
theorem dX2_init_12 : decode cX2_init 12 = .ok (.aload_n 0, 1) := by decide +kernel
theorem dX2_init_13 : decode cX2_init 13 = .ok (.bipush 60, 2) := by decide +kernel
theorem dX2_init_15 : decode cX2_init 15 = .ok (.newarray .int, 2) := by decide +kernel
theorem dX2_init_17 : decode cX2_init 17 = .ok (.putfield 15, 3) := by decide +kernel
theorem dX2_init_20 : decode cX2_init 20 = .ok (.return_, 1) := by decide +kernel
theorem dX2_append_0 : decode cX2_append 0 = .ok (.iload_n 3, 1) := by decide +kernel
theorem dX2_append_1 : decode cX2_append 1 = .ok (.iconst 1, 1) := by decide +kernel
theorem dX2_append_2 : decode cX2_append 2 = .ok (.isub, 1) := by decide +kernel
theorem dX2_append_3 : decode cX2_append 3 = .ok (.istore 4, 2) := by decide +kernel
theorem dX2_append_5 : decode cX2_append 5 = .ok (.iload 4, 2) := by decide +kernel
theorem dX2_append_7 : decode cX2_append 7 = .ok (.ifCond .lt 41, 3) := by decide +kernel
theorem dX2_append_10 : decode cX2_append 10 = .ok (.aload_n 0, 1) := by decide +kernel
theorem dX2_append_11 : decode cX2_append 11 = .ok (.getfield 9, 3) := by decide +kernel
theorem dX2_append_14 : decode cX2_append 14 = .ok (.aload_n 0, 1) := by decide +kernel
theorem dX2_append_15 : decode cX2_append 15 = .ok (.getfield 19, 3) := by decide +kernel
theorem dX2_append_18 : decode cX2_append 18 = .ok (.lload_n 1, 1) := by decide +kernel
theorem dX2_append_19 : decode cX2_append 19 = .ok (.bipush 8, 2) := by decide +kernel
theorem dX2_append_21 : decode cX2_append 21 = .ok (.iload 4, 2) := by decide +kernel
theorem dX2_append_23 : decode cX2_append 23 = .ok (.imul, 1) := by decide +kernel
theorem dX2_append_24 : decode cX2_append 24 = .ok (.lushr, 1) := by decide +kernel
theorem dX2_append_25 : decode cX2_append 25 = .ok (.ldc2_w 23, 3) := by decide +kernel
theorem dX2_append_28 : decode cX2_append 28 = .ok (.land, 1) := by decide +kernel
theorem dX2_append_29 : decode cX2_append 29 = .ok (.l2i, 1) := by decide +kernel
theorem dX2_append_30 : decode cX2_append 30 = .ok (.i2c, 1) := by decide +kernel
theorem dX2_append_31 : decode cX2_append 31 = .ok (.castore, 1) := by decide +kernel
theorem dX2_append_32 : decode cX2_append 32 = .ok (.aload_n 0, 1) := by decide +kernel
theorem dX2_append_33 : decode cX2_append 33 = .ok (.dup, 1) := by decide +kernel
theorem dX2_append_34 : decode cX2_append 34 = .ok (.getfield 19, 3) := by decide +kernel
theorem dX2_append_37 : decode cX2_append 37 = .ok (.iconst 1, 1) := by decide +kernel
theorem dX2_append_38 : decode cX2_append 38 = .ok (.iadd, 1) := by decide +kernel
theorem dX2_append_39 : decode cX2_append 39 = .ok (.putfield 19, 3) := by decide +kernel
theorem dX2_append_42 : decode cX2_append 42 = .ok (.iinc 4 (-1), 3) := by decide +kernel
theorem dX2_append_45 : decode cX2_append 45 = .ok (.goto (-40), 3) := by decide +kernel
theorem dX2_append_48 : decode cX2_append 48 = .ok (.return_, 1) := by decide +kernel
theorem dX2_firstFault_0 : decode cX2_firstFault 0 = .ok (.aload_n 0, 1) := by decide +kernel
theorem dX2_firstFault_1 : decode cX2_firstFault 1 = .ok (.iconst 0, 1) := by decide +kernel
theorem dX2_firstFault_2 : decode cX2_firstFault 2 = .ok (.putfield 25, 3) := by decide +kernel
theorem dX2_firstFault_5 : decode cX2_firstFault 5 = .ok (.iconst 0, 1) := by decide +kernel
theorem dX2_firstFault_6 : decode cX2_firstFault 6 = .ok (.istore_n 1, 1) := by decide +kernel
theorem dX2_firstFault_7 : decode cX2_firstFault 7 = .ok (.iconst 0, 1) := by decide +kernel
theorem dX2_firstFault_8 : decode cX2_firstFault 8 = .ok (.istore_n 2, 1) := by decide +kernel
theorem dX2_firstFault_9 : decode cX2_firstFault 9 = .ok (.iload_n 2, 1) := by decide +kernel
theorem dX2_firstFault_10 : decode cX2_firstFault 10 = .ok (.aload_n 0, 1) := by decide +kernel
theorem dX2_firstFault_11 : decode cX2_firstFault 11 = .ok (.getfield 19, 3) := by decide +kernel
theorem dX2_firstFault_14 : decode cX2_firstFault 14 = .ok (.if_icmp .ge 90, 3) := by decide +kernel
theorem dX2_firstFault_17 : decode cX2_firstFault 17 = .ok (.aload_n 0, 1) := by decide +kernel
theorem dX2_firstFault_18 : decode cX2_firstFault 18 = .ok (.getfield 25, 3) := by decide +kernel
theorem dX2_firstFault_21 : decode cX2_firstFault 21 = .ok (.iconst 3, 1) := by decide +kernel
theorem dX2_firstFault_22 : decode cX2_firstFault 22 = .ok (.irem, 1) := by decide +kernel
theorem dX2_firstFault_23 : decode cX2_firstFault 23 = .ok (.istore_n 3, 1) := by decide +kernel
theorem dX2_firstFault_24 : decode cX2_firstFault 24 = .ok (.aload_n 0, 1) := by decide +kernel
theorem dX2_firstFault_25 : decode cX2_firstFault 25 = .ok (.getfield 9, 3) := by decide +kernel
theorem dX2_firstFault_28 : decode cX2_firstFault 28 = .ok (.iload_n 2, 1) := by decide +kernel
theorem dX2_firstFault_29 : decode cX2_firstFault 29 = .ok (.caload, 1) := by decide +kernel
theorem dX2_firstFault_30 : decode cX2_firstFault 30 = .ok (.bipush 48, 2) := by decide +kernel
theorem dX2_firstFault_32 : decode cX2_firstFault 32 = .ok (.bipush 57, 2) := by decide +kernel
theorem dX2_firstFault_34 : decode cX2_firstFault 34 = .ok (.invokestatic 28, 3) := by decide +kernel
theorem dX2_firstFault_37 : decode cX2_firstFault 37 = .ok (.ifCond .eq 29, 3) := by decide +kernel
theorem dX2_firstFault_40 : decode cX2_firstFault 40 = .ok (.aload_n 0, 1) := by decide +kernel
theorem dX2_firstFault_41 : decode cX2_firstFault 41 = .ok (.iload_n 3, 1) := by decide +kernel
theorem dX2_firstFault_42 : decode cX2_firstFault 42 = .ok (.iload_n 1, 1) := by decide +kernel
theorem dX2_firstFault_43 : decode cX2_firstFault 43 = .ok (.aload_n 0, 1) := by decide +kernel
theorem dX2_firstFault_44 : decode cX2_firstFault 44 = .ok (.getfield 9, 3) := by decide +kernel
theorem dX2_firstFault_47 : decode cX2_firstFault 47 = .ok (.iload_n 2, 1) := by decide +kernel
theorem dX2_firstFault_48 : decode cX2_firstFault 48 = .ok (.caload, 1) := by decide +kernel
theorem dX2_firstFault_49 : decode cX2_firstFault 49 = .ok (.bipush 48, 2) := by decide +kernel
theorem dX2_firstFault_51 : decode cX2_firstFault 51 = .ok (.isub, 1) := by decide +kernel
theorem dX2_firstFault_52 : decode cX2_firstFault 52 = .ok (.invokevirtual 32, 3) := by decide +kernel
theorem dX2_firstFault_55 : decode cX2_firstFault 55 = .ok (.ifCond .ne 5, 3) := by decide +kernel
theorem dX2_firstFault_58 : decode cX2_firstFault 58 = .ok (.iload_n 2, 1) := by decide +kernel
theorem dX2_firstFault_59 : decode cX2_firstFault 59 = .ok (.ireturn, 1) := by decide +kernel
theorem dX2_firstFault_60 : decode cX2_firstFault 60 = .ok (.iinc 1 1, 3) := by decide +kernel
theorem dX2_firstFault_63 : decode cX2_firstFault 63 = .ok (.goto 35, 3) := by decide +kernel
theorem dX2_firstFault_66 : decode cX2_firstFault 66 = .ok (.iload_n 1, 1) := by decide +kernel
theorem dX2_firstFault_67 : decode cX2_firstFault 67 = .ok (.ifCond .eq 17, 3) := by decide +kernel
theorem dX2_firstFault_70 : decode cX2_firstFault 70 = .ok (.aload_n 0, 1) := by decide +kernel
theorem dX2_firstFault_71 : decode cX2_firstFault 71 = .ok (.getfield 9, 3) := by decide +kernel
theorem dX2_firstFault_74 : decode cX2_firstFault 74 = .ok (.iload_n 2, 1) := by decide +kernel
theorem dX2_firstFault_75 : decode cX2_firstFault 75 = .ok (.caload, 1) := by decide +kernel
theorem dX2_firstFault_76 : decode cX2_firstFault 76 = .ok (.getstatic 35, 3) := by decide +kernel
theorem dX2_firstFault_79 : decode cX2_firstFault 79 = .ok (.iload_n 3, 1) := by decide +kernel
theorem dX2_firstFault_80 : decode cX2_firstFault 80 = .ok (.caload, 1) := by decide +kernel
theorem dX2_firstFault_81 : decode cX2_firstFault 81 = .ok (.if_icmp .eq 5, 3) := by decide +kernel
theorem dX2_firstFault_84 : decode cX2_firstFault 84 = .ok (.iload_n 2, 1) := by decide +kernel
theorem dX2_firstFault_85 : decode cX2_firstFault 85 = .ok (.ireturn, 1) := by decide +kernel
theorem dX2_firstFault_86 : decode cX2_firstFault 86 = .ok (.iconst 0, 1) := by decide +kernel
theorem dX2_firstFault_87 : decode cX2_firstFault 87 = .ok (.istore_n 1, 1) := by decide +kernel
theorem dX2_firstFault_88 : decode cX2_firstFault 88 = .ok (.aload_n 0, 1) := by decide +kernel
theorem dX2_firstFault_89 : decode cX2_firstFault 89 = .ok (.dup, 1) := by decide +kernel
theorem dX2_firstFault_90 : decode cX2_firstFault 90 = .ok (.getfield 25, 3) := by decide +kernel
theorem dX2_firstFault_93 : decode cX2_firstFault 93 = .ok (.iconst 1, 1) := by decide +kernel
theorem dX2_firstFault_94 : decode cX2_firstFault 94 = .ok (.iadd, 1) := by decide +kernel
theorem dX2_firstFault_95 : decode cX2_firstFault 95 = .ok (.putfield 25, 3) := by decide +kernel
theorem dX2_firstFault_98 : decode cX2_firstFault 98 = .ok (.iinc 2 1, 3) := by decide +kernel
theorem dX2_firstFault_101 : decode cX2_firstFault 101 = .ok (.goto (-92), 3) := by decide +kernel
theorem dX2_firstFault_104 : decode cX2_firstFault 104 = .ok (.aload_n 0, 1) := by decide +kernel
theorem dX2_firstFault_105 : decode cX2_firstFault 105 = .ok (.getfield 25, 3) := by decide +kernel
theorem dX2_firstFault_108 : decode cX2_firstFault 108 = .ok (.iconst 3, 1) := by decide +kernel
theorem dX2_firstFault_109 : decode cX2_firstFault 109 = .ok (.irem, 1) := by decide +kernel
theorem dX2_firstFault_110 : decode cX2_firstFault 110 = .ok (.iconst 2, 1) := by decide +kernel
theorem dX2_firstFault_111 : decode cX2_firstFault 111 = .ok (.if_icmp .ne 7, 3) := by decide +kernel
theorem dX2_firstFault_114 : decode cX2_firstFault 114 = .ok (.iconst 1, 1) := by decide +kernel
theorem dX2_firstFault_115 : decode cX2_firstFault 115 = .ok (.goto 4, 3) := by decide +kernel
theorem dX2_firstFault_118 : decode cX2_firstFault 118 = .ok (.iconst 0, 1) := by decide +kernel
theorem dX2_firstFault_119 : decode cX2_firstFault 119 = .ok (.istore_n 2, 1) := by decide +kernel
theorem dX2_firstFault_120 : decode cX2_firstFault 120 = .ok (.iload_n 1, 1) := by decide +kernel
theorem dX2_firstFault_121 : decode cX2_firstFault 121 = .ok (.ifCond .eq 7, 3) := by decide +kernel
theorem dX2_firstFault_124 : decode cX2_firstFault 124 = .ok (.iload_n 2, 1) := by decide +kernel
theorem dX2_firstFault_125 : decode cX2_firstFault 125 = .ok (.ifCond .ne 8, 3) := by decide +kernel
theorem dX2_firstFault_128 : decode cX2_firstFault 128 = .ok (.aload_n 0, 1) := by decide +kernel
theorem dX2_firstFault_129 : decode cX2_firstFault 129 = .ok (.getfield 19, 3) := by decide +kernel
theorem dX2_firstFault_132 : decode cX2_firstFault 132 = .ok (.ireturn, 1) := by decide +kernel
theorem dX2_firstFault_133 : decode cX2_firstFault 133 = .ok (.aload_n 0, 1) := by decide +kernel
theorem dX2_firstFault_134 : decode cX2_firstFault 134 = .ok (.dup, 1) := by decide +kernel
theorem dX2_firstFault_135 : decode cX2_firstFault 135 = .ok (.getfield 25, 3) := by decide +kernel
theorem dX2_firstFault_138 : decode cX2_firstFault 138 = .ok (.iconst 1, 1) := by decide +kernel
theorem dX2_firstFault_139 : decode cX2_firstFault 139 = .ok (.iadd, 1) := by decide +kernel
theorem dX2_firstFault_140 : decode cX2_firstFault 140 = .ok (.putfield 25, 3) := by decide +kernel
theorem dX2_firstFault_143 : decode cX2_firstFault 143 = .ok (.bipush (-6), 2) := by decide +kernel
theorem dX2_firstFault_145 : decode cX2_firstFault 145 = .ok (.ireturn, 1) := by decide +kernel
theorem dX2_takesDigit_0 : decode cX2_takesDigit 0 = .ok (.iload_n 2, 1) := by decide +kernel
theorem dX2_takesDigit_1 : decode cX2_takesDigit 1 = .ok (.ifCond .ne 7, 3) := by decide +kernel
theorem dX2_takesDigit_4 : decode cX2_takesDigit 4 = .ok (.iconst 0, 1) := by decide +kernel
theorem dX2_takesDigit_5 : decode cX2_takesDigit 5 = .ok (.goto 12, 3) := by decide +kernel
theorem dX2_takesDigit_8 : decode cX2_takesDigit 8 = .ok (.aload_n 0, 1) := by decide +kernel
theorem dX2_takesDigit_9 : decode cX2_takesDigit 9 = .ok (.getfield 15, 3) := by decide +kernel
theorem dX2_takesDigit_12 : decode cX2_takesDigit 12 = .ok (.aload_n 0, 1) := by decide +kernel
theorem dX2_takesDigit_13 : decode cX2_takesDigit 13 = .ok (.getfield 25, 3) := by decide +kernel
theorem dX2_takesDigit_16 : decode cX2_takesDigit 16 = .ok (.iaload, 1) := by decide +kernel
theorem dX2_takesDigit_17 : decode cX2_takesDigit 17 = .ok (.istore 4, 2) := by decide +kernel
theorem dX2_takesDigit_19 : decode cX2_takesDigit 19 = .ok (.iload 4, 2) := by decide +kernel
theorem dX2_takesDigit_21 : decode cX2_takesDigit 21 = .ok (.bipush 10, 2) := by decide +kernel
theorem dX2_takesDigit_23 : decode cX2_takesDigit 23 = .ok (.imul, 1) := by decide +kernel
theorem dX2_takesDigit_24 : decode cX2_takesDigit 24 = .ok (.iload_n 3, 1) := by decide +kernel
theorem dX2_takesDigit_25 : decode cX2_takesDigit 25 = .ok (.iadd, 1) := by decide +kernel
theorem dX2_takesDigit_26 : decode cX2_takesDigit 26 = .ok (.istore 5, 2) := by decide +kernel
theorem dX2_takesDigit_28 : decode cX2_takesDigit 28 = .ok (.iload_n 2, 1) := by decide +kernel
theorem dX2_takesDigit_29 : decode cX2_takesDigit 29 = .ok (.ifCond .le 12, 3) := by decide +kernel
theorem dX2_takesDigit_32 : decode cX2_takesDigit 32 = .ok (.iload 4, 2) := by decide +kernel
theorem dX2_takesDigit_34 : decode cX2_takesDigit 34 = .ok (.ifCond .ne 7, 3) := by decide +kernel
theorem dX2_takesDigit_37 : decode cX2_takesDigit 37 = .ok (.iconst 1, 1) := by decide +kernel
theorem dX2_takesDigit_38 : decode cX2_takesDigit 38 = .ok (.goto 4, 3) := by decide +kernel
theorem dX2_takesDigit_41 : decode cX2_takesDigit 41 = .ok (.iconst 0, 1) := by decide +kernel
theorem dX2_takesDigit_42 : decode cX2_takesDigit 42 = .ok (.istore 6, 2) := by decide +kernel
theorem dX2_takesDigit_44 : decode cX2_takesDigit 44 = .ok (.iload 6, 2) := by decide +kernel
theorem dX2_takesDigit_46 : decode cX2_takesDigit 46 = .ok (.ifCond .ne 21, 3) := by decide +kernel
theorem dX2_takesDigit_49 : decode cX2_takesDigit 49 = .ok (.iload 5, 2) := by decide +kernel
theorem dX2_takesDigit_51 : decode cX2_takesDigit 51 = .ok (.getstatic 38, 3) := by decide +kernel
theorem dX2_takesDigit_54 : decode cX2_takesDigit 54 = .ok (.iload_n 1, 1) := by decide +kernel
theorem dX2_takesDigit_55 : decode cX2_takesDigit 55 = .ok (.iaload, 1) := by decide +kernel
theorem dX2_takesDigit_56 : decode cX2_takesDigit 56 = .ok (.getstatic 41, 3) := by decide +kernel
theorem dX2_takesDigit_59 : decode cX2_takesDigit 59 = .ok (.iload_n 1, 1) := by decide +kernel
theorem dX2_takesDigit_60 : decode cX2_takesDigit 60 = .ok (.iaload, 1) := by decide +kernel
theorem dX2_takesDigit_61 : decode cX2_takesDigit 61 = .ok (.invokestatic 28, 3) := by decide +kernel
theorem dX2_takesDigit_64 : decode cX2_takesDigit 64 = .ok (.ifCond .ne 5, 3) := by decide +kernel
theorem dX2_takesDigit_67 : decode cX2_takesDigit 67 = .ok (.iconst 0, 1) := by decide +kernel
theorem dX2_takesDigit_68 : decode cX2_takesDigit 68 = .ok (.ireturn, 1) := by decide +kernel
theorem dX2_takesDigit_69 : decode cX2_takesDigit 69 = .ok (.aload_n 0, 1) := by decide +kernel
theorem dX2_takesDigit_70 : decode cX2_takesDigit 70 = .ok (.getfield 15, 3) := by decide +kernel
theorem dX2_takesDigit_73 : decode cX2_takesDigit 73 = .ok (.aload_n 0, 1) := by decide +kernel
theorem dX2_takesDigit_74 : decode cX2_takesDigit 74 = .ok (.getfield 25, 3) := by decide +kernel
theorem dX2_takesDigit_77 : decode cX2_takesDigit 77 = .ok (.iload 5, 2) := by decide +kernel
theorem dX2_takesDigit_79 : decode cX2_takesDigit 79 = .ok (.iastore, 1) := by decide +kernel
theorem dX2_takesDigit_80 : decode cX2_takesDigit 80 = .ok (.iconst 1, 1) := by decide +kernel
theorem dX2_takesDigit_81 : decode cX2_takesDigit 81 = .ok (.ireturn, 1) := by decide +kernel
theorem dX2_streamsFound_0 : decode cX2_streamsFound 0 = .ok (.aload_n 0, 1) := by decide +kernel
theorem dX2_streamsFound_1 : decode cX2_streamsFound 1 = .ok (.getfield 25, 3) := by decide +kernel
theorem dX2_streamsFound_4 : decode cX2_streamsFound 4 = .ok (.iconst 3, 1) := by decide +kernel
theorem dX2_streamsFound_5 : decode cX2_streamsFound 5 = .ok (.idiv, 1) := by decide +kernel
theorem dX2_streamsFound_6 : decode cX2_streamsFound 6 = .ok (.ireturn, 1) := by decide +kernel
theorem dX2_numberOf_0 : decode cX2_numberOf 0 = .ok (.aload_n 0, 1) := by decide +kernel
theorem dX2_numberOf_1 : decode cX2_numberOf 1 = .ok (.getfield 15, 3) := by decide +kernel
theorem dX2_numberOf_4 : decode cX2_numberOf 4 = .ok (.iload_n 1, 1) := by decide +kernel
theorem dX2_numberOf_5 : decode cX2_numberOf 5 = .ok (.iconst 3, 1) := by decide +kernel
theorem dX2_numberOf_6 : decode cX2_numberOf 6 = .ok (.imul, 1) := by decide +kernel
theorem dX2_numberOf_7 : decode cX2_numberOf 7 = .ok (.iload_n 2, 1) := by decide +kernel
theorem dX2_numberOf_8 : decode cX2_numberOf 8 = .ok (.iadd, 1) := by decide +kernel
theorem dX2_numberOf_9 : decode cX2_numberOf 9 = .ok (.iaload, 1) := by decide +kernel
theorem dX2_numberOf_10 : decode cX2_numberOf 10 = .ok (.ireturn, 1) := by decide +kernel
theorem dX3_init_0 : decode cX3_init 0 = .ok (.aload_n 0, 1) := by decide +kernel
theorem dX3_init_1 : decode cX3_init 1 = .ok (.invokespecial 3, 3) := by decide +kernel
theorem dX3_init_4 : decode cX3_init 4 = .ok (.aload_n 0, 1) := by decide +kernel
theorem dX3_init_5 : decode cX3_init 5 = .ok (.iconst 4, 1) := by decide +kernel
theorem dX3_init_6 : decode cX3_init 6 = .ok (.newarray .int, 2) := by decide +kernel
theorem dX3_init_8 : decode cX3_init 8 = .ok (.putfield 9, 3) := by decide +kernel
theorem dX3_init_11 : decode cX3_init 11 = .ok (.aload_n 0, 1) := by decide +kernel
theorem dX3_init_12 : decode cX3_init 12 = .ok (.iconst 4, 1) := by decide +kernel
theorem dX3_init_13 : decode cX3_init 13 = .ok (.anewarray 15, 3) := by decide +kernel
theorem dX3_init_16 : decode cX3_init 16 = .ok (.putfield 17, 3) := by decide +kernel
theorem dX3_init_19 : decode cX3_init 19 = .ok (.aload_n 0, 1) := by decide +kernel
theorem dX3_init_20 : decode cX3_init 20 = .ok (.bipush 16, 2) := by decide +kernel
theorem dX3_init_22 : decode cX3_init 22 = .ok (.anewarray 21, 3) := by decide +kernel
theorem dX3_init_25 : decode cX3_init 25 = .ok (.putfield 23, 3) := by decide +kernel
theorem dX3_init_28 : decode cX3_init 28 = .ok (.getstatic 27, 3) := by decide +kernel
theorem dX3_init_31 : decode cX3_init 31 = .ok (.iconst 0, 1) := by decide +kernel
theorem dX3_init_32 : decode cX3_init 32 = .ok (.aload_n 0, 1) := by decide +kernel
theorem dX3_init_33 : decode cX3_init 33 = .ok (.getfield 9, 3) := by decide +kernel
theorem dX3_init_36 : decode cX3_init 36 = .ok (.iconst 0, 1) := by decide +kernel
theorem dX3_init_37 : decode cX3_init 37 = .ok (.iconst 4, 1) := by decide +kernel
theorem dX3_init_38 : decode cX3_init 38 = .ok (.invokestatic 30, 3) := by decide +kernel
theorem dX3_init_41 : decode cX3_init 41 = .ok (.iconst 0, 1) := by decide +kernel
theorem dX3_init_42 : decode cX3_init 42 = .ok (.istore_n 1, 1) := by decide +kernel
theorem dX3_init_43 : decode cX3_init 43 = .ok (.iload_n 1, 1) := by decide +kernel
theorem dX3_init_44 : decode cX3_init 44 = .ok (.iconst 4, 1) := by decide +kernel
theorem dX3_init_45 : decode cX3_init 45 = .ok (.if_icmp .ge 22, 3) := by decide +kernel
theorem dX3_init_48 : decode cX3_init 48 = .ok (.aload_n 0, 1) := by decide +kernel
theorem dX3_init_49 : decode cX3_init 49 = .ok (.getfield 17, 3) := by decide +kernel
theorem dX3_init_52 : decode cX3_init 52 = .ok (.iload_n 1, 1) := by decide +kernel
theorem dX3_init_53 : decode cX3_init 53 = .ok (.new 15, 3) := by decide +kernel
theorem dX3_init_56 : decode cX3_init 56 = .ok (.dup, 1) := by decide +kernel
theorem dX3_init_57 : decode cX3_init 57 = .ok (.invokespecial 36, 3) := by decide +kernel
theorem dX3_init_60 : decode cX3_init 60 = .ok (.aastore, 1) := by decide +kernel
theorem dX3_init_61 : decode cX3_init 61 = .ok (.iinc 1 1, 3) := by decide +kernel
theorem dX3_init_64 : decode cX3_init 64 = .ok (.goto (-21), 3) := by decide +kernel
theorem dX3_init_67 : decode cX3_init 67 = .ok (.iconst 0, 1) := by decide +kernel
theorem dX3_init_68 : decode cX3_init 68 = .ok (.istore_n 1, 1) := by decide +kernel
theorem dX3_init_69 : decode cX3_init 69 = .ok (.iload_n 1, 1) := by decide +kernel
theorem dX3_init_70 : decode cX3_init 70 = .ok (.bipush 16, 2) := by decide +kernel
theorem dX3_init_72 : decode cX3_init 72 = .ok (.if_icmp .ge 31, 3) := by decide +kernel
theorem dX3_init_75 : decode cX3_init 75 = .ok (.aload_n 0, 1) := by decide +kernel
theorem dX3_init_76 : decode cX3_init 76 = .ok (.getfield 23, 3) := by decide +kernel
theorem dX3_init_79 : decode cX3_init 79 = .ok (.iload_n 1, 1) := by decide +kernel
theorem dX3_init_80 : decode cX3_init 80 = .ok (.new 21, 3) := by decide +kernel
theorem dX3_init_83 : decode cX3_init 83 = .ok (.dup, 1) := by decide +kernel
theorem dX3_init_84 : decode cX3_init 84 = .ok (.invokespecial 37, 3) := by decide +kernel
theorem dX3_init_87 : decode cX3_init 87 = .ok (.aastore, 1) := by decide +kernel
theorem dX3_init_88 : decode cX3_init 88 = .ok (.aload_n 0, 1) := by decide +kernel
theorem dX3_init_89 : decode cX3_init 89 = .ok (.getfield 23, 3) := by decide +kernel
theorem dX3_init_92 : decode cX3_init 92 = .ok (.iload_n 1, 1) := by decide +kernel
theorem dX3_init_93 : decode cX3_init 93 = .ok (.aaload, 1) := by decide +kernel
theorem dX3_init_94 : decode cX3_init 94 = .ok (.invokevirtual 38, 3) := by decide +kernel
theorem dX3_init_97 : decode cX3_init 97 = .ok (.iinc 1 1, 3) := by decide +kernel
theorem dX3_init_100 : decode cX3_init 100 = .ok (.goto (-31), 3) := by decide +kernel
theorem dX3_init_103 : decode cX3_init 103 = .ok (.return_, 1) := by decide +kernel
theorem dX3_copySettings_0 : decode cX3_copySettings 0 = .ok (.aload_n 1, 1) := by decide +kernel
theorem dX3_copySettings_1 : decode cX3_copySettings 1 = .ok (.getfield 9, 3) := by decide +kernel
theorem dX3_copySettings_4 : decode cX3_copySettings 4 = .ok (.iconst 0, 1) := by decide +kernel
theorem dX3_copySettings_5 : decode cX3_copySettings 5 = .ok (.aload_n 0, 1) := by decide +kernel
theorem dX3_copySettings_6 : decode cX3_copySettings 6 = .ok (.getfield 9, 3) := by decide +kernel
theorem dX3_copySettings_9 : decode cX3_copySettings 9 = .ok (.iconst 0, 1) := by decide +kernel
theorem dX3_copySettings_10 : decode cX3_copySettings 10 = .ok (.iconst 4, 1) := by decide +kernel
theorem dX3_copySettings_11 : decode cX3_copySettings 11 = .ok (.invokestatic 30, 3) := by decide +kernel
theorem dX3_copySettings_14 : decode cX3_copySettings 14 = .ok (.return_, 1) := by decide +kernel
theorem dX3_copy_0 : decode cX3_copy 0 = .ok (.aload_n 0, 1) := by decide +kernel
theorem dX3_copy_1 : decode cX3_copy 1 = .ok (.aload_n 1, 1) := by decide +kernel
theorem dX3_copy_2 : decode cX3_copy 2 = .ok (.invokevirtual 41, 3) := by decide +kernel
theorem dX3_copy_5 : decode cX3_copy 5 = .ok (.iconst 0, 1) := by decide +kernel
theorem dX3_copy_6 : decode cX3_copy 6 = .ok (.istore_n 2, 1) := by decide +kernel
theorem dX3_copy_7 : decode cX3_copy 7 = .ok (.iload_n 2, 1) := by decide +kernel
theorem dX3_copy_8 : decode cX3_copy 8 = .ok (.iconst 4, 1) := by decide +kernel
theorem dX3_copy_9 : decode cX3_copy 9 = .ok (.if_icmp .ge 24, 3) := by decide +kernel
theorem dX3_copy_12 : decode cX3_copy 12 = .ok (.aload_n 0, 1) := by decide +kernel
theorem dX3_copy_13 : decode cX3_copy 13 = .ok (.getfield 17, 3) := by decide +kernel
theorem dX3_copy_16 : decode cX3_copy 16 = .ok (.iload_n 2, 1) := by decide +kernel
theorem dX3_copy_17 : decode cX3_copy 17 = .ok (.aaload, 1) := by decide +kernel
theorem dX3_copy_18 : decode cX3_copy 18 = .ok (.aload_n 1, 1) := by decide +kernel
theorem dX3_copy_19 : decode cX3_copy 19 = .ok (.getfield 17, 3) := by decide +kernel
theorem dX3_copy_22 : decode cX3_copy 22 = .ok (.iload_n 2, 1) := by decide +kernel
theorem dX3_copy_23 : decode cX3_copy 23 = .ok (.aaload, 1) := by decide +kernel
theorem dX3_copy_24 : decode cX3_copy 24 = .ok (.invokevirtual 45, 3) := by decide +kernel
theorem dX3_copy_27 : decode cX3_copy 27 = .ok (.iinc 2 1, 3) := by decide +kernel
theorem dX3_copy_30 : decode cX3_copy 30 = .ok (.goto (-23), 3) := by decide +kernel
theorem dX3_copy_33 : decode cX3_copy 33 = .ok (.iconst 0, 1) := by decide +kernel
theorem dX3_copy_34 : decode cX3_copy 34 = .ok (.istore_n 2, 1) := by decide +kernel
theorem dX3_copy_35 : decode cX3_copy 35 = .ok (.iload_n 2, 1) := by decide +kernel
theorem dX3_copy_36 : decode cX3_copy 36 = .ok (.bipush 16, 2) := by decide +kernel
theorem dX3_copy_38 : decode cX3_copy 38 = .ok (.if_icmp .ge 24, 3) := by decide +kernel
theorem dX3_copy_41 : decode cX3_copy 41 = .ok (.aload_n 0, 1) := by decide +kernel
theorem dX3_copy_42 : decode cX3_copy 42 = .ok (.getfield 23, 3) := by decide +kernel
theorem dX3_copy_45 : decode cX3_copy 45 = .ok (.iload_n 2, 1) := by decide +kernel
theorem dX3_copy_46 : decode cX3_copy 46 = .ok (.aaload, 1) := by decide +kernel
theorem dX3_copy_47 : decode cX3_copy 47 = .ok (.aload_n 1, 1) := by decide +kernel
theorem dX3_copy_48 : decode cX3_copy 48 = .ok (.getfield 23, 3) := by decide +kernel
theorem dX3_copy_51 : decode cX3_copy 51 = .ok (.iload_n 2, 1) := by decide +kernel
theorem dX3_copy_52 : decode cX3_copy 52 = .ok (.aaload, 1) := by decide +kernel
theorem dX3_copy_53 : decode cX3_copy 53 = .ok (.invokevirtual 49, 3) := by decide +kernel
theorem dX3_copy_56 : decode cX3_copy 56 = .ok (.iinc 2 1, 3) := by decide +kernel
theorem dX3_copy_59 : decode cX3_copy 59 = .ok (.goto (-24), 3) := by decide +kernel
theorem dX3_copy_62 : decode cX3_copy 62 = .ok (.aload_n 0, 1) := by decide +kernel
theorem dX3_copy_63 : decode cX3_copy 63 = .ok (.aload_n 1, 1) := by decide +kernel
theorem dX3_copy_64 : decode cX3_copy 64 = .ok (.getfield 52, 3) := by decide +kernel
theorem dX3_copy_67 : decode cX3_copy 67 = .ok (.putfield 52, 3) := by decide +kernel
theorem dX3_copy_70 : decode cX3_copy 70 = .ok (.aload_n 0, 1) := by decide +kernel
theorem dX3_copy_71 : decode cX3_copy 71 = .ok (.aload_n 1, 1) := by decide +kernel
theorem dX3_copy_72 : decode cX3_copy 72 = .ok (.getfield 56, 3) := by decide +kernel
theorem dX3_copy_75 : decode cX3_copy 75 = .ok (.putfield 56, 3) := by decide +kernel
theorem dX3_copy_78 : decode cX3_copy 78 = .ok (.return_, 1) := by decide +kernel
theorem dX3_freeBanks_0 : decode cX3_freeBanks 0 = .ok (.iconst 0, 1) := by decide +kernel
theorem dX3_freeBanks_1 : decode cX3_freeBanks 1 = .ok (.istore_n 1, 1) := by decide +kernel
theorem dX3_freeBanks_2 : decode cX3_freeBanks 2 = .ok (.iload_n 1, 1) := by decide +kernel
theorem dX3_freeBanks_3 : decode cX3_freeBanks 3 = .ok (.bipush 16, 2) := by decide +kernel
theorem dX3_freeBanks_5 : decode cX3_freeBanks 5 = .ok (.if_icmp .ge 18, 3) := by decide +kernel
theorem dX3_freeBanks_8 : decode cX3_freeBanks 8 = .ok (.aload_n 0, 1) := by decide +kernel
theorem dX3_freeBanks_9 : decode cX3_freeBanks 9 = .ok (.getfield 23, 3) := by decide +kernel
theorem dX3_freeBanks_12 : decode cX3_freeBanks 12 = .ok (.iload_n 1, 1) := by decide +kernel
theorem dX3_freeBanks_13 : decode cX3_freeBanks 13 = .ok (.aaload, 1) := by decide +kernel
theorem dX3_freeBanks_14 : decode cX3_freeBanks 14 = .ok (.invokevirtual 38, 3) := by decide +kernel
theorem dX3_freeBanks_17 : decode cX3_freeBanks 17 = .ok (.iinc 1 1, 3) := by decide +kernel
theorem dX3_freeBanks_20 : decode cX3_freeBanks 20 = .ok (.goto (-18), 3) := by decide +kernel
theorem dX3_freeBanks_23 : decode cX3_freeBanks 23 = .ok (.return_, 1) := by decide +kernel
theorem dX3_beginAnew_0 : decode cX3_beginAnew 0 = .ok (.aload_n 0, 1) := by decide +kernel
theorem dX3_beginAnew_1 : decode cX3_beginAnew 1 = .ok (.iconst 0, 1) := by decide +kernel
theorem dX3_beginAnew_2 : decode cX3_beginAnew 2 = .ok (.putfield 56, 3) := by decide +kernel
theorem dX3_beginAnew_5 : decode cX3_beginAnew 5 = .ok (.aload_n 0, 1) := by decide +kernel
theorem dX3_beginAnew_6 : decode cX3_beginAnew 6 = .ok (.invokevirtual 59, 3) := by decide +kernel
theorem dX3_beginAnew_9 : decode cX3_beginAnew 9 = .ok (.iconst 0, 1) := by decide +kernel
theorem dX3_beginAnew_10 : decode cX3_beginAnew 10 = .ok (.istore_n 1, 1) := by decide +kernel
theorem dX3_beginAnew_11 : decode cX3_beginAnew 11 = .ok (.iload_n 1, 1) := by decide +kernel
theorem dX3_beginAnew_12 : decode cX3_beginAnew 12 = .ok (.aload_n 0, 1) := by decide +kernel
theorem dX3_beginAnew_13 : decode cX3_beginAnew 13 = .ok (.getfield 52, 3) := by decide +kernel
theorem dX3_beginAnew_16 : decode cX3_beginAnew 16 = .ok (.if_icmp .ge 18, 3) := by decide +kernel
theorem dX3_beginAnew_19 : decode cX3_beginAnew 19 = .ok (.aload_n 0, 1) := by decide +kernel
theorem dX3_beginAnew_20 : decode cX3_beginAnew 20 = .ok (.getfield 17, 3) := by decide +kernel
theorem dX3_beginAnew_23 : decode cX3_beginAnew 23 = .ok (.iload_n 1, 1) := by decide +kernel
theorem dX3_beginAnew_24 : decode cX3_beginAnew 24 = .ok (.aaload, 1) := by decide +kernel
theorem dX3_beginAnew_25 : decode cX3_beginAnew 25 = .ok (.invokevirtual 62, 3) := by decide +kernel
theorem dX3_beginAnew_28 : decode cX3_beginAnew 28 = .ok (.iinc 1 1, 3) := by decide +kernel
theorem dX3_beginAnew_31 : decode cX3_beginAnew 31 = .ok (.goto (-20), 3) := by decide +kernel
theorem dX3_beginAnew_34 : decode cX3_beginAnew 34 = .ok (.return_, 1) := by decide +kernel
theorem dX3_has_0 : decode cX3_has 0 = .ok (.iload_n 1, 1) := by decide +kernel
theorem dX3_has_1 : decode cX3_has 1 = .ok (.ifCond .lt 15, 3) := by decide +kernel
theorem dX3_has_4 : decode cX3_has 4 = .ok (.iload_n 1, 1) := by decide +kernel
theorem dX3_has_5 : decode cX3_has 5 = .ok (.aload_n 0, 1) := by decide +kernel
theorem dX3_has_6 : decode cX3_has 6 = .ok (.getfield 52, 3) := by decide +kernel
theorem dX3_has_9 : decode cX3_has 9 = .ok (.if_icmp .ge 7, 3) := by decide +kernel
theorem dX3_has_12 : decode cX3_has 12 = .ok (.iconst 1, 1) := by decide +kernel
theorem dX3_has_13 : decode cX3_has 13 = .ok (.goto 4, 3) := by decide +kernel
theorem dX3_has_16 : decode cX3_has 16 = .ok (.iconst 0, 1) := by decide +kernel
theorem dX3_has_17 : decode cX3_has 17 = .ok (.ireturn, 1) := by decide +kernel
theorem dX3_append_0 : decode cX3_append 0 = .ok (.aload_n 0, 1) := by decide +kernel
theorem dX3_append_1 : decode cX3_append 1 = .ok (.getfield 52, 3) := by decide +kernel
theorem dX3_append_4 : decode cX3_append 4 = .ok (.iconst 4, 1) := by decide +kernel
theorem dX3_append_5 : decode cX3_append 5 = .ok (.if_icmp .lt 4, 3) := by decide +kernel
theorem dX3_append_8 : decode cX3_append 8 = .ok (.return_, 1) := by decide +kernel
theorem dX3_append_9 : decode cX3_append 9 = .ok (.aload_n 0, 1) := by decide +kernel
theorem dX3_append_10 : decode cX3_append 10 = .ok (.getfield 17, 3) := by decide +kernel
theorem dX3_append_13 : decode cX3_append 13 = .ok (.aload_n 0, 1) := by decide +kernel
theorem dX3_append_14 : decode cX3_append 14 = .ok (.getfield 52, 3) := by decide +kernel
theorem dX3_append_17 : decode cX3_append 17 = .ok (.aaload, 1) := by decide +kernel
theorem dX3_append_18 : decode cX3_append 18 = .ok (.astore 4, 2) := by decide +kernel
theorem dX3_append_20 : decode cX3_append 20 = .ok (.aload 4, 2) := by decide +kernel
theorem dX3_append_22 : decode cX3_append 22 = .ok (.iload_n 1, 1) := by decide +kernel
theorem dX3_append_23 : decode cX3_append 23 = .ok (.putfield 63, 3) := by decide +kernel
theorem dX3_append_26 : decode cX3_append 26 = .ok (.aload 4, 2) := by decide +kernel
theorem dX3_append_28 : decode cX3_append 28 = .ok (.iload_n 2, 1) := by decide +kernel
theorem dX3_append_29 : decode cX3_append 29 = .ok (.putfield 66, 3) := by decide +kernel
theorem dX3_append_32 : decode cX3_append 32 = .ok (.aload 4, 2) := by decide +kernel
theorem dX3_append_34 : decode cX3_append 34 = .ok (.iload_n 3, 1) := by decide +kernel
theorem dX3_append_35 : decode cX3_append 35 = .ok (.putfield 69, 3) := by decide +kernel
theorem dX3_append_38 : decode cX3_append 38 = .ok (.aload 4, 2) := by decide +kernel
theorem dX3_append_40 : decode cX3_append 40 = .ok (.invokevirtual 62, 3) := by decide +kernel
theorem dX3_append_43 : decode cX3_append 43 = .ok (.aload_n 0, 1) := by decide +kernel
theorem dX3_append_44 : decode cX3_append 44 = .ok (.dup, 1) := by decide +kernel
theorem dX3_append_45 : decode cX3_append 45 = .ok (.getfield 52, 3) := by decide +kernel
theorem dX3_append_48 : decode cX3_append 48 = .ok (.iconst 1, 1) := by decide +kernel
theorem dX3_append_49 : decode cX3_append 49 = .ok (.iadd, 1) := by decide +kernel
theorem dX3_append_50 : decode cX3_append 50 = .ok (.putfield 52, 3) := by decide +kernel
theorem dX3_append_53 : decode cX3_append 53 = .ok (.return_, 1) := by decide +kernel
theorem dX3_appendLike_0 : decode cX3_appendLike 0 = .ok (.aload_n 0, 1) := by decide +kernel
theorem dX3_appendLike_1 : decode cX3_appendLike 1 = .ok (.aload_n 1, 1) := by decide +kernel
theorem dX3_appendLike_2 : decode cX3_appendLike 2 = .ok (.getfield 63, 3) := by decide +kernel
theorem dX3_appendLike_5 : decode cX3_appendLike 5 = .ok (.aload_n 1, 1) := by decide +kernel
theorem dX3_appendLike_6 : decode cX3_appendLike 6 = .ok (.getfield 66, 3) := by decide +kernel
theorem dX3_appendLike_9 : decode cX3_appendLike 9 = .ok (.aload_n 1, 1) := by decide +kernel
theorem dX3_appendLike_10 : decode cX3_appendLike 10 = .ok (.getfield 69, 3) := by decide +kernel
theorem dX3_appendLike_13 : decode cX3_appendLike 13 = .ok (.invokevirtual 72, 3) := by decide +kernel
theorem dX3_appendLike_16 : decode cX3_appendLike 16 = .ok (.return_, 1) := by decide +kernel
theorem dX3_remove_0 : decode cX3_remove 0 = .ok (.aload_n 0, 1) := by decide +kernel
theorem dX3_remove_1 : decode cX3_remove 1 = .ok (.getfield 17, 3) := by decide +kernel
theorem dX3_remove_4 : decode cX3_remove 4 = .ok (.iload_n 1, 1) := by decide +kernel
theorem dX3_remove_5 : decode cX3_remove 5 = .ok (.aaload, 1) := by decide +kernel
theorem dX3_remove_6 : decode cX3_remove 6 = .ok (.astore_n 2, 1) := by decide +kernel
theorem dX3_remove_7 : decode cX3_remove 7 = .ok (.iload_n 1, 1) := by decide +kernel
theorem dX3_remove_8 : decode cX3_remove 8 = .ok (.istore_n 3, 1) := by decide +kernel
theorem dX3_remove_9 : decode cX3_remove 9 = .ok (.iload_n 3, 1) := by decide +kernel
theorem dX3_remove_10 : decode cX3_remove 10 = .ok (.aload_n 0, 1) := by decide +kernel
theorem dX3_remove_11 : decode cX3_remove 11 = .ok (.getfield 52, 3) := by decide +kernel
theorem dX3_remove_14 : decode cX3_remove 14 = .ok (.iconst 1, 1) := by decide +kernel
theorem dX3_remove_15 : decode cX3_remove 15 = .ok (.isub, 1) := by decide +kernel
theorem dX3_remove_16 : decode cX3_remove 16 = .ok (.if_icmp .ge 23, 3) := by decide +kernel
theorem dX3_remove_19 : decode cX3_remove 19 = .ok (.aload_n 0, 1) := by decide +kernel
theorem dX3_remove_20 : decode cX3_remove 20 = .ok (.getfield 17, 3) := by decide +kernel
theorem dX3_remove_23 : decode cX3_remove 23 = .ok (.iload_n 3, 1) := by decide +kernel
theorem dX3_remove_24 : decode cX3_remove 24 = .ok (.aload_n 0, 1) := by decide +kernel
theorem dX3_remove_25 : decode cX3_remove 25 = .ok (.getfield 17, 3) := by decide +kernel
theorem dX3_remove_28 : decode cX3_remove 28 = .ok (.iload_n 3, 1) := by decide +kernel
theorem dX3_remove_29 : decode cX3_remove 29 = .ok (.iconst 1, 1) := by decide +kernel
theorem dX3_remove_30 : decode cX3_remove 30 = .ok (.iadd, 1) := by decide +kernel
theorem dX3_remove_31 : decode cX3_remove 31 = .ok (.aaload, 1) := by decide +kernel
theorem dX3_remove_32 : decode cX3_remove 32 = .ok (.aastore, 1) := by decide +kernel
theorem dX3_remove_33 : decode cX3_remove 33 = .ok (.iinc 3 1, 3) := by decide +kernel
theorem dX3_remove_36 : decode cX3_remove 36 = .ok (.goto (-27), 3) := by decide +kernel
theorem dX3_remove_39 : decode cX3_remove 39 = .ok (.aload_n 0, 1) := by decide +kernel
theorem dX3_remove_40 : decode cX3_remove 40 = .ok (.dup, 1) := by decide +kernel
theorem dX3_remove_41 : decode cX3_remove 41 = .ok (.getfield 52, 3) := by decide +kernel
theorem dX3_remove_44 : decode cX3_remove 44 = .ok (.iconst 1, 1) := by decide +kernel
theorem dX3_remove_45 : decode cX3_remove 45 = .ok (.isub, 1) := by decide +kernel
theorem dX3_remove_46 : decode cX3_remove 46 = .ok (.putfield 52, 3) := by decide +kernel
theorem dX3_remove_49 : decode cX3_remove 49 = .ok (.aload_n 0, 1) := by decide +kernel
theorem dX3_remove_50 : decode cX3_remove 50 = .ok (.getfield 17, 3) := by decide +kernel
theorem dX3_remove_53 : decode cX3_remove 53 = .ok (.aload_n 0, 1) := by decide +kernel
theorem dX3_remove_54 : decode cX3_remove 54 = .ok (.getfield 52, 3) := by decide +kernel
theorem dX3_remove_57 : decode cX3_remove 57 = .ok (.aload_n 2, 1) := by decide +kernel
theorem dX3_remove_58 : decode cX3_remove 58 = .ok (.aastore, 1) := by decide +kernel
theorem dX3_remove_59 : decode cX3_remove 59 = .ok (.iconst 0, 1) := by decide +kernel
theorem dX3_remove_60 : decode cX3_remove 60 = .ok (.istore_n 3, 1) := by decide +kernel
theorem dX3_remove_61 : decode cX3_remove 61 = .ok (.iload_n 3, 1) := by decide +kernel
theorem dX3_remove_62 : decode cX3_remove 62 = .ok (.bipush 16, 2) := by decide +kernel
theorem dX3_remove_64 : decode cX3_remove 64 = .ok (.if_icmp .ge 63, 3) := by decide +kernel
theorem dX3_remove_67 : decode cX3_remove 67 = .ok (.aload_n 0, 1) := by decide +kernel
theorem dX3_remove_68 : decode cX3_remove 68 = .ok (.getfield 23, 3) := by decide +kernel
theorem dX3_remove_71 : decode cX3_remove 71 = .ok (.iload_n 3, 1) := by decide +kernel
theorem dX3_remove_72 : decode cX3_remove 72 = .ok (.aaload, 1) := by decide +kernel
theorem dX3_remove_73 : decode cX3_remove 73 = .ok (.getfield 76, 3) := by decide +kernel
theorem dX3_remove_76 : decode cX3_remove 76 = .ok (.iload_n 1, 1) := by decide +kernel
theorem dX3_remove_77 : decode cX3_remove 77 = .ok (.if_icmp .ne 16, 3) := by decide +kernel
theorem dX3_remove_80 : decode cX3_remove 80 = .ok (.aload_n 0, 1) := by decide +kernel
theorem dX3_remove_81 : decode cX3_remove 81 = .ok (.getfield 23, 3) := by decide +kernel
theorem dX3_remove_84 : decode cX3_remove 84 = .ok (.iload_n 3, 1) := by decide +kernel
theorem dX3_remove_85 : decode cX3_remove 85 = .ok (.aaload, 1) := by decide +kernel
theorem dX3_remove_86 : decode cX3_remove 86 = .ok (.iconst (-1), 1) := by decide +kernel
theorem dX3_remove_87 : decode cX3_remove 87 = .ok (.putfield 76, 3) := by decide +kernel
theorem dX3_remove_90 : decode cX3_remove 90 = .ok (.goto 31, 3) := by decide +kernel
theorem dX3_remove_93 : decode cX3_remove 93 = .ok (.aload_n 0, 1) := by decide +kernel
theorem dX3_remove_94 : decode cX3_remove 94 = .ok (.getfield 23, 3) := by decide +kernel
theorem dX3_remove_97 : decode cX3_remove 97 = .ok (.iload_n 3, 1) := by decide +kernel
theorem dX3_remove_98 : decode cX3_remove 98 = .ok (.aaload, 1) := by decide +kernel
theorem dX3_remove_99 : decode cX3_remove 99 = .ok (.getfield 76, 3) := by decide +kernel
theorem dX3_remove_102 : decode cX3_remove 102 = .ok (.iload_n 1, 1) := by decide +kernel
theorem dX3_remove_103 : decode cX3_remove 103 = .ok (.if_icmp .le 18, 3) := by decide +kernel
theorem dX3_remove_106 : decode cX3_remove 106 = .ok (.aload_n 0, 1) := by decide +kernel
theorem dX3_remove_107 : decode cX3_remove 107 = .ok (.getfield 23, 3) := by decide +kernel
theorem dX3_remove_110 : decode cX3_remove 110 = .ok (.iload_n 3, 1) := by decide +kernel
theorem dX3_remove_111 : decode cX3_remove 111 = .ok (.aaload, 1) := by decide +kernel
theorem dX3_remove_112 : decode cX3_remove 112 = .ok (.dup, 1) := by decide +kernel
theorem dX3_remove_113 : decode cX3_remove 113 = .ok (.getfield 76, 3) := by decide +kernel
theorem dX3_remove_116 : decode cX3_remove 116 = .ok (.iconst 1, 1) := by decide +kernel
theorem dX3_remove_117 : decode cX3_remove 117 = .ok (.isub, 1) := by decide +kernel
theorem dX3_remove_118 : decode cX3_remove 118 = .ok (.putfield 76, 3) := by decide +kernel
theorem dX3_remove_121 : decode cX3_remove 121 = .ok (.iinc 3 1, 3) := by decide +kernel
theorem dX3_remove_124 : decode cX3_remove 124 = .ok (.goto (-63), 3) := by decide +kernel
theorem dX3_remove_127 : decode cX3_remove 127 = .ok (.return_, 1) := by decide +kernel
theorem dX3_greatestPrime_0 : decode cX3_greatestPrime 0 = .ok (.getstatic 79, 3) := by decide +kernel
theorem dX3_greatestPrime_3 : decode cX3_greatestPrime 3 = .ok (.aload_n 0, 1) := by decide +kernel
theorem dX3_greatestPrime_4 : decode cX3_greatestPrime 4 = .ok (.getfield 9, 3) := by decide +kernel
theorem dX3_greatestPrime_7 : decode cX3_greatestPrime 7 = .ok (.iconst 0, 1) := by decide +kernel
theorem dX3_greatestPrime_8 : decode cX3_greatestPrime 8 = .ok (.iaload, 1) := by decide +kernel
theorem dX3_greatestPrime_9 : decode cX3_greatestPrime 9 = .ok (.iaload, 1) := by decide +kernel
theorem dX3_greatestPrime_10 : decode cX3_greatestPrime 10 = .ok (.ireturn, 1) := by decide +kernel
theorem dX3_bankAt_0 : decode cX3_bankAt 0 = .ok (.aload_n 0, 1) := by decide +kernel
theorem dX3_bankAt_1 : decode cX3_bankAt 1 = .ok (.getfield 9, 3) := by decide +kernel
theorem dX3_bankAt_4 : decode cX3_bankAt 4 = .ok (.iconst 2, 1) := by decide +kernel
theorem dX3_bankAt_5 : decode cX3_bankAt 5 = .ok (.iaload, 1) := by decide +kernel
theorem dX3_bankAt_6 : decode cX3_bankAt 6 = .ok (.iconst 2, 1) := by decide +kernel
theorem dX3_bankAt_7 : decode cX3_bankAt 7 = .ok (.if_icmp .ne 10, 3) := by decide +kernel
theorem dX3_bankAt_10 : decode cX3_bankAt 10 = .ok (.aload_n 0, 1) := by decide +kernel
theorem dX3_bankAt_11 : decode cX3_bankAt 11 = .ok (.invokevirtual 82, 3) := by decide +kernel
theorem dX3_bankAt_14 : decode cX3_bankAt 14 = .ok (.goto 9, 3) := by decide +kernel
theorem dX3_bankAt_17 : decode cX3_bankAt 17 = .ok (.aload_n 0, 1) := by decide +kernel
theorem dX3_bankAt_18 : decode cX3_bankAt 18 = .ok (.getfield 9, 3) := by decide +kernel
theorem dX3_bankAt_21 : decode cX3_bankAt 21 = .ok (.iconst 0, 1) := by decide +kernel
theorem dX3_bankAt_22 : decode cX3_bankAt 22 = .ok (.iaload, 1) := by decide +kernel
theorem dX3_bankAt_23 : decode cX3_bankAt 23 = .ok (.istore_n 2, 1) := by decide +kernel
theorem dX3_bankAt_24 : decode cX3_bankAt 24 = .ok (.iload_n 2, 1) := by decide +kernel
theorem dX3_bankAt_25 : decode cX3_bankAt 25 = .ok (.iconst 1, 1) := by decide +kernel
theorem dX3_bankAt_26 : decode cX3_bankAt 26 = .ok (.if_icmp .ge 5, 3) := by decide +kernel
theorem dX3_bankAt_29 : decode cX3_bankAt 29 = .ok (.iconst 0, 1) := by decide +kernel
theorem dX3_bankAt_30 : decode cX3_bankAt 30 = .ok (.ireturn, 1) := by decide +kernel
theorem dX3_bankAt_31 : decode cX3_bankAt 31 = .ok (.aload_n 0, 1) := by decide +kernel
theorem dX3_bankAt_32 : decode cX3_bankAt 32 = .ok (.getfield 9, 3) := by decide +kernel
theorem dX3_bankAt_35 : decode cX3_bankAt 35 = .ok (.iconst 2, 1) := by decide +kernel
theorem dX3_bankAt_36 : decode cX3_bankAt 36 = .ok (.iaload, 1) := by decide +kernel
theorem dX3_bankAt_37 : decode cX3_bankAt 37 = .ok (.iconst 1, 1) := by decide +kernel
theorem dX3_bankAt_38 : decode cX3_bankAt 38 = .ok (.if_icmp .ne 11, 3) := by decide +kernel
theorem dX3_bankAt_41 : decode cX3_bankAt 41 = .ok (.iload_n 1, 1) := by decide +kernel
theorem dX3_bankAt_42 : decode cX3_bankAt 42 = .ok (.iload_n 1, 1) := by decide +kernel
theorem dX3_bankAt_43 : decode cX3_bankAt 43 = .ok (.iload_n 2, 1) := by decide +kernel
theorem dX3_bankAt_44 : decode cX3_bankAt 44 = .ok (.idiv, 1) := by decide +kernel
theorem dX3_bankAt_45 : decode cX3_bankAt 45 = .ok (.iadd, 1) := by decide +kernel
theorem dX3_bankAt_46 : decode cX3_bankAt 46 = .ok (.goto 4, 3) := by decide +kernel
theorem dX3_bankAt_49 : decode cX3_bankAt 49 = .ok (.iload_n 1, 1) := by decide +kernel
theorem dX3_bankAt_50 : decode cX3_bankAt 50 = .ok (.istore_n 3, 1) := by decide +kernel
theorem dX3_bankAt_51 : decode cX3_bankAt 51 = .ok (.iload_n 3, 1) := by decide +kernel
theorem dX3_bankAt_52 : decode cX3_bankAt 52 = .ok (.iload_n 2, 1) := by decide +kernel
theorem dX3_bankAt_53 : decode cX3_bankAt 53 = .ok (.irem, 1) := by decide +kernel
theorem dX3_bankAt_54 : decode cX3_bankAt 54 = .ok (.ireturn, 1) := by decide +kernel
theorem dX3_passCycle_0 : decode cX3_passCycle 0 = .ok (.iconst 0, 1) := by decide +kernel
theorem dX3_passCycle_1 : decode cX3_passCycle 1 = .ok (.istore_n 1, 1) := by decide +kernel
theorem dX3_passCycle_2 : decode cX3_passCycle 2 = .ok (.aload_n 0, 1) := by decide +kernel
theorem dX3_passCycle_3 : decode cX3_passCycle 3 = .ok (.getfield 9, 3) := by decide +kernel
theorem dX3_passCycle_6 : decode cX3_passCycle 6 = .ok (.iconst 3, 1) := by decide +kernel
theorem dX3_passCycle_7 : decode cX3_passCycle 7 = .ok (.iaload, 1) := by decide +kernel
theorem dX3_passCycle_8 : decode cX3_passCycle 8 = .ok (.iconst 1, 1) := by decide +kernel
theorem dX3_passCycle_9 : decode cX3_passCycle 9 = .ok (.if_icmp .ne 22, 3) := by decide +kernel
theorem dX3_passCycle_12 : decode cX3_passCycle 12 = .ok (.aload_n 0, 1) := by decide +kernel
theorem dX3_passCycle_13 : decode cX3_passCycle 13 = .ok (.getfield 52, 3) := by decide +kernel
theorem dX3_passCycle_16 : decode cX3_passCycle 16 = .ok (.ifCond .le 15, 3) := by decide +kernel
theorem dX3_passCycle_19 : decode cX3_passCycle 19 = .ok (.aload_n 0, 1) := by decide +kernel
theorem dX3_passCycle_20 : decode cX3_passCycle 20 = .ok (.getfield 56, 3) := by decide +kernel
theorem dX3_passCycle_23 : decode cX3_passCycle 23 = .ok (.aload_n 0, 1) := by decide +kernel
theorem dX3_passCycle_24 : decode cX3_passCycle 24 = .ok (.getfield 52, 3) := by decide +kernel
theorem dX3_passCycle_27 : decode cX3_passCycle 27 = .ok (.irem, 1) := by decide +kernel
theorem dX3_passCycle_28 : decode cX3_passCycle 28 = .ok (.goto 4, 3) := by decide +kernel
theorem dX3_passCycle_31 : decode cX3_passCycle 31 = .ok (.iconst 0, 1) := by decide +kernel
theorem dX3_passCycle_32 : decode cX3_passCycle 32 = .ok (.istore_n 2, 1) := by decide +kernel
theorem dX3_passCycle_33 : decode cX3_passCycle 33 = .ok (.iload_n 2, 1) := by decide +kernel
theorem dX3_passCycle_34 : decode cX3_passCycle 34 = .ok (.istore_n 3, 1) := by decide +kernel
theorem dX3_passCycle_35 : decode cX3_passCycle 35 = .ok (.iload_n 3, 1) := by decide +kernel
theorem dX3_passCycle_36 : decode cX3_passCycle 36 = .ok (.aload_n 0, 1) := by decide +kernel
theorem dX3_passCycle_37 : decode cX3_passCycle 37 = .ok (.getfield 52, 3) := by decide +kernel
theorem dX3_passCycle_40 : decode cX3_passCycle 40 = .ok (.if_icmp .ge 17, 3) := by decide +kernel
theorem dX3_passCycle_43 : decode cX3_passCycle 43 = .ok (.iload_n 1, 1) := by decide +kernel
theorem dX3_passCycle_44 : decode cX3_passCycle 44 = .ok (.aload_n 0, 1) := by decide +kernel
theorem dX3_passCycle_45 : decode cX3_passCycle 45 = .ok (.iload_n 3, 1) := by decide +kernel
theorem dX3_passCycle_46 : decode cX3_passCycle 46 = .ok (.invokevirtual 86, 3) := by decide +kernel
theorem dX3_passCycle_49 : decode cX3_passCycle 49 = .ok (.iadd, 1) := by decide +kernel
theorem dX3_passCycle_50 : decode cX3_passCycle 50 = .ok (.istore_n 1, 1) := by decide +kernel
theorem dX3_passCycle_51 : decode cX3_passCycle 51 = .ok (.iinc 3 1, 3) := by decide +kernel
theorem dX3_passCycle_54 : decode cX3_passCycle 54 = .ok (.goto (-19), 3) := by decide +kernel
theorem dX3_passCycle_57 : decode cX3_passCycle 57 = .ok (.iconst 0, 1) := by decide +kernel
theorem dX3_passCycle_58 : decode cX3_passCycle 58 = .ok (.istore_n 3, 1) := by decide +kernel
theorem dX3_passCycle_59 : decode cX3_passCycle 59 = .ok (.iload_n 3, 1) := by decide +kernel
theorem dX3_passCycle_60 : decode cX3_passCycle 60 = .ok (.iload_n 2, 1) := by decide +kernel
theorem dX3_passCycle_61 : decode cX3_passCycle 61 = .ok (.if_icmp .ge 17, 3) := by decide +kernel
theorem dX3_passCycle_64 : decode cX3_passCycle 64 = .ok (.iload_n 1, 1) := by decide +kernel
theorem dX3_passCycle_65 : decode cX3_passCycle 65 = .ok (.aload_n 0, 1) := by decide +kernel
theorem dX3_passCycle_66 : decode cX3_passCycle 66 = .ok (.iload_n 3, 1) := by decide +kernel
theorem dX3_passCycle_67 : decode cX3_passCycle 67 = .ok (.invokevirtual 86, 3) := by decide +kernel
theorem dX3_passCycle_70 : decode cX3_passCycle 70 = .ok (.iadd, 1) := by decide +kernel
theorem dX3_passCycle_71 : decode cX3_passCycle 71 = .ok (.istore_n 1, 1) := by decide +kernel
theorem dX3_passCycle_72 : decode cX3_passCycle 72 = .ok (.iinc 3 1, 3) := by decide +kernel
theorem dX3_passCycle_75 : decode cX3_passCycle 75 = .ok (.goto (-16), 3) := by decide +kernel
theorem dX3_passCycle_78 : decode cX3_passCycle 78 = .ok (.aload_n 0, 1) := by decide +kernel
theorem dX3_passCycle_79 : decode cX3_passCycle 79 = .ok (.dup, 1) := by decide +kernel
theorem dX3_passCycle_80 : decode cX3_passCycle 80 = .ok (.getfield 56, 3) := by decide +kernel
theorem dX3_passCycle_83 : decode cX3_passCycle 83 = .ok (.iconst 1, 1) := by decide +kernel
theorem dX3_passCycle_84 : decode cX3_passCycle 84 = .ok (.iadd, 1) := by decide +kernel
theorem dX3_passCycle_85 : decode cX3_passCycle 85 = .ok (.putfield 56, 3) := by decide +kernel
theorem dX3_passCycle_88 : decode cX3_passCycle 88 = .ok (.iload_n 1, 1) := by decide +kernel
theorem dX3_passCycle_89 : decode cX3_passCycle 89 = .ok (.ireturn, 1) := by decide +kernel
theorem dX3_ask_0 : decode cX3_ask 0 = .ok (.aload_n 0, 1) := by decide +kernel
theorem dX3_ask_1 : decode cX3_ask 1 = .ok (.getfield 17, 3) := by decide +kernel
theorem dX3_ask_4 : decode cX3_ask 4 = .ok (.iload_n 1, 1) := by decide +kernel
theorem dX3_ask_5 : decode cX3_ask 5 = .ok (.aaload, 1) := by decide +kernel
theorem dX3_ask_6 : decode cX3_ask 6 = .ok (.astore_n 2, 1) := by decide +kernel
theorem dX3_ask_7 : decode cX3_ask 7 = .ok (.aload_n 2, 1) := by decide +kernel
theorem dX3_ask_8 : decode cX3_ask 8 = .ok (.getfield 90, 3) := by decide +kernel
theorem dX3_ask_11 : decode cX3_ask 11 = .ok (.ifCond .ne 5, 3) := by decide +kernel
theorem dX3_ask_14 : decode cX3_ask 14 = .ok (.iconst 0, 1) := by decide +kernel
theorem dX3_ask_15 : decode cX3_ask 15 = .ok (.ireturn, 1) := by decide +kernel
theorem dX3_ask_16 : decode cX3_ask 16 = .ok (.aload_n 2, 1) := by decide +kernel
theorem dX3_ask_17 : decode cX3_ask 17 = .ok (.invokevirtual 93, 3) := by decide +kernel
theorem dX3_ask_20 : decode cX3_ask 20 = .ok (.istore_n 3, 1) := by decide +kernel
theorem dX3_ask_21 : decode cX3_ask 21 = .ok (.aload_n 0, 1) := by decide +kernel
theorem dX3_ask_22 : decode cX3_ask 22 = .ok (.getfield 23, 3) := by decide +kernel
theorem dX3_ask_25 : decode cX3_ask 25 = .ok (.aload_n 0, 1) := by decide +kernel
theorem dX3_ask_26 : decode cX3_ask 26 = .ok (.iload_n 3, 1) := by decide +kernel
theorem dX3_ask_27 : decode cX3_ask 27 = .ok (.invokevirtual 96, 3) := by decide +kernel
theorem dX3_ask_30 : decode cX3_ask 30 = .ok (.aaload, 1) := by decide +kernel
theorem dX3_ask_31 : decode cX3_ask 31 = .ok (.astore 4, 2) := by decide +kernel
theorem dX3_ask_33 : decode cX3_ask 33 = .ok (.aload 4, 2) := by decide +kernel
theorem dX3_ask_35 : decode cX3_ask 35 = .ok (.getfield 99, 3) := by decide +kernel
theorem dX3_ask_38 : decode cX3_ask 38 = .ok (.aload_n 0, 1) := by decide +kernel
theorem dX3_ask_39 : decode cX3_ask 39 = .ok (.getfield 56, 3) := by decide +kernel
theorem dX3_ask_42 : decode cX3_ask 42 = .ok (.if_icmp .le 49, 3) := by decide +kernel
theorem dX3_ask_45 : decode cX3_ask 45 = .ok (.aload 4, 2) := by decide +kernel
theorem dX3_ask_47 : decode cX3_ask 47 = .ok (.dup, 1) := by decide +kernel
theorem dX3_ask_48 : decode cX3_ask 48 = .ok (.getfield 102, 3) := by decide +kernel
theorem dX3_ask_51 : decode cX3_ask 51 = .ok (.iconst 1, 1) := by decide +kernel
theorem dX3_ask_52 : decode cX3_ask 52 = .ok (.iadd, 1) := by decide +kernel
theorem dX3_ask_53 : decode cX3_ask 53 = .ok (.putfield 102, 3) := by decide +kernel
theorem dX3_ask_56 : decode cX3_ask 56 = .ok (.aload_n 2, 1) := by decide +kernel
theorem dX3_ask_57 : decode cX3_ask 57 = .ok (.dup, 1) := by decide +kernel
theorem dX3_ask_58 : decode cX3_ask 58 = .ok (.getfield 105, 3) := by decide +kernel
theorem dX3_ask_61 : decode cX3_ask 61 = .ok (.iconst 1, 1) := by decide +kernel
theorem dX3_ask_62 : decode cX3_ask 62 = .ok (.iadd, 1) := by decide +kernel
theorem dX3_ask_63 : decode cX3_ask 63 = .ok (.putfield 105, 3) := by decide +kernel
theorem dX3_ask_66 : decode cX3_ask 66 = .ok (.aload_n 2, 1) := by decide +kernel
theorem dX3_ask_67 : decode cX3_ask 67 = .ok (.dup, 1) := by decide +kernel
theorem dX3_ask_68 : decode cX3_ask 68 = .ok (.getfield 106, 3) := by decide +kernel
theorem dX3_ask_71 : decode cX3_ask 71 = .ok (.aload 4, 2) := by decide +kernel
theorem dX3_ask_73 : decode cX3_ask 73 = .ok (.getfield 76, 3) := by decide +kernel
theorem dX3_ask_76 : decode cX3_ask 76 = .ok (.iload_n 1, 1) := by decide +kernel
theorem dX3_ask_77 : decode cX3_ask 77 = .ok (.if_icmp .ne 7, 3) := by decide +kernel
theorem dX3_ask_80 : decode cX3_ask 80 = .ok (.iconst 0, 1) := by decide +kernel
theorem dX3_ask_81 : decode cX3_ask 81 = .ok (.goto 4, 3) := by decide +kernel
theorem dX3_ask_84 : decode cX3_ask 84 = .ok (.iconst 1, 1) := by decide +kernel
theorem dX3_ask_85 : decode cX3_ask 85 = .ok (.iadd, 1) := by decide +kernel
theorem dX3_ask_86 : decode cX3_ask 86 = .ok (.putfield 106, 3) := by decide +kernel
theorem dX3_ask_89 : decode cX3_ask 89 = .ok (.iconst 0, 1) := by decide +kernel
theorem dX3_ask_90 : decode cX3_ask 90 = .ok (.ireturn, 1) := by decide +kernel
theorem dX3_ask_91 : decode cX3_ask 91 = .ok (.aload 4, 2) := by decide +kernel
theorem dX3_ask_93 : decode cX3_ask 93 = .ok (.aload_n 0, 1) := by decide +kernel
theorem dX3_ask_94 : decode cX3_ask 94 = .ok (.getfield 56, 3) := by decide +kernel
theorem dX3_ask_97 : decode cX3_ask 97 = .ok (.aload_n 0, 1) := by decide +kernel
theorem dX3_ask_98 : decode cX3_ask 98 = .ok (.getfield 9, 3) := by decide +kernel
theorem dX3_ask_101 : decode cX3_ask 101 = .ok (.iconst 1, 1) := by decide +kernel
theorem dX3_ask_102 : decode cX3_ask 102 = .ok (.iaload, 1) := by decide +kernel
theorem dX3_ask_103 : decode cX3_ask 103 = .ok (.iadd, 1) := by decide +kernel
theorem dX3_ask_104 : decode cX3_ask 104 = .ok (.putfield 99, 3) := by decide +kernel
theorem dX3_ask_107 : decode cX3_ask 107 = .ok (.aload 4, 2) := by decide +kernel
theorem dX3_ask_109 : decode cX3_ask 109 = .ok (.iload_n 1, 1) := by decide +kernel
theorem dX3_ask_110 : decode cX3_ask 110 = .ok (.putfield 76, 3) := by decide +kernel
theorem dX3_ask_113 : decode cX3_ask 113 = .ok (.aload 4, 2) := by decide +kernel
theorem dX3_ask_115 : decode cX3_ask 115 = .ok (.dup, 1) := by decide +kernel
theorem dX3_ask_116 : decode cX3_ask 116 = .ok (.getfield 109, 3) := by decide +kernel
theorem dX3_ask_119 : decode cX3_ask 119 = .ok (.iconst 1, 1) := by decide +kernel
theorem dX3_ask_120 : decode cX3_ask 120 = .ok (.iadd, 1) := by decide +kernel
theorem dX3_ask_121 : decode cX3_ask 121 = .ok (.putfield 109, 3) := by decide +kernel
theorem dX3_ask_124 : decode cX3_ask 124 = .ok (.aload_n 2, 1) := by decide +kernel
theorem dX3_ask_125 : decode cX3_ask 125 = .ok (.iload_n 3, 1) := by decide +kernel
theorem dX3_ask_126 : decode cX3_ask 126 = .ok (.aload_n 0, 1) := by decide +kernel
theorem dX3_ask_127 : decode cX3_ask 127 = .ok (.getfield 56, 3) := by decide +kernel
theorem dX3_ask_130 : decode cX3_ask 130 = .ok (.invokevirtual 112, 3) := by decide +kernel
theorem dX3_ask_133 : decode cX3_ask 133 = .ok (.iconst 1, 1) := by decide +kernel
theorem dX3_ask_134 : decode cX3_ask 134 = .ok (.ireturn, 1) := by decide +kernel
theorem dX3_passAll_0 : decode cX3_passAll 0 = .ok (.aload_n 0, 1) := by decide +kernel
theorem dX3_passAll_1 : decode cX3_passAll 1 = .ok (.iconst 3, 1) := by decide +kernel
theorem dX3_passAll_2 : decode cX3_passAll 2 = .ok (.invokevirtual 116, 3) := by decide +kernel
theorem dX3_passAll_5 : decode cX3_passAll 5 = .ok (.istore_n 1, 1) := by decide +kernel
theorem dX3_passAll_6 : decode cX3_passAll 6 = .ok (.iconst 0, 1) := by decide +kernel
theorem dX3_passAll_7 : decode cX3_passAll 7 = .ok (.istore_n 2, 1) := by decide +kernel
theorem dX3_passAll_8 : decode cX3_passAll 8 = .ok (.iload_n 1, 1) := by decide +kernel
theorem dX3_passAll_9 : decode cX3_passAll 9 = .ok (.ifCond .le 22, 3) := by decide +kernel
theorem dX3_passAll_12 : decode cX3_passAll 12 = .ok (.iload_n 2, 1) := by decide +kernel
theorem dX3_passAll_13 : decode cX3_passAll 13 = .ok (.ldc 119, 2) := by decide +kernel
theorem dX3_passAll_15 : decode cX3_passAll 15 = .ok (.if_icmp .ge 16, 3) := by decide +kernel
theorem dX3_passAll_18 : decode cX3_passAll 18 = .ok (.iload_n 1, 1) := by decide +kernel
theorem dX3_passAll_19 : decode cX3_passAll 19 = .ok (.aload_n 0, 1) := by decide +kernel
theorem dX3_passAll_20 : decode cX3_passAll 20 = .ok (.invokevirtual 120, 3) := by decide +kernel
theorem dX3_passAll_23 : decode cX3_passAll 23 = .ok (.isub, 1) := by decide +kernel
theorem dX3_passAll_24 : decode cX3_passAll 24 = .ok (.istore_n 1, 1) := by decide +kernel
theorem dX3_passAll_25 : decode cX3_passAll 25 = .ok (.iinc 2 1, 3) := by decide +kernel
theorem dX3_passAll_28 : decode cX3_passAll 28 = .ok (.goto (-20), 3) := by decide +kernel
theorem dX3_passAll_31 : decode cX3_passAll 31 = .ok (.iload_n 2, 1) := by decide +kernel
theorem dX3_passAll_32 : decode cX3_passAll 32 = .ok (.ireturn, 1) := by decide +kernel
theorem dX3_lonelyCycles_0 : decode cX3_lonelyCycles 0 = .ok (.iconst 0, 1) := by decide +kernel
theorem dX3_lonelyCycles_1 : decode cX3_lonelyCycles 1 = .ok (.istore_n 3, 1) := by decide +kernel
theorem dX3_lonelyCycles_2 : decode cX3_lonelyCycles 2 = .ok (.aload_n 1, 1) := by decide +kernel
theorem dX3_lonelyCycles_3 : decode cX3_lonelyCycles 3 = .ok (.getfield 63, 3) := by decide +kernel
theorem dX3_lonelyCycles_6 : decode cX3_lonelyCycles 6 = .ok (.istore 4, 2) := by decide +kernel
theorem dX3_lonelyCycles_8 : decode cX3_lonelyCycles 8 = .ok (.iconst 0, 1) := by decide +kernel
theorem dX3_lonelyCycles_9 : decode cX3_lonelyCycles 9 = .ok (.istore 5, 2) := by decide +kernel
theorem dX3_lonelyCycles_11 : decode cX3_lonelyCycles 11 = .ok (.iload 5, 2) := by decide +kernel
theorem dX3_lonelyCycles_13 : decode cX3_lonelyCycles 13 = .ok (.aload_n 1, 1) := by decide +kernel
theorem dX3_lonelyCycles_14 : decode cX3_lonelyCycles 14 = .ok (.getfield 69, 3) := by decide +kernel
theorem dX3_lonelyCycles_17 : decode cX3_lonelyCycles 17 = .ok (.if_icmp .ge 62, 3) := by decide +kernel
theorem dX3_lonelyCycles_20 : decode cX3_lonelyCycles 20 = .ok (.aload_n 0, 1) := by decide +kernel
theorem dX3_lonelyCycles_21 : decode cX3_lonelyCycles 21 = .ok (.getfield 23, 3) := by decide +kernel
theorem dX3_lonelyCycles_24 : decode cX3_lonelyCycles 24 = .ok (.aload_n 0, 1) := by decide +kernel
theorem dX3_lonelyCycles_25 : decode cX3_lonelyCycles 25 = .ok (.iload 4, 2) := by decide +kernel
theorem dX3_lonelyCycles_27 : decode cX3_lonelyCycles 27 = .ok (.invokevirtual 96, 3) := by decide +kernel
theorem dX3_lonelyCycles_30 : decode cX3_lonelyCycles 30 = .ok (.aaload, 1) := by decide +kernel
theorem dX3_lonelyCycles_31 : decode cX3_lonelyCycles 31 = .ok (.astore 6, 2) := by decide +kernel
theorem dX3_lonelyCycles_33 : decode cX3_lonelyCycles 33 = .ok (.iload_n 3, 1) := by decide +kernel
theorem dX3_lonelyCycles_34 : decode cX3_lonelyCycles 34 = .ok (.aload 6, 2) := by decide +kernel
theorem dX3_lonelyCycles_36 : decode cX3_lonelyCycles 36 = .ok (.getfield 99, 3) := by decide +kernel
theorem dX3_lonelyCycles_39 : decode cX3_lonelyCycles 39 = .ok (.invokestatic 123, 3) := by decide +kernel
theorem dX3_lonelyCycles_42 : decode cX3_lonelyCycles 42 = .ok (.istore 7, 2) := by decide +kernel
theorem dX3_lonelyCycles_44 : decode cX3_lonelyCycles 44 = .ok (.aload 6, 2) := by decide +kernel
theorem dX3_lonelyCycles_46 : decode cX3_lonelyCycles 46 = .ok (.iload 7, 2) := by decide +kernel
theorem dX3_lonelyCycles_48 : decode cX3_lonelyCycles 48 = .ok (.aload_n 0, 1) := by decide +kernel
theorem dX3_lonelyCycles_49 : decode cX3_lonelyCycles 49 = .ok (.getfield 9, 3) := by decide +kernel
theorem dX3_lonelyCycles_52 : decode cX3_lonelyCycles 52 = .ok (.iconst 1, 1) := by decide +kernel
theorem dX3_lonelyCycles_53 : decode cX3_lonelyCycles 53 = .ok (.iaload, 1) := by decide +kernel
theorem dX3_lonelyCycles_54 : decode cX3_lonelyCycles 54 = .ok (.iadd, 1) := by decide +kernel
theorem dX3_lonelyCycles_55 : decode cX3_lonelyCycles 55 = .ok (.putfield 99, 3) := by decide +kernel
theorem dX3_lonelyCycles_58 : decode cX3_lonelyCycles 58 = .ok (.iload 7, 2) := by decide +kernel
theorem dX3_lonelyCycles_60 : decode cX3_lonelyCycles 60 = .ok (.iconst 1, 1) := by decide +kernel
theorem dX3_lonelyCycles_61 : decode cX3_lonelyCycles 61 = .ok (.iadd, 1) := by decide +kernel
theorem dX3_lonelyCycles_62 : decode cX3_lonelyCycles 62 = .ok (.istore_n 3, 1) := by decide +kernel
theorem dX3_lonelyCycles_63 : decode cX3_lonelyCycles 63 = .ok (.iload 4, 2) := by decide +kernel
theorem dX3_lonelyCycles_65 : decode cX3_lonelyCycles 65 = .ok (.iload_n 2, 1) := by decide +kernel
theorem dX3_lonelyCycles_66 : decode cX3_lonelyCycles 66 = .ok (.iadd, 1) := by decide +kernel
theorem dX3_lonelyCycles_67 : decode cX3_lonelyCycles 67 = .ok (.sipush 4096, 3) := by decide +kernel
theorem dX3_lonelyCycles_70 : decode cX3_lonelyCycles 70 = .ok (.irem, 1) := by decide +kernel
theorem dX3_lonelyCycles_71 : decode cX3_lonelyCycles 71 = .ok (.istore 4, 2) := by decide +kernel
theorem dX3_lonelyCycles_73 : decode cX3_lonelyCycles 73 = .ok (.iinc 5 1, 3) := by decide +kernel
theorem dX3_lonelyCycles_76 : decode cX3_lonelyCycles 76 = .ok (.goto (-65), 3) := by decide +kernel
theorem dX3_lonelyCycles_79 : decode cX3_lonelyCycles 79 = .ok (.iload_n 3, 1) := by decide +kernel
theorem dX3_lonelyCycles_80 : decode cX3_lonelyCycles 80 = .ok (.ireturn, 1) := by decide +kernel
theorem dX3_banksMet_0 : decode cX3_banksMet 0 = .ok (.iconst 0, 1) := by decide +kernel
theorem dX3_banksMet_1 : decode cX3_banksMet 1 = .ok (.istore_n 2, 1) := by decide +kernel
theorem dX3_banksMet_2 : decode cX3_banksMet 2 = .ok (.aload_n 1, 1) := by decide +kernel
theorem dX3_banksMet_3 : decode cX3_banksMet 3 = .ok (.getfield 63, 3) := by decide +kernel
theorem dX3_banksMet_6 : decode cX3_banksMet 6 = .ok (.istore_n 3, 1) := by decide +kernel
theorem dX3_banksMet_7 : decode cX3_banksMet 7 = .ok (.iconst 0, 1) := by decide +kernel
theorem dX3_banksMet_8 : decode cX3_banksMet 8 = .ok (.istore 4, 2) := by decide +kernel
theorem dX3_banksMet_10 : decode cX3_banksMet 10 = .ok (.iload 4, 2) := by decide +kernel
theorem dX3_banksMet_12 : decode cX3_banksMet 12 = .ok (.aload_n 1, 1) := by decide +kernel
theorem dX3_banksMet_13 : decode cX3_banksMet 13 = .ok (.getfield 69, 3) := by decide +kernel
theorem dX3_banksMet_16 : decode cX3_banksMet 16 = .ok (.if_icmp .ge 30, 3) := by decide +kernel
theorem dX3_banksMet_19 : decode cX3_banksMet 19 = .ok (.iload_n 2, 1) := by decide +kernel
theorem dX3_banksMet_20 : decode cX3_banksMet 20 = .ok (.iconst 1, 1) := by decide +kernel
theorem dX3_banksMet_21 : decode cX3_banksMet 21 = .ok (.aload_n 0, 1) := by decide +kernel
theorem dX3_banksMet_22 : decode cX3_banksMet 22 = .ok (.iload_n 3, 1) := by decide +kernel
theorem dX3_banksMet_23 : decode cX3_banksMet 23 = .ok (.invokevirtual 96, 3) := by decide +kernel
theorem dX3_banksMet_26 : decode cX3_banksMet 26 = .ok (.ishl, 1) := by decide +kernel
theorem dX3_banksMet_27 : decode cX3_banksMet 27 = .ok (.ior, 1) := by decide +kernel
theorem dX3_banksMet_28 : decode cX3_banksMet 28 = .ok (.istore_n 2, 1) := by decide +kernel
theorem dX3_banksMet_29 : decode cX3_banksMet 29 = .ok (.iload_n 3, 1) := by decide +kernel
theorem dX3_banksMet_30 : decode cX3_banksMet 30 = .ok (.aload_n 1, 1) := by decide +kernel
theorem dX3_banksMet_31 : decode cX3_banksMet 31 = .ok (.getfield 66, 3) := by decide +kernel
theorem dX3_banksMet_34 : decode cX3_banksMet 34 = .ok (.iadd, 1) := by decide +kernel
theorem dX3_banksMet_35 : decode cX3_banksMet 35 = .ok (.sipush 4096, 3) := by decide +kernel
theorem dX3_banksMet_38 : decode cX3_banksMet 38 = .ok (.irem, 1) := by decide +kernel
theorem dX3_banksMet_39 : decode cX3_banksMet 39 = .ok (.istore_n 3, 1) := by decide +kernel
theorem dX3_banksMet_40 : decode cX3_banksMet 40 = .ok (.iinc 4 1, 3) := by decide +kernel
theorem dX3_banksMet_43 : decode cX3_banksMet 43 = .ok (.goto (-33), 3) := by decide +kernel
theorem dX3_banksMet_46 : decode cX3_banksMet 46 = .ok (.iload_n 2, 1) := by decide +kernel
theorem dX3_banksMet_47 : decode cX3_banksMet 47 = .ok (.invokestatic 129, 3) := by decide +kernel
theorem dX3_banksMet_50 : decode cX3_banksMet 50 = .ok (.ireturn, 1) := by decide +kernel
theorem dX3_wordsLeftIn_0 : decode cX3_wordsLeftIn 0 = .ok (.iconst 0, 1) := by decide +kernel
theorem dX3_wordsLeftIn_1 : decode cX3_wordsLeftIn 1 = .ok (.istore_n 2, 1) := by decide +kernel
theorem dX3_wordsLeftIn_2 : decode cX3_wordsLeftIn 2 = .ok (.iconst 0, 1) := by decide +kernel
theorem dX3_wordsLeftIn_3 : decode cX3_wordsLeftIn 3 = .ok (.istore_n 3, 1) := by decide +kernel
theorem dX3_wordsLeftIn_4 : decode cX3_wordsLeftIn 4 = .ok (.iload_n 3, 1) := by decide +kernel
theorem dX3_wordsLeftIn_5 : decode cX3_wordsLeftIn 5 = .ok (.aload_n 0, 1) := by decide +kernel
theorem dX3_wordsLeftIn_6 : decode cX3_wordsLeftIn 6 = .ok (.getfield 52, 3) := by decide +kernel
theorem dX3_wordsLeftIn_9 : decode cX3_wordsLeftIn 9 = .ok (.if_icmp .ge 75, 3) := by decide +kernel
theorem dX3_wordsLeftIn_12 : decode cX3_wordsLeftIn 12 = .ok (.aload_n 0, 1) := by decide +kernel
theorem dX3_wordsLeftIn_13 : decode cX3_wordsLeftIn 13 = .ok (.getfield 17, 3) := by decide +kernel
theorem dX3_wordsLeftIn_16 : decode cX3_wordsLeftIn 16 = .ok (.iload_n 3, 1) := by decide +kernel
theorem dX3_wordsLeftIn_17 : decode cX3_wordsLeftIn 17 = .ok (.aaload, 1) := by decide +kernel
theorem dX3_wordsLeftIn_18 : decode cX3_wordsLeftIn 18 = .ok (.astore 4, 2) := by decide +kernel
theorem dX3_wordsLeftIn_20 : decode cX3_wordsLeftIn 20 = .ok (.aload 4, 2) := by decide +kernel
theorem dX3_wordsLeftIn_22 : decode cX3_wordsLeftIn 22 = .ok (.invokevirtual 93, 3) := by decide +kernel
theorem dX3_wordsLeftIn_25 : decode cX3_wordsLeftIn 25 = .ok (.istore 5, 2) := by decide +kernel
theorem dX3_wordsLeftIn_27 : decode cX3_wordsLeftIn 27 = .ok (.iconst 0, 1) := by decide +kernel
theorem dX3_wordsLeftIn_28 : decode cX3_wordsLeftIn 28 = .ok (.istore 6, 2) := by decide +kernel
theorem dX3_wordsLeftIn_30 : decode cX3_wordsLeftIn 30 = .ok (.iload 6, 2) := by decide +kernel
theorem dX3_wordsLeftIn_32 : decode cX3_wordsLeftIn 32 = .ok (.aload 4, 2) := by decide +kernel
theorem dX3_wordsLeftIn_34 : decode cX3_wordsLeftIn 34 = .ok (.getfield 90, 3) := by decide +kernel
theorem dX3_wordsLeftIn_37 : decode cX3_wordsLeftIn 37 = .ok (.if_icmp .ge 41, 3) := by decide +kernel
theorem dX3_wordsLeftIn_40 : decode cX3_wordsLeftIn 40 = .ok (.iload_n 2, 1) := by decide +kernel
theorem dX3_wordsLeftIn_41 : decode cX3_wordsLeftIn 41 = .ok (.aload_n 0, 1) := by decide +kernel
theorem dX3_wordsLeftIn_42 : decode cX3_wordsLeftIn 42 = .ok (.iload 5, 2) := by decide +kernel
theorem dX3_wordsLeftIn_44 : decode cX3_wordsLeftIn 44 = .ok (.invokevirtual 96, 3) := by decide +kernel
theorem dX3_wordsLeftIn_47 : decode cX3_wordsLeftIn 47 = .ok (.iload_n 1, 1) := by decide +kernel
theorem dX3_wordsLeftIn_48 : decode cX3_wordsLeftIn 48 = .ok (.if_icmp .ne 7, 3) := by decide +kernel
theorem dX3_wordsLeftIn_51 : decode cX3_wordsLeftIn 51 = .ok (.iconst 1, 1) := by decide +kernel
theorem dX3_wordsLeftIn_52 : decode cX3_wordsLeftIn 52 = .ok (.goto 4, 3) := by decide +kernel
theorem dX3_wordsLeftIn_55 : decode cX3_wordsLeftIn 55 = .ok (.iconst 0, 1) := by decide +kernel
theorem dX3_wordsLeftIn_56 : decode cX3_wordsLeftIn 56 = .ok (.iadd, 1) := by decide +kernel
theorem dX3_wordsLeftIn_57 : decode cX3_wordsLeftIn 57 = .ok (.istore_n 2, 1) := by decide +kernel
theorem dX3_wordsLeftIn_58 : decode cX3_wordsLeftIn 58 = .ok (.iload 5, 2) := by decide +kernel
theorem dX3_wordsLeftIn_60 : decode cX3_wordsLeftIn 60 = .ok (.aload 4, 2) := by decide +kernel
theorem dX3_wordsLeftIn_62 : decode cX3_wordsLeftIn 62 = .ok (.getfield 66, 3) := by decide +kernel
theorem dX3_wordsLeftIn_65 : decode cX3_wordsLeftIn 65 = .ok (.iadd, 1) := by decide +kernel
theorem dX3_wordsLeftIn_66 : decode cX3_wordsLeftIn 66 = .ok (.sipush 4096, 3) := by decide +kernel
theorem dX3_wordsLeftIn_69 : decode cX3_wordsLeftIn 69 = .ok (.irem, 1) := by decide +kernel
theorem dX3_wordsLeftIn_70 : decode cX3_wordsLeftIn 70 = .ok (.istore 5, 2) := by decide +kernel
theorem dX3_wordsLeftIn_72 : decode cX3_wordsLeftIn 72 = .ok (.iinc 6 1, 3) := by decide +kernel
theorem dX3_wordsLeftIn_75 : decode cX3_wordsLeftIn 75 = .ok (.goto (-45), 3) := by decide +kernel
theorem dX3_wordsLeftIn_78 : decode cX3_wordsLeftIn 78 = .ok (.iinc 3 1, 3) := by decide +kernel
theorem dX3_wordsLeftIn_81 : decode cX3_wordsLeftIn 81 = .ok (.goto (-77), 3) := by decide +kernel
theorem dX3_wordsLeftIn_84 : decode cX3_wordsLeftIn 84 = .ok (.iload_n 2, 1) := by decide +kernel
theorem dX3_wordsLeftIn_85 : decode cX3_wordsLeftIn 85 = .ok (.ireturn, 1) := by decide +kernel
theorem dX3_total_0 : decode cX3_total 0 = .ok (.iconst 0, 1) := by decide +kernel
theorem dX3_total_1 : decode cX3_total 1 = .ok (.istore_n 2, 1) := by decide +kernel
theorem dX3_total_2 : decode cX3_total 2 = .ok (.iconst 0, 1) := by decide +kernel
theorem dX3_total_3 : decode cX3_total 3 = .ok (.istore_n 3, 1) := by decide +kernel
theorem dX3_total_4 : decode cX3_total 4 = .ok (.iload_n 3, 1) := by decide +kernel
theorem dX3_total_5 : decode cX3_total 5 = .ok (.aload_n 0, 1) := by decide +kernel
theorem dX3_total_6 : decode cX3_total 6 = .ok (.getfield 52, 3) := by decide +kernel
theorem dX3_total_9 : decode cX3_total 9 = .ok (.if_icmp .ge 22, 3) := by decide +kernel
theorem dX3_total_12 : decode cX3_total 12 = .ok (.iload_n 2, 1) := by decide +kernel
theorem dX3_total_13 : decode cX3_total 13 = .ok (.aload_n 0, 1) := by decide +kernel
theorem dX3_total_14 : decode cX3_total 14 = .ok (.getfield 17, 3) := by decide +kernel
theorem dX3_total_17 : decode cX3_total 17 = .ok (.iload_n 3, 1) := by decide +kernel
theorem dX3_total_18 : decode cX3_total 18 = .ok (.aaload, 1) := by decide +kernel
theorem dX3_total_19 : decode cX3_total 19 = .ok (.iload_n 1, 1) := by decide +kernel
theorem dX3_total_20 : decode cX3_total 20 = .ok (.invokevirtual 134, 3) := by decide +kernel
theorem dX3_total_23 : decode cX3_total 23 = .ok (.iadd, 1) := by decide +kernel
theorem dX3_total_24 : decode cX3_total 24 = .ok (.istore_n 2, 1) := by decide +kernel
theorem dX3_total_25 : decode cX3_total 25 = .ok (.iinc 3 1, 3) := by decide +kernel
theorem dX3_total_28 : decode cX3_total 28 = .ok (.goto (-24), 3) := by decide +kernel
theorem dX3_total_31 : decode cX3_total 31 = .ok (.iload_n 2, 1) := by decide +kernel
theorem dX3_total_32 : decode cX3_total 32 = .ok (.ireturn, 1) := by decide +kernel
theorem dX3_busyBanks_0 : decode cX3_busyBanks 0 = .ok (.iconst 0, 1) := by decide +kernel
theorem dX3_busyBanks_1 : decode cX3_busyBanks 1 = .ok (.istore_n 1, 1) := by decide +kernel
theorem dX3_busyBanks_2 : decode cX3_busyBanks 2 = .ok (.iconst 0, 1) := by decide +kernel
theorem dX3_busyBanks_3 : decode cX3_busyBanks 3 = .ok (.istore_n 2, 1) := by decide +kernel
theorem dX3_busyBanks_4 : decode cX3_busyBanks 4 = .ok (.iload_n 2, 1) := by decide +kernel
theorem dX3_busyBanks_5 : decode cX3_busyBanks 5 = .ok (.bipush 16, 2) := by decide +kernel
theorem dX3_busyBanks_7 : decode cX3_busyBanks 7 = .ok (.if_icmp .ge 33, 3) := by decide +kernel
theorem dX3_busyBanks_10 : decode cX3_busyBanks 10 = .ok (.iload_n 1, 1) := by decide +kernel
theorem dX3_busyBanks_11 : decode cX3_busyBanks 11 = .ok (.aload_n 0, 1) := by decide +kernel
theorem dX3_busyBanks_12 : decode cX3_busyBanks 12 = .ok (.getfield 23, 3) := by decide +kernel
theorem dX3_busyBanks_15 : decode cX3_busyBanks 15 = .ok (.iload_n 2, 1) := by decide +kernel
theorem dX3_busyBanks_16 : decode cX3_busyBanks 16 = .ok (.aaload, 1) := by decide +kernel
theorem dX3_busyBanks_17 : decode cX3_busyBanks 17 = .ok (.getfield 99, 3) := by decide +kernel
theorem dX3_busyBanks_20 : decode cX3_busyBanks 20 = .ok (.aload_n 0, 1) := by decide +kernel
theorem dX3_busyBanks_21 : decode cX3_busyBanks 21 = .ok (.getfield 56, 3) := by decide +kernel
theorem dX3_busyBanks_24 : decode cX3_busyBanks 24 = .ok (.if_icmp .le 7, 3) := by decide +kernel
theorem dX3_busyBanks_27 : decode cX3_busyBanks 27 = .ok (.iconst 1, 1) := by decide +kernel
theorem dX3_busyBanks_28 : decode cX3_busyBanks 28 = .ok (.goto 4, 3) := by decide +kernel
theorem dX3_busyBanks_31 : decode cX3_busyBanks 31 = .ok (.iconst 0, 1) := by decide +kernel
theorem dX3_busyBanks_32 : decode cX3_busyBanks 32 = .ok (.iadd, 1) := by decide +kernel
theorem dX3_busyBanks_33 : decode cX3_busyBanks 33 = .ok (.istore_n 1, 1) := by decide +kernel
theorem dX3_busyBanks_34 : decode cX3_busyBanks 34 = .ok (.iinc 2 1, 3) := by decide +kernel
theorem dX3_busyBanks_37 : decode cX3_busyBanks 37 = .ok (.goto (-33), 3) := by decide +kernel
theorem dX3_busyBanks_40 : decode cX3_busyBanks 40 = .ok (.iload_n 1, 1) := by decide +kernel
theorem dX3_busyBanks_41 : decode cX3_busyBanks 41 = .ok (.ireturn, 1) := by decide +kernel
theorem dX4_init_0 : decode cX4_init 0 = .ok (.aload_n 0, 1) := by decide +kernel
theorem dX4_init_1 : decode cX4_init 1 = .ok (.invokespecial 3, 3) := by decide +kernel
theorem dX4_init_4 : decode cX4_init 4 = .ok (.return_, 1) := by decide +kernel
theorem dX4_beginAnew_0 : decode cX4_beginAnew 0 = .ok (.aload_n 0, 1) := by decide +kernel
theorem dX4_beginAnew_1 : decode cX4_beginAnew 1 = .ok (.aload_n 0, 1) := by decide +kernel
theorem dX4_beginAnew_2 : decode cX4_beginAnew 2 = .ok (.getfield 9, 3) := by decide +kernel
theorem dX4_beginAnew_5 : decode cX4_beginAnew 5 = .ok (.putfield 15, 3) := by decide +kernel
theorem dX4_beginAnew_8 : decode cX4_beginAnew 8 = .ok (.aload_n 0, 1) := by decide +kernel
theorem dX4_beginAnew_9 : decode cX4_beginAnew 9 = .ok (.aload_n 0, 1) := by decide +kernel
theorem dX4_beginAnew_10 : decode cX4_beginAnew 10 = .ok (.getfield 18, 3) := by decide +kernel
theorem dX4_beginAnew_13 : decode cX4_beginAnew 13 = .ok (.putfield 21, 3) := by decide +kernel
theorem dX4_beginAnew_16 : decode cX4_beginAnew 16 = .ok (.aload_n 0, 1) := by decide +kernel
theorem dX4_beginAnew_17 : decode cX4_beginAnew 17 = .ok (.iconst 0, 1) := by decide +kernel
theorem dX4_beginAnew_18 : decode cX4_beginAnew 18 = .ok (.putfield 24, 3) := by decide +kernel
theorem dX4_beginAnew_21 : decode cX4_beginAnew 21 = .ok (.aload_n 0, 1) := by decide +kernel
theorem dX4_beginAnew_22 : decode cX4_beginAnew 22 = .ok (.iconst 0, 1) := by decide +kernel
theorem dX4_beginAnew_23 : decode cX4_beginAnew 23 = .ok (.putfield 27, 3) := by decide +kernel
theorem dX4_beginAnew_26 : decode cX4_beginAnew 26 = .ok (.aload_n 0, 1) := by decide +kernel
theorem dX4_beginAnew_27 : decode cX4_beginAnew 27 = .ok (.bipush (-6), 2) := by decide +kernel
theorem dX4_beginAnew_29 : decode cX4_beginAnew 29 = .ok (.putfield 30, 3) := by decide +kernel
theorem dX4_beginAnew_32 : decode cX4_beginAnew 32 = .ok (.return_, 1) := by decide +kernel
theorem dX4_copy_0 : decode cX4_copy 0 = .ok (.aload_n 0, 1) := by decide +kernel
theorem dX4_copy_1 : decode cX4_copy 1 = .ok (.aload_n 1, 1) := by decide +kernel
theorem dX4_copy_2 : decode cX4_copy 2 = .ok (.getfield 18, 3) := by decide +kernel
theorem dX4_copy_5 : decode cX4_copy 5 = .ok (.putfield 18, 3) := by decide +kernel
theorem dX4_copy_8 : decode cX4_copy 8 = .ok (.aload_n 0, 1) := by decide +kernel
theorem dX4_copy_9 : decode cX4_copy 9 = .ok (.aload_n 1, 1) := by decide +kernel
theorem dX4_copy_10 : decode cX4_copy 10 = .ok (.getfield 33, 3) := by decide +kernel
theorem dX4_copy_13 : decode cX4_copy 13 = .ok (.putfield 33, 3) := by decide +kernel
theorem dX4_copy_16 : decode cX4_copy 16 = .ok (.aload_n 0, 1) := by decide +kernel
theorem dX4_copy_17 : decode cX4_copy 17 = .ok (.aload_n 1, 1) := by decide +kernel
theorem dX4_copy_18 : decode cX4_copy 18 = .ok (.getfield 9, 3) := by decide +kernel
theorem dX4_copy_21 : decode cX4_copy 21 = .ok (.putfield 9, 3) := by decide +kernel
theorem dX4_copy_24 : decode cX4_copy 24 = .ok (.aload_n 0, 1) := by decide +kernel
theorem dX4_copy_25 : decode cX4_copy 25 = .ok (.aload_n 1, 1) := by decide +kernel
theorem dX4_copy_26 : decode cX4_copy 26 = .ok (.getfield 15, 3) := by decide +kernel
theorem dX4_copy_29 : decode cX4_copy 29 = .ok (.putfield 15, 3) := by decide +kernel
theorem dX4_copy_32 : decode cX4_copy 32 = .ok (.aload_n 0, 1) := by decide +kernel
theorem dX4_copy_33 : decode cX4_copy 33 = .ok (.aload_n 1, 1) := by decide +kernel
theorem dX4_copy_34 : decode cX4_copy 34 = .ok (.getfield 21, 3) := by decide +kernel
theorem dX4_copy_37 : decode cX4_copy 37 = .ok (.putfield 21, 3) := by decide +kernel
theorem dX4_copy_40 : decode cX4_copy 40 = .ok (.aload_n 0, 1) := by decide +kernel
theorem dX4_copy_41 : decode cX4_copy 41 = .ok (.aload_n 1, 1) := by decide +kernel
theorem dX4_copy_42 : decode cX4_copy 42 = .ok (.getfield 24, 3) := by decide +kernel
theorem dX4_copy_45 : decode cX4_copy 45 = .ok (.putfield 24, 3) := by decide +kernel
theorem dX4_copy_48 : decode cX4_copy 48 = .ok (.aload_n 0, 1) := by decide +kernel
theorem dX4_copy_49 : decode cX4_copy 49 = .ok (.aload_n 1, 1) := by decide +kernel
theorem dX4_copy_50 : decode cX4_copy 50 = .ok (.getfield 27, 3) := by decide +kernel
theorem dX4_copy_53 : decode cX4_copy 53 = .ok (.putfield 27, 3) := by decide +kernel
theorem dX4_copy_56 : decode cX4_copy 56 = .ok (.aload_n 0, 1) := by decide +kernel
theorem dX4_copy_57 : decode cX4_copy 57 = .ok (.aload_n 1, 1) := by decide +kernel
theorem dX4_copy_58 : decode cX4_copy 58 = .ok (.getfield 30, 3) := by decide +kernel
theorem dX4_copy_61 : decode cX4_copy 61 = .ok (.putfield 30, 3) := by decide +kernel
theorem dX4_copy_64 : decode cX4_copy 64 = .ok (.return_, 1) := by decide +kernel
theorem dX4_tell_0 : decode cX4_tell 0 = .ok (.iload_n 1, 1) := by decide +kernel
theorem dX4_tell_1 : decode cX4_tell 1 = .ok (.tableswitch 99 0 7 #[47, 52, 57, 62, 67, 84, 89, 94], 47) := by decide +kernel
theorem dX4_tell_48 : decode cX4_tell 48 = .ok (.aload_n 0, 1) := by decide +kernel
theorem dX4_tell_49 : decode cX4_tell 49 = .ok (.getfield 18, 3) := by decide +kernel
theorem dX4_tell_52 : decode cX4_tell 52 = .ok (.ireturn, 1) := by decide +kernel
theorem dX4_tell_53 : decode cX4_tell 53 = .ok (.aload_n 0, 1) := by decide +kernel
theorem dX4_tell_54 : decode cX4_tell 54 = .ok (.getfield 33, 3) := by decide +kernel
theorem dX4_tell_57 : decode cX4_tell 57 = .ok (.ireturn, 1) := by decide +kernel
theorem dX4_tell_58 : decode cX4_tell 58 = .ok (.aload_n 0, 1) := by decide +kernel
theorem dX4_tell_59 : decode cX4_tell 59 = .ok (.getfield 9, 3) := by decide +kernel
theorem dX4_tell_62 : decode cX4_tell 62 = .ok (.ireturn, 1) := by decide +kernel
theorem dX4_tell_63 : decode cX4_tell 63 = .ok (.aload_n 0, 1) := by decide +kernel
theorem dX4_tell_64 : decode cX4_tell 64 = .ok (.getfield 15, 3) := by decide +kernel
theorem dX4_tell_67 : decode cX4_tell 67 = .ok (.ireturn, 1) := by decide +kernel
theorem dX4_tell_68 : decode cX4_tell 68 = .ok (.aload_n 0, 1) := by decide +kernel
theorem dX4_tell_69 : decode cX4_tell 69 = .ok (.getfield 15, 3) := by decide +kernel
theorem dX4_tell_72 : decode cX4_tell 72 = .ok (.ifCond .le 10, 3) := by decide +kernel
theorem dX4_tell_75 : decode cX4_tell 75 = .ok (.aload_n 0, 1) := by decide +kernel
theorem dX4_tell_76 : decode cX4_tell 76 = .ok (.invokevirtual 36, 3) := by decide +kernel
theorem dX4_tell_79 : decode cX4_tell 79 = .ok (.goto 5, 3) := by decide +kernel
theorem dX4_tell_82 : decode cX4_tell 82 = .ok (.bipush (-6), 2) := by decide +kernel
theorem dX4_tell_84 : decode cX4_tell 84 = .ok (.ireturn, 1) := by decide +kernel
theorem dX4_tell_85 : decode cX4_tell 85 = .ok (.aload_n 0, 1) := by decide +kernel
theorem dX4_tell_86 : decode cX4_tell 86 = .ok (.getfield 24, 3) := by decide +kernel
theorem dX4_tell_89 : decode cX4_tell 89 = .ok (.ireturn, 1) := by decide +kernel
theorem dX4_tell_90 : decode cX4_tell 90 = .ok (.aload_n 0, 1) := by decide +kernel
theorem dX4_tell_91 : decode cX4_tell 91 = .ok (.getfield 27, 3) := by decide +kernel
theorem dX4_tell_94 : decode cX4_tell 94 = .ok (.ireturn, 1) := by decide +kernel
theorem dX4_tell_95 : decode cX4_tell 95 = .ok (.aload_n 0, 1) := by decide +kernel
theorem dX4_tell_96 : decode cX4_tell 96 = .ok (.getfield 30, 3) := by decide +kernel
theorem dX4_tell_99 : decode cX4_tell 99 = .ok (.ireturn, 1) := by decide +kernel
theorem dX4_tell_100 : decode cX4_tell 100 = .ok (.bipush (-2), 2) := by decide +kernel
theorem dX4_tell_102 : decode cX4_tell 102 = .ok (.ireturn, 1) := by decide +kernel
theorem dX4_nextAddress_0 : decode cX4_nextAddress 0 = .ok (.aload_n 0, 1) := by decide +kernel
theorem dX4_nextAddress_1 : decode cX4_nextAddress 1 = .ok (.getfield 15, 3) := by decide +kernel
theorem dX4_nextAddress_4 : decode cX4_nextAddress 4 = .ok (.aload_n 0, 1) := by decide +kernel
theorem dX4_nextAddress_5 : decode cX4_nextAddress 5 = .ok (.getfield 9, 3) := by decide +kernel
theorem dX4_nextAddress_8 : decode cX4_nextAddress 8 = .ok (.if_icmp .ne 10, 3) := by decide +kernel
theorem dX4_nextAddress_11 : decode cX4_nextAddress 11 = .ok (.aload_n 0, 1) := by decide +kernel
theorem dX4_nextAddress_12 : decode cX4_nextAddress 12 = .ok (.getfield 18, 3) := by decide +kernel
theorem dX4_nextAddress_15 : decode cX4_nextAddress 15 = .ok (.goto 16, 3) := by decide +kernel
theorem dX4_nextAddress_18 : decode cX4_nextAddress 18 = .ok (.aload_n 0, 1) := by decide +kernel
theorem dX4_nextAddress_19 : decode cX4_nextAddress 19 = .ok (.getfield 21, 3) := by decide +kernel
theorem dX4_nextAddress_22 : decode cX4_nextAddress 22 = .ok (.aload_n 0, 1) := by decide +kernel
theorem dX4_nextAddress_23 : decode cX4_nextAddress 23 = .ok (.getfield 33, 3) := by decide +kernel
theorem dX4_nextAddress_26 : decode cX4_nextAddress 26 = .ok (.iadd, 1) := by decide +kernel
theorem dX4_nextAddress_27 : decode cX4_nextAddress 27 = .ok (.sipush 4096, 3) := by decide +kernel
theorem dX4_nextAddress_30 : decode cX4_nextAddress 30 = .ok (.irem, 1) := by decide +kernel
theorem dX4_nextAddress_31 : decode cX4_nextAddress 31 = .ok (.ireturn, 1) := by decide +kernel
theorem dX4_finishRequest_0 : decode cX4_finishRequest 0 = .ok (.aload_n 0, 1) := by decide +kernel
theorem dX4_finishRequest_1 : decode cX4_finishRequest 1 = .ok (.iload_n 1, 1) := by decide +kernel
theorem dX4_finishRequest_2 : decode cX4_finishRequest 2 = .ok (.putfield 21, 3) := by decide +kernel
theorem dX4_finishRequest_5 : decode cX4_finishRequest 5 = .ok (.aload_n 0, 1) := by decide +kernel
theorem dX4_finishRequest_6 : decode cX4_finishRequest 6 = .ok (.dup, 1) := by decide +kernel
theorem dX4_finishRequest_7 : decode cX4_finishRequest 7 = .ok (.getfield 15, 3) := by decide +kernel
theorem dX4_finishRequest_10 : decode cX4_finishRequest 10 = .ok (.iconst 1, 1) := by decide +kernel
theorem dX4_finishRequest_11 : decode cX4_finishRequest 11 = .ok (.isub, 1) := by decide +kernel
theorem dX4_finishRequest_12 : decode cX4_finishRequest 12 = .ok (.putfield 15, 3) := by decide +kernel
theorem dX4_finishRequest_15 : decode cX4_finishRequest 15 = .ok (.aload_n 0, 1) := by decide +kernel
theorem dX4_finishRequest_16 : decode cX4_finishRequest 16 = .ok (.getfield 15, 3) := by decide +kernel
theorem dX4_finishRequest_19 : decode cX4_finishRequest 19 = .ok (.ifCond .ne 8, 3) := by decide +kernel
theorem dX4_finishRequest_22 : decode cX4_finishRequest 22 = .ok (.aload_n 0, 1) := by decide +kernel
theorem dX4_finishRequest_23 : decode cX4_finishRequest 23 = .ok (.iload_n 2, 1) := by decide +kernel
theorem dX4_finishRequest_24 : decode cX4_finishRequest 24 = .ok (.putfield 30, 3) := by decide +kernel
theorem dX4_finishRequest_27 : decode cX4_finishRequest 27 = .ok (.return_, 1) := by decide +kernel
theorem dX5_init_0 : decode cX5_init 0 = .ok (.aload_n 0, 1) := by decide +kernel
theorem dX5_init_1 : decode cX5_init 1 = .ok (.invokespecial 1, 3) := by decide +kernel
theorem dX5_init_4 : decode cX5_init 4 = .ok (.aload_n 0, 1) := by decide +kernel
theorem dX5_init_5 : decode cX5_init 5 = .ok (.new 7, 3) := by decide +kernel
theorem dX5_init_8 : decode cX5_init 8 = .ok (.dup, 1) := by decide +kernel
theorem dX5_init_9 : decode cX5_init 9 = .ok (.invokespecial 9, 3) := by decide +kernel
theorem dX5_init_12 : decode cX5_init 12 = .ok (.putfield 10, 3) := by decide +kernel
theorem dX5_init_15 : decode cX5_init 15 = .ok (.aload_n 0, 1) := by decide +kernel
theorem dX5_init_16 : decode cX5_init 16 = .ok (.new 7, 3) := by decide +kernel
theorem dX5_init_19 : decode cX5_init 19 = .ok (.dup, 1) := by decide +kernel
theorem dX5_init_20 : decode cX5_init 20 = .ok (.invokespecial 9, 3) := by decide +kernel
theorem dX5_init_23 : decode cX5_init 23 = .ok (.putfield 16, 3) := by decide +kernel
theorem dX5_init_26 : decode cX5_init 26 = .ok (.aload_n 0, 1) := by decide +kernel
theorem dX5_init_27 : decode cX5_init 27 = .ok (.new 19, 3) := by decide +kernel
theorem dX5_init_30 : decode cX5_init 30 = .ok (.dup, 1) := by decide +kernel
theorem dX5_init_31 : decode cX5_init 31 = .ok (.invokespecial 21, 3) := by decide +kernel
theorem dX5_init_34 : decode cX5_init 34 = .ok (.putfield 22, 3) := by decide +kernel
theorem dX5_init_37 : decode cX5_init 37 = .ok (.aload_n 0, 1) := by decide +kernel
theorem dX5_init_38 : decode cX5_init 38 = .ok (.iconst 2, 1) := by decide +kernel
theorem dX5_init_39 : decode cX5_init 39 = .ok (.anewarray 7, 3) := by decide +kernel
theorem dX5_init_42 : decode cX5_init 42 = .ok (.putfield 26, 3) := by decide +kernel
theorem dX5_init_45 : decode cX5_init 45 = .ok (.aload_n 0, 1) := by decide +kernel
theorem dX5_init_46 : decode cX5_init 46 = .ok (.iconst 2, 1) := by decide +kernel
theorem dX5_init_47 : decode cX5_init 47 = .ok (.newarray .boolean, 2) := by decide +kernel
theorem dX5_init_49 : decode cX5_init 49 = .ok (.putfield 30, 3) := by decide +kernel
theorem dX5_init_52 : decode cX5_init 52 = .ok (.aload_n 0, 1) := by decide +kernel
theorem dX5_init_53 : decode cX5_init 53 = .ok (.new 34, 3) := by decide +kernel
theorem dX5_init_56 : decode cX5_init 56 = .ok (.dup, 1) := by decide +kernel
theorem dX5_init_57 : decode cX5_init 57 = .ok (.invokespecial 36, 3) := by decide +kernel
theorem dX5_init_60 : decode cX5_init 60 = .ok (.putfield 37, 3) := by decide +kernel
theorem dX5_init_63 : decode cX5_init 63 = .ok (.iconst 0, 1) := by decide +kernel
theorem dX5_init_64 : decode cX5_init 64 = .ok (.istore_n 1, 1) := by decide +kernel
theorem dX5_init_65 : decode cX5_init 65 = .ok (.iload_n 1, 1) := by decide +kernel
theorem dX5_init_66 : decode cX5_init 66 = .ok (.iconst 2, 1) := by decide +kernel
theorem dX5_init_67 : decode cX5_init 67 = .ok (.if_icmp .ge 22, 3) := by decide +kernel
theorem dX5_init_70 : decode cX5_init 70 = .ok (.aload_n 0, 1) := by decide +kernel
theorem dX5_init_71 : decode cX5_init 71 = .ok (.getfield 26, 3) := by decide +kernel
theorem dX5_init_74 : decode cX5_init 74 = .ok (.iload_n 1, 1) := by decide +kernel
theorem dX5_init_75 : decode cX5_init 75 = .ok (.new 7, 3) := by decide +kernel
theorem dX5_init_78 : decode cX5_init 78 = .ok (.dup, 1) := by decide +kernel
theorem dX5_init_79 : decode cX5_init 79 = .ok (.invokespecial 9, 3) := by decide +kernel
theorem dX5_init_82 : decode cX5_init 82 = .ok (.aastore, 1) := by decide +kernel
theorem dX5_init_83 : decode cX5_init 83 = .ok (.iinc 1 1, 3) := by decide +kernel
theorem dX5_init_86 : decode cX5_init 86 = .ok (.goto (-21), 3) := by decide +kernel
theorem dX5_init_89 : decode cX5_init 89 = .ok (.return_, 1) := by decide +kernel
theorem dX5_set_0 : decode cX5_set 0 = .ok (.iload_n 1, 1) := by decide +kernel
theorem dX5_set_1 : decode cX5_set 1 = .ok (.iconst 0, 1) := by decide +kernel
theorem dX5_set_2 : decode cX5_set 2 = .ok (.iconst 3, 1) := by decide +kernel
theorem dX5_set_3 : decode cX5_set 3 = .ok (.invokestatic 41, 3) := by decide +kernel
theorem dX5_set_6 : decode cX5_set 6 = .ok (.ifCond .ne 6, 3) := by decide +kernel
theorem dX5_set_9 : decode cX5_set 9 = .ok (.bipush (-2), 2) := by decide +kernel
theorem dX5_set_11 : decode cX5_set 11 = .ok (.ireturn, 1) := by decide +kernel
theorem dX5_set_12 : decode cX5_set 12 = .ok (.iload_n 2, 1) := by decide +kernel
theorem dX5_set_13 : decode cX5_set 13 = .ok (.getstatic 45, 3) := by decide +kernel
theorem dX5_set_16 : decode cX5_set 16 = .ok (.iload_n 1, 1) := by decide +kernel
theorem dX5_set_17 : decode cX5_set 17 = .ok (.iaload, 1) := by decide +kernel
theorem dX5_set_18 : decode cX5_set 18 = .ok (.getstatic 49, 3) := by decide +kernel
theorem dX5_set_21 : decode cX5_set 21 = .ok (.iload_n 1, 1) := by decide +kernel
theorem dX5_set_22 : decode cX5_set 22 = .ok (.iaload, 1) := by decide +kernel
theorem dX5_set_23 : decode cX5_set 23 = .ok (.invokestatic 41, 3) := by decide +kernel
theorem dX5_set_26 : decode cX5_set 26 = .ok (.ifCond .ne 6, 3) := by decide +kernel
theorem dX5_set_29 : decode cX5_set 29 = .ok (.bipush (-2), 2) := by decide +kernel
theorem dX5_set_31 : decode cX5_set 31 = .ok (.ireturn, 1) := by decide +kernel
theorem dX5_set_32 : decode cX5_set 32 = .ok (.aload_n 0, 1) := by decide +kernel
theorem dX5_set_33 : decode cX5_set 33 = .ok (.getfield 22, 3) := by decide +kernel
theorem dX5_set_36 : decode cX5_set 36 = .ok (.aload_n 0, 1) := by decide +kernel
theorem dX5_set_37 : decode cX5_set 37 = .ok (.getfield 10, 3) := by decide +kernel
theorem dX5_set_40 : decode cX5_set 40 = .ok (.invokevirtual 52, 3) := by decide +kernel
theorem dX5_set_43 : decode cX5_set 43 = .ok (.aload_n 0, 1) := by decide +kernel
theorem dX5_set_44 : decode cX5_set 44 = .ok (.getfield 10, 3) := by decide +kernel
theorem dX5_set_47 : decode cX5_set 47 = .ok (.getfield 56, 3) := by decide +kernel
theorem dX5_set_50 : decode cX5_set 50 = .ok (.iload_n 1, 1) := by decide +kernel
theorem dX5_set_51 : decode cX5_set 51 = .ok (.iaload, 1) := by decide +kernel
theorem dX5_set_52 : decode cX5_set 52 = .ok (.istore_n 3, 1) := by decide +kernel
theorem dX5_set_53 : decode cX5_set 53 = .ok (.aload_n 0, 1) := by decide +kernel
theorem dX5_set_54 : decode cX5_set 54 = .ok (.getfield 10, 3) := by decide +kernel
theorem dX5_set_57 : decode cX5_set 57 = .ok (.getfield 56, 3) := by decide +kernel
theorem dX5_set_60 : decode cX5_set 60 = .ok (.iload_n 1, 1) := by decide +kernel
theorem dX5_set_61 : decode cX5_set 61 = .ok (.iload_n 2, 1) := by decide +kernel
theorem dX5_set_62 : decode cX5_set 62 = .ok (.iastore, 1) := by decide +kernel
theorem dX5_set_63 : decode cX5_set 63 = .ok (.aload_n 0, 1) := by decide +kernel
theorem dX5_set_64 : decode cX5_set 64 = .ok (.getfield 10, 3) := by decide +kernel
theorem dX5_set_67 : decode cX5_set 67 = .ok (.invokevirtual 59, 3) := by decide +kernel
theorem dX5_set_70 : decode cX5_set 70 = .ok (.iload_n 3, 1) := by decide +kernel
theorem dX5_set_71 : decode cX5_set 71 = .ok (.ireturn, 1) := by decide +kernel
theorem dX5_add_0 : decode cX5_add 0 = .ok (.iload_n 1, 1) := by decide +kernel
theorem dX5_add_1 : decode cX5_add 1 = .ok (.iconst 0, 1) := by decide +kernel
theorem dX5_add_2 : decode cX5_add 2 = .ok (.sipush 4095, 3) := by decide +kernel
theorem dX5_add_5 : decode cX5_add 5 = .ok (.invokestatic 41, 3) := by decide +kernel
theorem dX5_add_8 : decode cX5_add 8 = .ok (.ifCond .eq 25, 3) := by decide +kernel
theorem dX5_add_11 : decode cX5_add 11 = .ok (.iload_n 2, 1) := by decide +kernel
theorem dX5_add_12 : decode cX5_add 12 = .ok (.iconst 0, 1) := by decide +kernel
theorem dX5_add_13 : decode cX5_add 13 = .ok (.sipush 1023, 3) := by decide +kernel
theorem dX5_add_16 : decode cX5_add 16 = .ok (.invokestatic 41, 3) := by decide +kernel
theorem dX5_add_19 : decode cX5_add 19 = .ok (.ifCond .eq 14, 3) := by decide +kernel
theorem dX5_add_22 : decode cX5_add 22 = .ok (.iload_n 3, 1) := by decide +kernel
theorem dX5_add_23 : decode cX5_add 23 = .ok (.iconst 1, 1) := by decide +kernel
theorem dX5_add_24 : decode cX5_add 24 = .ok (.sipush 200, 3) := by decide +kernel
theorem dX5_add_27 : decode cX5_add 27 = .ok (.invokestatic 41, 3) := by decide +kernel
theorem dX5_add_30 : decode cX5_add 30 = .ok (.ifCond .ne 6, 3) := by decide +kernel
theorem dX5_add_33 : decode cX5_add 33 = .ok (.bipush (-2), 2) := by decide +kernel
theorem dX5_add_35 : decode cX5_add 35 = .ok (.ireturn, 1) := by decide +kernel
theorem dX5_add_36 : decode cX5_add 36 = .ok (.aload_n 0, 1) := by decide +kernel
theorem dX5_add_37 : decode cX5_add 37 = .ok (.getfield 10, 3) := by decide +kernel
theorem dX5_add_40 : decode cX5_add 40 = .ok (.getfield 62, 3) := by decide +kernel
theorem dX5_add_43 : decode cX5_add 43 = .ok (.iconst 4, 1) := by decide +kernel
theorem dX5_add_44 : decode cX5_add 44 = .ok (.if_icmp .lt 6, 3) := by decide +kernel
theorem dX5_add_47 : decode cX5_add 47 = .ok (.bipush (-4), 2) := by decide +kernel
theorem dX5_add_49 : decode cX5_add 49 = .ok (.ireturn, 1) := by decide +kernel
theorem dX5_add_50 : decode cX5_add 50 = .ok (.aload_n 0, 1) := by decide +kernel
theorem dX5_add_51 : decode cX5_add 51 = .ok (.getfield 22, 3) := by decide +kernel
theorem dX5_add_54 : decode cX5_add 54 = .ok (.aload_n 0, 1) := by decide +kernel
theorem dX5_add_55 : decode cX5_add 55 = .ok (.getfield 10, 3) := by decide +kernel
theorem dX5_add_58 : decode cX5_add 58 = .ok (.invokevirtual 52, 3) := by decide +kernel
theorem dX5_add_61 : decode cX5_add 61 = .ok (.aload_n 0, 1) := by decide +kernel
theorem dX5_add_62 : decode cX5_add 62 = .ok (.getfield 10, 3) := by decide +kernel
theorem dX5_add_65 : decode cX5_add 65 = .ok (.iload_n 1, 1) := by decide +kernel
theorem dX5_add_66 : decode cX5_add 66 = .ok (.iload_n 2, 1) := by decide +kernel
theorem dX5_add_67 : decode cX5_add 67 = .ok (.iload_n 3, 1) := by decide +kernel
theorem dX5_add_68 : decode cX5_add 68 = .ok (.invokevirtual 66, 3) := by decide +kernel
theorem dX5_add_71 : decode cX5_add 71 = .ok (.aload_n 0, 1) := by decide +kernel
theorem dX5_add_72 : decode cX5_add 72 = .ok (.getfield 10, 3) := by decide +kernel
theorem dX5_add_75 : decode cX5_add 75 = .ok (.getfield 62, 3) := by decide +kernel
theorem dX5_add_78 : decode cX5_add 78 = .ok (.iconst 1, 1) := by decide +kernel
theorem dX5_add_79 : decode cX5_add 79 = .ok (.isub, 1) := by decide +kernel
theorem dX5_add_80 : decode cX5_add 80 = .ok (.ireturn, 1) := by decide +kernel
theorem dX5_read_0 : decode cX5_read 0 = .ok (.aload_n 0, 1) := by decide +kernel
theorem dX5_read_1 : decode cX5_read 1 = .ok (.getfield 37, 3) := by decide +kernel
theorem dX5_read_4 : decode cX5_read 4 = .ok (.invokevirtual 70, 3) := by decide +kernel
theorem dX5_read_7 : decode cX5_read 7 = .ok (.bipush (-6), 2) := by decide +kernel
theorem dX5_read_9 : decode cX5_read 9 = .ok (.if_icmp .eq 6, 3) := by decide +kernel
theorem dX5_read_12 : decode cX5_read 12 = .ok (.bipush (-3), 2) := by decide +kernel
theorem dX5_read_14 : decode cX5_read 14 = .ok (.ireturn, 1) := by decide +kernel
theorem dX5_read_15 : decode cX5_read 15 = .ok (.aload_n 0, 1) := by decide +kernel
theorem dX5_read_16 : decode cX5_read 16 = .ok (.getfield 37, 3) := by decide +kernel
theorem dX5_read_19 : decode cX5_read 19 = .ok (.invokevirtual 74, 3) := by decide +kernel
theorem dX5_read_22 : decode cX5_read 22 = .ok (.istore_n 1, 1) := by decide +kernel
theorem dX5_read_23 : decode cX5_read 23 = .ok (.aload_n 0, 1) := by decide +kernel
theorem dX5_read_24 : decode cX5_read 24 = .ok (.getfield 10, 3) := by decide +kernel
theorem dX5_read_27 : decode cX5_read 27 = .ok (.getfield 62, 3) := by decide +kernel
theorem dX5_read_30 : decode cX5_read 30 = .ok (.iload_n 1, 1) := by decide +kernel
theorem dX5_read_31 : decode cX5_read 31 = .ok (.iadd, 1) := by decide +kernel
theorem dX5_read_32 : decode cX5_read 32 = .ok (.iconst 4, 1) := by decide +kernel
theorem dX5_read_33 : decode cX5_read 33 = .ok (.if_icmp .le 6, 3) := by decide +kernel
theorem dX5_read_36 : decode cX5_read 36 = .ok (.bipush (-4), 2) := by decide +kernel
theorem dX5_read_38 : decode cX5_read 38 = .ok (.ireturn, 1) := by decide +kernel
theorem dX5_read_39 : decode cX5_read 39 = .ok (.aload_n 0, 1) := by decide +kernel
theorem dX5_read_40 : decode cX5_read 40 = .ok (.getfield 22, 3) := by decide +kernel
theorem dX5_read_43 : decode cX5_read 43 = .ok (.aload_n 0, 1) := by decide +kernel
theorem dX5_read_44 : decode cX5_read 44 = .ok (.getfield 10, 3) := by decide +kernel
theorem dX5_read_47 : decode cX5_read 47 = .ok (.invokevirtual 52, 3) := by decide +kernel
theorem dX5_read_50 : decode cX5_read 50 = .ok (.iconst 0, 1) := by decide +kernel
theorem dX5_read_51 : decode cX5_read 51 = .ok (.istore_n 2, 1) := by decide +kernel
theorem dX5_read_52 : decode cX5_read 52 = .ok (.iload_n 2, 1) := by decide +kernel
theorem dX5_read_53 : decode cX5_read 53 = .ok (.iload_n 1, 1) := by decide +kernel
theorem dX5_read_54 : decode cX5_read 54 = .ok (.if_icmp .ge 43, 3) := by decide +kernel
theorem dX5_read_57 : decode cX5_read 57 = .ok (.aload_n 0, 1) := by decide +kernel
theorem dX5_read_58 : decode cX5_read 58 = .ok (.getfield 10, 3) := by decide +kernel
theorem dX5_read_61 : decode cX5_read 61 = .ok (.aload_n 0, 1) := by decide +kernel
theorem dX5_read_62 : decode cX5_read 62 = .ok (.getfield 37, 3) := by decide +kernel
theorem dX5_read_65 : decode cX5_read 65 = .ok (.iload_n 2, 1) := by decide +kernel
theorem dX5_read_66 : decode cX5_read 66 = .ok (.iconst 0, 1) := by decide +kernel
theorem dX5_read_67 : decode cX5_read 67 = .ok (.invokevirtual 77, 3) := by decide +kernel
theorem dX5_read_70 : decode cX5_read 70 = .ok (.aload_n 0, 1) := by decide +kernel
theorem dX5_read_71 : decode cX5_read 71 = .ok (.getfield 37, 3) := by decide +kernel
theorem dX5_read_74 : decode cX5_read 74 = .ok (.iload_n 2, 1) := by decide +kernel
theorem dX5_read_75 : decode cX5_read 75 = .ok (.iconst 1, 1) := by decide +kernel
theorem dX5_read_76 : decode cX5_read 76 = .ok (.invokevirtual 77, 3) := by decide +kernel
theorem dX5_read_79 : decode cX5_read 79 = .ok (.aload_n 0, 1) := by decide +kernel
theorem dX5_read_80 : decode cX5_read 80 = .ok (.getfield 37, 3) := by decide +kernel
theorem dX5_read_83 : decode cX5_read 83 = .ok (.iload_n 2, 1) := by decide +kernel
theorem dX5_read_84 : decode cX5_read 84 = .ok (.iconst 2, 1) := by decide +kernel
theorem dX5_read_85 : decode cX5_read 85 = .ok (.invokevirtual 77, 3) := by decide +kernel
theorem dX5_read_88 : decode cX5_read 88 = .ok (.invokevirtual 66, 3) := by decide +kernel
theorem dX5_read_91 : decode cX5_read 91 = .ok (.iinc 2 1, 3) := by decide +kernel
theorem dX5_read_94 : decode cX5_read 94 = .ok (.goto (-42), 3) := by decide +kernel
theorem dX5_read_97 : decode cX5_read 97 = .ok (.aload_n 0, 1) := by decide +kernel
theorem dX5_read_98 : decode cX5_read 98 = .ok (.getfield 37, 3) := by decide +kernel
theorem dX5_read_101 : decode cX5_read 101 = .ok (.iconst 0, 1) := by decide +kernel
theorem dX5_read_102 : decode cX5_read 102 = .ok (.putfield 81, 3) := by decide +kernel
theorem dX5_read_105 : decode cX5_read 105 = .ok (.aload_n 0, 1) := by decide +kernel
theorem dX5_read_106 : decode cX5_read 106 = .ok (.getfield 10, 3) := by decide +kernel
theorem dX5_read_109 : decode cX5_read 109 = .ok (.getfield 62, 3) := by decide +kernel
theorem dX5_read_112 : decode cX5_read 112 = .ok (.ireturn, 1) := by decide +kernel
theorem dX5_drop_0 : decode cX5_drop 0 = .ok (.aload_n 0, 1) := by decide +kernel
theorem dX5_drop_1 : decode cX5_drop 1 = .ok (.getfield 10, 3) := by decide +kernel
theorem dX5_drop_4 : decode cX5_drop 4 = .ok (.iload_n 1, 1) := by decide +kernel
theorem dX5_drop_5 : decode cX5_drop 5 = .ok (.invokevirtual 84, 3) := by decide +kernel
theorem dX5_drop_8 : decode cX5_drop 8 = .ok (.ifCond .ne 5, 3) := by decide +kernel
theorem dX5_drop_11 : decode cX5_drop 11 = .ok (.iconst (-1), 1) := by decide +kernel
theorem dX5_drop_12 : decode cX5_drop 12 = .ok (.ireturn, 1) := by decide +kernel
theorem dX5_drop_13 : decode cX5_drop 13 = .ok (.aload_n 0, 1) := by decide +kernel
theorem dX5_drop_14 : decode cX5_drop 14 = .ok (.getfield 22, 3) := by decide +kernel
theorem dX5_drop_17 : decode cX5_drop 17 = .ok (.aload_n 0, 1) := by decide +kernel
theorem dX5_drop_18 : decode cX5_drop 18 = .ok (.getfield 10, 3) := by decide +kernel
theorem dX5_drop_21 : decode cX5_drop 21 = .ok (.invokevirtual 52, 3) := by decide +kernel
theorem dX5_drop_24 : decode cX5_drop 24 = .ok (.aload_n 0, 1) := by decide +kernel
theorem dX5_drop_25 : decode cX5_drop 25 = .ok (.getfield 10, 3) := by decide +kernel
theorem dX5_drop_28 : decode cX5_drop 28 = .ok (.getfield 88, 3) := by decide +kernel
theorem dX5_drop_31 : decode cX5_drop 31 = .ok (.iload_n 1, 1) := by decide +kernel
theorem dX5_drop_32 : decode cX5_drop 32 = .ok (.aaload, 1) := by decide +kernel
theorem dX5_drop_33 : decode cX5_drop 33 = .ok (.getfield 92, 3) := by decide +kernel
theorem dX5_drop_36 : decode cX5_drop 36 = .ok (.istore_n 2, 1) := by decide +kernel
theorem dX5_drop_37 : decode cX5_drop 37 = .ok (.aload_n 0, 1) := by decide +kernel
theorem dX5_drop_38 : decode cX5_drop 38 = .ok (.getfield 10, 3) := by decide +kernel
theorem dX5_drop_41 : decode cX5_drop 41 = .ok (.iload_n 1, 1) := by decide +kernel
theorem dX5_drop_42 : decode cX5_drop 42 = .ok (.invokevirtual 97, 3) := by decide +kernel
theorem dX5_drop_45 : decode cX5_drop 45 = .ok (.iload_n 2, 1) := by decide +kernel
theorem dX5_drop_46 : decode cX5_drop 46 = .ok (.ireturn, 1) := by decide +kernel
theorem dX5_stride_0 : decode cX5_stride 0 = .ok (.aload_n 0, 1) := by decide +kernel
theorem dX5_stride_1 : decode cX5_stride 1 = .ok (.getfield 10, 3) := by decide +kernel
theorem dX5_stride_4 : decode cX5_stride 4 = .ok (.iload_n 1, 1) := by decide +kernel
theorem dX5_stride_5 : decode cX5_stride 5 = .ok (.invokevirtual 84, 3) := by decide +kernel
theorem dX5_stride_8 : decode cX5_stride 8 = .ok (.ifCond .ne 5, 3) := by decide +kernel
theorem dX5_stride_11 : decode cX5_stride 11 = .ok (.iconst (-1), 1) := by decide +kernel
theorem dX5_stride_12 : decode cX5_stride 12 = .ok (.ireturn, 1) := by decide +kernel
theorem dX5_stride_13 : decode cX5_stride 13 = .ok (.iload_n 2, 1) := by decide +kernel
theorem dX5_stride_14 : decode cX5_stride 14 = .ok (.iconst 0, 1) := by decide +kernel
theorem dX5_stride_15 : decode cX5_stride 15 = .ok (.sipush 1023, 3) := by decide +kernel
theorem dX5_stride_18 : decode cX5_stride 18 = .ok (.invokestatic 41, 3) := by decide +kernel
theorem dX5_stride_21 : decode cX5_stride 21 = .ok (.ifCond .ne 6, 3) := by decide +kernel
theorem dX5_stride_24 : decode cX5_stride 24 = .ok (.bipush (-2), 2) := by decide +kernel
theorem dX5_stride_26 : decode cX5_stride 26 = .ok (.ireturn, 1) := by decide +kernel
theorem dX5_stride_27 : decode cX5_stride 27 = .ok (.aload_n 0, 1) := by decide +kernel
theorem dX5_stride_28 : decode cX5_stride 28 = .ok (.getfield 22, 3) := by decide +kernel
theorem dX5_stride_31 : decode cX5_stride 31 = .ok (.aload_n 0, 1) := by decide +kernel
theorem dX5_stride_32 : decode cX5_stride 32 = .ok (.getfield 10, 3) := by decide +kernel
theorem dX5_stride_35 : decode cX5_stride 35 = .ok (.invokevirtual 52, 3) := by decide +kernel
theorem dX5_stride_38 : decode cX5_stride 38 = .ok (.aload_n 0, 1) := by decide +kernel
theorem dX5_stride_39 : decode cX5_stride 39 = .ok (.getfield 10, 3) := by decide +kernel
theorem dX5_stride_42 : decode cX5_stride 42 = .ok (.getfield 88, 3) := by decide +kernel
theorem dX5_stride_45 : decode cX5_stride 45 = .ok (.iload_n 1, 1) := by decide +kernel
theorem dX5_stride_46 : decode cX5_stride 46 = .ok (.aaload, 1) := by decide +kernel
theorem dX5_stride_47 : decode cX5_stride 47 = .ok (.getfield 101, 3) := by decide +kernel
theorem dX5_stride_50 : decode cX5_stride 50 = .ok (.istore_n 3, 1) := by decide +kernel
theorem dX5_stride_51 : decode cX5_stride 51 = .ok (.aload_n 0, 1) := by decide +kernel
theorem dX5_stride_52 : decode cX5_stride 52 = .ok (.getfield 10, 3) := by decide +kernel
theorem dX5_stride_55 : decode cX5_stride 55 = .ok (.getfield 88, 3) := by decide +kernel
theorem dX5_stride_58 : decode cX5_stride 58 = .ok (.iload_n 1, 1) := by decide +kernel
theorem dX5_stride_59 : decode cX5_stride 59 = .ok (.aaload, 1) := by decide +kernel
theorem dX5_stride_60 : decode cX5_stride 60 = .ok (.iload_n 2, 1) := by decide +kernel
theorem dX5_stride_61 : decode cX5_stride 61 = .ok (.putfield 101, 3) := by decide +kernel
theorem dX5_stride_64 : decode cX5_stride 64 = .ok (.iload_n 3, 1) := by decide +kernel
theorem dX5_stride_65 : decode cX5_stride 65 = .ok (.ireturn, 1) := by decide +kernel
theorem dX5_run_0 : decode cX5_run 0 = .ok (.iload_n 1, 1) := by decide +kernel
theorem dX5_run_1 : decode cX5_run 1 = .ok (.iconst 1, 1) := by decide +kernel
theorem dX5_run_2 : decode cX5_run 2 = .ok (.sipush 500, 3) := by decide +kernel
theorem dX5_run_5 : decode cX5_run 5 = .ok (.invokestatic 41, 3) := by decide +kernel
theorem dX5_run_8 : decode cX5_run 8 = .ok (.ifCond .ne 6, 3) := by decide +kernel
theorem dX5_run_11 : decode cX5_run 11 = .ok (.bipush (-2), 2) := by decide +kernel
theorem dX5_run_13 : decode cX5_run 13 = .ok (.ireturn, 1) := by decide +kernel
theorem dX5_run_14 : decode cX5_run 14 = .ok (.aload_n 0, 1) := by decide +kernel
theorem dX5_run_15 : decode cX5_run 15 = .ok (.getfield 10, 3) := by decide +kernel
theorem dX5_run_18 : decode cX5_run 18 = .ok (.getfield 104, 3) := by decide +kernel
theorem dX5_run_21 : decode cX5_run 21 = .ok (.iload_n 1, 1) := by decide +kernel
theorem dX5_run_22 : decode cX5_run 22 = .ok (.iadd, 1) := by decide +kernel
theorem dX5_run_23 : decode cX5_run 23 = .ok (.ldc 107, 2) := by decide +kernel
theorem dX5_run_25 : decode cX5_run 25 = .ok (.if_icmp .le 6, 3) := by decide +kernel
theorem dX5_run_28 : decode cX5_run 28 = .ok (.bipush (-4), 2) := by decide +kernel
theorem dX5_run_30 : decode cX5_run 30 = .ok (.ireturn, 1) := by decide +kernel
theorem dX5_run_31 : decode cX5_run 31 = .ok (.aload_n 0, 1) := by decide +kernel
theorem dX5_run_32 : decode cX5_run 32 = .ok (.getfield 22, 3) := by decide +kernel
theorem dX5_run_35 : decode cX5_run 35 = .ok (.aload_n 0, 1) := by decide +kernel
theorem dX5_run_36 : decode cX5_run 36 = .ok (.getfield 10, 3) := by decide +kernel
theorem dX5_run_39 : decode cX5_run 39 = .ok (.invokevirtual 52, 3) := by decide +kernel
theorem dX5_run_42 : decode cX5_run 42 = .ok (.iconst 0, 1) := by decide +kernel
theorem dX5_run_43 : decode cX5_run 43 = .ok (.istore_n 2, 1) := by decide +kernel
theorem dX5_run_44 : decode cX5_run 44 = .ok (.iconst 0, 1) := by decide +kernel
theorem dX5_run_45 : decode cX5_run 45 = .ok (.istore_n 3, 1) := by decide +kernel
theorem dX5_run_46 : decode cX5_run 46 = .ok (.iload_n 3, 1) := by decide +kernel
theorem dX5_run_47 : decode cX5_run 47 = .ok (.iload_n 1, 1) := by decide +kernel
theorem dX5_run_48 : decode cX5_run 48 = .ok (.if_icmp .ge 19, 3) := by decide +kernel
theorem dX5_run_51 : decode cX5_run 51 = .ok (.iload_n 2, 1) := by decide +kernel
theorem dX5_run_52 : decode cX5_run 52 = .ok (.aload_n 0, 1) := by decide +kernel
theorem dX5_run_53 : decode cX5_run 53 = .ok (.getfield 10, 3) := by decide +kernel
theorem dX5_run_56 : decode cX5_run 56 = .ok (.invokevirtual 108, 3) := by decide +kernel
theorem dX5_run_59 : decode cX5_run 59 = .ok (.iadd, 1) := by decide +kernel
theorem dX5_run_60 : decode cX5_run 60 = .ok (.istore_n 2, 1) := by decide +kernel
theorem dX5_run_61 : decode cX5_run 61 = .ok (.iinc 3 1, 3) := by decide +kernel
theorem dX5_run_64 : decode cX5_run 64 = .ok (.goto (-18), 3) := by decide +kernel
theorem dX5_run_67 : decode cX5_run 67 = .ok (.iload_n 2, 1) := by decide +kernel
theorem dX5_run_68 : decode cX5_run 68 = .ok (.ireturn, 1) := by decide +kernel
theorem dX5_reset_0 : decode cX5_reset 0 = .ok (.aload_n 0, 1) := by decide +kernel
theorem dX5_reset_1 : decode cX5_reset 1 = .ok (.getfield 22, 3) := by decide +kernel
theorem dX5_reset_4 : decode cX5_reset 4 = .ok (.aload_n 0, 1) := by decide +kernel
theorem dX5_reset_5 : decode cX5_reset 5 = .ok (.getfield 10, 3) := by decide +kernel
theorem dX5_reset_8 : decode cX5_reset 8 = .ok (.invokevirtual 52, 3) := by decide +kernel
theorem dX5_reset_11 : decode cX5_reset 11 = .ok (.aload_n 0, 1) := by decide +kernel
theorem dX5_reset_12 : decode cX5_reset 12 = .ok (.getfield 10, 3) := by decide +kernel
theorem dX5_reset_15 : decode cX5_reset 15 = .ok (.invokevirtual 59, 3) := by decide +kernel
theorem dX5_reset_18 : decode cX5_reset 18 = .ok (.aload_n 0, 1) := by decide +kernel
theorem dX5_reset_19 : decode cX5_reset 19 = .ok (.getfield 10, 3) := by decide +kernel
theorem dX5_reset_22 : decode cX5_reset 22 = .ok (.iconst 3, 1) := by decide +kernel
theorem dX5_reset_23 : decode cX5_reset 23 = .ok (.invokevirtual 111, 3) := by decide +kernel
theorem dX5_reset_26 : decode cX5_reset 26 = .ok (.ireturn, 1) := by decide +kernel
theorem dX5_bankOf_0 : decode cX5_bankOf 0 = .ok (.iload_n 1, 1) := by decide +kernel
theorem dX5_bankOf_1 : decode cX5_bankOf 1 = .ok (.iconst 0, 1) := by decide +kernel
theorem dX5_bankOf_2 : decode cX5_bankOf 2 = .ok (.sipush 4095, 3) := by decide +kernel
theorem dX5_bankOf_5 : decode cX5_bankOf 5 = .ok (.invokestatic 41, 3) := by decide +kernel
theorem dX5_bankOf_8 : decode cX5_bankOf 8 = .ok (.ifCond .ne 6, 3) := by decide +kernel
theorem dX5_bankOf_11 : decode cX5_bankOf 11 = .ok (.bipush (-2), 2) := by decide +kernel
theorem dX5_bankOf_13 : decode cX5_bankOf 13 = .ok (.ireturn, 1) := by decide +kernel
theorem dX5_bankOf_14 : decode cX5_bankOf 14 = .ok (.aload_n 0, 1) := by decide +kernel
theorem dX5_bankOf_15 : decode cX5_bankOf 15 = .ok (.getfield 10, 3) := by decide +kernel
theorem dX5_bankOf_18 : decode cX5_bankOf 18 = .ok (.iload_n 1, 1) := by decide +kernel
theorem dX5_bankOf_19 : decode cX5_bankOf 19 = .ok (.invokevirtual 115, 3) := by decide +kernel
theorem dX5_bankOf_22 : decode cX5_bankOf 22 = .ok (.ireturn, 1) := by decide +kernel
theorem dX5_stream_0 : decode cX5_stream 0 = .ok (.aload_n 0, 1) := by decide +kernel
theorem dX5_stream_1 : decode cX5_stream 1 = .ok (.getfield 10, 3) := by decide +kernel
theorem dX5_stream_4 : decode cX5_stream 4 = .ok (.iload_n 1, 1) := by decide +kernel
theorem dX5_stream_5 : decode cX5_stream 5 = .ok (.invokevirtual 84, 3) := by decide +kernel
theorem dX5_stream_8 : decode cX5_stream 8 = .ok (.ifCond .ne 5, 3) := by decide +kernel
theorem dX5_stream_11 : decode cX5_stream 11 = .ok (.iconst (-1), 1) := by decide +kernel
theorem dX5_stream_12 : decode cX5_stream 12 = .ok (.ireturn, 1) := by decide +kernel
theorem dX5_stream_13 : decode cX5_stream 13 = .ok (.aload_n 0, 1) := by decide +kernel
theorem dX5_stream_14 : decode cX5_stream 14 = .ok (.getfield 10, 3) := by decide +kernel
theorem dX5_stream_17 : decode cX5_stream 17 = .ok (.getfield 88, 3) := by decide +kernel
theorem dX5_stream_20 : decode cX5_stream 20 = .ok (.iload_n 1, 1) := by decide +kernel
theorem dX5_stream_21 : decode cX5_stream 21 = .ok (.aaload, 1) := by decide +kernel
theorem dX5_stream_22 : decode cX5_stream 22 = .ok (.astore_n 3, 1) := by decide +kernel
theorem dX5_stream_23 : decode cX5_stream 23 = .ok (.iload_n 2, 1) := by decide +kernel
theorem dX5_stream_24 : decode cX5_stream 24 = .ok (.bipush 8, 2) := by decide +kernel
theorem dX5_stream_26 : decode cX5_stream 26 = .ok (.if_icmp .ne 14, 3) := by decide +kernel
theorem dX5_stream_29 : decode cX5_stream 29 = .ok (.aload_n 0, 1) := by decide +kernel
theorem dX5_stream_30 : decode cX5_stream 30 = .ok (.getfield 10, 3) := by decide +kernel
theorem dX5_stream_33 : decode cX5_stream 33 = .ok (.aload_n 3, 1) := by decide +kernel
theorem dX5_stream_34 : decode cX5_stream 34 = .ok (.invokevirtual 118, 3) := by decide +kernel
theorem dX5_stream_37 : decode cX5_stream 37 = .ok (.goto 8, 3) := by decide +kernel
theorem dX5_stream_40 : decode cX5_stream 40 = .ok (.aload_n 3, 1) := by decide +kernel
theorem dX5_stream_41 : decode cX5_stream 41 = .ok (.iload_n 2, 1) := by decide +kernel
theorem dX5_stream_42 : decode cX5_stream 42 = .ok (.invokevirtual 122, 3) := by decide +kernel
theorem dX5_stream_45 : decode cX5_stream 45 = .ok (.ireturn, 1) := by decide +kernel
theorem dX5_bank_0 : decode cX5_bank 0 = .ok (.iload_n 1, 1) := by decide +kernel
theorem dX5_bank_1 : decode cX5_bank 1 = .ok (.iconst 0, 1) := by decide +kernel
theorem dX5_bank_2 : decode cX5_bank 2 = .ok (.aload_n 0, 1) := by decide +kernel
theorem dX5_bank_3 : decode cX5_bank 3 = .ok (.getfield 10, 3) := by decide +kernel
theorem dX5_bank_6 : decode cX5_bank 6 = .ok (.getfield 56, 3) := by decide +kernel
theorem dX5_bank_9 : decode cX5_bank 9 = .ok (.iconst 0, 1) := by decide +kernel
theorem dX5_bank_10 : decode cX5_bank 10 = .ok (.iaload, 1) := by decide +kernel
theorem dX5_bank_11 : decode cX5_bank 11 = .ok (.iconst 1, 1) := by decide +kernel
theorem dX5_bank_12 : decode cX5_bank 12 = .ok (.isub, 1) := by decide +kernel
theorem dX5_bank_13 : decode cX5_bank 13 = .ok (.invokestatic 41, 3) := by decide +kernel
theorem dX5_bank_16 : decode cX5_bank 16 = .ok (.ifCond .ne 5, 3) := by decide +kernel
theorem dX5_bank_19 : decode cX5_bank 19 = .ok (.iconst (-1), 1) := by decide +kernel
theorem dX5_bank_20 : decode cX5_bank 20 = .ok (.ireturn, 1) := by decide +kernel
theorem dX5_bank_21 : decode cX5_bank 21 = .ok (.aload_n 0, 1) := by decide +kernel
theorem dX5_bank_22 : decode cX5_bank 22 = .ok (.getfield 10, 3) := by decide +kernel
theorem dX5_bank_25 : decode cX5_bank 25 = .ok (.getfield 125, 3) := by decide +kernel
theorem dX5_bank_28 : decode cX5_bank 28 = .ok (.iload_n 1, 1) := by decide +kernel
theorem dX5_bank_29 : decode cX5_bank 29 = .ok (.aaload, 1) := by decide +kernel
theorem dX5_bank_30 : decode cX5_bank 30 = .ok (.astore_n 3, 1) := by decide +kernel
theorem dX5_bank_31 : decode cX5_bank 31 = .ok (.iload_n 2, 1) := by decide +kernel
theorem dX5_bank_32 : decode cX5_bank 32 = .ok (.tableswitch 68 0 3 #[32, 49, 54, 59], 32) := by decide +kernel
theorem dX5_bank_64 : decode cX5_bank 64 = .ok (.iconst 0, 1) := by decide +kernel
theorem dX5_bank_65 : decode cX5_bank 65 = .ok (.aload_n 3, 1) := by decide +kernel
theorem dX5_bank_66 : decode cX5_bank 66 = .ok (.getfield 129, 3) := by decide +kernel
theorem dX5_bank_69 : decode cX5_bank 69 = .ok (.aload_n 0, 1) := by decide +kernel
theorem dX5_bank_70 : decode cX5_bank 70 = .ok (.getfield 10, 3) := by decide +kernel
theorem dX5_bank_73 : decode cX5_bank 73 = .ok (.getfield 104, 3) := by decide +kernel
theorem dX5_bank_76 : decode cX5_bank 76 = .ok (.isub, 1) := by decide +kernel
theorem dX5_bank_77 : decode cX5_bank 77 = .ok (.invokestatic 134, 3) := by decide +kernel
theorem dX5_bank_80 : decode cX5_bank 80 = .ok (.ireturn, 1) := by decide +kernel
theorem dX5_bank_81 : decode cX5_bank 81 = .ok (.aload_n 3, 1) := by decide +kernel
theorem dX5_bank_82 : decode cX5_bank 82 = .ok (.getfield 139, 3) := by decide +kernel
theorem dX5_bank_85 : decode cX5_bank 85 = .ok (.ireturn, 1) := by decide +kernel
theorem dX5_bank_86 : decode cX5_bank 86 = .ok (.aload_n 3, 1) := by decide +kernel
theorem dX5_bank_87 : decode cX5_bank 87 = .ok (.getfield 142, 3) := by decide +kernel
theorem dX5_bank_90 : decode cX5_bank 90 = .ok (.ireturn, 1) := by decide +kernel
theorem dX5_bank_91 : decode cX5_bank 91 = .ok (.aload_n 0, 1) := by decide +kernel
theorem dX5_bank_92 : decode cX5_bank 92 = .ok (.getfield 10, 3) := by decide +kernel
theorem dX5_bank_95 : decode cX5_bank 95 = .ok (.iload_n 1, 1) := by decide +kernel
theorem dX5_bank_96 : decode cX5_bank 96 = .ok (.invokevirtual 145, 3) := by decide +kernel
theorem dX5_bank_99 : decode cX5_bank 99 = .ok (.ireturn, 1) := by decide +kernel
theorem dX5_bank_100 : decode cX5_bank 100 = .ok (.bipush (-2), 2) := by decide +kernel
theorem dX5_bank_102 : decode cX5_bank 102 = .ok (.ireturn, 1) := by decide +kernel
theorem dX5_count_0 : decode cX5_count 0 = .ok (.iload_n 1, 1) := by decide +kernel
theorem dX5_count_1 : decode cX5_count 1 = .ok (.tableswitch 175 0 13 #[71, 71, 71, 71, 81, 89, 97, 106, 124, 133, 143, 151, 159, 167], 71) := by decide +kernel
theorem dX5_count_72 : decode cX5_count 72 = .ok (.aload_n 0, 1) := by decide +kernel
theorem dX5_count_73 : decode cX5_count 73 = .ok (.getfield 10, 3) := by decide +kernel
theorem dX5_count_76 : decode cX5_count 76 = .ok (.getfield 56, 3) := by decide +kernel
theorem dX5_count_79 : decode cX5_count 79 = .ok (.iload_n 1, 1) := by decide +kernel
theorem dX5_count_80 : decode cX5_count 80 = .ok (.iaload, 1) := by decide +kernel
theorem dX5_count_81 : decode cX5_count 81 = .ok (.ireturn, 1) := by decide +kernel
theorem dX5_count_82 : decode cX5_count 82 = .ok (.aload_n 0, 1) := by decide +kernel
theorem dX5_count_83 : decode cX5_count 83 = .ok (.getfield 10, 3) := by decide +kernel
theorem dX5_count_86 : decode cX5_count 86 = .ok (.getfield 104, 3) := by decide +kernel
theorem dX5_count_89 : decode cX5_count 89 = .ok (.ireturn, 1) := by decide +kernel
theorem dX5_count_90 : decode cX5_count 90 = .ok (.aload_n 0, 1) := by decide +kernel
theorem dX5_count_91 : decode cX5_count 91 = .ok (.getfield 10, 3) := by decide +kernel
theorem dX5_count_94 : decode cX5_count 94 = .ok (.getfield 62, 3) := by decide +kernel
theorem dX5_count_97 : decode cX5_count 97 = .ok (.ireturn, 1) := by decide +kernel
theorem dX5_count_98 : decode cX5_count 98 = .ok (.aload_n 0, 1) := by decide +kernel
theorem dX5_count_99 : decode cX5_count 99 = .ok (.getfield 10, 3) := by decide +kernel
theorem dX5_count_102 : decode cX5_count 102 = .ok (.iconst 3, 1) := by decide +kernel
theorem dX5_count_103 : decode cX5_count 103 = .ok (.invokevirtual 111, 3) := by decide +kernel
theorem dX5_count_106 : decode cX5_count 106 = .ok (.ireturn, 1) := by decide +kernel
theorem dX5_count_107 : decode cX5_count 107 = .ok (.aload_n 0, 1) := by decide +kernel
theorem dX5_count_108 : decode cX5_count 108 = .ok (.getfield 10, 3) := by decide +kernel
theorem dX5_count_111 : decode cX5_count 111 = .ok (.iconst 2, 1) := by decide +kernel
theorem dX5_count_112 : decode cX5_count 112 = .ok (.invokevirtual 111, 3) := by decide +kernel
theorem dX5_count_115 : decode cX5_count 115 = .ok (.aload_n 0, 1) := by decide +kernel
theorem dX5_count_116 : decode cX5_count 116 = .ok (.getfield 10, 3) := by decide +kernel
theorem dX5_count_119 : decode cX5_count 119 = .ok (.iconst 3, 1) := by decide +kernel
theorem dX5_count_120 : decode cX5_count 120 = .ok (.invokevirtual 111, 3) := by decide +kernel
theorem dX5_count_123 : decode cX5_count 123 = .ok (.isub, 1) := by decide +kernel
theorem dX5_count_124 : decode cX5_count 124 = .ok (.ireturn, 1) := by decide +kernel
theorem dX5_count_125 : decode cX5_count 125 = .ok (.aload_n 0, 1) := by decide +kernel
theorem dX5_count_126 : decode cX5_count 126 = .ok (.getfield 10, 3) := by decide +kernel
theorem dX5_count_129 : decode cX5_count 129 = .ok (.iconst 5, 1) := by decide +kernel
theorem dX5_count_130 : decode cX5_count 130 = .ok (.invokevirtual 111, 3) := by decide +kernel
theorem dX5_count_133 : decode cX5_count 133 = .ok (.ireturn, 1) := by decide +kernel
theorem dX5_count_134 : decode cX5_count 134 = .ok (.aload_n 0, 1) := by decide +kernel
theorem dX5_count_135 : decode cX5_count 135 = .ok (.getfield 10, 3) := by decide +kernel
theorem dX5_count_138 : decode cX5_count 138 = .ok (.bipush 6, 2) := by decide +kernel
theorem dX5_count_140 : decode cX5_count 140 = .ok (.invokevirtual 111, 3) := by decide +kernel
theorem dX5_count_143 : decode cX5_count 143 = .ok (.ireturn, 1) := by decide +kernel
theorem dX5_count_144 : decode cX5_count 144 = .ok (.aload_n 0, 1) := by decide +kernel
theorem dX5_count_145 : decode cX5_count 145 = .ok (.getfield 10, 3) := by decide +kernel
theorem dX5_count_148 : decode cX5_count 148 = .ok (.invokevirtual 148, 3) := by decide +kernel
theorem dX5_count_151 : decode cX5_count 151 = .ok (.ireturn, 1) := by decide +kernel
theorem dX5_count_152 : decode cX5_count 152 = .ok (.aload_n 0, 1) := by decide +kernel
theorem dX5_count_153 : decode cX5_count 153 = .ok (.getfield 10, 3) := by decide +kernel
theorem dX5_count_156 : decode cX5_count 156 = .ok (.invokevirtual 151, 3) := by decide +kernel
theorem dX5_count_159 : decode cX5_count 159 = .ok (.ireturn, 1) := by decide +kernel
theorem dX5_count_160 : decode cX5_count 160 = .ok (.aload_n 0, 1) := by decide +kernel
theorem dX5_count_161 : decode cX5_count 161 = .ok (.getfield 37, 3) := by decide +kernel
theorem dX5_count_164 : decode cX5_count 164 = .ok (.getfield 81, 3) := by decide +kernel
theorem dX5_count_167 : decode cX5_count 167 = .ok (.ireturn, 1) := by decide +kernel
theorem dX5_count_168 : decode cX5_count 168 = .ok (.aload_n 0, 1) := by decide +kernel
theorem dX5_count_169 : decode cX5_count 169 = .ok (.getfield 22, 3) := by decide +kernel
theorem dX5_count_172 : decode cX5_count 172 = .ok (.getfield 154, 3) := by decide +kernel
theorem dX5_count_175 : decode cX5_count 175 = .ok (.ireturn, 1) := by decide +kernel
theorem dX5_count_176 : decode cX5_count 176 = .ok (.bipush (-2), 2) := by decide +kernel
theorem dX5_count_178 : decode cX5_count 178 = .ok (.ireturn, 1) := by decide +kernel
theorem dX5_untilDone_0 : decode cX5_untilDone 0 = .ok (.aload_n 0, 1) := by decide +kernel
theorem dX5_untilDone_1 : decode cX5_untilDone 1 = .ok (.getfield 16, 3) := by decide +kernel
theorem dX5_untilDone_4 : decode cX5_untilDone 4 = .ok (.aload_n 0, 1) := by decide +kernel
theorem dX5_untilDone_5 : decode cX5_untilDone 5 = .ok (.getfield 10, 3) := by decide +kernel
theorem dX5_untilDone_8 : decode cX5_untilDone 8 = .ok (.invokevirtual 157, 3) := by decide +kernel
theorem dX5_untilDone_11 : decode cX5_untilDone 11 = .ok (.aload_n 0, 1) := by decide +kernel
theorem dX5_untilDone_12 : decode cX5_untilDone 12 = .ok (.getfield 16, 3) := by decide +kernel
theorem dX5_untilDone_15 : decode cX5_untilDone 15 = .ok (.invokevirtual 160, 3) := by decide +kernel
theorem dX5_untilDone_18 : decode cX5_untilDone 18 = .ok (.ireturn, 1) := by decide +kernel
theorem dX5_alone_0 : decode cX5_alone 0 = .ok (.aload_n 0, 1) := by decide +kernel
theorem dX5_alone_1 : decode cX5_alone 1 = .ok (.getfield 10, 3) := by decide +kernel
theorem dX5_alone_4 : decode cX5_alone 4 = .ok (.iload_n 1, 1) := by decide +kernel
theorem dX5_alone_5 : decode cX5_alone 5 = .ok (.invokevirtual 84, 3) := by decide +kernel
theorem dX5_alone_8 : decode cX5_alone 8 = .ok (.ifCond .ne 5, 3) := by decide +kernel
theorem dX5_alone_11 : decode cX5_alone 11 = .ok (.iconst (-1), 1) := by decide +kernel
theorem dX5_alone_12 : decode cX5_alone 12 = .ok (.ireturn, 1) := by decide +kernel
theorem dX5_alone_13 : decode cX5_alone 13 = .ok (.iload_n 2, 1) := by decide +kernel
theorem dX5_alone_14 : decode cX5_alone 14 = .ok (.iconst 0, 1) := by decide +kernel
theorem dX5_alone_15 : decode cX5_alone 15 = .ok (.sipush 1023, 3) := by decide +kernel
theorem dX5_alone_18 : decode cX5_alone 18 = .ok (.invokestatic 41, 3) := by decide +kernel
theorem dX5_alone_21 : decode cX5_alone 21 = .ok (.ifCond .ne 6, 3) := by decide +kernel
theorem dX5_alone_24 : decode cX5_alone 24 = .ok (.bipush (-2), 2) := by decide +kernel
theorem dX5_alone_26 : decode cX5_alone 26 = .ok (.ireturn, 1) := by decide +kernel
theorem dX5_alone_27 : decode cX5_alone 27 = .ok (.aload_n 0, 1) := by decide +kernel
theorem dX5_alone_28 : decode cX5_alone 28 = .ok (.iload_n 1, 1) := by decide +kernel
theorem dX5_alone_29 : decode cX5_alone 29 = .ok (.iload_n 2, 1) := by decide +kernel
theorem dX5_alone_30 : decode cX5_alone 30 = .ok (.invokevirtual 163, 3) := by decide +kernel
theorem dX5_alone_33 : decode cX5_alone 33 = .ok (.ireturn, 1) := by decide +kernel
theorem dX5_bestStride_0 : decode cX5_bestStride 0 = .ok (.aload_n 0, 1) := by decide +kernel
theorem dX5_bestStride_1 : decode cX5_bestStride 1 = .ok (.getfield 10, 3) := by decide +kernel
theorem dX5_bestStride_4 : decode cX5_bestStride 4 = .ok (.iload_n 1, 1) := by decide +kernel
theorem dX5_bestStride_5 : decode cX5_bestStride 5 = .ok (.invokevirtual 84, 3) := by decide +kernel
theorem dX5_bestStride_8 : decode cX5_bestStride 8 = .ok (.ifCond .ne 5, 3) := by decide +kernel
theorem dX5_bestStride_11 : decode cX5_bestStride 11 = .ok (.iconst (-1), 1) := by decide +kernel
theorem dX5_bestStride_12 : decode cX5_bestStride 12 = .ok (.ireturn, 1) := by decide +kernel
theorem dX5_bestStride_13 : decode cX5_bestStride 13 = .ok (.iload_n 2, 1) := by decide +kernel
theorem dX5_bestStride_14 : decode cX5_bestStride 14 = .ok (.iconst 0, 1) := by decide +kernel
theorem dX5_bestStride_15 : decode cX5_bestStride 15 = .ok (.sipush 1023, 3) := by decide +kernel
theorem dX5_bestStride_18 : decode cX5_bestStride 18 = .ok (.invokestatic 41, 3) := by decide +kernel
theorem dX5_bestStride_21 : decode cX5_bestStride 21 = .ok (.ifCond .eq 21, 3) := by decide +kernel
theorem dX5_bestStride_24 : decode cX5_bestStride 24 = .ok (.iload_n 3, 1) := by decide +kernel
theorem dX5_bestStride_25 : decode cX5_bestStride 25 = .ok (.iload_n 2, 1) := by decide +kernel
theorem dX5_bestStride_26 : decode cX5_bestStride 26 = .ok (.sipush 1023, 3) := by decide +kernel
theorem dX5_bestStride_29 : decode cX5_bestStride 29 = .ok (.iload_n 2, 1) := by decide +kernel
theorem dX5_bestStride_30 : decode cX5_bestStride 30 = .ok (.bipush 63, 2) := by decide +kernel
theorem dX5_bestStride_32 : decode cX5_bestStride 32 = .ok (.iadd, 1) := by decide +kernel
theorem dX5_bestStride_33 : decode cX5_bestStride 33 = .ok (.invokestatic 166, 3) := by decide +kernel
theorem dX5_bestStride_36 : decode cX5_bestStride 36 = .ok (.invokestatic 41, 3) := by decide +kernel
theorem dX5_bestStride_39 : decode cX5_bestStride 39 = .ok (.ifCond .ne 6, 3) := by decide +kernel
theorem dX5_bestStride_42 : decode cX5_bestStride 42 = .ok (.bipush (-2), 2) := by decide +kernel
theorem dX5_bestStride_44 : decode cX5_bestStride 44 = .ok (.ireturn, 1) := by decide +kernel
theorem dX5_bestStride_45 : decode cX5_bestStride 45 = .ok (.iload_n 2, 1) := by decide +kernel
theorem dX5_bestStride_46 : decode cX5_bestStride 46 = .ok (.istore 4, 2) := by decide +kernel
theorem dX5_bestStride_48 : decode cX5_bestStride 48 = .ok (.aload_n 0, 1) := by decide +kernel
theorem dX5_bestStride_49 : decode cX5_bestStride 49 = .ok (.iload_n 1, 1) := by decide +kernel
theorem dX5_bestStride_50 : decode cX5_bestStride 50 = .ok (.iload_n 2, 1) := by decide +kernel
theorem dX5_bestStride_51 : decode cX5_bestStride 51 = .ok (.invokevirtual 163, 3) := by decide +kernel
theorem dX5_bestStride_54 : decode cX5_bestStride 54 = .ok (.istore 5, 2) := by decide +kernel
theorem dX5_bestStride_56 : decode cX5_bestStride 56 = .ok (.iload_n 2, 1) := by decide +kernel
theorem dX5_bestStride_57 : decode cX5_bestStride 57 = .ok (.iconst 1, 1) := by decide +kernel
theorem dX5_bestStride_58 : decode cX5_bestStride 58 = .ok (.iadd, 1) := by decide +kernel
theorem dX5_bestStride_59 : decode cX5_bestStride 59 = .ok (.istore 6, 2) := by decide +kernel
theorem dX5_bestStride_61 : decode cX5_bestStride 61 = .ok (.iload 6, 2) := by decide +kernel
theorem dX5_bestStride_63 : decode cX5_bestStride 63 = .ok (.iload_n 3, 1) := by decide +kernel
theorem dX5_bestStride_64 : decode cX5_bestStride 64 = .ok (.if_icmp .gt 33, 3) := by decide +kernel
theorem dX5_bestStride_67 : decode cX5_bestStride 67 = .ok (.aload_n 0, 1) := by decide +kernel
theorem dX5_bestStride_68 : decode cX5_bestStride 68 = .ok (.iload_n 1, 1) := by decide +kernel
theorem dX5_bestStride_69 : decode cX5_bestStride 69 = .ok (.iload 6, 2) := by decide +kernel
theorem dX5_bestStride_71 : decode cX5_bestStride 71 = .ok (.invokevirtual 163, 3) := by decide +kernel
theorem dX5_bestStride_74 : decode cX5_bestStride 74 = .ok (.istore 7, 2) := by decide +kernel
theorem dX5_bestStride_76 : decode cX5_bestStride 76 = .ok (.iload 7, 2) := by decide +kernel
theorem dX5_bestStride_78 : decode cX5_bestStride 78 = .ok (.iload 5, 2) := by decide +kernel
theorem dX5_bestStride_80 : decode cX5_bestStride 80 = .ok (.if_icmp .ge 11, 3) := by decide +kernel
theorem dX5_bestStride_83 : decode cX5_bestStride 83 = .ok (.iload 7, 2) := by decide +kernel
theorem dX5_bestStride_85 : decode cX5_bestStride 85 = .ok (.istore 5, 2) := by decide +kernel
theorem dX5_bestStride_87 : decode cX5_bestStride 87 = .ok (.iload 6, 2) := by decide +kernel
theorem dX5_bestStride_89 : decode cX5_bestStride 89 = .ok (.istore 4, 2) := by decide +kernel
theorem dX5_bestStride_91 : decode cX5_bestStride 91 = .ok (.iinc 6 1, 3) := by decide +kernel
theorem dX5_bestStride_94 : decode cX5_bestStride 94 = .ok (.goto (-33), 3) := by decide +kernel
theorem dX5_bestStride_97 : decode cX5_bestStride 97 = .ok (.iload 4, 2) := by decide +kernel
theorem dX5_bestStride_99 : decode cX5_bestStride 99 = .ok (.ireturn, 1) := by decide +kernel
theorem dX5_bestMap_0 : decode cX5_bestMap 0 = .ok (.iload_n 1, 1) := by decide +kernel
theorem dX5_bestMap_1 : decode cX5_bestMap 1 = .ok (.iconst 0, 1) := by decide +kernel
theorem dX5_bestMap_2 : decode cX5_bestMap 2 = .ok (.iconst 1, 1) := by decide +kernel
theorem dX5_bestMap_3 : decode cX5_bestMap 3 = .ok (.invokestatic 41, 3) := by decide +kernel
theorem dX5_bestMap_6 : decode cX5_bestMap 6 = .ok (.ifCond .ne 6, 3) := by decide +kernel
theorem dX5_bestMap_9 : decode cX5_bestMap 9 = .ok (.bipush (-2), 2) := by decide +kernel
theorem dX5_bestMap_11 : decode cX5_bestMap 11 = .ok (.ireturn, 1) := by decide +kernel
theorem dX5_bestMap_12 : decode cX5_bestMap 12 = .ok (.iconst 0, 1) := by decide +kernel
theorem dX5_bestMap_13 : decode cX5_bestMap 13 = .ok (.istore_n 2, 1) := by decide +kernel
theorem dX5_bestMap_14 : decode cX5_bestMap 14 = .ok (.aload_n 0, 1) := by decide +kernel
theorem dX5_bestMap_15 : decode cX5_bestMap 15 = .ok (.iconst 0, 1) := by decide +kernel
theorem dX5_bestMap_16 : decode cX5_bestMap 16 = .ok (.invokevirtual 169, 3) := by decide +kernel
theorem dX5_bestMap_19 : decode cX5_bestMap 19 = .ok (.istore_n 3, 1) := by decide +kernel
theorem dX5_bestMap_20 : decode cX5_bestMap 20 = .ok (.iconst 1, 1) := by decide +kernel
theorem dX5_bestMap_21 : decode cX5_bestMap 21 = .ok (.istore 4, 2) := by decide +kernel
theorem dX5_bestMap_23 : decode cX5_bestMap 23 = .ok (.iload 4, 2) := by decide +kernel
theorem dX5_bestMap_25 : decode cX5_bestMap 25 = .ok (.iconst 3, 1) := by decide +kernel
theorem dX5_bestMap_26 : decode cX5_bestMap 26 = .ok (.if_icmp .ge 29, 3) := by decide +kernel
theorem dX5_bestMap_29 : decode cX5_bestMap 29 = .ok (.aload_n 0, 1) := by decide +kernel
theorem dX5_bestMap_30 : decode cX5_bestMap 30 = .ok (.iload 4, 2) := by decide +kernel
theorem dX5_bestMap_32 : decode cX5_bestMap 32 = .ok (.invokevirtual 169, 3) := by decide +kernel
theorem dX5_bestMap_35 : decode cX5_bestMap 35 = .ok (.istore 5, 2) := by decide +kernel
theorem dX5_bestMap_37 : decode cX5_bestMap 37 = .ok (.iload 5, 2) := by decide +kernel
theorem dX5_bestMap_39 : decode cX5_bestMap 39 = .ok (.iload_n 3, 1) := by decide +kernel
theorem dX5_bestMap_40 : decode cX5_bestMap 40 = .ok (.if_icmp .ge 9, 3) := by decide +kernel
theorem dX5_bestMap_43 : decode cX5_bestMap 43 = .ok (.iload 5, 2) := by decide +kernel
theorem dX5_bestMap_45 : decode cX5_bestMap 45 = .ok (.istore_n 3, 1) := by decide +kernel
theorem dX5_bestMap_46 : decode cX5_bestMap 46 = .ok (.iload 4, 2) := by decide +kernel
theorem dX5_bestMap_48 : decode cX5_bestMap 48 = .ok (.istore_n 2, 1) := by decide +kernel
theorem dX5_bestMap_49 : decode cX5_bestMap 49 = .ok (.iinc 4 1, 3) := by decide +kernel
theorem dX5_bestMap_52 : decode cX5_bestMap 52 = .ok (.goto (-29), 3) := by decide +kernel
theorem dX5_bestMap_55 : decode cX5_bestMap 55 = .ok (.iload_n 1, 1) := by decide +kernel
theorem dX5_bestMap_56 : decode cX5_bestMap 56 = .ok (.ifCond .ne 7, 3) := by decide +kernel
theorem dX5_bestMap_59 : decode cX5_bestMap 59 = .ok (.iload_n 2, 1) := by decide +kernel
theorem dX5_bestMap_60 : decode cX5_bestMap 60 = .ok (.goto 4, 3) := by decide +kernel
theorem dX5_bestMap_63 : decode cX5_bestMap 63 = .ok (.iload_n 3, 1) := by decide +kernel
theorem dX5_bestMap_64 : decode cX5_bestMap 64 = .ok (.ireturn, 1) := by decide +kernel
theorem dX5_clashes_0 : decode cX5_clashes 0 = .ok (.aload_n 0, 1) := by decide +kernel
theorem dX5_clashes_1 : decode cX5_clashes 1 = .ok (.getfield 10, 3) := by decide +kernel
theorem dX5_clashes_4 : decode cX5_clashes 4 = .ok (.iload_n 1, 1) := by decide +kernel
theorem dX5_clashes_5 : decode cX5_clashes 5 = .ok (.invokevirtual 84, 3) := by decide +kernel
theorem dX5_clashes_8 : decode cX5_clashes 8 = .ok (.ifCond .eq 14, 3) := by decide +kernel
theorem dX5_clashes_11 : decode cX5_clashes 11 = .ok (.aload_n 0, 1) := by decide +kernel
theorem dX5_clashes_12 : decode cX5_clashes 12 = .ok (.getfield 10, 3) := by decide +kernel
theorem dX5_clashes_15 : decode cX5_clashes 15 = .ok (.iload_n 2, 1) := by decide +kernel
theorem dX5_clashes_16 : decode cX5_clashes 16 = .ok (.invokevirtual 84, 3) := by decide +kernel
theorem dX5_clashes_19 : decode cX5_clashes 19 = .ok (.ifCond .ne 5, 3) := by decide +kernel
theorem dX5_clashes_22 : decode cX5_clashes 22 = .ok (.iconst (-1), 1) := by decide +kernel
theorem dX5_clashes_23 : decode cX5_clashes 23 = .ok (.ireturn, 1) := by decide +kernel
theorem dX5_clashes_24 : decode cX5_clashes 24 = .ok (.iload_n 1, 1) := by decide +kernel
theorem dX5_clashes_25 : decode cX5_clashes 25 = .ok (.iload_n 2, 1) := by decide +kernel
theorem dX5_clashes_26 : decode cX5_clashes 26 = .ok (.if_icmp .ne 6, 3) := by decide +kernel
theorem dX5_clashes_29 : decode cX5_clashes 29 = .ok (.bipush (-2), 2) := by decide +kernel
theorem dX5_clashes_31 : decode cX5_clashes 31 = .ok (.ireturn, 1) := by decide +kernel
theorem dX5_clashes_32 : decode cX5_clashes 32 = .ok (.aload_n 0, 1) := by decide +kernel
theorem dX5_clashes_33 : decode cX5_clashes 33 = .ok (.getfield 16, 3) := by decide +kernel
theorem dX5_clashes_36 : decode cX5_clashes 36 = .ok (.aload_n 0, 1) := by decide +kernel
theorem dX5_clashes_37 : decode cX5_clashes 37 = .ok (.getfield 10, 3) := by decide +kernel
theorem dX5_clashes_40 : decode cX5_clashes 40 = .ok (.invokevirtual 172, 3) := by decide +kernel
theorem dX5_clashes_43 : decode cX5_clashes 43 = .ok (.aload_n 0, 1) := by decide +kernel
theorem dX5_clashes_44 : decode cX5_clashes 44 = .ok (.getfield 16, 3) := by decide +kernel
theorem dX5_clashes_47 : decode cX5_clashes 47 = .ok (.iconst 0, 1) := by decide +kernel
theorem dX5_clashes_48 : decode cX5_clashes 48 = .ok (.putfield 62, 3) := by decide +kernel
theorem dX5_clashes_51 : decode cX5_clashes 51 = .ok (.aload_n 0, 1) := by decide +kernel
theorem dX5_clashes_52 : decode cX5_clashes 52 = .ok (.getfield 16, 3) := by decide +kernel
theorem dX5_clashes_55 : decode cX5_clashes 55 = .ok (.aload_n 0, 1) := by decide +kernel
theorem dX5_clashes_56 : decode cX5_clashes 56 = .ok (.getfield 10, 3) := by decide +kernel
theorem dX5_clashes_59 : decode cX5_clashes 59 = .ok (.getfield 88, 3) := by decide +kernel
theorem dX5_clashes_62 : decode cX5_clashes 62 = .ok (.iload_n 1, 1) := by decide +kernel
theorem dX5_clashes_63 : decode cX5_clashes 63 = .ok (.iload_n 2, 1) := by decide +kernel
theorem dX5_clashes_64 : decode cX5_clashes 64 = .ok (.invokestatic 166, 3) := by decide +kernel
theorem dX5_clashes_67 : decode cX5_clashes 67 = .ok (.aaload, 1) := by decide +kernel
theorem dX5_clashes_68 : decode cX5_clashes 68 = .ok (.invokevirtual 175, 3) := by decide +kernel
theorem dX5_clashes_71 : decode cX5_clashes 71 = .ok (.aload_n 0, 1) := by decide +kernel
theorem dX5_clashes_72 : decode cX5_clashes 72 = .ok (.getfield 16, 3) := by decide +kernel
theorem dX5_clashes_75 : decode cX5_clashes 75 = .ok (.aload_n 0, 1) := by decide +kernel
theorem dX5_clashes_76 : decode cX5_clashes 76 = .ok (.getfield 10, 3) := by decide +kernel
theorem dX5_clashes_79 : decode cX5_clashes 79 = .ok (.getfield 88, 3) := by decide +kernel
theorem dX5_clashes_82 : decode cX5_clashes 82 = .ok (.iload_n 1, 1) := by decide +kernel
theorem dX5_clashes_83 : decode cX5_clashes 83 = .ok (.iload_n 2, 1) := by decide +kernel
theorem dX5_clashes_84 : decode cX5_clashes 84 = .ok (.invokestatic 134, 3) := by decide +kernel
theorem dX5_clashes_87 : decode cX5_clashes 87 = .ok (.aaload, 1) := by decide +kernel
theorem dX5_clashes_88 : decode cX5_clashes 88 = .ok (.invokevirtual 175, 3) := by decide +kernel
theorem dX5_clashes_91 : decode cX5_clashes 91 = .ok (.aload_n 0, 1) := by decide +kernel
theorem dX5_clashes_92 : decode cX5_clashes 92 = .ok (.getfield 16, 3) := by decide +kernel
theorem dX5_clashes_95 : decode cX5_clashes 95 = .ok (.invokevirtual 59, 3) := by decide +kernel
theorem dX5_clashes_98 : decode cX5_clashes 98 = .ok (.aload_n 0, 1) := by decide +kernel
theorem dX5_clashes_99 : decode cX5_clashes 99 = .ok (.getfield 16, 3) := by decide +kernel
theorem dX5_clashes_102 : decode cX5_clashes 102 = .ok (.invokevirtual 160, 3) := by decide +kernel
theorem dX5_clashes_105 : decode cX5_clashes 105 = .ok (.pop, 1) := by decide +kernel
theorem dX5_clashes_106 : decode cX5_clashes 106 = .ok (.aload_n 0, 1) := by decide +kernel
theorem dX5_clashes_107 : decode cX5_clashes 107 = .ok (.getfield 16, 3) := by decide +kernel
theorem dX5_clashes_110 : decode cX5_clashes 110 = .ok (.bipush 6, 2) := by decide +kernel
theorem dX5_clashes_112 : decode cX5_clashes 112 = .ok (.invokevirtual 111, 3) := by decide +kernel
theorem dX5_clashes_115 : decode cX5_clashes 115 = .ok (.ireturn, 1) := by decide +kernel
theorem dX5_put_0 : decode cX5_put 0 = .ok (.lload_n 1, 1) := by decide +kernel
theorem dX5_put_1 : decode cX5_put 1 = .ok (.invokestatic 179, 3) := by decide +kernel
theorem dX5_put_4 : decode cX5_put 4 = .ok (.istore_n 3, 1) := by decide +kernel
theorem dX5_put_5 : decode cX5_put 5 = .ok (.iload_n 3, 1) := by decide +kernel
theorem dX5_put_6 : decode cX5_put 6 = .ok (.ifCond .ne 6, 3) := by decide +kernel
theorem dX5_put_9 : decode cX5_put 9 = .ok (.bipush (-2), 2) := by decide +kernel
theorem dX5_put_11 : decode cX5_put 11 = .ok (.ireturn, 1) := by decide +kernel
theorem dX5_put_12 : decode cX5_put 12 = .ok (.aload_n 0, 1) := by decide +kernel
theorem dX5_put_13 : decode cX5_put 13 = .ok (.getfield 37, 3) := by decide +kernel
theorem dX5_put_16 : decode cX5_put 16 = .ok (.getfield 81, 3) := by decide +kernel
theorem dX5_put_19 : decode cX5_put 19 = .ok (.iload_n 3, 1) := by decide +kernel
theorem dX5_put_20 : decode cX5_put 20 = .ok (.iadd, 1) := by decide +kernel
theorem dX5_put_21 : decode cX5_put 21 = .ok (.bipush 60, 2) := by decide +kernel
theorem dX5_put_23 : decode cX5_put 23 = .ok (.if_icmp .le 6, 3) := by decide +kernel
theorem dX5_put_26 : decode cX5_put 26 = .ok (.bipush (-4), 2) := by decide +kernel
theorem dX5_put_28 : decode cX5_put 28 = .ok (.ireturn, 1) := by decide +kernel
theorem dX5_put_29 : decode cX5_put 29 = .ok (.aload_n 0, 1) := by decide +kernel
theorem dX5_put_30 : decode cX5_put 30 = .ok (.getfield 37, 3) := by decide +kernel
theorem dX5_put_33 : decode cX5_put 33 = .ok (.lload_n 1, 1) := by decide +kernel
theorem dX5_put_34 : decode cX5_put 34 = .ok (.iload_n 3, 1) := by decide +kernel
theorem dX5_put_35 : decode cX5_put 35 = .ok (.invokevirtual 183, 3) := by decide +kernel
theorem dX5_put_38 : decode cX5_put 38 = .ok (.aload_n 0, 1) := by decide +kernel
theorem dX5_put_39 : decode cX5_put 39 = .ok (.getfield 37, 3) := by decide +kernel
theorem dX5_put_42 : decode cX5_put 42 = .ok (.getfield 81, 3) := by decide +kernel
theorem dX5_put_45 : decode cX5_put 45 = .ok (.ireturn, 1) := by decide +kernel
theorem dX5_wipe_0 : decode cX5_wipe 0 = .ok (.aload_n 0, 1) := by decide +kernel
theorem dX5_wipe_1 : decode cX5_wipe 1 = .ok (.getfield 37, 3) := by decide +kernel
theorem dX5_wipe_4 : decode cX5_wipe 4 = .ok (.getfield 81, 3) := by decide +kernel
theorem dX5_wipe_7 : decode cX5_wipe 7 = .ok (.istore_n 1, 1) := by decide +kernel
theorem dX5_wipe_8 : decode cX5_wipe 8 = .ok (.aload_n 0, 1) := by decide +kernel
theorem dX5_wipe_9 : decode cX5_wipe 9 = .ok (.getfield 37, 3) := by decide +kernel
theorem dX5_wipe_12 : decode cX5_wipe 12 = .ok (.iconst 0, 1) := by decide +kernel
theorem dX5_wipe_13 : decode cX5_wipe 13 = .ok (.putfield 81, 3) := by decide +kernel
theorem dX5_wipe_16 : decode cX5_wipe 16 = .ok (.iload_n 1, 1) := by decide +kernel
theorem dX5_wipe_17 : decode cX5_wipe 17 = .ok (.ireturn, 1) := by decide +kernel
theorem dX5_fault_0 : decode cX5_fault 0 = .ok (.aload_n 0, 1) := by decide +kernel
theorem dX5_fault_1 : decode cX5_fault 1 = .ok (.getfield 37, 3) := by decide +kernel
theorem dX5_fault_4 : decode cX5_fault 4 = .ok (.invokevirtual 70, 3) := by decide +kernel
theorem dX5_fault_7 : decode cX5_fault 7 = .ok (.ireturn, 1) := by decide +kernel
theorem dX5_undo_0 : decode cX5_undo 0 = .ok (.aload_n 0, 1) := by decide +kernel
theorem dX5_undo_1 : decode cX5_undo 1 = .ok (.getfield 22, 3) := by decide +kernel
theorem dX5_undo_4 : decode cX5_undo 4 = .ok (.getfield 154, 3) := by decide +kernel
theorem dX5_undo_7 : decode cX5_undo 7 = .ok (.ifCond .ne 6, 3) := by decide +kernel
theorem dX5_undo_10 : decode cX5_undo 10 = .ok (.bipush (-5), 2) := by decide +kernel
theorem dX5_undo_12 : decode cX5_undo 12 = .ok (.ireturn, 1) := by decide +kernel
theorem dX5_undo_13 : decode cX5_undo 13 = .ok (.aload_n 0, 1) := by decide +kernel
theorem dX5_undo_14 : decode cX5_undo 14 = .ok (.getfield 22, 3) := by decide +kernel
theorem dX5_undo_17 : decode cX5_undo 17 = .ok (.aload_n 0, 1) := by decide +kernel
theorem dX5_undo_18 : decode cX5_undo 18 = .ok (.getfield 10, 3) := by decide +kernel
theorem dX5_undo_21 : decode cX5_undo 21 = .ok (.invokevirtual 186, 3) := by decide +kernel
theorem dX5_undo_24 : decode cX5_undo 24 = .ok (.aload_n 0, 1) := by decide +kernel
theorem dX5_undo_25 : decode cX5_undo 25 = .ok (.getfield 22, 3) := by decide +kernel
theorem dX5_undo_28 : decode cX5_undo 28 = .ok (.getfield 154, 3) := by decide +kernel
theorem dX5_undo_31 : decode cX5_undo 31 = .ok (.ireturn, 1) := by decide +kernel
theorem dX5_save_0 : decode cX5_save 0 = .ok (.iload_n 1, 1) := by decide +kernel
theorem dX5_save_1 : decode cX5_save 1 = .ok (.iconst 0, 1) := by decide +kernel
theorem dX5_save_2 : decode cX5_save 2 = .ok (.iconst 1, 1) := by decide +kernel
theorem dX5_save_3 : decode cX5_save 3 = .ok (.invokestatic 41, 3) := by decide +kernel
theorem dX5_save_6 : decode cX5_save 6 = .ok (.ifCond .ne 6, 3) := by decide +kernel
theorem dX5_save_9 : decode cX5_save 9 = .ok (.bipush (-2), 2) := by decide +kernel
theorem dX5_save_11 : decode cX5_save 11 = .ok (.ireturn, 1) := by decide +kernel
theorem dX5_save_12 : decode cX5_save 12 = .ok (.aload_n 0, 1) := by decide +kernel
theorem dX5_save_13 : decode cX5_save 13 = .ok (.getfield 26, 3) := by decide +kernel
theorem dX5_save_16 : decode cX5_save 16 = .ok (.iload_n 1, 1) := by decide +kernel
theorem dX5_save_17 : decode cX5_save 17 = .ok (.aaload, 1) := by decide +kernel
theorem dX5_save_18 : decode cX5_save 18 = .ok (.aload_n 0, 1) := by decide +kernel
theorem dX5_save_19 : decode cX5_save 19 = .ok (.getfield 10, 3) := by decide +kernel
theorem dX5_save_22 : decode cX5_save 22 = .ok (.invokevirtual 157, 3) := by decide +kernel
theorem dX5_save_25 : decode cX5_save 25 = .ok (.aload_n 0, 1) := by decide +kernel
theorem dX5_save_26 : decode cX5_save 26 = .ok (.getfield 30, 3) := by decide +kernel
theorem dX5_save_29 : decode cX5_save 29 = .ok (.iload_n 1, 1) := by decide +kernel
theorem dX5_save_30 : decode cX5_save 30 = .ok (.iconst 1, 1) := by decide +kernel
theorem dX5_save_31 : decode cX5_save 31 = .ok (.bastore, 1) := by decide +kernel
theorem dX5_save_32 : decode cX5_save 32 = .ok (.aload_n 0, 1) := by decide +kernel
theorem dX5_save_33 : decode cX5_save 33 = .ok (.getfield 10, 3) := by decide +kernel
theorem dX5_save_36 : decode cX5_save 36 = .ok (.getfield 104, 3) := by decide +kernel
theorem dX5_save_39 : decode cX5_save 39 = .ok (.ireturn, 1) := by decide +kernel
theorem dX5_restore_0 : decode cX5_restore 0 = .ok (.iload_n 1, 1) := by decide +kernel
theorem dX5_restore_1 : decode cX5_restore 1 = .ok (.iconst 0, 1) := by decide +kernel
theorem dX5_restore_2 : decode cX5_restore 2 = .ok (.iconst 1, 1) := by decide +kernel
theorem dX5_restore_3 : decode cX5_restore 3 = .ok (.invokestatic 41, 3) := by decide +kernel
theorem dX5_restore_6 : decode cX5_restore 6 = .ok (.ifCond .ne 6, 3) := by decide +kernel
theorem dX5_restore_9 : decode cX5_restore 9 = .ok (.bipush (-2), 2) := by decide +kernel
theorem dX5_restore_11 : decode cX5_restore 11 = .ok (.ireturn, 1) := by decide +kernel
theorem dX5_restore_12 : decode cX5_restore 12 = .ok (.aload_n 0, 1) := by decide +kernel
theorem dX5_restore_13 : decode cX5_restore 13 = .ok (.getfield 30, 3) := by decide +kernel
theorem dX5_restore_16 : decode cX5_restore 16 = .ok (.iload_n 1, 1) := by decide +kernel
theorem dX5_restore_17 : decode cX5_restore 17 = .ok (.baload, 1) := by decide +kernel
theorem dX5_restore_18 : decode cX5_restore 18 = .ok (.ifCond .ne 6, 3) := by decide +kernel
theorem dX5_restore_21 : decode cX5_restore 21 = .ok (.bipush (-5), 2) := by decide +kernel
theorem dX5_restore_23 : decode cX5_restore 23 = .ok (.ireturn, 1) := by decide +kernel
theorem dX5_restore_24 : decode cX5_restore 24 = .ok (.aload_n 0, 1) := by decide +kernel
theorem dX5_restore_25 : decode cX5_restore 25 = .ok (.getfield 22, 3) := by decide +kernel
theorem dX5_restore_28 : decode cX5_restore 28 = .ok (.aload_n 0, 1) := by decide +kernel
theorem dX5_restore_29 : decode cX5_restore 29 = .ok (.getfield 10, 3) := by decide +kernel
theorem dX5_restore_32 : decode cX5_restore 32 = .ok (.invokevirtual 52, 3) := by decide +kernel
theorem dX5_restore_35 : decode cX5_restore 35 = .ok (.aload_n 0, 1) := by decide +kernel
theorem dX5_restore_36 : decode cX5_restore 36 = .ok (.getfield 10, 3) := by decide +kernel
theorem dX5_restore_39 : decode cX5_restore 39 = .ok (.aload_n 0, 1) := by decide +kernel
theorem dX5_restore_40 : decode cX5_restore 40 = .ok (.getfield 26, 3) := by decide +kernel
theorem dX5_restore_43 : decode cX5_restore 43 = .ok (.iload_n 1, 1) := by decide +kernel
theorem dX5_restore_44 : decode cX5_restore 44 = .ok (.aaload, 1) := by decide +kernel
theorem dX5_restore_45 : decode cX5_restore 45 = .ok (.invokevirtual 157, 3) := by decide +kernel
theorem dX5_restore_48 : decode cX5_restore 48 = .ok (.aload_n 0, 1) := by decide +kernel
theorem dX5_restore_49 : decode cX5_restore 49 = .ok (.getfield 10, 3) := by decide +kernel
theorem dX5_restore_52 : decode cX5_restore 52 = .ok (.getfield 104, 3) := by decide +kernel
theorem dX5_restore_55 : decode cX5_restore 55 = .ok (.ireturn, 1) := by decide +kernel
theorem dX5_isIn_0 : decode cX5_isIn 0 = .ok (.iload_n 0, 1) := by decide +kernel
theorem dX5_isIn_1 : decode cX5_isIn 1 = .ok (.iload_n 1, 1) := by decide +kernel
theorem dX5_isIn_2 : decode cX5_isIn 2 = .ok (.if_icmp .lt 12, 3) := by decide +kernel
theorem dX5_isIn_5 : decode cX5_isIn 5 = .ok (.iload_n 0, 1) := by decide +kernel
theorem dX5_isIn_6 : decode cX5_isIn 6 = .ok (.iload_n 2, 1) := by decide +kernel
theorem dX5_isIn_7 : decode cX5_isIn 7 = .ok (.if_icmp .gt 7, 3) := by decide +kernel
theorem dX5_isIn_10 : decode cX5_isIn 10 = .ok (.iconst 1, 1) := by decide +kernel
theorem dX5_isIn_11 : decode cX5_isIn 11 = .ok (.goto 4, 3) := by decide +kernel
theorem dX5_isIn_14 : decode cX5_isIn 14 = .ok (.iconst 0, 1) := by decide +kernel
theorem dX5_isIn_15 : decode cX5_isIn 15 = .ok (.ireturn, 1) := by decide +kernel
theorem dX5_cyclesAlone_0 : decode cX5_cyclesAlone 0 = .ok (.aload_n 0, 1) := by decide +kernel
theorem dX5_cyclesAlone_1 : decode cX5_cyclesAlone 1 = .ok (.getfield 16, 3) := by decide +kernel
theorem dX5_cyclesAlone_4 : decode cX5_cyclesAlone 4 = .ok (.aload_n 0, 1) := by decide +kernel
theorem dX5_cyclesAlone_5 : decode cX5_cyclesAlone 5 = .ok (.getfield 10, 3) := by decide +kernel
theorem dX5_cyclesAlone_8 : decode cX5_cyclesAlone 8 = .ok (.invokevirtual 172, 3) := by decide +kernel
theorem dX5_cyclesAlone_11 : decode cX5_cyclesAlone 11 = .ok (.aload_n 0, 1) := by decide +kernel
theorem dX5_cyclesAlone_12 : decode cX5_cyclesAlone 12 = .ok (.getfield 16, 3) := by decide +kernel
theorem dX5_cyclesAlone_15 : decode cX5_cyclesAlone 15 = .ok (.invokevirtual 189, 3) := by decide +kernel
theorem dX5_cyclesAlone_18 : decode cX5_cyclesAlone 18 = .ok (.aload_n 0, 1) := by decide +kernel
theorem dX5_cyclesAlone_19 : decode cX5_cyclesAlone 19 = .ok (.getfield 16, 3) := by decide +kernel
theorem dX5_cyclesAlone_22 : decode cX5_cyclesAlone 22 = .ok (.aload_n 0, 1) := by decide +kernel
theorem dX5_cyclesAlone_23 : decode cX5_cyclesAlone 23 = .ok (.getfield 10, 3) := by decide +kernel
theorem dX5_cyclesAlone_26 : decode cX5_cyclesAlone 26 = .ok (.getfield 88, 3) := by decide +kernel
theorem dX5_cyclesAlone_29 : decode cX5_cyclesAlone 29 = .ok (.iload_n 1, 1) := by decide +kernel
theorem dX5_cyclesAlone_30 : decode cX5_cyclesAlone 30 = .ok (.aaload, 1) := by decide +kernel
theorem dX5_cyclesAlone_31 : decode cX5_cyclesAlone 31 = .ok (.iload_n 2, 1) := by decide +kernel
theorem dX5_cyclesAlone_32 : decode cX5_cyclesAlone 32 = .ok (.invokevirtual 192, 3) := by decide +kernel
theorem dX5_cyclesAlone_35 : decode cX5_cyclesAlone 35 = .ok (.ireturn, 1) := by decide +kernel
theorem dX5_cyclesByMap_0 : decode cX5_cyclesByMap 0 = .ok (.aload_n 0, 1) := by decide +kernel
theorem dX5_cyclesByMap_1 : decode cX5_cyclesByMap 1 = .ok (.getfield 16, 3) := by decide +kernel
theorem dX5_cyclesByMap_4 : decode cX5_cyclesByMap 4 = .ok (.aload_n 0, 1) := by decide +kernel
theorem dX5_cyclesByMap_5 : decode cX5_cyclesByMap 5 = .ok (.getfield 10, 3) := by decide +kernel
theorem dX5_cyclesByMap_8 : decode cX5_cyclesByMap 8 = .ok (.invokevirtual 157, 3) := by decide +kernel
theorem dX5_cyclesByMap_11 : decode cX5_cyclesByMap 11 = .ok (.aload_n 0, 1) := by decide +kernel
theorem dX5_cyclesByMap_12 : decode cX5_cyclesByMap 12 = .ok (.getfield 16, 3) := by decide +kernel
theorem dX5_cyclesByMap_15 : decode cX5_cyclesByMap 15 = .ok (.getfield 56, 3) := by decide +kernel
theorem dX5_cyclesByMap_18 : decode cX5_cyclesByMap 18 = .ok (.iconst 2, 1) := by decide +kernel
theorem dX5_cyclesByMap_19 : decode cX5_cyclesByMap 19 = .ok (.iload_n 1, 1) := by decide +kernel
theorem dX5_cyclesByMap_20 : decode cX5_cyclesByMap 20 = .ok (.iastore, 1) := by decide +kernel
theorem dX5_cyclesByMap_21 : decode cX5_cyclesByMap 21 = .ok (.aload_n 0, 1) := by decide +kernel
theorem dX5_cyclesByMap_22 : decode cX5_cyclesByMap 22 = .ok (.getfield 16, 3) := by decide +kernel
theorem dX5_cyclesByMap_25 : decode cX5_cyclesByMap 25 = .ok (.invokevirtual 59, 3) := by decide +kernel
theorem dX5_cyclesByMap_28 : decode cX5_cyclesByMap 28 = .ok (.aload_n 0, 1) := by decide +kernel
theorem dX5_cyclesByMap_29 : decode cX5_cyclesByMap 29 = .ok (.getfield 16, 3) := by decide +kernel
theorem dX5_cyclesByMap_32 : decode cX5_cyclesByMap 32 = .ok (.invokevirtual 160, 3) := by decide +kernel
theorem dX5_cyclesByMap_35 : decode cX5_cyclesByMap 35 = .ok (.ireturn, 1) := by decide +kernel
theorem dX5_charactersIn_0 : decode cX5_charactersIn 0 = .ok (.iconst 0, 1) := by decide +kernel
theorem dX5_charactersIn_1 : decode cX5_charactersIn 1 = .ok (.istore_n 2, 1) := by decide +kernel
theorem dX5_charactersIn_2 : decode cX5_charactersIn 2 = .ok (.lload_n 0, 1) := by decide +kernel
theorem dX5_charactersIn_3 : decode cX5_charactersIn 3 = .ok (.lstore_n 3, 1) := by decide +kernel
theorem dX5_charactersIn_4 : decode cX5_charactersIn 4 = .ok (.lload_n 3, 1) := by decide +kernel
theorem dX5_charactersIn_5 : decode cX5_charactersIn 5 = .ok (.lconst 0, 1) := by decide +kernel
theorem dX5_charactersIn_6 : decode cX5_charactersIn 6 = .ok (.lcmp, 1) := by decide +kernel
theorem dX5_charactersIn_7 : decode cX5_charactersIn 7 = .ok (.ifCond .eq 42, 3) := by decide +kernel
theorem dX5_charactersIn_10 : decode cX5_charactersIn 10 = .ok (.iload_n 2, 1) := by decide +kernel
theorem dX5_charactersIn_11 : decode cX5_charactersIn 11 = .ok (.bipush 8, 2) := by decide +kernel
theorem dX5_charactersIn_13 : decode cX5_charactersIn 13 = .ok (.if_icmp .ge 36, 3) := by decide +kernel
theorem dX5_charactersIn_16 : decode cX5_charactersIn 16 = .ok (.lload_n 3, 1) := by decide +kernel
theorem dX5_charactersIn_17 : decode cX5_charactersIn 17 = .ok (.ldc2_w 196, 3) := by decide +kernel
theorem dX5_charactersIn_20 : decode cX5_charactersIn 20 = .ok (.land, 1) := by decide +kernel
theorem dX5_charactersIn_21 : decode cX5_charactersIn 21 = .ok (.l2i, 1) := by decide +kernel
theorem dX5_charactersIn_22 : decode cX5_charactersIn 22 = .ok (.istore 5, 2) := by decide +kernel
theorem dX5_charactersIn_24 : decode cX5_charactersIn 24 = .ok (.iload 5, 2) := by decide +kernel
theorem dX5_charactersIn_26 : decode cX5_charactersIn 26 = .ok (.bipush 33, 2) := by decide +kernel
theorem dX5_charactersIn_28 : decode cX5_charactersIn 28 = .ok (.bipush 126, 2) := by decide +kernel
theorem dX5_charactersIn_30 : decode cX5_charactersIn 30 = .ok (.invokestatic 41, 3) := by decide +kernel
theorem dX5_charactersIn_33 : decode cX5_charactersIn 33 = .ok (.ifCond .ne 5, 3) := by decide +kernel
theorem dX5_charactersIn_36 : decode cX5_charactersIn 36 = .ok (.iconst 0, 1) := by decide +kernel
theorem dX5_charactersIn_37 : decode cX5_charactersIn 37 = .ok (.ireturn, 1) := by decide +kernel
theorem dX5_charactersIn_38 : decode cX5_charactersIn 38 = .ok (.iinc 2 1, 3) := by decide +kernel
theorem dX5_charactersIn_41 : decode cX5_charactersIn 41 = .ok (.lload_n 3, 1) := by decide +kernel
theorem dX5_charactersIn_42 : decode cX5_charactersIn 42 = .ok (.bipush 8, 2) := by decide +kernel
theorem dX5_charactersIn_44 : decode cX5_charactersIn 44 = .ok (.lushr, 1) := by decide +kernel
theorem dX5_charactersIn_45 : decode cX5_charactersIn 45 = .ok (.lstore_n 3, 1) := by decide +kernel
theorem dX5_charactersIn_46 : decode cX5_charactersIn 46 = .ok (.goto (-42), 3) := by decide +kernel
theorem dX5_charactersIn_49 : decode cX5_charactersIn 49 = .ok (.iload_n 2, 1) := by decide +kernel
theorem dX5_charactersIn_50 : decode cX5_charactersIn 50 = .ok (.ireturn, 1) := by decide +kernel
end
section
theorem dX6_init_0 : decode cX6_init 0 = .ok (.aload_n 0, 1) := by decide +kernel
theorem dX6_init_1 : decode cX6_init 1 = .ok (.invokespecial 1, 3) := by decide +kernel
theorem dX6_init_4 : decode cX6_init 4 = .ok (.aload_n 0, 1) := by decide +kernel
theorem dX6_init_5 : decode cX6_init 5 = .ok (.bipush 110, 2) := by decide +kernel
theorem dX6_init_7 : decode cX6_init 7 = .ok (.newarray .int, 2) := by decide +kernel
theorem dX6_init_9 : decode cX6_init 9 = .ok (.putfield 7, 3) := by decide +kernel
theorem dX6_init_12 : decode cX6_init 12 = .ok (.aload_n 0, 1) := by decide +kernel
theorem dX6_init_13 : decode cX6_init 13 = .ok (.bipush 110, 2) := by decide +kernel
theorem dX6_init_15 : decode cX6_init 15 = .ok (.newarray .int, 2) := by decide +kernel
theorem dX6_init_17 : decode cX6_init 17 = .ok (.putfield 13, 3) := by decide +kernel
theorem dX6_init_20 : decode cX6_init 20 = .ok (.aload_n 0, 1) := by decide +kernel
theorem dX6_init_21 : decode cX6_init 21 = .ok (.bipush 110, 2) := by decide +kernel
theorem dX6_init_23 : decode cX6_init 23 = .ok (.newarray .int, 2) := by decide +kernel
theorem dX6_init_25 : decode cX6_init 25 = .ok (.putfield 16, 3) := by decide +kernel
theorem dX6_init_28 : decode cX6_init 28 = .ok (.aload_n 0, 1) := by decide +kernel
theorem dX6_init_29 : decode cX6_init 29 = .ok (.sipush 660, 3) := by decide +kernel
theorem dX6_init_32 : decode cX6_init 32 = .ok (.newarray .int, 2) := by decide +kernel
theorem dX6_init_34 : decode cX6_init 34 = .ok (.putfield 19, 3) := by decide +kernel
theorem dX6_init_37 : decode cX6_init 37 = .ok (.aload_n 0, 1) := by decide +kernel
theorem dX6_init_38 : decode cX6_init 38 = .ok (.sipush 220, 3) := by decide +kernel
theorem dX6_init_41 : decode cX6_init 41 = .ok (.newarray .int, 2) := by decide +kernel
theorem dX6_init_43 : decode cX6_init 43 = .ok (.putfield 22, 3) := by decide +kernel
theorem dX6_init_46 : decode cX6_init 46 = .ok (.aload_n 0, 1) := by decide +kernel
theorem dX6_init_47 : decode cX6_init 47 = .ok (.iconst 2, 1) := by decide +kernel
theorem dX6_init_48 : decode cX6_init 48 = .ok (.newarray .boolean, 2) := by decide +kernel
theorem dX6_init_50 : decode cX6_init 50 = .ok (.putfield 25, 3) := by decide +kernel
theorem dX6_init_53 : decode cX6_init 53 = .ok (.aload_n 0, 1) := by decide +kernel
theorem dX6_init_54 : decode cX6_init 54 = .ok (.bipush 33, 2) := by decide +kernel
theorem dX6_init_56 : decode cX6_init 56 = .ok (.newarray .int, 2) := by decide +kernel
theorem dX6_init_58 : decode cX6_init 58 = .ok (.putfield 29, 3) := by decide +kernel
theorem dX6_init_61 : decode cX6_init 61 = .ok (.aload_n 0, 1) := by decide +kernel
theorem dX6_init_62 : decode cX6_init 62 = .ok (.bipush 60, 2) := by decide +kernel
theorem dX6_init_64 : decode cX6_init 64 = .ok (.newarray .char, 2) := by decide +kernel
theorem dX6_init_66 : decode cX6_init 66 = .ok (.putfield 32, 3) := by decide +kernel
theorem dX6_init_69 : decode cX6_init 69 = .ok (.aload_n 0, 1) := by decide +kernel
theorem dX6_init_70 : decode cX6_init 70 = .ok (.getfield 7, 3) := by decide +kernel
theorem dX6_init_73 : decode cX6_init 73 = .ok (.iconst 0, 1) := by decide +kernel
theorem dX6_init_74 : decode cX6_init 74 = .ok (.bipush 8, 2) := by decide +kernel
theorem dX6_init_76 : decode cX6_init 76 = .ok (.iastore, 1) := by decide +kernel
theorem dX6_init_77 : decode cX6_init 77 = .ok (.aload_n 0, 1) := by decide +kernel
theorem dX6_init_78 : decode cX6_init 78 = .ok (.getfield 7, 3) := by decide +kernel
theorem dX6_init_81 : decode cX6_init 81 = .ok (.iconst 1, 1) := by decide +kernel
theorem dX6_init_82 : decode cX6_init 82 = .ok (.iconst 4, 1) := by decide +kernel
theorem dX6_init_83 : decode cX6_init 83 = .ok (.iastore, 1) := by decide +kernel
theorem dX6_init_84 : decode cX6_init 84 = .ok (.return_, 1) := by decide +kernel
theorem dX6_in_0 : decode cX6_in 0 = .ok (.iload_n 0, 1) := by decide +kernel
theorem dX6_in_1 : decode cX6_in 1 = .ok (.iload_n 1, 1) := by decide +kernel
theorem dX6_in_2 : decode cX6_in 2 = .ok (.if_icmp .lt 12, 3) := by decide +kernel
theorem dX6_in_5 : decode cX6_in 5 = .ok (.iload_n 0, 1) := by decide +kernel
theorem dX6_in_6 : decode cX6_in 6 = .ok (.iload_n 2, 1) := by decide +kernel
theorem dX6_in_7 : decode cX6_in 7 = .ok (.if_icmp .gt 7, 3) := by decide +kernel
theorem dX6_in_10 : decode cX6_in 10 = .ok (.iconst 1, 1) := by decide +kernel
theorem dX6_in_11 : decode cX6_in 11 = .ok (.goto 4, 3) := by decide +kernel
theorem dX6_in_14 : decode cX6_in 14 = .ok (.iconst 0, 1) := by decide +kernel
theorem dX6_in_15 : decode cX6_in 15 = .ok (.ireturn, 1) := by decide +kernel
theorem dX6_b_0 : decode cX6_b 0 = .ok (.bipush 6, 2) := by decide +kernel
theorem dX6_b_2 : decode cX6_b 2 = .ok (.iconst 4, 1) := by decide +kernel
theorem dX6_b_3 : decode cX6_b 3 = .ok (.iload_n 0, 1) := by decide +kernel
theorem dX6_b_4 : decode cX6_b 4 = .ok (.imul, 1) := by decide +kernel
theorem dX6_b_5 : decode cX6_b 5 = .ok (.iadd, 1) := by decide +kernel
theorem dX6_b_6 : decode cX6_b 6 = .ok (.ireturn, 1) := by decide +kernel
theorem dX6_m_0 : decode cX6_m 0 = .ok (.bipush 70, 2) := by decide +kernel
theorem dX6_m_2 : decode cX6_m 2 = .ok (.bipush 10, 2) := by decide +kernel
theorem dX6_m_4 : decode cX6_m 4 = .ok (.iload_n 0, 1) := by decide +kernel
theorem dX6_m_5 : decode cX6_m 5 = .ok (.imul, 1) := by decide +kernel
theorem dX6_m_6 : decode cX6_m 6 = .ok (.iadd, 1) := by decide +kernel
theorem dX6_m_7 : decode cX6_m 7 = .ok (.ireturn, 1) := by decide +kernel
theorem dX6_isStream_0 : decode cX6_isStream 0 = .ok (.iload_n 1, 1) := by decide +kernel
theorem dX6_isStream_1 : decode cX6_isStream 1 = .ok (.iconst 0, 1) := by decide +kernel
theorem dX6_isStream_2 : decode cX6_isStream 2 = .ok (.aload_n 0, 1) := by decide +kernel
theorem dX6_isStream_3 : decode cX6_isStream 3 = .ok (.getfield 7, 3) := by decide +kernel
theorem dX6_isStream_6 : decode cX6_isStream 6 = .ok (.iconst 5, 1) := by decide +kernel
theorem dX6_isStream_7 : decode cX6_isStream 7 = .ok (.iaload, 1) := by decide +kernel
theorem dX6_isStream_8 : decode cX6_isStream 8 = .ok (.iconst 1, 1) := by decide +kernel
theorem dX6_isStream_9 : decode cX6_isStream 9 = .ok (.isub, 1) := by decide +kernel
theorem dX6_isStream_10 : decode cX6_isStream 10 = .ok (.invokestatic 36, 3) := by decide +kernel
theorem dX6_isStream_13 : decode cX6_isStream 13 = .ok (.ireturn, 1) := by decide +kernel
theorem dX6_hold_0 : decode cX6_hold 0 = .ok (.iconst 0, 1) := by decide +kernel
theorem dX6_hold_1 : decode cX6_hold 1 = .ok (.istore_n 1, 1) := by decide +kernel
theorem dX6_hold_2 : decode cX6_hold 2 = .ok (.iload_n 1, 1) := by decide +kernel
theorem dX6_hold_3 : decode cX6_hold 3 = .ok (.bipush 110, 2) := by decide +kernel
theorem dX6_hold_5 : decode cX6_hold 5 = .ok (.if_icmp .ge 21, 3) := by decide +kernel
theorem dX6_hold_8 : decode cX6_hold 8 = .ok (.aload_n 0, 1) := by decide +kernel
theorem dX6_hold_9 : decode cX6_hold 9 = .ok (.getfield 13, 3) := by decide +kernel
theorem dX6_hold_12 : decode cX6_hold 12 = .ok (.iload_n 1, 1) := by decide +kernel
theorem dX6_hold_13 : decode cX6_hold 13 = .ok (.aload_n 0, 1) := by decide +kernel
theorem dX6_hold_14 : decode cX6_hold 14 = .ok (.getfield 7, 3) := by decide +kernel
theorem dX6_hold_17 : decode cX6_hold 17 = .ok (.iload_n 1, 1) := by decide +kernel
theorem dX6_hold_18 : decode cX6_hold 18 = .ok (.iaload, 1) := by decide +kernel
theorem dX6_hold_19 : decode cX6_hold 19 = .ok (.iastore, 1) := by decide +kernel
theorem dX6_hold_20 : decode cX6_hold 20 = .ok (.iinc 1 1, 3) := by decide +kernel
theorem dX6_hold_23 : decode cX6_hold 23 = .ok (.goto (-21), 3) := by decide +kernel
theorem dX6_hold_26 : decode cX6_hold 26 = .ok (.return_, 1) := by decide +kernel
theorem dX6_recorded_0 : decode cX6_recorded 0 = .ok (.aload_n 0, 1) := by decide +kernel
theorem dX6_recorded_1 : decode cX6_recorded 1 = .ok (.getfield 40, 3) := by decide +kernel
theorem dX6_recorded_4 : decode cX6_recorded 4 = .ok (.bipush 6, 2) := by decide +kernel
theorem dX6_recorded_6 : decode cX6_recorded 6 = .ok (.if_icmp .ne 43, 3) := by decide +kernel
theorem dX6_recorded_9 : decode cX6_recorded 9 = .ok (.iconst 0, 1) := by decide +kernel
theorem dX6_recorded_10 : decode cX6_recorded 10 = .ok (.istore_n 2, 1) := by decide +kernel
theorem dX6_recorded_11 : decode cX6_recorded 11 = .ok (.iload_n 2, 1) := by decide +kernel
theorem dX6_recorded_12 : decode cX6_recorded 12 = .ok (.sipush 550, 3) := by decide +kernel
theorem dX6_recorded_15 : decode cX6_recorded 15 = .ok (.if_icmp .ge 24, 3) := by decide +kernel
theorem dX6_recorded_18 : decode cX6_recorded 18 = .ok (.aload_n 0, 1) := by decide +kernel
theorem dX6_recorded_19 : decode cX6_recorded 19 = .ok (.getfield 19, 3) := by decide +kernel
theorem dX6_recorded_22 : decode cX6_recorded 22 = .ok (.iload_n 2, 1) := by decide +kernel
theorem dX6_recorded_23 : decode cX6_recorded 23 = .ok (.aload_n 0, 1) := by decide +kernel
theorem dX6_recorded_24 : decode cX6_recorded 24 = .ok (.getfield 19, 3) := by decide +kernel
theorem dX6_recorded_27 : decode cX6_recorded 27 = .ok (.bipush 110, 2) := by decide +kernel
theorem dX6_recorded_29 : decode cX6_recorded 29 = .ok (.iload_n 2, 1) := by decide +kernel
theorem dX6_recorded_30 : decode cX6_recorded 30 = .ok (.iadd, 1) := by decide +kernel
theorem dX6_recorded_31 : decode cX6_recorded 31 = .ok (.iaload, 1) := by decide +kernel
theorem dX6_recorded_32 : decode cX6_recorded 32 = .ok (.iastore, 1) := by decide +kernel
theorem dX6_recorded_33 : decode cX6_recorded 33 = .ok (.iinc 2 1, 3) := by decide +kernel
theorem dX6_recorded_36 : decode cX6_recorded 36 = .ok (.goto (-25), 3) := by decide +kernel
theorem dX6_recorded_39 : decode cX6_recorded 39 = .ok (.aload_n 0, 1) := by decide +kernel
theorem dX6_recorded_40 : decode cX6_recorded 40 = .ok (.dup, 1) := by decide +kernel
theorem dX6_recorded_41 : decode cX6_recorded 41 = .ok (.getfield 40, 3) := by decide +kernel
theorem dX6_recorded_44 : decode cX6_recorded 44 = .ok (.iconst 1, 1) := by decide +kernel
theorem dX6_recorded_45 : decode cX6_recorded 45 = .ok (.isub, 1) := by decide +kernel
theorem dX6_recorded_46 : decode cX6_recorded 46 = .ok (.putfield 40, 3) := by decide +kernel
theorem dX6_recorded_49 : decode cX6_recorded 49 = .ok (.iconst 0, 1) := by decide +kernel
theorem dX6_recorded_50 : decode cX6_recorded 50 = .ok (.istore_n 2, 1) := by decide +kernel
theorem dX6_recorded_51 : decode cX6_recorded 51 = .ok (.iload_n 2, 1) := by decide +kernel
theorem dX6_recorded_52 : decode cX6_recorded 52 = .ok (.bipush 110, 2) := by decide +kernel
theorem dX6_recorded_54 : decode cX6_recorded 54 = .ok (.if_icmp .ge 29, 3) := by decide +kernel
theorem dX6_recorded_57 : decode cX6_recorded 57 = .ok (.aload_n 0, 1) := by decide +kernel
theorem dX6_recorded_58 : decode cX6_recorded 58 = .ok (.getfield 19, 3) := by decide +kernel
theorem dX6_recorded_61 : decode cX6_recorded 61 = .ok (.bipush 110, 2) := by decide +kernel
theorem dX6_recorded_63 : decode cX6_recorded 63 = .ok (.aload_n 0, 1) := by decide +kernel
theorem dX6_recorded_64 : decode cX6_recorded 64 = .ok (.getfield 40, 3) := by decide +kernel
theorem dX6_recorded_67 : decode cX6_recorded 67 = .ok (.imul, 1) := by decide +kernel
theorem dX6_recorded_68 : decode cX6_recorded 68 = .ok (.iload_n 2, 1) := by decide +kernel
theorem dX6_recorded_69 : decode cX6_recorded 69 = .ok (.iadd, 1) := by decide +kernel
theorem dX6_recorded_70 : decode cX6_recorded 70 = .ok (.aload_n 0, 1) := by decide +kernel
theorem dX6_recorded_71 : decode cX6_recorded 71 = .ok (.getfield 13, 3) := by decide +kernel
theorem dX6_recorded_74 : decode cX6_recorded 74 = .ok (.iload_n 2, 1) := by decide +kernel
theorem dX6_recorded_75 : decode cX6_recorded 75 = .ok (.iaload, 1) := by decide +kernel
theorem dX6_recorded_76 : decode cX6_recorded 76 = .ok (.iastore, 1) := by decide +kernel
theorem dX6_recorded_77 : decode cX6_recorded 77 = .ok (.iinc 2 1, 3) := by decide +kernel
theorem dX6_recorded_80 : decode cX6_recorded 80 = .ok (.goto (-29), 3) := by decide +kernel
theorem dX6_recorded_83 : decode cX6_recorded 83 = .ok (.aload_n 0, 1) := by decide +kernel
theorem dX6_recorded_84 : decode cX6_recorded 84 = .ok (.dup, 1) := by decide +kernel
theorem dX6_recorded_85 : decode cX6_recorded 85 = .ok (.getfield 40, 3) := by decide +kernel
theorem dX6_recorded_88 : decode cX6_recorded 88 = .ok (.iconst 1, 1) := by decide +kernel
theorem dX6_recorded_89 : decode cX6_recorded 89 = .ok (.iadd, 1) := by decide +kernel
theorem dX6_recorded_90 : decode cX6_recorded 90 = .ok (.putfield 40, 3) := by decide +kernel
theorem dX6_recorded_93 : decode cX6_recorded 93 = .ok (.iload_n 1, 1) := by decide +kernel
theorem dX6_recorded_94 : decode cX6_recorded 94 = .ok (.ireturn, 1) := by decide +kernel
theorem dX6_keepTrial_0 : decode cX6_keepTrial 0 = .ok (.iconst 0, 1) := by decide +kernel
theorem dX6_keepTrial_1 : decode cX6_keepTrial 1 = .ok (.istore_n 1, 1) := by decide +kernel
theorem dX6_keepTrial_2 : decode cX6_keepTrial 2 = .ok (.iload_n 1, 1) := by decide +kernel
theorem dX6_keepTrial_3 : decode cX6_keepTrial 3 = .ok (.bipush 110, 2) := by decide +kernel
theorem dX6_keepTrial_5 : decode cX6_keepTrial 5 = .ok (.if_icmp .ge 21, 3) := by decide +kernel
theorem dX6_keepTrial_8 : decode cX6_keepTrial 8 = .ok (.aload_n 0, 1) := by decide +kernel
theorem dX6_keepTrial_9 : decode cX6_keepTrial 9 = .ok (.getfield 16, 3) := by decide +kernel
theorem dX6_keepTrial_12 : decode cX6_keepTrial 12 = .ok (.iload_n 1, 1) := by decide +kernel
theorem dX6_keepTrial_13 : decode cX6_keepTrial 13 = .ok (.aload_n 0, 1) := by decide +kernel
theorem dX6_keepTrial_14 : decode cX6_keepTrial 14 = .ok (.getfield 7, 3) := by decide +kernel
theorem dX6_keepTrial_17 : decode cX6_keepTrial 17 = .ok (.iload_n 1, 1) := by decide +kernel
theorem dX6_keepTrial_18 : decode cX6_keepTrial 18 = .ok (.iaload, 1) := by decide +kernel
theorem dX6_keepTrial_19 : decode cX6_keepTrial 19 = .ok (.iastore, 1) := by decide +kernel
theorem dX6_keepTrial_20 : decode cX6_keepTrial 20 = .ok (.iinc 1 1, 3) := by decide +kernel
theorem dX6_keepTrial_23 : decode cX6_keepTrial 23 = .ok (.goto (-21), 3) := by decide +kernel
theorem dX6_keepTrial_26 : decode cX6_keepTrial 26 = .ok (.return_, 1) := by decide +kernel
theorem dX6_putBack_0 : decode cX6_putBack 0 = .ok (.iconst 0, 1) := by decide +kernel
theorem dX6_putBack_1 : decode cX6_putBack 1 = .ok (.istore_n 1, 1) := by decide +kernel
theorem dX6_putBack_2 : decode cX6_putBack 2 = .ok (.iload_n 1, 1) := by decide +kernel
theorem dX6_putBack_3 : decode cX6_putBack 3 = .ok (.bipush 110, 2) := by decide +kernel
theorem dX6_putBack_5 : decode cX6_putBack 5 = .ok (.if_icmp .ge 21, 3) := by decide +kernel
theorem dX6_putBack_8 : decode cX6_putBack 8 = .ok (.aload_n 0, 1) := by decide +kernel
theorem dX6_putBack_9 : decode cX6_putBack 9 = .ok (.getfield 7, 3) := by decide +kernel
theorem dX6_putBack_12 : decode cX6_putBack 12 = .ok (.iload_n 1, 1) := by decide +kernel
theorem dX6_putBack_13 : decode cX6_putBack 13 = .ok (.aload_n 0, 1) := by decide +kernel
theorem dX6_putBack_14 : decode cX6_putBack 14 = .ok (.getfield 16, 3) := by decide +kernel
theorem dX6_putBack_17 : decode cX6_putBack 17 = .ok (.iload_n 1, 1) := by decide +kernel
theorem dX6_putBack_18 : decode cX6_putBack 18 = .ok (.iaload, 1) := by decide +kernel
theorem dX6_putBack_19 : decode cX6_putBack 19 = .ok (.iastore, 1) := by decide +kernel
theorem dX6_putBack_20 : decode cX6_putBack 20 = .ok (.iinc 1 1, 3) := by decide +kernel
theorem dX6_putBack_23 : decode cX6_putBack 23 = .ok (.goto (-21), 3) := by decide +kernel
theorem dX6_putBack_26 : decode cX6_putBack 26 = .ok (.return_, 1) := by decide +kernel
theorem dX6_isPrime_0 : decode cX6_isPrime 0 = .ok (.iconst 1, 1) := by decide +kernel
theorem dX6_isPrime_1 : decode cX6_isPrime 1 = .ok (.istore_n 1, 1) := by decide +kernel
theorem dX6_isPrime_2 : decode cX6_isPrime 2 = .ok (.iconst 2, 1) := by decide +kernel
theorem dX6_isPrime_3 : decode cX6_isPrime 3 = .ok (.istore_n 2, 1) := by decide +kernel
theorem dX6_isPrime_4 : decode cX6_isPrime 4 = .ok (.iload_n 2, 1) := by decide +kernel
theorem dX6_isPrime_5 : decode cX6_isPrime 5 = .ok (.iload_n 0, 1) := by decide +kernel
theorem dX6_isPrime_6 : decode cX6_isPrime 6 = .ok (.if_icmp .ge 25, 3) := by decide +kernel
theorem dX6_isPrime_9 : decode cX6_isPrime 9 = .ok (.iload_n 1, 1) := by decide +kernel
theorem dX6_isPrime_10 : decode cX6_isPrime 10 = .ok (.ifCond .eq 13, 3) := by decide +kernel
theorem dX6_isPrime_13 : decode cX6_isPrime 13 = .ok (.iload_n 0, 1) := by decide +kernel
theorem dX6_isPrime_14 : decode cX6_isPrime 14 = .ok (.iload_n 2, 1) := by decide +kernel
theorem dX6_isPrime_15 : decode cX6_isPrime 15 = .ok (.irem, 1) := by decide +kernel
theorem dX6_isPrime_16 : decode cX6_isPrime 16 = .ok (.ifCond .le 7, 3) := by decide +kernel
theorem dX6_isPrime_19 : decode cX6_isPrime 19 = .ok (.iconst 1, 1) := by decide +kernel
theorem dX6_isPrime_20 : decode cX6_isPrime 20 = .ok (.goto 4, 3) := by decide +kernel
theorem dX6_isPrime_23 : decode cX6_isPrime 23 = .ok (.iconst 0, 1) := by decide +kernel
theorem dX6_isPrime_24 : decode cX6_isPrime 24 = .ok (.istore_n 1, 1) := by decide +kernel
theorem dX6_isPrime_25 : decode cX6_isPrime 25 = .ok (.iinc 2 1, 3) := by decide +kernel
theorem dX6_isPrime_28 : decode cX6_isPrime 28 = .ok (.goto (-24), 3) := by decide +kernel
theorem dX6_isPrime_31 : decode cX6_isPrime 31 = .ok (.iload_n 1, 1) := by decide +kernel
theorem dX6_isPrime_32 : decode cX6_isPrime 32 = .ok (.ireturn, 1) := by decide +kernel
theorem dX6_prime_0 : decode cX6_prime 0 = .ok (.aload_n 0, 1) := by decide +kernel
theorem dX6_prime_1 : decode cX6_prime 1 = .ok (.getfield 7, 3) := by decide +kernel
theorem dX6_prime_4 : decode cX6_prime 4 = .ok (.iconst 0, 1) := by decide +kernel
theorem dX6_prime_5 : decode cX6_prime 5 = .ok (.iaload, 1) := by decide +kernel
theorem dX6_prime_6 : decode cX6_prime 6 = .ok (.istore_n 1, 1) := by decide +kernel
theorem dX6_prime_7 : decode cX6_prime 7 = .ok (.iload_n 1, 1) := by decide +kernel
theorem dX6_prime_8 : decode cX6_prime 8 = .ok (.invokestatic 44, 3) := by decide +kernel
theorem dX6_prime_11 : decode cX6_prime 11 = .ok (.ifCond .ne 9, 3) := by decide +kernel
theorem dX6_prime_14 : decode cX6_prime 14 = .ok (.iinc 1 (-1), 3) := by decide +kernel
theorem dX6_prime_17 : decode cX6_prime 17 = .ok (.goto (-10), 3) := by decide +kernel
theorem dX6_prime_20 : decode cX6_prime 20 = .ok (.iload_n 1, 1) := by decide +kernel
theorem dX6_prime_21 : decode cX6_prime 21 = .ok (.ireturn, 1) := by decide +kernel
theorem dX6_bankAt_0 : decode cX6_bankAt 0 = .ok (.aload_n 0, 1) := by decide +kernel
theorem dX6_bankAt_1 : decode cX6_bankAt 1 = .ok (.getfield 7, 3) := by decide +kernel
theorem dX6_bankAt_4 : decode cX6_bankAt 4 = .ok (.iconst 0, 1) := by decide +kernel
theorem dX6_bankAt_5 : decode cX6_bankAt 5 = .ok (.iaload, 1) := by decide +kernel
theorem dX6_bankAt_6 : decode cX6_bankAt 6 = .ok (.istore_n 2, 1) := by decide +kernel
theorem dX6_bankAt_7 : decode cX6_bankAt 7 = .ok (.aload_n 0, 1) := by decide +kernel
theorem dX6_bankAt_8 : decode cX6_bankAt 8 = .ok (.getfield 7, 3) := by decide +kernel
theorem dX6_bankAt_11 : decode cX6_bankAt 11 = .ok (.iconst 2, 1) := by decide +kernel
theorem dX6_bankAt_12 : decode cX6_bankAt 12 = .ok (.iaload, 1) := by decide +kernel
theorem dX6_bankAt_13 : decode cX6_bankAt 13 = .ok (.ifCond .ne 9, 3) := by decide +kernel
theorem dX6_bankAt_16 : decode cX6_bankAt 16 = .ok (.iload_n 1, 1) := by decide +kernel
theorem dX6_bankAt_17 : decode cX6_bankAt 17 = .ok (.iload_n 2, 1) := by decide +kernel
theorem dX6_bankAt_18 : decode cX6_bankAt 18 = .ok (.irem, 1) := by decide +kernel
theorem dX6_bankAt_19 : decode cX6_bankAt 19 = .ok (.goto 29, 3) := by decide +kernel
theorem dX6_bankAt_22 : decode cX6_bankAt 22 = .ok (.aload_n 0, 1) := by decide +kernel
theorem dX6_bankAt_23 : decode cX6_bankAt 23 = .ok (.getfield 7, 3) := by decide +kernel
theorem dX6_bankAt_26 : decode cX6_bankAt 26 = .ok (.iconst 2, 1) := by decide +kernel
theorem dX6_bankAt_27 : decode cX6_bankAt 27 = .ok (.iaload, 1) := by decide +kernel
theorem dX6_bankAt_28 : decode cX6_bankAt 28 = .ok (.iconst 1, 1) := by decide +kernel
theorem dX6_bankAt_29 : decode cX6_bankAt 29 = .ok (.if_icmp .ne 13, 3) := by decide +kernel
theorem dX6_bankAt_32 : decode cX6_bankAt 32 = .ok (.iload_n 1, 1) := by decide +kernel
theorem dX6_bankAt_33 : decode cX6_bankAt 33 = .ok (.iload_n 1, 1) := by decide +kernel
theorem dX6_bankAt_34 : decode cX6_bankAt 34 = .ok (.iload_n 2, 1) := by decide +kernel
theorem dX6_bankAt_35 : decode cX6_bankAt 35 = .ok (.idiv, 1) := by decide +kernel
theorem dX6_bankAt_36 : decode cX6_bankAt 36 = .ok (.iadd, 1) := by decide +kernel
theorem dX6_bankAt_37 : decode cX6_bankAt 37 = .ok (.iload_n 2, 1) := by decide +kernel
theorem dX6_bankAt_38 : decode cX6_bankAt 38 = .ok (.irem, 1) := by decide +kernel
theorem dX6_bankAt_39 : decode cX6_bankAt 39 = .ok (.goto 9, 3) := by decide +kernel
theorem dX6_bankAt_42 : decode cX6_bankAt 42 = .ok (.iload_n 1, 1) := by decide +kernel
theorem dX6_bankAt_43 : decode cX6_bankAt 43 = .ok (.aload_n 0, 1) := by decide +kernel
theorem dX6_bankAt_44 : decode cX6_bankAt 44 = .ok (.invokevirtual 48, 3) := by decide +kernel
theorem dX6_bankAt_47 : decode cX6_bankAt 47 = .ok (.irem, 1) := by decide +kernel
theorem dX6_bankAt_48 : decode cX6_bankAt 48 = .ok (.ireturn, 1) := by decide +kernel
theorem dX6_asks_0 : decode cX6_asks 0 = .ok (.iload_n 1, 1) := by decide +kernel
theorem dX6_asks_1 : decode cX6_asks 1 = .ok (.invokestatic 52, 3) := by decide +kernel
theorem dX6_asks_4 : decode cX6_asks 4 = .ok (.istore_n 2, 1) := by decide +kernel
theorem dX6_asks_5 : decode cX6_asks 5 = .ok (.aload_n 0, 1) := by decide +kernel
theorem dX6_asks_6 : decode cX6_asks 6 = .ok (.aload_n 0, 1) := by decide +kernel
theorem dX6_asks_7 : decode cX6_asks 7 = .ok (.getfield 7, 3) := by decide +kernel
theorem dX6_asks_10 : decode cX6_asks 10 = .ok (.iload_n 2, 1) := by decide +kernel
theorem dX6_asks_11 : decode cX6_asks 11 = .ok (.iconst 4, 1) := by decide +kernel
theorem dX6_asks_12 : decode cX6_asks 12 = .ok (.iadd, 1) := by decide +kernel
theorem dX6_asks_13 : decode cX6_asks 13 = .ok (.iaload, 1) := by decide +kernel
theorem dX6_asks_14 : decode cX6_asks 14 = .ok (.invokevirtual 56, 3) := by decide +kernel
theorem dX6_asks_17 : decode cX6_asks 17 = .ok (.invokestatic 59, 3) := by decide +kernel
theorem dX6_asks_20 : decode cX6_asks 20 = .ok (.istore_n 3, 1) := by decide +kernel
theorem dX6_asks_21 : decode cX6_asks 21 = .ok (.aload_n 0, 1) := by decide +kernel
theorem dX6_asks_22 : decode cX6_asks 22 = .ok (.getfield 7, 3) := by decide +kernel
theorem dX6_asks_25 : decode cX6_asks 25 = .ok (.iload_n 3, 1) := by decide +kernel
theorem dX6_asks_26 : decode cX6_asks 26 = .ok (.iconst 0, 1) := by decide +kernel
theorem dX6_asks_27 : decode cX6_asks 27 = .ok (.iadd, 1) := by decide +kernel
theorem dX6_asks_28 : decode cX6_asks 28 = .ok (.iaload, 1) := by decide +kernel
theorem dX6_asks_29 : decode cX6_asks 29 = .ok (.aload_n 0, 1) := by decide +kernel
theorem dX6_asks_30 : decode cX6_asks 30 = .ok (.getfield 7, 3) := by decide +kernel
theorem dX6_asks_33 : decode cX6_asks 33 = .ok (.iconst 4, 1) := by decide +kernel
theorem dX6_asks_34 : decode cX6_asks 34 = .ok (.iaload, 1) := by decide +kernel
theorem dX6_asks_35 : decode cX6_asks 35 = .ok (.if_icmp .le 59, 3) := by decide +kernel
theorem dX6_asks_38 : decode cX6_asks 38 = .ok (.aload_n 0, 1) := by decide +kernel
theorem dX6_asks_39 : decode cX6_asks 39 = .ok (.getfield 7, 3) := by decide +kernel
theorem dX6_asks_42 : decode cX6_asks 42 = .ok (.iload_n 2, 1) := by decide +kernel
theorem dX6_asks_43 : decode cX6_asks 43 = .ok (.bipush 6, 2) := by decide +kernel
theorem dX6_asks_45 : decode cX6_asks 45 = .ok (.iadd, 1) := by decide +kernel
theorem dX6_asks_46 : decode cX6_asks 46 = .ok (.dup2, 1) := by decide +kernel
theorem dX6_asks_47 : decode cX6_asks 47 = .ok (.iaload, 1) := by decide +kernel
theorem dX6_asks_48 : decode cX6_asks 48 = .ok (.iconst 1, 1) := by decide +kernel
theorem dX6_asks_49 : decode cX6_asks 49 = .ok (.iadd, 1) := by decide +kernel
theorem dX6_asks_50 : decode cX6_asks 50 = .ok (.iastore, 1) := by decide +kernel
theorem dX6_asks_51 : decode cX6_asks 51 = .ok (.aload_n 0, 1) := by decide +kernel
theorem dX6_asks_52 : decode cX6_asks 52 = .ok (.getfield 7, 3) := by decide +kernel
theorem dX6_asks_55 : decode cX6_asks 55 = .ok (.iload_n 2, 1) := by decide +kernel
theorem dX6_asks_56 : decode cX6_asks 56 = .ok (.bipush 7, 2) := by decide +kernel
theorem dX6_asks_58 : decode cX6_asks 58 = .ok (.iadd, 1) := by decide +kernel
theorem dX6_asks_59 : decode cX6_asks 59 = .ok (.dup2, 1) := by decide +kernel
theorem dX6_asks_60 : decode cX6_asks 60 = .ok (.iaload, 1) := by decide +kernel
theorem dX6_asks_61 : decode cX6_asks 61 = .ok (.aload_n 0, 1) := by decide +kernel
theorem dX6_asks_62 : decode cX6_asks 62 = .ok (.getfield 7, 3) := by decide +kernel
theorem dX6_asks_65 : decode cX6_asks 65 = .ok (.iload_n 3, 1) := by decide +kernel
theorem dX6_asks_66 : decode cX6_asks 66 = .ok (.iconst 1, 1) := by decide +kernel
theorem dX6_asks_67 : decode cX6_asks 67 = .ok (.iadd, 1) := by decide +kernel
theorem dX6_asks_68 : decode cX6_asks 68 = .ok (.iaload, 1) := by decide +kernel
theorem dX6_asks_69 : decode cX6_asks 69 = .ok (.iload_n 1, 1) := by decide +kernel
theorem dX6_asks_70 : decode cX6_asks 70 = .ok (.if_icmp .ne 7, 3) := by decide +kernel
theorem dX6_asks_73 : decode cX6_asks 73 = .ok (.iconst 0, 1) := by decide +kernel
theorem dX6_asks_74 : decode cX6_asks 74 = .ok (.goto 4, 3) := by decide +kernel
theorem dX6_asks_77 : decode cX6_asks 77 = .ok (.iconst 1, 1) := by decide +kernel
theorem dX6_asks_78 : decode cX6_asks 78 = .ok (.iadd, 1) := by decide +kernel
theorem dX6_asks_79 : decode cX6_asks 79 = .ok (.iastore, 1) := by decide +kernel
theorem dX6_asks_80 : decode cX6_asks 80 = .ok (.aload_n 0, 1) := by decide +kernel
theorem dX6_asks_81 : decode cX6_asks 81 = .ok (.getfield 7, 3) := by decide +kernel
theorem dX6_asks_84 : decode cX6_asks 84 = .ok (.iload_n 3, 1) := by decide +kernel
theorem dX6_asks_85 : decode cX6_asks 85 = .ok (.iconst 3, 1) := by decide +kernel
theorem dX6_asks_86 : decode cX6_asks 86 = .ok (.iadd, 1) := by decide +kernel
theorem dX6_asks_87 : decode cX6_asks 87 = .ok (.dup2, 1) := by decide +kernel
theorem dX6_asks_88 : decode cX6_asks 88 = .ok (.iaload, 1) := by decide +kernel
theorem dX6_asks_89 : decode cX6_asks 89 = .ok (.iconst 1, 1) := by decide +kernel
theorem dX6_asks_90 : decode cX6_asks 90 = .ok (.iadd, 1) := by decide +kernel
theorem dX6_asks_91 : decode cX6_asks 91 = .ok (.iastore, 1) := by decide +kernel
theorem dX6_asks_92 : decode cX6_asks 92 = .ok (.iconst 0, 1) := by decide +kernel
theorem dX6_asks_93 : decode cX6_asks 93 = .ok (.ireturn, 1) := by decide +kernel
theorem dX6_asks_94 : decode cX6_asks 94 = .ok (.aload_n 0, 1) := by decide +kernel
theorem dX6_asks_95 : decode cX6_asks 95 = .ok (.getfield 7, 3) := by decide +kernel
theorem dX6_asks_98 : decode cX6_asks 98 = .ok (.iload_n 3, 1) := by decide +kernel
theorem dX6_asks_99 : decode cX6_asks 99 = .ok (.iconst 0, 1) := by decide +kernel
theorem dX6_asks_100 : decode cX6_asks 100 = .ok (.iadd, 1) := by decide +kernel
theorem dX6_asks_101 : decode cX6_asks 101 = .ok (.aload_n 0, 1) := by decide +kernel
theorem dX6_asks_102 : decode cX6_asks 102 = .ok (.getfield 7, 3) := by decide +kernel
theorem dX6_asks_105 : decode cX6_asks 105 = .ok (.iconst 4, 1) := by decide +kernel
theorem dX6_asks_106 : decode cX6_asks 106 = .ok (.iaload, 1) := by decide +kernel
theorem dX6_asks_107 : decode cX6_asks 107 = .ok (.aload_n 0, 1) := by decide +kernel
theorem dX6_asks_108 : decode cX6_asks 108 = .ok (.getfield 7, 3) := by decide +kernel
theorem dX6_asks_111 : decode cX6_asks 111 = .ok (.iconst 1, 1) := by decide +kernel
theorem dX6_asks_112 : decode cX6_asks 112 = .ok (.iaload, 1) := by decide +kernel
theorem dX6_asks_113 : decode cX6_asks 113 = .ok (.iadd, 1) := by decide +kernel
theorem dX6_asks_114 : decode cX6_asks 114 = .ok (.iastore, 1) := by decide +kernel
theorem dX6_asks_115 : decode cX6_asks 115 = .ok (.aload_n 0, 1) := by decide +kernel
theorem dX6_asks_116 : decode cX6_asks 116 = .ok (.getfield 7, 3) := by decide +kernel
theorem dX6_asks_119 : decode cX6_asks 119 = .ok (.iload_n 3, 1) := by decide +kernel
theorem dX6_asks_120 : decode cX6_asks 120 = .ok (.iconst 1, 1) := by decide +kernel
theorem dX6_asks_121 : decode cX6_asks 121 = .ok (.iadd, 1) := by decide +kernel
theorem dX6_asks_122 : decode cX6_asks 122 = .ok (.iload_n 1, 1) := by decide +kernel
theorem dX6_asks_123 : decode cX6_asks 123 = .ok (.iastore, 1) := by decide +kernel
theorem dX6_asks_124 : decode cX6_asks 124 = .ok (.aload_n 0, 1) := by decide +kernel
theorem dX6_asks_125 : decode cX6_asks 125 = .ok (.getfield 7, 3) := by decide +kernel
theorem dX6_asks_128 : decode cX6_asks 128 = .ok (.iload_n 3, 1) := by decide +kernel
theorem dX6_asks_129 : decode cX6_asks 129 = .ok (.iconst 2, 1) := by decide +kernel
theorem dX6_asks_130 : decode cX6_asks 130 = .ok (.iadd, 1) := by decide +kernel
theorem dX6_asks_131 : decode cX6_asks 131 = .ok (.dup2, 1) := by decide +kernel
theorem dX6_asks_132 : decode cX6_asks 132 = .ok (.iaload, 1) := by decide +kernel
theorem dX6_asks_133 : decode cX6_asks 133 = .ok (.iconst 1, 1) := by decide +kernel
theorem dX6_asks_134 : decode cX6_asks 134 = .ok (.iadd, 1) := by decide +kernel
theorem dX6_asks_135 : decode cX6_asks 135 = .ok (.iastore, 1) := by decide +kernel
theorem dX6_asks_136 : decode cX6_asks 136 = .ok (.aload_n 0, 1) := by decide +kernel
theorem dX6_asks_137 : decode cX6_asks 137 = .ok (.getfield 7, 3) := by decide +kernel
theorem dX6_asks_140 : decode cX6_asks 140 = .ok (.iload_n 2, 1) := by decide +kernel
theorem dX6_asks_141 : decode cX6_asks 141 = .ok (.iconst 5, 1) := by decide +kernel
theorem dX6_asks_142 : decode cX6_asks 142 = .ok (.iadd, 1) := by decide +kernel
theorem dX6_asks_143 : decode cX6_asks 143 = .ok (.aload_n 0, 1) := by decide +kernel
theorem dX6_asks_144 : decode cX6_asks 144 = .ok (.getfield 7, 3) := by decide +kernel
theorem dX6_asks_147 : decode cX6_asks 147 = .ok (.iload_n 2, 1) := by decide +kernel
theorem dX6_asks_148 : decode cX6_asks 148 = .ok (.iconst 4, 1) := by decide +kernel
theorem dX6_asks_149 : decode cX6_asks 149 = .ok (.iadd, 1) := by decide +kernel
theorem dX6_asks_150 : decode cX6_asks 150 = .ok (.iaload, 1) := by decide +kernel
theorem dX6_asks_151 : decode cX6_asks 151 = .ok (.iastore, 1) := by decide +kernel
theorem dX6_asks_152 : decode cX6_asks 152 = .ok (.aload_n 0, 1) := by decide +kernel
theorem dX6_asks_153 : decode cX6_asks 153 = .ok (.getfield 7, 3) := by decide +kernel
theorem dX6_asks_156 : decode cX6_asks 156 = .ok (.iload_n 2, 1) := by decide +kernel
theorem dX6_asks_157 : decode cX6_asks 157 = .ok (.iconst 4, 1) := by decide +kernel
theorem dX6_asks_158 : decode cX6_asks 158 = .ok (.iadd, 1) := by decide +kernel
theorem dX6_asks_159 : decode cX6_asks 159 = .ok (.aload_n 0, 1) := by decide +kernel
theorem dX6_asks_160 : decode cX6_asks 160 = .ok (.getfield 7, 3) := by decide +kernel
theorem dX6_asks_163 : decode cX6_asks 163 = .ok (.iload_n 2, 1) := by decide +kernel
theorem dX6_asks_164 : decode cX6_asks 164 = .ok (.iconst 4, 1) := by decide +kernel
theorem dX6_asks_165 : decode cX6_asks 165 = .ok (.iadd, 1) := by decide +kernel
theorem dX6_asks_166 : decode cX6_asks 166 = .ok (.iaload, 1) := by decide +kernel
theorem dX6_asks_167 : decode cX6_asks 167 = .ok (.aload_n 0, 1) := by decide +kernel
theorem dX6_asks_168 : decode cX6_asks 168 = .ok (.getfield 7, 3) := by decide +kernel
theorem dX6_asks_171 : decode cX6_asks 171 = .ok (.iload_n 2, 1) := by decide +kernel
theorem dX6_asks_172 : decode cX6_asks 172 = .ok (.iconst 1, 1) := by decide +kernel
theorem dX6_asks_173 : decode cX6_asks 173 = .ok (.iadd, 1) := by decide +kernel
theorem dX6_asks_174 : decode cX6_asks 174 = .ok (.iaload, 1) := by decide +kernel
theorem dX6_asks_175 : decode cX6_asks 175 = .ok (.iadd, 1) := by decide +kernel
theorem dX6_asks_176 : decode cX6_asks 176 = .ok (.sipush 4096, 3) := by decide +kernel
theorem dX6_asks_179 : decode cX6_asks 179 = .ok (.irem, 1) := by decide +kernel
theorem dX6_asks_180 : decode cX6_asks 180 = .ok (.iastore, 1) := by decide +kernel
theorem dX6_asks_181 : decode cX6_asks 181 = .ok (.aload_n 0, 1) := by decide +kernel
theorem dX6_asks_182 : decode cX6_asks 182 = .ok (.getfield 7, 3) := by decide +kernel
theorem dX6_asks_185 : decode cX6_asks 185 = .ok (.iload_n 2, 1) := by decide +kernel
theorem dX6_asks_186 : decode cX6_asks 186 = .ok (.iconst 3, 1) := by decide +kernel
theorem dX6_asks_187 : decode cX6_asks 187 = .ok (.iadd, 1) := by decide +kernel
theorem dX6_asks_188 : decode cX6_asks 188 = .ok (.dup2, 1) := by decide +kernel
theorem dX6_asks_189 : decode cX6_asks 189 = .ok (.iaload, 1) := by decide +kernel
theorem dX6_asks_190 : decode cX6_asks 190 = .ok (.iconst 1, 1) := by decide +kernel
theorem dX6_asks_191 : decode cX6_asks 191 = .ok (.isub, 1) := by decide +kernel
theorem dX6_asks_192 : decode cX6_asks 192 = .ok (.iastore, 1) := by decide +kernel
theorem dX6_asks_193 : decode cX6_asks 193 = .ok (.aload_n 0, 1) := by decide +kernel
theorem dX6_asks_194 : decode cX6_asks 194 = .ok (.getfield 7, 3) := by decide +kernel
theorem dX6_asks_197 : decode cX6_asks 197 = .ok (.iload_n 2, 1) := by decide +kernel
theorem dX6_asks_198 : decode cX6_asks 198 = .ok (.bipush 8, 2) := by decide +kernel
theorem dX6_asks_200 : decode cX6_asks 200 = .ok (.iadd, 1) := by decide +kernel
theorem dX6_asks_201 : decode cX6_asks 201 = .ok (.aload_n 0, 1) := by decide +kernel
theorem dX6_asks_202 : decode cX6_asks 202 = .ok (.getfield 7, 3) := by decide +kernel
theorem dX6_asks_205 : decode cX6_asks 205 = .ok (.iload_n 2, 1) := by decide +kernel
theorem dX6_asks_206 : decode cX6_asks 206 = .ok (.iconst 3, 1) := by decide +kernel
theorem dX6_asks_207 : decode cX6_asks 207 = .ok (.iadd, 1) := by decide +kernel
theorem dX6_asks_208 : decode cX6_asks 208 = .ok (.iaload, 1) := by decide +kernel
theorem dX6_asks_209 : decode cX6_asks 209 = .ok (.ifCond .ne 12, 3) := by decide +kernel
theorem dX6_asks_212 : decode cX6_asks 212 = .ok (.aload_n 0, 1) := by decide +kernel
theorem dX6_asks_213 : decode cX6_asks 213 = .ok (.getfield 7, 3) := by decide +kernel
theorem dX6_asks_216 : decode cX6_asks 216 = .ok (.iconst 4, 1) := by decide +kernel
theorem dX6_asks_217 : decode cX6_asks 217 = .ok (.iaload, 1) := by decide +kernel
theorem dX6_asks_218 : decode cX6_asks 218 = .ok (.goto 4, 3) := by decide +kernel
theorem dX6_asks_221 : decode cX6_asks 221 = .ok (.iconst (-1), 1) := by decide +kernel
theorem dX6_asks_222 : decode cX6_asks 222 = .ok (.iastore, 1) := by decide +kernel
theorem dX6_asks_223 : decode cX6_asks 223 = .ok (.iconst 1, 1) := by decide +kernel
theorem dX6_asks_224 : decode cX6_asks 224 = .ok (.ireturn, 1) := by decide +kernel
theorem dX6_cycle_0 : decode cX6_cycle 0 = .ok (.iconst 0, 1) := by decide +kernel
theorem dX6_cycle_1 : decode cX6_cycle 1 = .ok (.istore_n 1, 1) := by decide +kernel
theorem dX6_cycle_2 : decode cX6_cycle 2 = .ok (.aload_n 0, 1) := by decide +kernel
theorem dX6_cycle_3 : decode cX6_cycle 3 = .ok (.getfield 7, 3) := by decide +kernel
theorem dX6_cycle_6 : decode cX6_cycle 6 = .ok (.iconst 3, 1) := by decide +kernel
theorem dX6_cycle_7 : decode cX6_cycle 7 = .ok (.iaload, 1) := by decide +kernel
theorem dX6_cycle_8 : decode cX6_cycle 8 = .ok (.iconst 1, 1) := by decide +kernel
theorem dX6_cycle_9 : decode cX6_cycle 9 = .ok (.if_icmp .ne 28, 3) := by decide +kernel
theorem dX6_cycle_12 : decode cX6_cycle 12 = .ok (.aload_n 0, 1) := by decide +kernel
theorem dX6_cycle_13 : decode cX6_cycle 13 = .ok (.getfield 7, 3) := by decide +kernel
theorem dX6_cycle_16 : decode cX6_cycle 16 = .ok (.iconst 5, 1) := by decide +kernel
theorem dX6_cycle_17 : decode cX6_cycle 17 = .ok (.iaload, 1) := by decide +kernel
theorem dX6_cycle_18 : decode cX6_cycle 18 = .ok (.ifCond .le 19, 3) := by decide +kernel
theorem dX6_cycle_21 : decode cX6_cycle 21 = .ok (.aload_n 0, 1) := by decide +kernel
theorem dX6_cycle_22 : decode cX6_cycle 22 = .ok (.getfield 7, 3) := by decide +kernel
theorem dX6_cycle_25 : decode cX6_cycle 25 = .ok (.iconst 4, 1) := by decide +kernel
theorem dX6_cycle_26 : decode cX6_cycle 26 = .ok (.iaload, 1) := by decide +kernel
theorem dX6_cycle_27 : decode cX6_cycle 27 = .ok (.aload_n 0, 1) := by decide +kernel
theorem dX6_cycle_28 : decode cX6_cycle 28 = .ok (.getfield 7, 3) := by decide +kernel
theorem dX6_cycle_31 : decode cX6_cycle 31 = .ok (.iconst 5, 1) := by decide +kernel
theorem dX6_cycle_32 : decode cX6_cycle 32 = .ok (.iaload, 1) := by decide +kernel
theorem dX6_cycle_33 : decode cX6_cycle 33 = .ok (.irem, 1) := by decide +kernel
theorem dX6_cycle_34 : decode cX6_cycle 34 = .ok (.goto 4, 3) := by decide +kernel
theorem dX6_cycle_37 : decode cX6_cycle 37 = .ok (.iconst 0, 1) := by decide +kernel
theorem dX6_cycle_38 : decode cX6_cycle 38 = .ok (.istore_n 2, 1) := by decide +kernel
theorem dX6_cycle_39 : decode cX6_cycle 39 = .ok (.iconst 0, 1) := by decide +kernel
theorem dX6_cycle_40 : decode cX6_cycle 40 = .ok (.istore_n 3, 1) := by decide +kernel
theorem dX6_cycle_41 : decode cX6_cycle 41 = .ok (.iload_n 3, 1) := by decide +kernel
theorem dX6_cycle_42 : decode cX6_cycle 42 = .ok (.aload_n 0, 1) := by decide +kernel
theorem dX6_cycle_43 : decode cX6_cycle 43 = .ok (.getfield 7, 3) := by decide +kernel
theorem dX6_cycle_46 : decode cX6_cycle 46 = .ok (.iconst 5, 1) := by decide +kernel
theorem dX6_cycle_47 : decode cX6_cycle 47 = .ok (.iaload, 1) := by decide +kernel
theorem dX6_cycle_48 : decode cX6_cycle 48 = .ok (.if_icmp .ge 49, 3) := by decide +kernel
theorem dX6_cycle_51 : decode cX6_cycle 51 = .ok (.iload_n 2, 1) := by decide +kernel
theorem dX6_cycle_52 : decode cX6_cycle 52 = .ok (.iload_n 3, 1) := by decide +kernel
theorem dX6_cycle_53 : decode cX6_cycle 53 = .ok (.iadd, 1) := by decide +kernel
theorem dX6_cycle_54 : decode cX6_cycle 54 = .ok (.aload_n 0, 1) := by decide +kernel
theorem dX6_cycle_55 : decode cX6_cycle 55 = .ok (.getfield 7, 3) := by decide +kernel
theorem dX6_cycle_58 : decode cX6_cycle 58 = .ok (.iconst 5, 1) := by decide +kernel
theorem dX6_cycle_59 : decode cX6_cycle 59 = .ok (.iaload, 1) := by decide +kernel
theorem dX6_cycle_60 : decode cX6_cycle 60 = .ok (.irem, 1) := by decide +kernel
theorem dX6_cycle_61 : decode cX6_cycle 61 = .ok (.istore 4, 2) := by decide +kernel
theorem dX6_cycle_63 : decode cX6_cycle 63 = .ok (.iload_n 1, 1) := by decide +kernel
theorem dX6_cycle_64 : decode cX6_cycle 64 = .ok (.aload_n 0, 1) := by decide +kernel
theorem dX6_cycle_65 : decode cX6_cycle 65 = .ok (.getfield 7, 3) := by decide +kernel
theorem dX6_cycle_68 : decode cX6_cycle 68 = .ok (.iload 4, 2) := by decide +kernel
theorem dX6_cycle_70 : decode cX6_cycle 70 = .ok (.invokestatic 52, 3) := by decide +kernel
theorem dX6_cycle_73 : decode cX6_cycle 73 = .ok (.iconst 3, 1) := by decide +kernel
theorem dX6_cycle_74 : decode cX6_cycle 74 = .ok (.iadd, 1) := by decide +kernel
theorem dX6_cycle_75 : decode cX6_cycle 75 = .ok (.iaload, 1) := by decide +kernel
theorem dX6_cycle_76 : decode cX6_cycle 76 = .ok (.ifCond .le 12, 3) := by decide +kernel
theorem dX6_cycle_79 : decode cX6_cycle 79 = .ok (.aload_n 0, 1) := by decide +kernel
theorem dX6_cycle_80 : decode cX6_cycle 80 = .ok (.iload 4, 2) := by decide +kernel
theorem dX6_cycle_82 : decode cX6_cycle 82 = .ok (.invokevirtual 62, 3) := by decide +kernel
theorem dX6_cycle_85 : decode cX6_cycle 85 = .ok (.goto 4, 3) := by decide +kernel
theorem dX6_cycle_88 : decode cX6_cycle 88 = .ok (.iconst 0, 1) := by decide +kernel
theorem dX6_cycle_89 : decode cX6_cycle 89 = .ok (.iadd, 1) := by decide +kernel
theorem dX6_cycle_90 : decode cX6_cycle 90 = .ok (.istore_n 1, 1) := by decide +kernel
theorem dX6_cycle_91 : decode cX6_cycle 91 = .ok (.iinc 3 1, 3) := by decide +kernel
theorem dX6_cycle_94 : decode cX6_cycle 94 = .ok (.goto (-53), 3) := by decide +kernel
theorem dX6_cycle_97 : decode cX6_cycle 97 = .ok (.aload_n 0, 1) := by decide +kernel
theorem dX6_cycle_98 : decode cX6_cycle 98 = .ok (.getfield 7, 3) := by decide +kernel
theorem dX6_cycle_101 : decode cX6_cycle 101 = .ok (.iconst 4, 1) := by decide +kernel
theorem dX6_cycle_102 : decode cX6_cycle 102 = .ok (.dup2, 1) := by decide +kernel
theorem dX6_cycle_103 : decode cX6_cycle 103 = .ok (.iaload, 1) := by decide +kernel
theorem dX6_cycle_104 : decode cX6_cycle 104 = .ok (.iconst 1, 1) := by decide +kernel
theorem dX6_cycle_105 : decode cX6_cycle 105 = .ok (.iadd, 1) := by decide +kernel
theorem dX6_cycle_106 : decode cX6_cycle 106 = .ok (.iastore, 1) := by decide +kernel
theorem dX6_cycle_107 : decode cX6_cycle 107 = .ok (.iload_n 1, 1) := by decide +kernel
theorem dX6_cycle_108 : decode cX6_cycle 108 = .ok (.ireturn, 1) := by decide +kernel
theorem dX6_wordsLeft_0 : decode cX6_wordsLeft 0 = .ok (.iconst 0, 1) := by decide +kernel
theorem dX6_wordsLeft_1 : decode cX6_wordsLeft 1 = .ok (.istore_n 1, 1) := by decide +kernel
theorem dX6_wordsLeft_2 : decode cX6_wordsLeft 2 = .ok (.iconst 0, 1) := by decide +kernel
theorem dX6_wordsLeft_3 : decode cX6_wordsLeft 3 = .ok (.istore_n 2, 1) := by decide +kernel
theorem dX6_wordsLeft_4 : decode cX6_wordsLeft 4 = .ok (.iload_n 2, 1) := by decide +kernel
theorem dX6_wordsLeft_5 : decode cX6_wordsLeft 5 = .ok (.aload_n 0, 1) := by decide +kernel
theorem dX6_wordsLeft_6 : decode cX6_wordsLeft 6 = .ok (.getfield 7, 3) := by decide +kernel
theorem dX6_wordsLeft_9 : decode cX6_wordsLeft 9 = .ok (.iconst 5, 1) := by decide +kernel
theorem dX6_wordsLeft_10 : decode cX6_wordsLeft 10 = .ok (.iaload, 1) := by decide +kernel
theorem dX6_wordsLeft_11 : decode cX6_wordsLeft 11 = .ok (.if_icmp .ge 23, 3) := by decide +kernel
theorem dX6_wordsLeft_14 : decode cX6_wordsLeft 14 = .ok (.iload_n 1, 1) := by decide +kernel
theorem dX6_wordsLeft_15 : decode cX6_wordsLeft 15 = .ok (.aload_n 0, 1) := by decide +kernel
theorem dX6_wordsLeft_16 : decode cX6_wordsLeft 16 = .ok (.getfield 7, 3) := by decide +kernel
theorem dX6_wordsLeft_19 : decode cX6_wordsLeft 19 = .ok (.iload_n 2, 1) := by decide +kernel
theorem dX6_wordsLeft_20 : decode cX6_wordsLeft 20 = .ok (.invokestatic 52, 3) := by decide +kernel
theorem dX6_wordsLeft_23 : decode cX6_wordsLeft 23 = .ok (.iconst 3, 1) := by decide +kernel
theorem dX6_wordsLeft_24 : decode cX6_wordsLeft 24 = .ok (.iadd, 1) := by decide +kernel
theorem dX6_wordsLeft_25 : decode cX6_wordsLeft 25 = .ok (.iaload, 1) := by decide +kernel
theorem dX6_wordsLeft_26 : decode cX6_wordsLeft 26 = .ok (.iadd, 1) := by decide +kernel
theorem dX6_wordsLeft_27 : decode cX6_wordsLeft 27 = .ok (.istore_n 1, 1) := by decide +kernel
theorem dX6_wordsLeft_28 : decode cX6_wordsLeft 28 = .ok (.iinc 2 1, 3) := by decide +kernel
theorem dX6_wordsLeft_31 : decode cX6_wordsLeft 31 = .ok (.goto (-27), 3) := by decide +kernel
theorem dX6_wordsLeft_34 : decode cX6_wordsLeft 34 = .ok (.iload_n 1, 1) := by decide +kernel
theorem dX6_wordsLeft_35 : decode cX6_wordsLeft 35 = .ok (.ireturn, 1) := by decide +kernel
theorem dX6_begins_0 : decode cX6_begins 0 = .ok (.iload_n 1, 1) := by decide +kernel
theorem dX6_begins_1 : decode cX6_begins 1 = .ok (.invokestatic 52, 3) := by decide +kernel
theorem dX6_begins_4 : decode cX6_begins 4 = .ok (.istore_n 2, 1) := by decide +kernel
theorem dX6_begins_5 : decode cX6_begins 5 = .ok (.aload_n 0, 1) := by decide +kernel
theorem dX6_begins_6 : decode cX6_begins 6 = .ok (.getfield 7, 3) := by decide +kernel
theorem dX6_begins_9 : decode cX6_begins 9 = .ok (.iload_n 2, 1) := by decide +kernel
theorem dX6_begins_10 : decode cX6_begins 10 = .ok (.iconst 3, 1) := by decide +kernel
theorem dX6_begins_11 : decode cX6_begins 11 = .ok (.iadd, 1) := by decide +kernel
theorem dX6_begins_12 : decode cX6_begins 12 = .ok (.aload_n 0, 1) := by decide +kernel
theorem dX6_begins_13 : decode cX6_begins 13 = .ok (.getfield 7, 3) := by decide +kernel
theorem dX6_begins_16 : decode cX6_begins 16 = .ok (.iload_n 2, 1) := by decide +kernel
theorem dX6_begins_17 : decode cX6_begins 17 = .ok (.iconst 2, 1) := by decide +kernel
theorem dX6_begins_18 : decode cX6_begins 18 = .ok (.iadd, 1) := by decide +kernel
theorem dX6_begins_19 : decode cX6_begins 19 = .ok (.iaload, 1) := by decide +kernel
theorem dX6_begins_20 : decode cX6_begins 20 = .ok (.iastore, 1) := by decide +kernel
theorem dX6_begins_21 : decode cX6_begins 21 = .ok (.aload_n 0, 1) := by decide +kernel
theorem dX6_begins_22 : decode cX6_begins 22 = .ok (.getfield 7, 3) := by decide +kernel
theorem dX6_begins_25 : decode cX6_begins 25 = .ok (.iload_n 2, 1) := by decide +kernel
theorem dX6_begins_26 : decode cX6_begins 26 = .ok (.iconst 4, 1) := by decide +kernel
theorem dX6_begins_27 : decode cX6_begins 27 = .ok (.iadd, 1) := by decide +kernel
theorem dX6_begins_28 : decode cX6_begins 28 = .ok (.aload_n 0, 1) := by decide +kernel
theorem dX6_begins_29 : decode cX6_begins 29 = .ok (.getfield 7, 3) := by decide +kernel
theorem dX6_begins_32 : decode cX6_begins 32 = .ok (.iload_n 2, 1) := by decide +kernel
theorem dX6_begins_33 : decode cX6_begins 33 = .ok (.iconst 0, 1) := by decide +kernel
theorem dX6_begins_34 : decode cX6_begins 34 = .ok (.iadd, 1) := by decide +kernel
theorem dX6_begins_35 : decode cX6_begins 35 = .ok (.iaload, 1) := by decide +kernel
theorem dX6_begins_36 : decode cX6_begins 36 = .ok (.iastore, 1) := by decide +kernel
theorem dX6_begins_37 : decode cX6_begins 37 = .ok (.aload_n 0, 1) := by decide +kernel
theorem dX6_begins_38 : decode cX6_begins 38 = .ok (.getfield 7, 3) := by decide +kernel
theorem dX6_begins_41 : decode cX6_begins 41 = .ok (.iload_n 2, 1) := by decide +kernel
theorem dX6_begins_42 : decode cX6_begins 42 = .ok (.iconst 5, 1) := by decide +kernel
theorem dX6_begins_43 : decode cX6_begins 43 = .ok (.iadd, 1) := by decide +kernel
theorem dX6_begins_44 : decode cX6_begins 44 = .ok (.iconst (-1), 1) := by decide +kernel
theorem dX6_begins_45 : decode cX6_begins 45 = .ok (.iastore, 1) := by decide +kernel
theorem dX6_begins_46 : decode cX6_begins 46 = .ok (.aload_n 0, 1) := by decide +kernel
theorem dX6_begins_47 : decode cX6_begins 47 = .ok (.getfield 7, 3) := by decide +kernel
theorem dX6_begins_50 : decode cX6_begins 50 = .ok (.iload_n 2, 1) := by decide +kernel
theorem dX6_begins_51 : decode cX6_begins 51 = .ok (.bipush 6, 2) := by decide +kernel
theorem dX6_begins_53 : decode cX6_begins 53 = .ok (.iadd, 1) := by decide +kernel
theorem dX6_begins_54 : decode cX6_begins 54 = .ok (.iconst 0, 1) := by decide +kernel
theorem dX6_begins_55 : decode cX6_begins 55 = .ok (.iastore, 1) := by decide +kernel
theorem dX6_begins_56 : decode cX6_begins 56 = .ok (.aload_n 0, 1) := by decide +kernel
theorem dX6_begins_57 : decode cX6_begins 57 = .ok (.getfield 7, 3) := by decide +kernel
theorem dX6_begins_60 : decode cX6_begins 60 = .ok (.iload_n 2, 1) := by decide +kernel
theorem dX6_begins_61 : decode cX6_begins 61 = .ok (.bipush 7, 2) := by decide +kernel
theorem dX6_begins_63 : decode cX6_begins 63 = .ok (.iadd, 1) := by decide +kernel
theorem dX6_begins_64 : decode cX6_begins 64 = .ok (.iconst 0, 1) := by decide +kernel
theorem dX6_begins_65 : decode cX6_begins 65 = .ok (.iastore, 1) := by decide +kernel
theorem dX6_begins_66 : decode cX6_begins 66 = .ok (.aload_n 0, 1) := by decide +kernel
theorem dX6_begins_67 : decode cX6_begins 67 = .ok (.getfield 7, 3) := by decide +kernel
theorem dX6_begins_70 : decode cX6_begins 70 = .ok (.iload_n 2, 1) := by decide +kernel
theorem dX6_begins_71 : decode cX6_begins 71 = .ok (.bipush 8, 2) := by decide +kernel
theorem dX6_begins_73 : decode cX6_begins 73 = .ok (.iadd, 1) := by decide +kernel
theorem dX6_begins_74 : decode cX6_begins 74 = .ok (.iconst (-1), 1) := by decide +kernel
theorem dX6_begins_75 : decode cX6_begins 75 = .ok (.iastore, 1) := by decide +kernel
theorem dX6_begins_76 : decode cX6_begins 76 = .ok (.return_, 1) := by decide +kernel
theorem dX6_beginsAnew_0 : decode cX6_beginsAnew 0 = .ok (.aload_n 0, 1) := by decide +kernel
theorem dX6_beginsAnew_1 : decode cX6_beginsAnew 1 = .ok (.getfield 7, 3) := by decide +kernel
theorem dX6_beginsAnew_4 : decode cX6_beginsAnew 4 = .ok (.iconst 4, 1) := by decide +kernel
theorem dX6_beginsAnew_5 : decode cX6_beginsAnew 5 = .ok (.iconst 0, 1) := by decide +kernel
theorem dX6_beginsAnew_6 : decode cX6_beginsAnew 6 = .ok (.iastore, 1) := by decide +kernel
theorem dX6_beginsAnew_7 : decode cX6_beginsAnew 7 = .ok (.iconst 0, 1) := by decide +kernel
theorem dX6_beginsAnew_8 : decode cX6_beginsAnew 8 = .ok (.istore_n 1, 1) := by decide +kernel
theorem dX6_beginsAnew_9 : decode cX6_beginsAnew 9 = .ok (.iload_n 1, 1) := by decide +kernel
theorem dX6_beginsAnew_10 : decode cX6_beginsAnew 10 = .ok (.bipush 64, 2) := by decide +kernel
theorem dX6_beginsAnew_12 : decode cX6_beginsAnew 12 = .ok (.if_icmp .ge 19, 3) := by decide +kernel
theorem dX6_beginsAnew_15 : decode cX6_beginsAnew 15 = .ok (.aload_n 0, 1) := by decide +kernel
theorem dX6_beginsAnew_16 : decode cX6_beginsAnew 16 = .ok (.getfield 7, 3) := by decide +kernel
theorem dX6_beginsAnew_19 : decode cX6_beginsAnew 19 = .ok (.bipush 6, 2) := by decide +kernel
theorem dX6_beginsAnew_21 : decode cX6_beginsAnew 21 = .ok (.iload_n 1, 1) := by decide +kernel
theorem dX6_beginsAnew_22 : decode cX6_beginsAnew 22 = .ok (.iadd, 1) := by decide +kernel
theorem dX6_beginsAnew_23 : decode cX6_beginsAnew 23 = .ok (.iconst 0, 1) := by decide +kernel
theorem dX6_beginsAnew_24 : decode cX6_beginsAnew 24 = .ok (.iastore, 1) := by decide +kernel
theorem dX6_beginsAnew_25 : decode cX6_beginsAnew 25 = .ok (.iinc 1 1, 3) := by decide +kernel
theorem dX6_beginsAnew_28 : decode cX6_beginsAnew 28 = .ok (.goto (-19), 3) := by decide +kernel
theorem dX6_beginsAnew_31 : decode cX6_beginsAnew 31 = .ok (.iconst 0, 1) := by decide +kernel
theorem dX6_beginsAnew_32 : decode cX6_beginsAnew 32 = .ok (.istore_n 1, 1) := by decide +kernel
theorem dX6_beginsAnew_33 : decode cX6_beginsAnew 33 = .ok (.iload_n 1, 1) := by decide +kernel
theorem dX6_beginsAnew_34 : decode cX6_beginsAnew 34 = .ok (.aload_n 0, 1) := by decide +kernel
theorem dX6_beginsAnew_35 : decode cX6_beginsAnew 35 = .ok (.getfield 7, 3) := by decide +kernel
theorem dX6_beginsAnew_38 : decode cX6_beginsAnew 38 = .ok (.iconst 5, 1) := by decide +kernel
theorem dX6_beginsAnew_39 : decode cX6_beginsAnew 39 = .ok (.iaload, 1) := by decide +kernel
theorem dX6_beginsAnew_40 : decode cX6_beginsAnew 40 = .ok (.if_icmp .ge 14, 3) := by decide +kernel
theorem dX6_beginsAnew_43 : decode cX6_beginsAnew 43 = .ok (.aload_n 0, 1) := by decide +kernel
theorem dX6_beginsAnew_44 : decode cX6_beginsAnew 44 = .ok (.iload_n 1, 1) := by decide +kernel
theorem dX6_beginsAnew_45 : decode cX6_beginsAnew 45 = .ok (.invokevirtual 65, 3) := by decide +kernel
theorem dX6_beginsAnew_48 : decode cX6_beginsAnew 48 = .ok (.iinc 1 1, 3) := by decide +kernel
theorem dX6_beginsAnew_51 : decode cX6_beginsAnew 51 = .ok (.goto (-18), 3) := by decide +kernel
theorem dX6_beginsAnew_54 : decode cX6_beginsAnew 54 = .ok (.return_, 1) := by decide +kernel
theorem dX6_runsOut_0 : decode cX6_runsOut 0 = .ok (.iconst 0, 1) := by decide +kernel
theorem dX6_runsOut_1 : decode cX6_runsOut 1 = .ok (.istore_n 1, 1) := by decide +kernel
theorem dX6_runsOut_2 : decode cX6_runsOut 2 = .ok (.aload_n 0, 1) := by decide +kernel
theorem dX6_runsOut_3 : decode cX6_runsOut 3 = .ok (.invokevirtual 69, 3) := by decide +kernel
theorem dX6_runsOut_6 : decode cX6_runsOut 6 = .ok (.ifCond .le 14, 3) := by decide +kernel
theorem dX6_runsOut_9 : decode cX6_runsOut 9 = .ok (.aload_n 0, 1) := by decide +kernel
theorem dX6_runsOut_10 : decode cX6_runsOut 10 = .ok (.invokevirtual 72, 3) := by decide +kernel
theorem dX6_runsOut_13 : decode cX6_runsOut 13 = .ok (.istore_n 2, 1) := by decide +kernel
theorem dX6_runsOut_14 : decode cX6_runsOut 14 = .ok (.iinc 1 1, 3) := by decide +kernel
theorem dX6_runsOut_17 : decode cX6_runsOut 17 = .ok (.goto (-15), 3) := by decide +kernel
theorem dX6_runsOut_20 : decode cX6_runsOut 20 = .ok (.iload_n 1, 1) := by decide +kernel
theorem dX6_runsOut_21 : decode cX6_runsOut 21 = .ok (.ireturn, 1) := by decide +kernel
theorem dX6_isSetting_0 : decode cX6_isSetting 0 = .ok (.iload_n 0, 1) := by decide +kernel
theorem dX6_isSetting_1 : decode cX6_isSetting 1 = .ok (.tableswitch 61 0 3 #[31, 39, 47, 54], 31) := by decide +kernel
theorem dX6_isSetting_32 : decode cX6_isSetting 32 = .ok (.iload_n 1, 1) := by decide +kernel
theorem dX6_isSetting_33 : decode cX6_isSetting 33 = .ok (.iconst 2, 1) := by decide +kernel
theorem dX6_isSetting_34 : decode cX6_isSetting 34 = .ok (.bipush 16, 2) := by decide +kernel
theorem dX6_isSetting_36 : decode cX6_isSetting 36 = .ok (.invokestatic 36, 3) := by decide +kernel
theorem dX6_isSetting_39 : decode cX6_isSetting 39 = .ok (.ireturn, 1) := by decide +kernel
theorem dX6_isSetting_40 : decode cX6_isSetting 40 = .ok (.iload_n 1, 1) := by decide +kernel
theorem dX6_isSetting_41 : decode cX6_isSetting 41 = .ok (.iconst 1, 1) := by decide +kernel
theorem dX6_isSetting_42 : decode cX6_isSetting 42 = .ok (.bipush 12, 2) := by decide +kernel
theorem dX6_isSetting_44 : decode cX6_isSetting 44 = .ok (.invokestatic 36, 3) := by decide +kernel
theorem dX6_isSetting_47 : decode cX6_isSetting 47 = .ok (.ireturn, 1) := by decide +kernel
theorem dX6_isSetting_48 : decode cX6_isSetting 48 = .ok (.iload_n 1, 1) := by decide +kernel
theorem dX6_isSetting_49 : decode cX6_isSetting 49 = .ok (.iconst 0, 1) := by decide +kernel
theorem dX6_isSetting_50 : decode cX6_isSetting 50 = .ok (.iconst 2, 1) := by decide +kernel
theorem dX6_isSetting_51 : decode cX6_isSetting 51 = .ok (.invokestatic 36, 3) := by decide +kernel
theorem dX6_isSetting_54 : decode cX6_isSetting 54 = .ok (.ireturn, 1) := by decide +kernel
theorem dX6_isSetting_55 : decode cX6_isSetting 55 = .ok (.iload_n 1, 1) := by decide +kernel
theorem dX6_isSetting_56 : decode cX6_isSetting 56 = .ok (.iconst 0, 1) := by decide +kernel
theorem dX6_isSetting_57 : decode cX6_isSetting 57 = .ok (.iconst 1, 1) := by decide +kernel
theorem dX6_isSetting_58 : decode cX6_isSetting 58 = .ok (.invokestatic 36, 3) := by decide +kernel
theorem dX6_isSetting_61 : decode cX6_isSetting 61 = .ok (.ireturn, 1) := by decide +kernel
theorem dX6_isSetting_62 : decode cX6_isSetting 62 = .ok (.iconst 0, 1) := by decide +kernel
theorem dX6_isSetting_63 : decode cX6_isSetting 63 = .ok (.ireturn, 1) := by decide +kernel
theorem dX6_set_0 : decode cX6_set 0 = .ok (.iload_n 1, 1) := by decide +kernel
theorem dX6_set_1 : decode cX6_set 1 = .ok (.iload_n 2, 1) := by decide +kernel
theorem dX6_set_2 : decode cX6_set 2 = .ok (.invokestatic 75, 3) := by decide +kernel
theorem dX6_set_5 : decode cX6_set 5 = .ok (.ifCond .ne 6, 3) := by decide +kernel
theorem dX6_set_8 : decode cX6_set 8 = .ok (.bipush (-2), 2) := by decide +kernel
theorem dX6_set_10 : decode cX6_set 10 = .ok (.ireturn, 1) := by decide +kernel
theorem dX6_set_11 : decode cX6_set 11 = .ok (.aload_n 0, 1) := by decide +kernel
theorem dX6_set_12 : decode cX6_set 12 = .ok (.invokevirtual 79, 3) := by decide +kernel
theorem dX6_set_15 : decode cX6_set 15 = .ok (.aload_n 0, 1) := by decide +kernel
theorem dX6_set_16 : decode cX6_set 16 = .ok (.getfield 7, 3) := by decide +kernel
theorem dX6_set_19 : decode cX6_set 19 = .ok (.iload_n 1, 1) := by decide +kernel
theorem dX6_set_20 : decode cX6_set 20 = .ok (.iaload, 1) := by decide +kernel
theorem dX6_set_21 : decode cX6_set 21 = .ok (.istore_n 3, 1) := by decide +kernel
theorem dX6_set_22 : decode cX6_set 22 = .ok (.aload_n 0, 1) := by decide +kernel
theorem dX6_set_23 : decode cX6_set 23 = .ok (.getfield 7, 3) := by decide +kernel
theorem dX6_set_26 : decode cX6_set 26 = .ok (.iload_n 1, 1) := by decide +kernel
theorem dX6_set_27 : decode cX6_set 27 = .ok (.iload_n 2, 1) := by decide +kernel
theorem dX6_set_28 : decode cX6_set 28 = .ok (.iastore, 1) := by decide +kernel
theorem dX6_set_29 : decode cX6_set 29 = .ok (.aload_n 0, 1) := by decide +kernel
theorem dX6_set_30 : decode cX6_set 30 = .ok (.invokevirtual 82, 3) := by decide +kernel
theorem dX6_set_33 : decode cX6_set 33 = .ok (.aload_n 0, 1) := by decide +kernel
theorem dX6_set_34 : decode cX6_set 34 = .ok (.iload_n 3, 1) := by decide +kernel
theorem dX6_set_35 : decode cX6_set 35 = .ok (.invokevirtual 85, 3) := by decide +kernel
theorem dX6_set_38 : decode cX6_set 38 = .ok (.ireturn, 1) := by decide +kernel
theorem dX6_puts_0 : decode cX6_puts 0 = .ok (.aload_n 0, 1) := by decide +kernel
theorem dX6_puts_1 : decode cX6_puts 1 = .ok (.getfield 7, 3) := by decide +kernel
theorem dX6_puts_4 : decode cX6_puts 4 = .ok (.iconst 5, 1) := by decide +kernel
theorem dX6_puts_5 : decode cX6_puts 5 = .ok (.iaload, 1) := by decide +kernel
theorem dX6_puts_6 : decode cX6_puts 6 = .ok (.istore 4, 2) := by decide +kernel
theorem dX6_puts_8 : decode cX6_puts 8 = .ok (.aload_n 0, 1) := by decide +kernel
theorem dX6_puts_9 : decode cX6_puts 9 = .ok (.getfield 7, 3) := by decide +kernel
theorem dX6_puts_12 : decode cX6_puts 12 = .ok (.iload 4, 2) := by decide +kernel
theorem dX6_puts_14 : decode cX6_puts 14 = .ok (.invokestatic 52, 3) := by decide +kernel
theorem dX6_puts_17 : decode cX6_puts 17 = .ok (.iconst 0, 1) := by decide +kernel
theorem dX6_puts_18 : decode cX6_puts 18 = .ok (.iadd, 1) := by decide +kernel
theorem dX6_puts_19 : decode cX6_puts 19 = .ok (.iload_n 1, 1) := by decide +kernel
theorem dX6_puts_20 : decode cX6_puts 20 = .ok (.iastore, 1) := by decide +kernel
theorem dX6_puts_21 : decode cX6_puts 21 = .ok (.aload_n 0, 1) := by decide +kernel
theorem dX6_puts_22 : decode cX6_puts 22 = .ok (.getfield 7, 3) := by decide +kernel
theorem dX6_puts_25 : decode cX6_puts 25 = .ok (.iload 4, 2) := by decide +kernel
theorem dX6_puts_27 : decode cX6_puts 27 = .ok (.invokestatic 52, 3) := by decide +kernel
theorem dX6_puts_30 : decode cX6_puts 30 = .ok (.iconst 1, 1) := by decide +kernel
theorem dX6_puts_31 : decode cX6_puts 31 = .ok (.iadd, 1) := by decide +kernel
theorem dX6_puts_32 : decode cX6_puts 32 = .ok (.iload_n 2, 1) := by decide +kernel
theorem dX6_puts_33 : decode cX6_puts 33 = .ok (.iastore, 1) := by decide +kernel
theorem dX6_puts_34 : decode cX6_puts 34 = .ok (.aload_n 0, 1) := by decide +kernel
theorem dX6_puts_35 : decode cX6_puts 35 = .ok (.getfield 7, 3) := by decide +kernel
theorem dX6_puts_38 : decode cX6_puts 38 = .ok (.iload 4, 2) := by decide +kernel
theorem dX6_puts_40 : decode cX6_puts 40 = .ok (.invokestatic 52, 3) := by decide +kernel
theorem dX6_puts_43 : decode cX6_puts 43 = .ok (.iconst 2, 1) := by decide +kernel
theorem dX6_puts_44 : decode cX6_puts 44 = .ok (.iadd, 1) := by decide +kernel
theorem dX6_puts_45 : decode cX6_puts 45 = .ok (.iload_n 3, 1) := by decide +kernel
theorem dX6_puts_46 : decode cX6_puts 46 = .ok (.iastore, 1) := by decide +kernel
theorem dX6_puts_47 : decode cX6_puts 47 = .ok (.aload_n 0, 1) := by decide +kernel
theorem dX6_puts_48 : decode cX6_puts 48 = .ok (.iload 4, 2) := by decide +kernel
theorem dX6_puts_50 : decode cX6_puts 50 = .ok (.invokevirtual 65, 3) := by decide +kernel
theorem dX6_puts_53 : decode cX6_puts 53 = .ok (.aload_n 0, 1) := by decide +kernel
theorem dX6_puts_54 : decode cX6_puts 54 = .ok (.getfield 7, 3) := by decide +kernel
theorem dX6_puts_57 : decode cX6_puts 57 = .ok (.iconst 5, 1) := by decide +kernel
theorem dX6_puts_58 : decode cX6_puts 58 = .ok (.dup2, 1) := by decide +kernel
theorem dX6_puts_59 : decode cX6_puts 59 = .ok (.iaload, 1) := by decide +kernel
theorem dX6_puts_60 : decode cX6_puts 60 = .ok (.iconst 1, 1) := by decide +kernel
theorem dX6_puts_61 : decode cX6_puts 61 = .ok (.iadd, 1) := by decide +kernel
theorem dX6_puts_62 : decode cX6_puts 62 = .ok (.iastore, 1) := by decide +kernel
theorem dX6_puts_63 : decode cX6_puts 63 = .ok (.iload 4, 2) := by decide +kernel
theorem dX6_puts_65 : decode cX6_puts 65 = .ok (.ireturn, 1) := by decide +kernel
theorem dX6_add_0 : decode cX6_add 0 = .ok (.iload_n 1, 1) := by decide +kernel
theorem dX6_add_1 : decode cX6_add 1 = .ok (.iconst 0, 1) := by decide +kernel
theorem dX6_add_2 : decode cX6_add 2 = .ok (.sipush 4095, 3) := by decide +kernel
theorem dX6_add_5 : decode cX6_add 5 = .ok (.invokestatic 36, 3) := by decide +kernel
theorem dX6_add_8 : decode cX6_add 8 = .ok (.ifCond .eq 25, 3) := by decide +kernel
theorem dX6_add_11 : decode cX6_add 11 = .ok (.iload_n 2, 1) := by decide +kernel
theorem dX6_add_12 : decode cX6_add 12 = .ok (.iconst 0, 1) := by decide +kernel
theorem dX6_add_13 : decode cX6_add 13 = .ok (.sipush 1023, 3) := by decide +kernel
theorem dX6_add_16 : decode cX6_add 16 = .ok (.invokestatic 36, 3) := by decide +kernel
theorem dX6_add_19 : decode cX6_add 19 = .ok (.ifCond .eq 14, 3) := by decide +kernel
theorem dX6_add_22 : decode cX6_add 22 = .ok (.iload_n 3, 1) := by decide +kernel
theorem dX6_add_23 : decode cX6_add 23 = .ok (.iconst 1, 1) := by decide +kernel
theorem dX6_add_24 : decode cX6_add 24 = .ok (.sipush 200, 3) := by decide +kernel
theorem dX6_add_27 : decode cX6_add 27 = .ok (.invokestatic 36, 3) := by decide +kernel
theorem dX6_add_30 : decode cX6_add 30 = .ok (.ifCond .ne 6, 3) := by decide +kernel
theorem dX6_add_33 : decode cX6_add 33 = .ok (.bipush (-2), 2) := by decide +kernel
theorem dX6_add_35 : decode cX6_add 35 = .ok (.ireturn, 1) := by decide +kernel
theorem dX6_add_36 : decode cX6_add 36 = .ok (.aload_n 0, 1) := by decide +kernel
theorem dX6_add_37 : decode cX6_add 37 = .ok (.getfield 7, 3) := by decide +kernel
theorem dX6_add_40 : decode cX6_add 40 = .ok (.iconst 5, 1) := by decide +kernel
theorem dX6_add_41 : decode cX6_add 41 = .ok (.iaload, 1) := by decide +kernel
theorem dX6_add_42 : decode cX6_add 42 = .ok (.iconst 4, 1) := by decide +kernel
theorem dX6_add_43 : decode cX6_add 43 = .ok (.if_icmp .ne 6, 3) := by decide +kernel
theorem dX6_add_46 : decode cX6_add 46 = .ok (.bipush (-4), 2) := by decide +kernel
theorem dX6_add_48 : decode cX6_add 48 = .ok (.ireturn, 1) := by decide +kernel
theorem dX6_add_49 : decode cX6_add 49 = .ok (.aload_n 0, 1) := by decide +kernel
theorem dX6_add_50 : decode cX6_add 50 = .ok (.invokevirtual 79, 3) := by decide +kernel
theorem dX6_add_53 : decode cX6_add 53 = .ok (.aload_n 0, 1) := by decide +kernel
theorem dX6_add_54 : decode cX6_add 54 = .ok (.aload_n 0, 1) := by decide +kernel
theorem dX6_add_55 : decode cX6_add 55 = .ok (.iload_n 1, 1) := by decide +kernel
theorem dX6_add_56 : decode cX6_add 56 = .ok (.iload_n 2, 1) := by decide +kernel
theorem dX6_add_57 : decode cX6_add 57 = .ok (.iload_n 3, 1) := by decide +kernel
theorem dX6_add_58 : decode cX6_add 58 = .ok (.invokevirtual 88, 3) := by decide +kernel
theorem dX6_add_61 : decode cX6_add 61 = .ok (.invokevirtual 85, 3) := by decide +kernel
theorem dX6_add_64 : decode cX6_add 64 = .ok (.ireturn, 1) := by decide +kernel
theorem dX6_drop_0 : decode cX6_drop 0 = .ok (.aload_n 0, 1) := by decide +kernel
theorem dX6_drop_1 : decode cX6_drop 1 = .ok (.iload_n 1, 1) := by decide +kernel
theorem dX6_drop_2 : decode cX6_drop 2 = .ok (.invokevirtual 92, 3) := by decide +kernel
theorem dX6_drop_5 : decode cX6_drop 5 = .ok (.ifCond .ne 5, 3) := by decide +kernel
theorem dX6_drop_8 : decode cX6_drop 8 = .ok (.iconst (-1), 1) := by decide +kernel
theorem dX6_drop_9 : decode cX6_drop 9 = .ok (.ireturn, 1) := by decide +kernel
theorem dX6_drop_10 : decode cX6_drop 10 = .ok (.aload_n 0, 1) := by decide +kernel
theorem dX6_drop_11 : decode cX6_drop 11 = .ok (.invokevirtual 79, 3) := by decide +kernel
theorem dX6_drop_14 : decode cX6_drop 14 = .ok (.aload_n 0, 1) := by decide +kernel
theorem dX6_drop_15 : decode cX6_drop 15 = .ok (.getfield 7, 3) := by decide +kernel
theorem dX6_drop_18 : decode cX6_drop 18 = .ok (.iload_n 1, 1) := by decide +kernel
theorem dX6_drop_19 : decode cX6_drop 19 = .ok (.invokestatic 52, 3) := by decide +kernel
theorem dX6_drop_22 : decode cX6_drop 22 = .ok (.iconst 3, 1) := by decide +kernel
theorem dX6_drop_23 : decode cX6_drop 23 = .ok (.iadd, 1) := by decide +kernel
theorem dX6_drop_24 : decode cX6_drop 24 = .ok (.iaload, 1) := by decide +kernel
theorem dX6_drop_25 : decode cX6_drop 25 = .ok (.istore_n 2, 1) := by decide +kernel
theorem dX6_drop_26 : decode cX6_drop 26 = .ok (.iload_n 1, 1) := by decide +kernel
theorem dX6_drop_27 : decode cX6_drop 27 = .ok (.invokestatic 52, 3) := by decide +kernel
theorem dX6_drop_30 : decode cX6_drop 30 = .ok (.istore_n 3, 1) := by decide +kernel
theorem dX6_drop_31 : decode cX6_drop 31 = .ok (.iload_n 3, 1) := by decide +kernel
theorem dX6_drop_32 : decode cX6_drop 32 = .ok (.aload_n 0, 1) := by decide +kernel
theorem dX6_drop_33 : decode cX6_drop 33 = .ok (.getfield 7, 3) := by decide +kernel
theorem dX6_drop_36 : decode cX6_drop 36 = .ok (.iconst 5, 1) := by decide +kernel
theorem dX6_drop_37 : decode cX6_drop 37 = .ok (.iaload, 1) := by decide +kernel
theorem dX6_drop_38 : decode cX6_drop 38 = .ok (.iconst 1, 1) := by decide +kernel
theorem dX6_drop_39 : decode cX6_drop 39 = .ok (.isub, 1) := by decide +kernel
theorem dX6_drop_40 : decode cX6_drop 40 = .ok (.invokestatic 52, 3) := by decide +kernel
theorem dX6_drop_43 : decode cX6_drop 43 = .ok (.if_icmp .ge 24, 3) := by decide +kernel
theorem dX6_drop_46 : decode cX6_drop 46 = .ok (.aload_n 0, 1) := by decide +kernel
theorem dX6_drop_47 : decode cX6_drop 47 = .ok (.getfield 7, 3) := by decide +kernel
theorem dX6_drop_50 : decode cX6_drop 50 = .ok (.iload_n 3, 1) := by decide +kernel
theorem dX6_drop_51 : decode cX6_drop 51 = .ok (.aload_n 0, 1) := by decide +kernel
theorem dX6_drop_52 : decode cX6_drop 52 = .ok (.getfield 7, 3) := by decide +kernel
theorem dX6_drop_55 : decode cX6_drop 55 = .ok (.iload_n 3, 1) := by decide +kernel
theorem dX6_drop_56 : decode cX6_drop 56 = .ok (.bipush 10, 2) := by decide +kernel
theorem dX6_drop_58 : decode cX6_drop 58 = .ok (.iadd, 1) := by decide +kernel
theorem dX6_drop_59 : decode cX6_drop 59 = .ok (.iaload, 1) := by decide +kernel
theorem dX6_drop_60 : decode cX6_drop 60 = .ok (.iastore, 1) := by decide +kernel
theorem dX6_drop_61 : decode cX6_drop 61 = .ok (.iinc 3 1, 3) := by decide +kernel
theorem dX6_drop_64 : decode cX6_drop 64 = .ok (.goto (-33), 3) := by decide +kernel
theorem dX6_drop_67 : decode cX6_drop 67 = .ok (.iconst 0, 1) := by decide +kernel
theorem dX6_drop_68 : decode cX6_drop 68 = .ok (.istore_n 3, 1) := by decide +kernel
theorem dX6_drop_69 : decode cX6_drop 69 = .ok (.iload_n 3, 1) := by decide +kernel
theorem dX6_drop_70 : decode cX6_drop 70 = .ok (.bipush 16, 2) := by decide +kernel
theorem dX6_drop_72 : decode cX6_drop 72 = .ok (.if_icmp .ge 58, 3) := by decide +kernel
theorem dX6_drop_75 : decode cX6_drop 75 = .ok (.aload_n 0, 1) := by decide +kernel
theorem dX6_drop_76 : decode cX6_drop 76 = .ok (.getfield 7, 3) := by decide +kernel
theorem dX6_drop_79 : decode cX6_drop 79 = .ok (.iload_n 3, 1) := by decide +kernel
theorem dX6_drop_80 : decode cX6_drop 80 = .ok (.invokestatic 59, 3) := by decide +kernel
theorem dX6_drop_83 : decode cX6_drop 83 = .ok (.iconst 1, 1) := by decide +kernel
theorem dX6_drop_84 : decode cX6_drop 84 = .ok (.iadd, 1) := by decide +kernel
theorem dX6_drop_85 : decode cX6_drop 85 = .ok (.iaload, 1) := by decide +kernel
theorem dX6_drop_86 : decode cX6_drop 86 = .ok (.istore 4, 2) := by decide +kernel
theorem dX6_drop_88 : decode cX6_drop 88 = .ok (.aload_n 0, 1) := by decide +kernel
theorem dX6_drop_89 : decode cX6_drop 89 = .ok (.getfield 7, 3) := by decide +kernel
theorem dX6_drop_92 : decode cX6_drop 92 = .ok (.iload_n 3, 1) := by decide +kernel
theorem dX6_drop_93 : decode cX6_drop 93 = .ok (.invokestatic 59, 3) := by decide +kernel
theorem dX6_drop_96 : decode cX6_drop 96 = .ok (.iconst 1, 1) := by decide +kernel
theorem dX6_drop_97 : decode cX6_drop 97 = .ok (.iadd, 1) := by decide +kernel
theorem dX6_drop_98 : decode cX6_drop 98 = .ok (.iload 4, 2) := by decide +kernel
theorem dX6_drop_100 : decode cX6_drop 100 = .ok (.iload_n 1, 1) := by decide +kernel
theorem dX6_drop_101 : decode cX6_drop 101 = .ok (.if_icmp .ne 7, 3) := by decide +kernel
theorem dX6_drop_104 : decode cX6_drop 104 = .ok (.iconst (-1), 1) := by decide +kernel
theorem dX6_drop_105 : decode cX6_drop 105 = .ok (.goto 18, 3) := by decide +kernel
theorem dX6_drop_108 : decode cX6_drop 108 = .ok (.iload 4, 2) := by decide +kernel
theorem dX6_drop_110 : decode cX6_drop 110 = .ok (.iload_n 1, 1) := by decide +kernel
theorem dX6_drop_111 : decode cX6_drop 111 = .ok (.if_icmp .le 10, 3) := by decide +kernel
theorem dX6_drop_114 : decode cX6_drop 114 = .ok (.iload 4, 2) := by decide +kernel
theorem dX6_drop_116 : decode cX6_drop 116 = .ok (.iconst 1, 1) := by decide +kernel
theorem dX6_drop_117 : decode cX6_drop 117 = .ok (.isub, 1) := by decide +kernel
theorem dX6_drop_118 : decode cX6_drop 118 = .ok (.goto 5, 3) := by decide +kernel
theorem dX6_drop_121 : decode cX6_drop 121 = .ok (.iload 4, 2) := by decide +kernel
theorem dX6_drop_123 : decode cX6_drop 123 = .ok (.iastore, 1) := by decide +kernel
theorem dX6_drop_124 : decode cX6_drop 124 = .ok (.iinc 3 1, 3) := by decide +kernel
theorem dX6_drop_127 : decode cX6_drop 127 = .ok (.goto (-58), 3) := by decide +kernel
theorem dX6_drop_130 : decode cX6_drop 130 = .ok (.aload_n 0, 1) := by decide +kernel
theorem dX6_drop_131 : decode cX6_drop 131 = .ok (.getfield 7, 3) := by decide +kernel
theorem dX6_drop_134 : decode cX6_drop 134 = .ok (.iconst 5, 1) := by decide +kernel
theorem dX6_drop_135 : decode cX6_drop 135 = .ok (.dup2, 1) := by decide +kernel
theorem dX6_drop_136 : decode cX6_drop 136 = .ok (.iaload, 1) := by decide +kernel
theorem dX6_drop_137 : decode cX6_drop 137 = .ok (.iconst 1, 1) := by decide +kernel
theorem dX6_drop_138 : decode cX6_drop 138 = .ok (.isub, 1) := by decide +kernel
theorem dX6_drop_139 : decode cX6_drop 139 = .ok (.iastore, 1) := by decide +kernel
theorem dX6_drop_140 : decode cX6_drop 140 = .ok (.aload_n 0, 1) := by decide +kernel
theorem dX6_drop_141 : decode cX6_drop 141 = .ok (.iload_n 2, 1) := by decide +kernel
theorem dX6_drop_142 : decode cX6_drop 142 = .ok (.invokevirtual 85, 3) := by decide +kernel
theorem dX6_drop_145 : decode cX6_drop 145 = .ok (.ireturn, 1) := by decide +kernel
theorem dX6_stride_0 : decode cX6_stride 0 = .ok (.aload_n 0, 1) := by decide +kernel
theorem dX6_stride_1 : decode cX6_stride 1 = .ok (.iload_n 1, 1) := by decide +kernel
theorem dX6_stride_2 : decode cX6_stride 2 = .ok (.invokevirtual 92, 3) := by decide +kernel
theorem dX6_stride_5 : decode cX6_stride 5 = .ok (.ifCond .ne 5, 3) := by decide +kernel
theorem dX6_stride_8 : decode cX6_stride 8 = .ok (.iconst (-1), 1) := by decide +kernel
theorem dX6_stride_9 : decode cX6_stride 9 = .ok (.ireturn, 1) := by decide +kernel
theorem dX6_stride_10 : decode cX6_stride 10 = .ok (.iload_n 2, 1) := by decide +kernel
theorem dX6_stride_11 : decode cX6_stride 11 = .ok (.iconst 0, 1) := by decide +kernel
theorem dX6_stride_12 : decode cX6_stride 12 = .ok (.sipush 1023, 3) := by decide +kernel
theorem dX6_stride_15 : decode cX6_stride 15 = .ok (.invokestatic 36, 3) := by decide +kernel
theorem dX6_stride_18 : decode cX6_stride 18 = .ok (.ifCond .ne 6, 3) := by decide +kernel
theorem dX6_stride_21 : decode cX6_stride 21 = .ok (.bipush (-2), 2) := by decide +kernel
theorem dX6_stride_23 : decode cX6_stride 23 = .ok (.ireturn, 1) := by decide +kernel
theorem dX6_stride_24 : decode cX6_stride 24 = .ok (.aload_n 0, 1) := by decide +kernel
theorem dX6_stride_25 : decode cX6_stride 25 = .ok (.invokevirtual 79, 3) := by decide +kernel
theorem dX6_stride_28 : decode cX6_stride 28 = .ok (.iload_n 1, 1) := by decide +kernel
theorem dX6_stride_29 : decode cX6_stride 29 = .ok (.invokestatic 52, 3) := by decide +kernel
theorem dX6_stride_32 : decode cX6_stride 32 = .ok (.istore_n 3, 1) := by decide +kernel
theorem dX6_stride_33 : decode cX6_stride 33 = .ok (.aload_n 0, 1) := by decide +kernel
theorem dX6_stride_34 : decode cX6_stride 34 = .ok (.getfield 7, 3) := by decide +kernel
theorem dX6_stride_37 : decode cX6_stride 37 = .ok (.iload_n 3, 1) := by decide +kernel
theorem dX6_stride_38 : decode cX6_stride 38 = .ok (.iconst 1, 1) := by decide +kernel
theorem dX6_stride_39 : decode cX6_stride 39 = .ok (.iadd, 1) := by decide +kernel
theorem dX6_stride_40 : decode cX6_stride 40 = .ok (.iaload, 1) := by decide +kernel
theorem dX6_stride_41 : decode cX6_stride 41 = .ok (.istore 4, 2) := by decide +kernel
theorem dX6_stride_43 : decode cX6_stride 43 = .ok (.aload_n 0, 1) := by decide +kernel
theorem dX6_stride_44 : decode cX6_stride 44 = .ok (.getfield 7, 3) := by decide +kernel
theorem dX6_stride_47 : decode cX6_stride 47 = .ok (.iload_n 3, 1) := by decide +kernel
theorem dX6_stride_48 : decode cX6_stride 48 = .ok (.iconst 1, 1) := by decide +kernel
theorem dX6_stride_49 : decode cX6_stride 49 = .ok (.iadd, 1) := by decide +kernel
theorem dX6_stride_50 : decode cX6_stride 50 = .ok (.iload_n 2, 1) := by decide +kernel
theorem dX6_stride_51 : decode cX6_stride 51 = .ok (.iastore, 1) := by decide +kernel
theorem dX6_stride_52 : decode cX6_stride 52 = .ok (.aload_n 0, 1) := by decide +kernel
theorem dX6_stride_53 : decode cX6_stride 53 = .ok (.getfield 7, 3) := by decide +kernel
theorem dX6_stride_56 : decode cX6_stride 56 = .ok (.iload_n 3, 1) := by decide +kernel
theorem dX6_stride_57 : decode cX6_stride 57 = .ok (.iconst 4, 1) := by decide +kernel
theorem dX6_stride_58 : decode cX6_stride 58 = .ok (.iadd, 1) := by decide +kernel
theorem dX6_stride_59 : decode cX6_stride 59 = .ok (.aload_n 0, 1) := by decide +kernel
theorem dX6_stride_60 : decode cX6_stride 60 = .ok (.getfield 7, 3) := by decide +kernel
theorem dX6_stride_63 : decode cX6_stride 63 = .ok (.iload_n 3, 1) := by decide +kernel
theorem dX6_stride_64 : decode cX6_stride 64 = .ok (.iconst 5, 1) := by decide +kernel
theorem dX6_stride_65 : decode cX6_stride 65 = .ok (.iadd, 1) := by decide +kernel
theorem dX6_stride_66 : decode cX6_stride 66 = .ok (.iaload, 1) := by decide +kernel
theorem dX6_stride_67 : decode cX6_stride 67 = .ok (.ifCond .ge 14, 3) := by decide +kernel
theorem dX6_stride_70 : decode cX6_stride 70 = .ok (.aload_n 0, 1) := by decide +kernel
theorem dX6_stride_71 : decode cX6_stride 71 = .ok (.getfield 7, 3) := by decide +kernel
theorem dX6_stride_74 : decode cX6_stride 74 = .ok (.iload_n 3, 1) := by decide +kernel
theorem dX6_stride_75 : decode cX6_stride 75 = .ok (.iconst 0, 1) := by decide +kernel
theorem dX6_stride_76 : decode cX6_stride 76 = .ok (.iadd, 1) := by decide +kernel
theorem dX6_stride_77 : decode cX6_stride 77 = .ok (.iaload, 1) := by decide +kernel
theorem dX6_stride_78 : decode cX6_stride 78 = .ok (.goto 17, 3) := by decide +kernel
theorem dX6_stride_81 : decode cX6_stride 81 = .ok (.aload_n 0, 1) := by decide +kernel
theorem dX6_stride_82 : decode cX6_stride 82 = .ok (.getfield 7, 3) := by decide +kernel
theorem dX6_stride_85 : decode cX6_stride 85 = .ok (.iload_n 3, 1) := by decide +kernel
theorem dX6_stride_86 : decode cX6_stride 86 = .ok (.iconst 5, 1) := by decide +kernel
theorem dX6_stride_87 : decode cX6_stride 87 = .ok (.iadd, 1) := by decide +kernel
theorem dX6_stride_88 : decode cX6_stride 88 = .ok (.iaload, 1) := by decide +kernel
theorem dX6_stride_89 : decode cX6_stride 89 = .ok (.iload_n 2, 1) := by decide +kernel
theorem dX6_stride_90 : decode cX6_stride 90 = .ok (.iadd, 1) := by decide +kernel
theorem dX6_stride_91 : decode cX6_stride 91 = .ok (.sipush 4096, 3) := by decide +kernel
theorem dX6_stride_94 : decode cX6_stride 94 = .ok (.irem, 1) := by decide +kernel
theorem dX6_stride_95 : decode cX6_stride 95 = .ok (.iastore, 1) := by decide +kernel
theorem dX6_stride_96 : decode cX6_stride 96 = .ok (.aload_n 0, 1) := by decide +kernel
theorem dX6_stride_97 : decode cX6_stride 97 = .ok (.iload 4, 2) := by decide +kernel
theorem dX6_stride_99 : decode cX6_stride 99 = .ok (.invokevirtual 85, 3) := by decide +kernel
theorem dX6_stride_102 : decode cX6_stride 102 = .ok (.ireturn, 1) := by decide +kernel
theorem dX6_run_0 : decode cX6_run 0 = .ok (.iload_n 1, 1) := by decide +kernel
theorem dX6_run_1 : decode cX6_run 1 = .ok (.iconst 1, 1) := by decide +kernel
theorem dX6_run_2 : decode cX6_run 2 = .ok (.sipush 500, 3) := by decide +kernel
theorem dX6_run_5 : decode cX6_run 5 = .ok (.invokestatic 36, 3) := by decide +kernel
theorem dX6_run_8 : decode cX6_run 8 = .ok (.ifCond .ne 6, 3) := by decide +kernel
theorem dX6_run_11 : decode cX6_run 11 = .ok (.bipush (-2), 2) := by decide +kernel
theorem dX6_run_13 : decode cX6_run 13 = .ok (.ireturn, 1) := by decide +kernel
theorem dX6_run_14 : decode cX6_run 14 = .ok (.aload_n 0, 1) := by decide +kernel
theorem dX6_run_15 : decode cX6_run 15 = .ok (.getfield 7, 3) := by decide +kernel
theorem dX6_run_18 : decode cX6_run 18 = .ok (.iconst 4, 1) := by decide +kernel
theorem dX6_run_19 : decode cX6_run 19 = .ok (.iaload, 1) := by decide +kernel
theorem dX6_run_20 : decode cX6_run 20 = .ok (.ldc 95, 2) := by decide +kernel
theorem dX6_run_22 : decode cX6_run 22 = .ok (.iload_n 1, 1) := by decide +kernel
theorem dX6_run_23 : decode cX6_run 23 = .ok (.isub, 1) := by decide +kernel
theorem dX6_run_24 : decode cX6_run 24 = .ok (.if_icmp .le 6, 3) := by decide +kernel
theorem dX6_run_27 : decode cX6_run 27 = .ok (.bipush (-4), 2) := by decide +kernel
theorem dX6_run_29 : decode cX6_run 29 = .ok (.ireturn, 1) := by decide +kernel
theorem dX6_run_30 : decode cX6_run 30 = .ok (.aload_n 0, 1) := by decide +kernel
theorem dX6_run_31 : decode cX6_run 31 = .ok (.invokevirtual 79, 3) := by decide +kernel
theorem dX6_run_34 : decode cX6_run 34 = .ok (.iconst 0, 1) := by decide +kernel
theorem dX6_run_35 : decode cX6_run 35 = .ok (.istore_n 2, 1) := by decide +kernel
theorem dX6_run_36 : decode cX6_run 36 = .ok (.iconst 0, 1) := by decide +kernel
theorem dX6_run_37 : decode cX6_run 37 = .ok (.istore_n 3, 1) := by decide +kernel
theorem dX6_run_38 : decode cX6_run 38 = .ok (.iload_n 3, 1) := by decide +kernel
theorem dX6_run_39 : decode cX6_run 39 = .ok (.iload_n 1, 1) := by decide +kernel
theorem dX6_run_40 : decode cX6_run 40 = .ok (.if_icmp .ge 16, 3) := by decide +kernel
theorem dX6_run_43 : decode cX6_run 43 = .ok (.iload_n 2, 1) := by decide +kernel
theorem dX6_run_44 : decode cX6_run 44 = .ok (.aload_n 0, 1) := by decide +kernel
theorem dX6_run_45 : decode cX6_run 45 = .ok (.invokevirtual 72, 3) := by decide +kernel
theorem dX6_run_48 : decode cX6_run 48 = .ok (.iadd, 1) := by decide +kernel
theorem dX6_run_49 : decode cX6_run 49 = .ok (.istore_n 2, 1) := by decide +kernel
theorem dX6_run_50 : decode cX6_run 50 = .ok (.iinc 3 1, 3) := by decide +kernel
theorem dX6_run_53 : decode cX6_run 53 = .ok (.goto (-15), 3) := by decide +kernel
theorem dX6_run_56 : decode cX6_run 56 = .ok (.aload_n 0, 1) := by decide +kernel
theorem dX6_run_57 : decode cX6_run 57 = .ok (.iload_n 2, 1) := by decide +kernel
theorem dX6_run_58 : decode cX6_run 58 = .ok (.invokevirtual 85, 3) := by decide +kernel
theorem dX6_run_61 : decode cX6_run 61 = .ok (.ireturn, 1) := by decide +kernel
theorem dX6_reset_0 : decode cX6_reset 0 = .ok (.aload_n 0, 1) := by decide +kernel
theorem dX6_reset_1 : decode cX6_reset 1 = .ok (.invokevirtual 79, 3) := by decide +kernel
theorem dX6_reset_4 : decode cX6_reset 4 = .ok (.aload_n 0, 1) := by decide +kernel
theorem dX6_reset_5 : decode cX6_reset 5 = .ok (.invokevirtual 82, 3) := by decide +kernel
theorem dX6_reset_8 : decode cX6_reset 8 = .ok (.aload_n 0, 1) := by decide +kernel
theorem dX6_reset_9 : decode cX6_reset 9 = .ok (.aload_n 0, 1) := by decide +kernel
theorem dX6_reset_10 : decode cX6_reset 10 = .ok (.invokevirtual 69, 3) := by decide +kernel
theorem dX6_reset_13 : decode cX6_reset 13 = .ok (.invokevirtual 85, 3) := by decide +kernel
theorem dX6_reset_16 : decode cX6_reset 16 = .ok (.ireturn, 1) := by decide +kernel
theorem dX6_isSign_0 : decode cX6_isSign 0 = .ok (.aload_n 0, 1) := by decide +kernel
theorem dX6_isSign_1 : decode cX6_isSign 1 = .ok (.getfield 96, 3) := by decide +kernel
theorem dX6_isSign_4 : decode cX6_isSign 4 = .ok (.aload_n 0, 1) := by decide +kernel
theorem dX6_isSign_5 : decode cX6_isSign 5 = .ok (.getfield 99, 3) := by decide +kernel
theorem dX6_isSign_8 : decode cX6_isSign 8 = .ok (.if_icmp .ge 33, 3) := by decide +kernel
theorem dX6_isSign_11 : decode cX6_isSign 11 = .ok (.aload_n 0, 1) := by decide +kernel
theorem dX6_isSign_12 : decode cX6_isSign 12 = .ok (.getfield 32, 3) := by decide +kernel
theorem dX6_isSign_15 : decode cX6_isSign 15 = .ok (.aload_n 0, 1) := by decide +kernel
theorem dX6_isSign_16 : decode cX6_isSign 16 = .ok (.getfield 96, 3) := by decide +kernel
theorem dX6_isSign_19 : decode cX6_isSign 19 = .ok (.caload, 1) := by decide +kernel
theorem dX6_isSign_20 : decode cX6_isSign 20 = .ok (.iload_n 1, 1) := by decide +kernel
theorem dX6_isSign_21 : decode cX6_isSign 21 = .ok (.if_icmp .lt 20, 3) := by decide +kernel
theorem dX6_isSign_24 : decode cX6_isSign 24 = .ok (.aload_n 0, 1) := by decide +kernel
theorem dX6_isSign_25 : decode cX6_isSign 25 = .ok (.getfield 32, 3) := by decide +kernel
theorem dX6_isSign_28 : decode cX6_isSign 28 = .ok (.aload_n 0, 1) := by decide +kernel
theorem dX6_isSign_29 : decode cX6_isSign 29 = .ok (.getfield 96, 3) := by decide +kernel
theorem dX6_isSign_32 : decode cX6_isSign 32 = .ok (.caload, 1) := by decide +kernel
theorem dX6_isSign_33 : decode cX6_isSign 33 = .ok (.iload_n 2, 1) := by decide +kernel
theorem dX6_isSign_34 : decode cX6_isSign 34 = .ok (.if_icmp .gt 7, 3) := by decide +kernel
theorem dX6_isSign_37 : decode cX6_isSign 37 = .ok (.iconst 1, 1) := by decide +kernel
theorem dX6_isSign_38 : decode cX6_isSign 38 = .ok (.goto 4, 3) := by decide +kernel
theorem dX6_isSign_41 : decode cX6_isSign 41 = .ok (.iconst 0, 1) := by decide +kernel
theorem dX6_isSign_42 : decode cX6_isSign 42 = .ok (.ireturn, 1) := by decide +kernel
theorem dX6_accepts_0 : decode cX6_accepts 0 = .ok (.aload_n 0, 1) := by decide +kernel
theorem dX6_accepts_1 : decode cX6_accepts 1 = .ok (.iload_n 1, 1) := by decide +kernel
theorem dX6_accepts_2 : decode cX6_accepts 2 = .ok (.iload_n 1, 1) := by decide +kernel
theorem dX6_accepts_3 : decode cX6_accepts 3 = .ok (.invokevirtual 102, 3) := by decide +kernel
theorem dX6_accepts_6 : decode cX6_accepts 6 = .ok (.istore_n 2, 1) := by decide +kernel
theorem dX6_accepts_7 : decode cX6_accepts 7 = .ok (.aload_n 0, 1) := by decide +kernel
theorem dX6_accepts_8 : decode cX6_accepts 8 = .ok (.dup, 1) := by decide +kernel
theorem dX6_accepts_9 : decode cX6_accepts 9 = .ok (.getfield 96, 3) := by decide +kernel
theorem dX6_accepts_12 : decode cX6_accepts 12 = .ok (.iload_n 2, 1) := by decide +kernel
theorem dX6_accepts_13 : decode cX6_accepts 13 = .ok (.ifCond .eq 7, 3) := by decide +kernel
theorem dX6_accepts_16 : decode cX6_accepts 16 = .ok (.iconst 1, 1) := by decide +kernel
theorem dX6_accepts_17 : decode cX6_accepts 17 = .ok (.goto 4, 3) := by decide +kernel
theorem dX6_accepts_20 : decode cX6_accepts 20 = .ok (.iconst 0, 1) := by decide +kernel
theorem dX6_accepts_21 : decode cX6_accepts 21 = .ok (.iadd, 1) := by decide +kernel
theorem dX6_accepts_22 : decode cX6_accepts 22 = .ok (.putfield 96, 3) := by decide +kernel
theorem dX6_accepts_25 : decode cX6_accepts 25 = .ok (.iload_n 2, 1) := by decide +kernel
theorem dX6_accepts_26 : decode cX6_accepts 26 = .ok (.ireturn, 1) := by decide +kernel
theorem dX6_number_0 : decode cX6_number 0 = .ok (.iconst 3, 1) := by decide +kernel
theorem dX6_number_1 : decode cX6_number 1 = .ok (.aload_n 0, 1) := by decide +kernel
theorem dX6_number_2 : decode cX6_number 2 = .ok (.getfield 106, 3) := by decide +kernel
theorem dX6_number_5 : decode cX6_number 5 = .ok (.imul, 1) := by decide +kernel
theorem dX6_number_6 : decode cX6_number 6 = .ok (.iload_n 1, 1) := by decide +kernel
theorem dX6_number_7 : decode cX6_number 7 = .ok (.iadd, 1) := by decide +kernel
theorem dX6_number_8 : decode cX6_number 8 = .ok (.istore 4, 2) := by decide +kernel
theorem dX6_number_10 : decode cX6_number 10 = .ok (.aload_n 0, 1) := by decide +kernel
theorem dX6_number_11 : decode cX6_number 11 = .ok (.getfield 29, 3) := by decide +kernel
theorem dX6_number_14 : decode cX6_number 14 = .ok (.iload 4, 2) := by decide +kernel
theorem dX6_number_16 : decode cX6_number 16 = .ok (.iconst 0, 1) := by decide +kernel
theorem dX6_number_17 : decode cX6_number 17 = .ok (.iastore, 1) := by decide +kernel
theorem dX6_number_18 : decode cX6_number 18 = .ok (.aload_n 0, 1) := by decide +kernel
theorem dX6_number_19 : decode cX6_number 19 = .ok (.iload_n 2, 1) := by decide +kernel
theorem dX6_number_20 : decode cX6_number 20 = .ok (.ifCond .ne 8, 3) := by decide +kernel
theorem dX6_number_23 : decode cX6_number 23 = .ok (.bipush 48, 2) := by decide +kernel
theorem dX6_number_25 : decode cX6_number 25 = .ok (.goto 5, 3) := by decide +kernel
theorem dX6_number_28 : decode cX6_number 28 = .ok (.bipush 49, 2) := by decide +kernel
theorem dX6_number_30 : decode cX6_number 30 = .ok (.bipush 57, 2) := by decide +kernel
theorem dX6_number_32 : decode cX6_number 32 = .ok (.invokevirtual 102, 3) := by decide +kernel
theorem dX6_number_35 : decode cX6_number 35 = .ok (.ifCond .ne 5, 3) := by decide +kernel
theorem dX6_number_38 : decode cX6_number 38 = .ok (.iconst 0, 1) := by decide +kernel
theorem dX6_number_39 : decode cX6_number 39 = .ok (.ireturn, 1) := by decide +kernel
theorem dX6_number_40 : decode cX6_number 40 = .ok (.aload_n 0, 1) := by decide +kernel
theorem dX6_number_41 : decode cX6_number 41 = .ok (.getfield 29, 3) := by decide +kernel
theorem dX6_number_44 : decode cX6_number 44 = .ok (.iload 4, 2) := by decide +kernel
theorem dX6_number_46 : decode cX6_number 46 = .ok (.aload_n 0, 1) := by decide +kernel
theorem dX6_number_47 : decode cX6_number 47 = .ok (.getfield 32, 3) := by decide +kernel
theorem dX6_number_50 : decode cX6_number 50 = .ok (.aload_n 0, 1) := by decide +kernel
theorem dX6_number_51 : decode cX6_number 51 = .ok (.getfield 96, 3) := by decide +kernel
theorem dX6_number_54 : decode cX6_number 54 = .ok (.caload, 1) := by decide +kernel
theorem dX6_number_55 : decode cX6_number 55 = .ok (.bipush 48, 2) := by decide +kernel
theorem dX6_number_57 : decode cX6_number 57 = .ok (.isub, 1) := by decide +kernel
theorem dX6_number_58 : decode cX6_number 58 = .ok (.iastore, 1) := by decide +kernel
theorem dX6_number_59 : decode cX6_number 59 = .ok (.aload_n 0, 1) := by decide +kernel
theorem dX6_number_60 : decode cX6_number 60 = .ok (.dup, 1) := by decide +kernel
theorem dX6_number_61 : decode cX6_number 61 = .ok (.getfield 96, 3) := by decide +kernel
theorem dX6_number_64 : decode cX6_number 64 = .ok (.iconst 1, 1) := by decide +kernel
theorem dX6_number_65 : decode cX6_number 65 = .ok (.iadd, 1) := by decide +kernel
theorem dX6_number_66 : decode cX6_number 66 = .ok (.putfield 96, 3) := by decide +kernel
theorem dX6_number_69 : decode cX6_number 69 = .ok (.aload_n 0, 1) := by decide +kernel
theorem dX6_number_70 : decode cX6_number 70 = .ok (.getfield 29, 3) := by decide +kernel
theorem dX6_number_73 : decode cX6_number 73 = .ok (.iload 4, 2) := by decide +kernel
theorem dX6_number_75 : decode cX6_number 75 = .ok (.iaload, 1) := by decide +kernel
theorem dX6_number_76 : decode cX6_number 76 = .ok (.ifCond .le 84, 3) := by decide +kernel
theorem dX6_number_79 : decode cX6_number 79 = .ok (.aload_n 0, 1) := by decide +kernel
theorem dX6_number_80 : decode cX6_number 80 = .ok (.bipush 48, 2) := by decide +kernel
theorem dX6_number_82 : decode cX6_number 82 = .ok (.bipush 57, 2) := by decide +kernel
theorem dX6_number_84 : decode cX6_number 84 = .ok (.invokevirtual 102, 3) := by decide +kernel
theorem dX6_number_87 : decode cX6_number 87 = .ok (.ifCond .eq 73, 3) := by decide +kernel
theorem dX6_number_90 : decode cX6_number 90 = .ok (.bipush 10, 2) := by decide +kernel
theorem dX6_number_92 : decode cX6_number 92 = .ok (.aload_n 0, 1) := by decide +kernel
theorem dX6_number_93 : decode cX6_number 93 = .ok (.getfield 29, 3) := by decide +kernel
theorem dX6_number_96 : decode cX6_number 96 = .ok (.iload 4, 2) := by decide +kernel
theorem dX6_number_98 : decode cX6_number 98 = .ok (.iaload, 1) := by decide +kernel
theorem dX6_number_99 : decode cX6_number 99 = .ok (.imul, 1) := by decide +kernel
theorem dX6_number_100 : decode cX6_number 100 = .ok (.aload_n 0, 1) := by decide +kernel
theorem dX6_number_101 : decode cX6_number 101 = .ok (.getfield 32, 3) := by decide +kernel
theorem dX6_number_104 : decode cX6_number 104 = .ok (.aload_n 0, 1) := by decide +kernel
theorem dX6_number_105 : decode cX6_number 105 = .ok (.getfield 96, 3) := by decide +kernel
theorem dX6_number_108 : decode cX6_number 108 = .ok (.caload, 1) := by decide +kernel
theorem dX6_number_109 : decode cX6_number 109 = .ok (.iadd, 1) := by decide +kernel
theorem dX6_number_110 : decode cX6_number 110 = .ok (.bipush 48, 2) := by decide +kernel
theorem dX6_number_112 : decode cX6_number 112 = .ok (.isub, 1) := by decide +kernel
theorem dX6_number_113 : decode cX6_number 113 = .ok (.iload_n 3, 1) := by decide +kernel
theorem dX6_number_114 : decode cX6_number 114 = .ok (.if_icmp .gt 46, 3) := by decide +kernel
theorem dX6_number_117 : decode cX6_number 117 = .ok (.aload_n 0, 1) := by decide +kernel
theorem dX6_number_118 : decode cX6_number 118 = .ok (.getfield 29, 3) := by decide +kernel
theorem dX6_number_121 : decode cX6_number 121 = .ok (.iload 4, 2) := by decide +kernel
theorem dX6_number_123 : decode cX6_number 123 = .ok (.bipush 10, 2) := by decide +kernel
theorem dX6_number_125 : decode cX6_number 125 = .ok (.aload_n 0, 1) := by decide +kernel
theorem dX6_number_126 : decode cX6_number 126 = .ok (.getfield 29, 3) := by decide +kernel
theorem dX6_number_129 : decode cX6_number 129 = .ok (.iload 4, 2) := by decide +kernel
theorem dX6_number_131 : decode cX6_number 131 = .ok (.iaload, 1) := by decide +kernel
theorem dX6_number_132 : decode cX6_number 132 = .ok (.imul, 1) := by decide +kernel
theorem dX6_number_133 : decode cX6_number 133 = .ok (.aload_n 0, 1) := by decide +kernel
theorem dX6_number_134 : decode cX6_number 134 = .ok (.getfield 32, 3) := by decide +kernel
theorem dX6_number_137 : decode cX6_number 137 = .ok (.aload_n 0, 1) := by decide +kernel
theorem dX6_number_138 : decode cX6_number 138 = .ok (.getfield 96, 3) := by decide +kernel
theorem dX6_number_141 : decode cX6_number 141 = .ok (.caload, 1) := by decide +kernel
theorem dX6_number_142 : decode cX6_number 142 = .ok (.iadd, 1) := by decide +kernel
theorem dX6_number_143 : decode cX6_number 143 = .ok (.bipush 48, 2) := by decide +kernel
theorem dX6_number_145 : decode cX6_number 145 = .ok (.isub, 1) := by decide +kernel
theorem dX6_number_146 : decode cX6_number 146 = .ok (.iastore, 1) := by decide +kernel
theorem dX6_number_147 : decode cX6_number 147 = .ok (.aload_n 0, 1) := by decide +kernel
theorem dX6_number_148 : decode cX6_number 148 = .ok (.dup, 1) := by decide +kernel
theorem dX6_number_149 : decode cX6_number 149 = .ok (.getfield 96, 3) := by decide +kernel
theorem dX6_number_152 : decode cX6_number 152 = .ok (.iconst 1, 1) := by decide +kernel
theorem dX6_number_153 : decode cX6_number 153 = .ok (.iadd, 1) := by decide +kernel
theorem dX6_number_154 : decode cX6_number 154 = .ok (.putfield 96, 3) := by decide +kernel
theorem dX6_number_157 : decode cX6_number 157 = .ok (.goto (-88), 3) := by decide +kernel
theorem dX6_number_160 : decode cX6_number 160 = .ok (.iconst 1, 1) := by decide +kernel
theorem dX6_number_161 : decode cX6_number 161 = .ok (.ireturn, 1) := by decide +kernel
theorem dX6_readsStream_0 : decode cX6_readsStream 0 = .ok (.aload_n 0, 1) := by decide +kernel
theorem dX6_readsStream_1 : decode cX6_readsStream 1 = .ok (.iconst 0, 1) := by decide +kernel
theorem dX6_readsStream_2 : decode cX6_readsStream 2 = .ok (.iconst 0, 1) := by decide +kernel
theorem dX6_readsStream_3 : decode cX6_readsStream 3 = .ok (.sipush 4095, 3) := by decide +kernel
theorem dX6_readsStream_6 : decode cX6_readsStream 6 = .ok (.invokevirtual 109, 3) := by decide +kernel
theorem dX6_readsStream_9 : decode cX6_readsStream 9 = .ok (.ifCond .eq 49, 3) := by decide +kernel
theorem dX6_readsStream_12 : decode cX6_readsStream 12 = .ok (.aload_n 0, 1) := by decide +kernel
theorem dX6_readsStream_13 : decode cX6_readsStream 13 = .ok (.bipush 43, 2) := by decide +kernel
theorem dX6_readsStream_15 : decode cX6_readsStream 15 = .ok (.invokevirtual 112, 3) := by decide +kernel
theorem dX6_readsStream_18 : decode cX6_readsStream 18 = .ok (.ifCond .eq 40, 3) := by decide +kernel
theorem dX6_readsStream_21 : decode cX6_readsStream 21 = .ok (.aload_n 0, 1) := by decide +kernel
theorem dX6_readsStream_22 : decode cX6_readsStream 22 = .ok (.iconst 1, 1) := by decide +kernel
theorem dX6_readsStream_23 : decode cX6_readsStream 23 = .ok (.iconst 0, 1) := by decide +kernel
theorem dX6_readsStream_24 : decode cX6_readsStream 24 = .ok (.sipush 1023, 3) := by decide +kernel
theorem dX6_readsStream_27 : decode cX6_readsStream 27 = .ok (.invokevirtual 109, 3) := by decide +kernel
theorem dX6_readsStream_30 : decode cX6_readsStream 30 = .ok (.ifCond .eq 28, 3) := by decide +kernel
theorem dX6_readsStream_33 : decode cX6_readsStream 33 = .ok (.aload_n 0, 1) := by decide +kernel
theorem dX6_readsStream_34 : decode cX6_readsStream 34 = .ok (.bipush 42, 2) := by decide +kernel
theorem dX6_readsStream_36 : decode cX6_readsStream 36 = .ok (.invokevirtual 112, 3) := by decide +kernel
theorem dX6_readsStream_39 : decode cX6_readsStream 39 = .ok (.ifCond .eq 19, 3) := by decide +kernel
theorem dX6_readsStream_42 : decode cX6_readsStream 42 = .ok (.aload_n 0, 1) := by decide +kernel
theorem dX6_readsStream_43 : decode cX6_readsStream 43 = .ok (.iconst 2, 1) := by decide +kernel
theorem dX6_readsStream_44 : decode cX6_readsStream 44 = .ok (.iconst 1, 1) := by decide +kernel
theorem dX6_readsStream_45 : decode cX6_readsStream 45 = .ok (.sipush 200, 3) := by decide +kernel
theorem dX6_readsStream_48 : decode cX6_readsStream 48 = .ok (.invokevirtual 109, 3) := by decide +kernel
theorem dX6_readsStream_51 : decode cX6_readsStream 51 = .ok (.ifCond .eq 7, 3) := by decide +kernel
theorem dX6_readsStream_54 : decode cX6_readsStream 54 = .ok (.iconst 1, 1) := by decide +kernel
theorem dX6_readsStream_55 : decode cX6_readsStream 55 = .ok (.goto 4, 3) := by decide +kernel
theorem dX6_readsStream_58 : decode cX6_readsStream 58 = .ok (.iconst 0, 1) := by decide +kernel
theorem dX6_readsStream_59 : decode cX6_readsStream 59 = .ok (.istore_n 1, 1) := by decide +kernel
theorem dX6_readsStream_60 : decode cX6_readsStream 60 = .ok (.aload_n 0, 1) := by decide +kernel
theorem dX6_readsStream_61 : decode cX6_readsStream 61 = .ok (.dup, 1) := by decide +kernel
theorem dX6_readsStream_62 : decode cX6_readsStream 62 = .ok (.getfield 106, 3) := by decide +kernel
theorem dX6_readsStream_65 : decode cX6_readsStream 65 = .ok (.iload_n 1, 1) := by decide +kernel
theorem dX6_readsStream_66 : decode cX6_readsStream 66 = .ok (.ifCond .eq 7, 3) := by decide +kernel
theorem dX6_readsStream_69 : decode cX6_readsStream 69 = .ok (.iconst 1, 1) := by decide +kernel
theorem dX6_readsStream_70 : decode cX6_readsStream 70 = .ok (.goto 4, 3) := by decide +kernel
theorem dX6_readsStream_73 : decode cX6_readsStream 73 = .ok (.iconst 0, 1) := by decide +kernel
theorem dX6_readsStream_74 : decode cX6_readsStream 74 = .ok (.iadd, 1) := by decide +kernel
theorem dX6_readsStream_75 : decode cX6_readsStream 75 = .ok (.putfield 106, 3) := by decide +kernel
theorem dX6_readsStream_78 : decode cX6_readsStream 78 = .ok (.iload_n 1, 1) := by decide +kernel
theorem dX6_readsStream_79 : decode cX6_readsStream 79 = .ok (.ireturn, 1) := by decide +kernel
theorem dX6_faultOf_0 : decode cX6_faultOf 0 = .ok (.aload_n 0, 1) := by decide +kernel
theorem dX6_faultOf_1 : decode cX6_faultOf 1 = .ok (.iconst 0, 1) := by decide +kernel
theorem dX6_faultOf_2 : decode cX6_faultOf 2 = .ok (.putfield 96, 3) := by decide +kernel
theorem dX6_faultOf_5 : decode cX6_faultOf 5 = .ok (.aload_n 0, 1) := by decide +kernel
theorem dX6_faultOf_6 : decode cX6_faultOf 6 = .ok (.iconst 0, 1) := by decide +kernel
theorem dX6_faultOf_7 : decode cX6_faultOf 7 = .ok (.putfield 106, 3) := by decide +kernel
theorem dX6_faultOf_10 : decode cX6_faultOf 10 = .ok (.aload_n 0, 1) := by decide +kernel
theorem dX6_faultOf_11 : decode cX6_faultOf 11 = .ok (.invokevirtual 116, 3) := by decide +kernel
theorem dX6_faultOf_14 : decode cX6_faultOf 14 = .ok (.istore_n 1, 1) := by decide +kernel
theorem dX6_faultOf_15 : decode cX6_faultOf 15 = .ok (.iload_n 1, 1) := by decide +kernel
theorem dX6_faultOf_16 : decode cX6_faultOf 16 = .ok (.ifCond .eq 39, 3) := by decide +kernel
theorem dX6_faultOf_19 : decode cX6_faultOf 19 = .ok (.aload_n 0, 1) := by decide +kernel
theorem dX6_faultOf_20 : decode cX6_faultOf 20 = .ok (.getfield 96, 3) := by decide +kernel
theorem dX6_faultOf_23 : decode cX6_faultOf 23 = .ok (.aload_n 0, 1) := by decide +kernel
theorem dX6_faultOf_24 : decode cX6_faultOf 24 = .ok (.getfield 99, 3) := by decide +kernel
theorem dX6_faultOf_27 : decode cX6_faultOf 27 = .ok (.if_icmp .ge 28, 3) := by decide +kernel
theorem dX6_faultOf_30 : decode cX6_faultOf 30 = .ok (.aload_n 0, 1) := by decide +kernel
theorem dX6_faultOf_31 : decode cX6_faultOf 31 = .ok (.bipush 59, 2) := by decide +kernel
theorem dX6_faultOf_33 : decode cX6_faultOf 33 = .ok (.invokevirtual 112, 3) := by decide +kernel
theorem dX6_faultOf_36 : decode cX6_faultOf 36 = .ok (.ifCond .eq 14, 3) := by decide +kernel
theorem dX6_faultOf_39 : decode cX6_faultOf 39 = .ok (.aload_n 0, 1) := by decide +kernel
theorem dX6_faultOf_40 : decode cX6_faultOf 40 = .ok (.invokevirtual 116, 3) := by decide +kernel
theorem dX6_faultOf_43 : decode cX6_faultOf 43 = .ok (.ifCond .eq 7, 3) := by decide +kernel
theorem dX6_faultOf_46 : decode cX6_faultOf 46 = .ok (.iconst 1, 1) := by decide +kernel
theorem dX6_faultOf_47 : decode cX6_faultOf 47 = .ok (.goto 4, 3) := by decide +kernel
theorem dX6_faultOf_50 : decode cX6_faultOf 50 = .ok (.iconst 0, 1) := by decide +kernel
theorem dX6_faultOf_51 : decode cX6_faultOf 51 = .ok (.istore_n 1, 1) := by decide +kernel
theorem dX6_faultOf_52 : decode cX6_faultOf 52 = .ok (.goto (-37), 3) := by decide +kernel
theorem dX6_faultOf_55 : decode cX6_faultOf 55 = .ok (.iload_n 1, 1) := by decide +kernel
theorem dX6_faultOf_56 : decode cX6_faultOf 56 = .ok (.ifCond .eq 7, 3) := by decide +kernel
theorem dX6_faultOf_59 : decode cX6_faultOf 59 = .ok (.iconst (-1), 1) := by decide +kernel
theorem dX6_faultOf_60 : decode cX6_faultOf 60 = .ok (.goto 7, 3) := by decide +kernel
theorem dX6_faultOf_63 : decode cX6_faultOf 63 = .ok (.aload_n 0, 1) := by decide +kernel
theorem dX6_faultOf_64 : decode cX6_faultOf 64 = .ok (.getfield 96, 3) := by decide +kernel
theorem dX6_faultOf_67 : decode cX6_faultOf 67 = .ok (.ireturn, 1) := by decide +kernel
theorem dX6_read_0 : decode cX6_read 0 = .ok (.aload_n 0, 1) := by decide +kernel
theorem dX6_read_1 : decode cX6_read 1 = .ok (.invokevirtual 120, 3) := by decide +kernel
theorem dX6_read_4 : decode cX6_read 4 = .ok (.ifCond .lt 6, 3) := by decide +kernel
theorem dX6_read_7 : decode cX6_read 7 = .ok (.bipush (-3), 2) := by decide +kernel
theorem dX6_read_9 : decode cX6_read 9 = .ok (.ireturn, 1) := by decide +kernel
theorem dX6_read_10 : decode cX6_read 10 = .ok (.aload_n 0, 1) := by decide +kernel
theorem dX6_read_11 : decode cX6_read 11 = .ok (.getfield 7, 3) := by decide +kernel
theorem dX6_read_14 : decode cX6_read 14 = .ok (.iconst 5, 1) := by decide +kernel
theorem dX6_read_15 : decode cX6_read 15 = .ok (.iaload, 1) := by decide +kernel
theorem dX6_read_16 : decode cX6_read 16 = .ok (.aload_n 0, 1) := by decide +kernel
theorem dX6_read_17 : decode cX6_read 17 = .ok (.getfield 106, 3) := by decide +kernel
theorem dX6_read_20 : decode cX6_read 20 = .ok (.iadd, 1) := by decide +kernel
theorem dX6_read_21 : decode cX6_read 21 = .ok (.iconst 4, 1) := by decide +kernel
theorem dX6_read_22 : decode cX6_read 22 = .ok (.if_icmp .le 6, 3) := by decide +kernel
theorem dX6_read_25 : decode cX6_read 25 = .ok (.bipush (-4), 2) := by decide +kernel
theorem dX6_read_27 : decode cX6_read 27 = .ok (.ireturn, 1) := by decide +kernel
theorem dX6_read_28 : decode cX6_read 28 = .ok (.aload_n 0, 1) := by decide +kernel
theorem dX6_read_29 : decode cX6_read 29 = .ok (.invokevirtual 79, 3) := by decide +kernel
theorem dX6_read_32 : decode cX6_read 32 = .ok (.iconst 0, 1) := by decide +kernel
theorem dX6_read_33 : decode cX6_read 33 = .ok (.istore_n 1, 1) := by decide +kernel
theorem dX6_read_34 : decode cX6_read 34 = .ok (.iload_n 1, 1) := by decide +kernel
theorem dX6_read_35 : decode cX6_read 35 = .ok (.aload_n 0, 1) := by decide +kernel
theorem dX6_read_36 : decode cX6_read 36 = .ok (.getfield 106, 3) := by decide +kernel
theorem dX6_read_39 : decode cX6_read 39 = .ok (.if_icmp .ge 42, 3) := by decide +kernel
theorem dX6_read_42 : decode cX6_read 42 = .ok (.aload_n 0, 1) := by decide +kernel
theorem dX6_read_43 : decode cX6_read 43 = .ok (.aload_n 0, 1) := by decide +kernel
theorem dX6_read_44 : decode cX6_read 44 = .ok (.getfield 29, 3) := by decide +kernel
theorem dX6_read_47 : decode cX6_read 47 = .ok (.iconst 3, 1) := by decide +kernel
theorem dX6_read_48 : decode cX6_read 48 = .ok (.iload_n 1, 1) := by decide +kernel
theorem dX6_read_49 : decode cX6_read 49 = .ok (.imul, 1) := by decide +kernel
theorem dX6_read_50 : decode cX6_read 50 = .ok (.iaload, 1) := by decide +kernel
theorem dX6_read_51 : decode cX6_read 51 = .ok (.aload_n 0, 1) := by decide +kernel
theorem dX6_read_52 : decode cX6_read 52 = .ok (.getfield 29, 3) := by decide +kernel
theorem dX6_read_55 : decode cX6_read 55 = .ok (.iconst 3, 1) := by decide +kernel
theorem dX6_read_56 : decode cX6_read 56 = .ok (.iload_n 1, 1) := by decide +kernel
theorem dX6_read_57 : decode cX6_read 57 = .ok (.imul, 1) := by decide +kernel
theorem dX6_read_58 : decode cX6_read 58 = .ok (.iconst 1, 1) := by decide +kernel
theorem dX6_read_59 : decode cX6_read 59 = .ok (.iadd, 1) := by decide +kernel
theorem dX6_read_60 : decode cX6_read 60 = .ok (.iaload, 1) := by decide +kernel
theorem dX6_read_61 : decode cX6_read 61 = .ok (.aload_n 0, 1) := by decide +kernel
theorem dX6_read_62 : decode cX6_read 62 = .ok (.getfield 29, 3) := by decide +kernel
theorem dX6_read_65 : decode cX6_read 65 = .ok (.iconst 3, 1) := by decide +kernel
theorem dX6_read_66 : decode cX6_read 66 = .ok (.iload_n 1, 1) := by decide +kernel
theorem dX6_read_67 : decode cX6_read 67 = .ok (.imul, 1) := by decide +kernel
theorem dX6_read_68 : decode cX6_read 68 = .ok (.iconst 2, 1) := by decide +kernel
theorem dX6_read_69 : decode cX6_read 69 = .ok (.iadd, 1) := by decide +kernel
theorem dX6_read_70 : decode cX6_read 70 = .ok (.iaload, 1) := by decide +kernel
theorem dX6_read_71 : decode cX6_read 71 = .ok (.invokevirtual 88, 3) := by decide +kernel
theorem dX6_read_74 : decode cX6_read 74 = .ok (.istore_n 2, 1) := by decide +kernel
theorem dX6_read_75 : decode cX6_read 75 = .ok (.iinc 1 1, 3) := by decide +kernel
theorem dX6_read_78 : decode cX6_read 78 = .ok (.goto (-44), 3) := by decide +kernel
theorem dX6_read_81 : decode cX6_read 81 = .ok (.aload_n 0, 1) := by decide +kernel
theorem dX6_read_82 : decode cX6_read 82 = .ok (.iconst 0, 1) := by decide +kernel
theorem dX6_read_83 : decode cX6_read 83 = .ok (.putfield 99, 3) := by decide +kernel
theorem dX6_read_86 : decode cX6_read 86 = .ok (.aload_n 0, 1) := by decide +kernel
theorem dX6_read_87 : decode cX6_read 87 = .ok (.aload_n 0, 1) := by decide +kernel
theorem dX6_read_88 : decode cX6_read 88 = .ok (.getfield 7, 3) := by decide +kernel
theorem dX6_read_91 : decode cX6_read 91 = .ok (.iconst 5, 1) := by decide +kernel
theorem dX6_read_92 : decode cX6_read 92 = .ok (.iaload, 1) := by decide +kernel
theorem dX6_read_93 : decode cX6_read 93 = .ok (.invokevirtual 85, 3) := by decide +kernel
theorem dX6_read_96 : decode cX6_read 96 = .ok (.ireturn, 1) := by decide +kernel
theorem dX6_bankOf_0 : decode cX6_bankOf 0 = .ok (.iload_n 1, 1) := by decide +kernel
theorem dX6_bankOf_1 : decode cX6_bankOf 1 = .ok (.iconst 0, 1) := by decide +kernel
theorem dX6_bankOf_2 : decode cX6_bankOf 2 = .ok (.sipush 4095, 3) := by decide +kernel
theorem dX6_bankOf_5 : decode cX6_bankOf 5 = .ok (.invokestatic 36, 3) := by decide +kernel
theorem dX6_bankOf_8 : decode cX6_bankOf 8 = .ok (.ifCond .eq 11, 3) := by decide +kernel
theorem dX6_bankOf_11 : decode cX6_bankOf 11 = .ok (.aload_n 0, 1) := by decide +kernel
theorem dX6_bankOf_12 : decode cX6_bankOf 12 = .ok (.iload_n 1, 1) := by decide +kernel
theorem dX6_bankOf_13 : decode cX6_bankOf 13 = .ok (.invokevirtual 56, 3) := by decide +kernel
theorem dX6_bankOf_16 : decode cX6_bankOf 16 = .ok (.goto 5, 3) := by decide +kernel
theorem dX6_bankOf_19 : decode cX6_bankOf 19 = .ok (.bipush (-2), 2) := by decide +kernel
theorem dX6_bankOf_21 : decode cX6_bankOf 21 = .ok (.ireturn, 1) := by decide +kernel
theorem dX6_meets_0 : decode cX6_meets 0 = .ok (.iload_n 1, 1) := by decide +kernel
theorem dX6_meets_1 : decode cX6_meets 1 = .ok (.invokestatic 52, 3) := by decide +kernel
theorem dX6_meets_4 : decode cX6_meets 4 = .ok (.istore_n 2, 1) := by decide +kernel
theorem dX6_meets_5 : decode cX6_meets 5 = .ok (.iconst 0, 1) := by decide +kernel
theorem dX6_meets_6 : decode cX6_meets 6 = .ok (.istore_n 3, 1) := by decide +kernel
theorem dX6_meets_7 : decode cX6_meets 7 = .ok (.iconst 0, 1) := by decide +kernel
theorem dX6_meets_8 : decode cX6_meets 8 = .ok (.istore 4, 2) := by decide +kernel
theorem dX6_meets_10 : decode cX6_meets 10 = .ok (.iload 4, 2) := by decide +kernel
theorem dX6_meets_12 : decode cX6_meets 12 = .ok (.aload_n 0, 1) := by decide +kernel
theorem dX6_meets_13 : decode cX6_meets 13 = .ok (.getfield 7, 3) := by decide +kernel
theorem dX6_meets_16 : decode cX6_meets 16 = .ok (.iload_n 2, 1) := by decide +kernel
theorem dX6_meets_17 : decode cX6_meets 17 = .ok (.iconst 2, 1) := by decide +kernel
theorem dX6_meets_18 : decode cX6_meets 18 = .ok (.iadd, 1) := by decide +kernel
theorem dX6_meets_19 : decode cX6_meets 19 = .ok (.iaload, 1) := by decide +kernel
theorem dX6_meets_20 : decode cX6_meets 20 = .ok (.if_icmp .ge 42, 3) := by decide +kernel
theorem dX6_meets_23 : decode cX6_meets 23 = .ok (.iload_n 3, 1) := by decide +kernel
theorem dX6_meets_24 : decode cX6_meets 24 = .ok (.iconst 1, 1) := by decide +kernel
theorem dX6_meets_25 : decode cX6_meets 25 = .ok (.aload_n 0, 1) := by decide +kernel
theorem dX6_meets_26 : decode cX6_meets 26 = .ok (.aload_n 0, 1) := by decide +kernel
theorem dX6_meets_27 : decode cX6_meets 27 = .ok (.getfield 7, 3) := by decide +kernel
theorem dX6_meets_30 : decode cX6_meets 30 = .ok (.iload_n 2, 1) := by decide +kernel
theorem dX6_meets_31 : decode cX6_meets 31 = .ok (.iconst 0, 1) := by decide +kernel
theorem dX6_meets_32 : decode cX6_meets 32 = .ok (.iadd, 1) := by decide +kernel
theorem dX6_meets_33 : decode cX6_meets 33 = .ok (.iaload, 1) := by decide +kernel
theorem dX6_meets_34 : decode cX6_meets 34 = .ok (.iload 4, 2) := by decide +kernel
theorem dX6_meets_36 : decode cX6_meets 36 = .ok (.aload_n 0, 1) := by decide +kernel
theorem dX6_meets_37 : decode cX6_meets 37 = .ok (.getfield 7, 3) := by decide +kernel
theorem dX6_meets_40 : decode cX6_meets 40 = .ok (.iload_n 2, 1) := by decide +kernel
theorem dX6_meets_41 : decode cX6_meets 41 = .ok (.iconst 1, 1) := by decide +kernel
theorem dX6_meets_42 : decode cX6_meets 42 = .ok (.iadd, 1) := by decide +kernel
theorem dX6_meets_43 : decode cX6_meets 43 = .ok (.iaload, 1) := by decide +kernel
theorem dX6_meets_44 : decode cX6_meets 44 = .ok (.imul, 1) := by decide +kernel
theorem dX6_meets_45 : decode cX6_meets 45 = .ok (.iadd, 1) := by decide +kernel
theorem dX6_meets_46 : decode cX6_meets 46 = .ok (.sipush 4096, 3) := by decide +kernel
theorem dX6_meets_49 : decode cX6_meets 49 = .ok (.irem, 1) := by decide +kernel
theorem dX6_meets_50 : decode cX6_meets 50 = .ok (.invokevirtual 56, 3) := by decide +kernel
theorem dX6_meets_53 : decode cX6_meets 53 = .ok (.ishl, 1) := by decide +kernel
theorem dX6_meets_54 : decode cX6_meets 54 = .ok (.ior, 1) := by decide +kernel
theorem dX6_meets_55 : decode cX6_meets 55 = .ok (.istore_n 3, 1) := by decide +kernel
theorem dX6_meets_56 : decode cX6_meets 56 = .ok (.iinc 4 1, 3) := by decide +kernel
theorem dX6_meets_59 : decode cX6_meets 59 = .ok (.goto (-49), 3) := by decide +kernel
theorem dX6_meets_62 : decode cX6_meets 62 = .ok (.iconst 0, 1) := by decide +kernel
theorem dX6_meets_63 : decode cX6_meets 63 = .ok (.istore 4, 2) := by decide +kernel
theorem dX6_meets_65 : decode cX6_meets 65 = .ok (.iconst 0, 1) := by decide +kernel
theorem dX6_meets_66 : decode cX6_meets 66 = .ok (.istore 5, 2) := by decide +kernel
theorem dX6_meets_68 : decode cX6_meets 68 = .ok (.iload 5, 2) := by decide +kernel
theorem dX6_meets_70 : decode cX6_meets 70 = .ok (.bipush 16, 2) := by decide +kernel
theorem dX6_meets_72 : decode cX6_meets 72 = .ok (.if_icmp .ge 20, 3) := by decide +kernel
theorem dX6_meets_75 : decode cX6_meets 75 = .ok (.iload 4, 2) := by decide +kernel
theorem dX6_meets_77 : decode cX6_meets 77 = .ok (.iload_n 3, 1) := by decide +kernel
theorem dX6_meets_78 : decode cX6_meets 78 = .ok (.iload 5, 2) := by decide +kernel
theorem dX6_meets_80 : decode cX6_meets 80 = .ok (.ishr, 1) := by decide +kernel
theorem dX6_meets_81 : decode cX6_meets 81 = .ok (.iconst 1, 1) := by decide +kernel
theorem dX6_meets_82 : decode cX6_meets 82 = .ok (.iand, 1) := by decide +kernel
theorem dX6_meets_83 : decode cX6_meets 83 = .ok (.iadd, 1) := by decide +kernel
theorem dX6_meets_84 : decode cX6_meets 84 = .ok (.istore 4, 2) := by decide +kernel
theorem dX6_meets_86 : decode cX6_meets 86 = .ok (.iinc 5 1, 3) := by decide +kernel
theorem dX6_meets_89 : decode cX6_meets 89 = .ok (.goto (-21), 3) := by decide +kernel
theorem dX6_meets_92 : decode cX6_meets 92 = .ok (.iload 4, 2) := by decide +kernel
theorem dX6_meets_94 : decode cX6_meets 94 = .ok (.ireturn, 1) := by decide +kernel
theorem dX6_stream_0 : decode cX6_stream 0 = .ok (.aload_n 0, 1) := by decide +kernel
theorem dX6_stream_1 : decode cX6_stream 1 = .ok (.iload_n 1, 1) := by decide +kernel
theorem dX6_stream_2 : decode cX6_stream 2 = .ok (.invokevirtual 92, 3) := by decide +kernel
theorem dX6_stream_5 : decode cX6_stream 5 = .ok (.ifCond .ne 5, 3) := by decide +kernel
theorem dX6_stream_8 : decode cX6_stream 8 = .ok (.iconst (-1), 1) := by decide +kernel
theorem dX6_stream_9 : decode cX6_stream 9 = .ok (.ireturn, 1) := by decide +kernel
theorem dX6_stream_10 : decode cX6_stream 10 = .ok (.iload_n 1, 1) := by decide +kernel
theorem dX6_stream_11 : decode cX6_stream 11 = .ok (.invokestatic 52, 3) := by decide +kernel
theorem dX6_stream_14 : decode cX6_stream 14 = .ok (.istore_n 3, 1) := by decide +kernel
theorem dX6_stream_15 : decode cX6_stream 15 = .ok (.iload_n 2, 1) := by decide +kernel
theorem dX6_stream_16 : decode cX6_stream 16 = .ok (.tableswitch 129 0 8 #[52, 52, 52, 52, 61, 86, 86, 97, 123], 52) := by decide +kernel
theorem dX6_stream_68 : decode cX6_stream 68 = .ok (.aload_n 0, 1) := by decide +kernel
theorem dX6_stream_69 : decode cX6_stream 69 = .ok (.getfield 7, 3) := by decide +kernel
theorem dX6_stream_72 : decode cX6_stream 72 = .ok (.iload_n 3, 1) := by decide +kernel
theorem dX6_stream_73 : decode cX6_stream 73 = .ok (.iload_n 2, 1) := by decide +kernel
theorem dX6_stream_74 : decode cX6_stream 74 = .ok (.iadd, 1) := by decide +kernel
theorem dX6_stream_75 : decode cX6_stream 75 = .ok (.iaload, 1) := by decide +kernel
theorem dX6_stream_76 : decode cX6_stream 76 = .ok (.ireturn, 1) := by decide +kernel
theorem dX6_stream_77 : decode cX6_stream 77 = .ok (.aload_n 0, 1) := by decide +kernel
theorem dX6_stream_78 : decode cX6_stream 78 = .ok (.getfield 7, 3) := by decide +kernel
theorem dX6_stream_81 : decode cX6_stream 81 = .ok (.iload_n 3, 1) := by decide +kernel
theorem dX6_stream_82 : decode cX6_stream 82 = .ok (.iconst 3, 1) := by decide +kernel
theorem dX6_stream_83 : decode cX6_stream 83 = .ok (.iadd, 1) := by decide +kernel
theorem dX6_stream_84 : decode cX6_stream 84 = .ok (.iaload, 1) := by decide +kernel
theorem dX6_stream_85 : decode cX6_stream 85 = .ok (.ifCond .ne 8, 3) := by decide +kernel
theorem dX6_stream_88 : decode cX6_stream 88 = .ok (.bipush (-6), 2) := by decide +kernel
theorem dX6_stream_90 : decode cX6_stream 90 = .ok (.goto 11, 3) := by decide +kernel
theorem dX6_stream_93 : decode cX6_stream 93 = .ok (.aload_n 0, 1) := by decide +kernel
theorem dX6_stream_94 : decode cX6_stream 94 = .ok (.getfield 7, 3) := by decide +kernel
theorem dX6_stream_97 : decode cX6_stream 97 = .ok (.iload_n 3, 1) := by decide +kernel
theorem dX6_stream_98 : decode cX6_stream 98 = .ok (.iconst 4, 1) := by decide +kernel
theorem dX6_stream_99 : decode cX6_stream 99 = .ok (.iadd, 1) := by decide +kernel
theorem dX6_stream_100 : decode cX6_stream 100 = .ok (.iaload, 1) := by decide +kernel
theorem dX6_stream_101 : decode cX6_stream 101 = .ok (.ireturn, 1) := by decide +kernel
theorem dX6_stream_102 : decode cX6_stream 102 = .ok (.aload_n 0, 1) := by decide +kernel
theorem dX6_stream_103 : decode cX6_stream 103 = .ok (.getfield 7, 3) := by decide +kernel
theorem dX6_stream_106 : decode cX6_stream 106 = .ok (.iload_n 3, 1) := by decide +kernel
theorem dX6_stream_107 : decode cX6_stream 107 = .ok (.iload_n 2, 1) := by decide +kernel
theorem dX6_stream_108 : decode cX6_stream 108 = .ok (.iadd, 1) := by decide +kernel
theorem dX6_stream_109 : decode cX6_stream 109 = .ok (.iconst 1, 1) := by decide +kernel
theorem dX6_stream_110 : decode cX6_stream 110 = .ok (.iadd, 1) := by decide +kernel
theorem dX6_stream_111 : decode cX6_stream 111 = .ok (.iaload, 1) := by decide +kernel
theorem dX6_stream_112 : decode cX6_stream 112 = .ok (.ireturn, 1) := by decide +kernel
theorem dX6_stream_113 : decode cX6_stream 113 = .ok (.aload_n 0, 1) := by decide +kernel
theorem dX6_stream_114 : decode cX6_stream 114 = .ok (.getfield 7, 3) := by decide +kernel
theorem dX6_stream_117 : decode cX6_stream 117 = .ok (.iload_n 3, 1) := by decide +kernel
theorem dX6_stream_118 : decode cX6_stream 118 = .ok (.iconst 3, 1) := by decide +kernel
theorem dX6_stream_119 : decode cX6_stream 119 = .ok (.iadd, 1) := by decide +kernel
theorem dX6_stream_120 : decode cX6_stream 120 = .ok (.iaload, 1) := by decide +kernel
theorem dX6_stream_121 : decode cX6_stream 121 = .ok (.ifCond .ne 15, 3) := by decide +kernel
theorem dX6_stream_124 : decode cX6_stream 124 = .ok (.aload_n 0, 1) := by decide +kernel
theorem dX6_stream_125 : decode cX6_stream 125 = .ok (.getfield 7, 3) := by decide +kernel
theorem dX6_stream_128 : decode cX6_stream 128 = .ok (.iload_n 3, 1) := by decide +kernel
theorem dX6_stream_129 : decode cX6_stream 129 = .ok (.bipush 8, 2) := by decide +kernel
theorem dX6_stream_131 : decode cX6_stream 131 = .ok (.iadd, 1) := by decide +kernel
theorem dX6_stream_132 : decode cX6_stream 132 = .ok (.iaload, 1) := by decide +kernel
theorem dX6_stream_133 : decode cX6_stream 133 = .ok (.goto 5, 3) := by decide +kernel
theorem dX6_stream_136 : decode cX6_stream 136 = .ok (.bipush (-6), 2) := by decide +kernel
theorem dX6_stream_138 : decode cX6_stream 138 = .ok (.ireturn, 1) := by decide +kernel
theorem dX6_stream_139 : decode cX6_stream 139 = .ok (.aload_n 0, 1) := by decide +kernel
theorem dX6_stream_140 : decode cX6_stream 140 = .ok (.iload_n 1, 1) := by decide +kernel
theorem dX6_stream_141 : decode cX6_stream 141 = .ok (.invokevirtual 123, 3) := by decide +kernel
theorem dX6_stream_144 : decode cX6_stream 144 = .ok (.ireturn, 1) := by decide +kernel
theorem dX6_stream_145 : decode cX6_stream 145 = .ok (.bipush (-2), 2) := by decide +kernel
theorem dX6_stream_147 : decode cX6_stream 147 = .ok (.ireturn, 1) := by decide +kernel
theorem dX6_wordsIn_0 : decode cX6_wordsIn 0 = .ok (.iconst 0, 1) := by decide +kernel
theorem dX6_wordsIn_1 : decode cX6_wordsIn 1 = .ok (.istore_n 2, 1) := by decide +kernel
theorem dX6_wordsIn_2 : decode cX6_wordsIn 2 = .ok (.iconst 0, 1) := by decide +kernel
theorem dX6_wordsIn_3 : decode cX6_wordsIn 3 = .ok (.istore_n 3, 1) := by decide +kernel
theorem dX6_wordsIn_4 : decode cX6_wordsIn 4 = .ok (.iload_n 3, 1) := by decide +kernel
theorem dX6_wordsIn_5 : decode cX6_wordsIn 5 = .ok (.aload_n 0, 1) := by decide +kernel
theorem dX6_wordsIn_6 : decode cX6_wordsIn 6 = .ok (.getfield 7, 3) := by decide +kernel
theorem dX6_wordsIn_9 : decode cX6_wordsIn 9 = .ok (.iconst 5, 1) := by decide +kernel
theorem dX6_wordsIn_10 : decode cX6_wordsIn 10 = .ok (.iaload, 1) := by decide +kernel
theorem dX6_wordsIn_11 : decode cX6_wordsIn 11 = .ok (.if_icmp .ge 80, 3) := by decide +kernel
theorem dX6_wordsIn_14 : decode cX6_wordsIn 14 = .ok (.iload_n 3, 1) := by decide +kernel
theorem dX6_wordsIn_15 : decode cX6_wordsIn 15 = .ok (.invokestatic 52, 3) := by decide +kernel
theorem dX6_wordsIn_18 : decode cX6_wordsIn 18 = .ok (.istore 4, 2) := by decide +kernel
theorem dX6_wordsIn_20 : decode cX6_wordsIn 20 = .ok (.iconst 0, 1) := by decide +kernel
theorem dX6_wordsIn_21 : decode cX6_wordsIn 21 = .ok (.istore 5, 2) := by decide +kernel
theorem dX6_wordsIn_23 : decode cX6_wordsIn 23 = .ok (.iload 5, 2) := by decide +kernel
theorem dX6_wordsIn_25 : decode cX6_wordsIn 25 = .ok (.aload_n 0, 1) := by decide +kernel
theorem dX6_wordsIn_26 : decode cX6_wordsIn 26 = .ok (.getfield 7, 3) := by decide +kernel
theorem dX6_wordsIn_29 : decode cX6_wordsIn 29 = .ok (.iload 4, 2) := by decide +kernel
theorem dX6_wordsIn_31 : decode cX6_wordsIn 31 = .ok (.iconst 3, 1) := by decide +kernel
theorem dX6_wordsIn_32 : decode cX6_wordsIn 32 = .ok (.iadd, 1) := by decide +kernel
theorem dX6_wordsIn_33 : decode cX6_wordsIn 33 = .ok (.iaload, 1) := by decide +kernel
theorem dX6_wordsIn_34 : decode cX6_wordsIn 34 = .ok (.if_icmp .ge 51, 3) := by decide +kernel
theorem dX6_wordsIn_37 : decode cX6_wordsIn 37 = .ok (.iload_n 2, 1) := by decide +kernel
theorem dX6_wordsIn_38 : decode cX6_wordsIn 38 = .ok (.aload_n 0, 1) := by decide +kernel
theorem dX6_wordsIn_39 : decode cX6_wordsIn 39 = .ok (.aload_n 0, 1) := by decide +kernel
theorem dX6_wordsIn_40 : decode cX6_wordsIn 40 = .ok (.getfield 7, 3) := by decide +kernel
theorem dX6_wordsIn_43 : decode cX6_wordsIn 43 = .ok (.iload 4, 2) := by decide +kernel
theorem dX6_wordsIn_45 : decode cX6_wordsIn 45 = .ok (.iconst 4, 1) := by decide +kernel
theorem dX6_wordsIn_46 : decode cX6_wordsIn 46 = .ok (.iadd, 1) := by decide +kernel
theorem dX6_wordsIn_47 : decode cX6_wordsIn 47 = .ok (.iaload, 1) := by decide +kernel
theorem dX6_wordsIn_48 : decode cX6_wordsIn 48 = .ok (.iload 5, 2) := by decide +kernel
theorem dX6_wordsIn_50 : decode cX6_wordsIn 50 = .ok (.aload_n 0, 1) := by decide +kernel
theorem dX6_wordsIn_51 : decode cX6_wordsIn 51 = .ok (.getfield 7, 3) := by decide +kernel
theorem dX6_wordsIn_54 : decode cX6_wordsIn 54 = .ok (.iload 4, 2) := by decide +kernel
theorem dX6_wordsIn_56 : decode cX6_wordsIn 56 = .ok (.iconst 1, 1) := by decide +kernel
theorem dX6_wordsIn_57 : decode cX6_wordsIn 57 = .ok (.iadd, 1) := by decide +kernel
theorem dX6_wordsIn_58 : decode cX6_wordsIn 58 = .ok (.iaload, 1) := by decide +kernel
theorem dX6_wordsIn_59 : decode cX6_wordsIn 59 = .ok (.imul, 1) := by decide +kernel
theorem dX6_wordsIn_60 : decode cX6_wordsIn 60 = .ok (.iadd, 1) := by decide +kernel
theorem dX6_wordsIn_61 : decode cX6_wordsIn 61 = .ok (.sipush 4096, 3) := by decide +kernel
theorem dX6_wordsIn_64 : decode cX6_wordsIn 64 = .ok (.irem, 1) := by decide +kernel
theorem dX6_wordsIn_65 : decode cX6_wordsIn 65 = .ok (.invokevirtual 56, 3) := by decide +kernel
theorem dX6_wordsIn_68 : decode cX6_wordsIn 68 = .ok (.iload_n 1, 1) := by decide +kernel
theorem dX6_wordsIn_69 : decode cX6_wordsIn 69 = .ok (.if_icmp .ne 7, 3) := by decide +kernel
theorem dX6_wordsIn_72 : decode cX6_wordsIn 72 = .ok (.iconst 1, 1) := by decide +kernel
theorem dX6_wordsIn_73 : decode cX6_wordsIn 73 = .ok (.goto 4, 3) := by decide +kernel
theorem dX6_wordsIn_76 : decode cX6_wordsIn 76 = .ok (.iconst 0, 1) := by decide +kernel
theorem dX6_wordsIn_77 : decode cX6_wordsIn 77 = .ok (.iadd, 1) := by decide +kernel
theorem dX6_wordsIn_78 : decode cX6_wordsIn 78 = .ok (.istore_n 2, 1) := by decide +kernel
theorem dX6_wordsIn_79 : decode cX6_wordsIn 79 = .ok (.iinc 5 1, 3) := by decide +kernel
theorem dX6_wordsIn_82 : decode cX6_wordsIn 82 = .ok (.goto (-59), 3) := by decide +kernel
theorem dX6_wordsIn_85 : decode cX6_wordsIn 85 = .ok (.iinc 3 1, 3) := by decide +kernel
theorem dX6_wordsIn_88 : decode cX6_wordsIn 88 = .ok (.goto (-84), 3) := by decide +kernel
theorem dX6_wordsIn_91 : decode cX6_wordsIn 91 = .ok (.iload_n 2, 1) := by decide +kernel
theorem dX6_wordsIn_92 : decode cX6_wordsIn 92 = .ok (.ireturn, 1) := by decide +kernel
theorem dX6_busy_0 : decode cX6_busy 0 = .ok (.aload_n 0, 1) := by decide +kernel
theorem dX6_busy_1 : decode cX6_busy 1 = .ok (.getfield 7, 3) := by decide +kernel
theorem dX6_busy_4 : decode cX6_busy 4 = .ok (.iload_n 1, 1) := by decide +kernel
theorem dX6_busy_5 : decode cX6_busy 5 = .ok (.invokestatic 59, 3) := by decide +kernel
theorem dX6_busy_8 : decode cX6_busy 8 = .ok (.iconst 0, 1) := by decide +kernel
theorem dX6_busy_9 : decode cX6_busy 9 = .ok (.iadd, 1) := by decide +kernel
theorem dX6_busy_10 : decode cX6_busy 10 = .ok (.iaload, 1) := by decide +kernel
theorem dX6_busy_11 : decode cX6_busy 11 = .ok (.aload_n 0, 1) := by decide +kernel
theorem dX6_busy_12 : decode cX6_busy 12 = .ok (.getfield 7, 3) := by decide +kernel
theorem dX6_busy_15 : decode cX6_busy 15 = .ok (.iconst 4, 1) := by decide +kernel
theorem dX6_busy_16 : decode cX6_busy 16 = .ok (.iaload, 1) := by decide +kernel
theorem dX6_busy_17 : decode cX6_busy 17 = .ok (.isub, 1) := by decide +kernel
theorem dX6_busy_18 : decode cX6_busy 18 = .ok (.istore_n 2, 1) := by decide +kernel
theorem dX6_busy_19 : decode cX6_busy 19 = .ok (.iload_n 2, 1) := by decide +kernel
theorem dX6_busy_20 : decode cX6_busy 20 = .ok (.ifCond .le 7, 3) := by decide +kernel
theorem dX6_busy_23 : decode cX6_busy 23 = .ok (.iload_n 2, 1) := by decide +kernel
theorem dX6_busy_24 : decode cX6_busy 24 = .ok (.goto 4, 3) := by decide +kernel
theorem dX6_busy_27 : decode cX6_busy 27 = .ok (.iconst 0, 1) := by decide +kernel
theorem dX6_busy_28 : decode cX6_busy 28 = .ok (.ireturn, 1) := by decide +kernel
theorem dX6_bank_0 : decode cX6_bank 0 = .ok (.iload_n 1, 1) := by decide +kernel
theorem dX6_bank_1 : decode cX6_bank 1 = .ok (.iconst 0, 1) := by decide +kernel
theorem dX6_bank_2 : decode cX6_bank 2 = .ok (.aload_n 0, 1) := by decide +kernel
theorem dX6_bank_3 : decode cX6_bank 3 = .ok (.getfield 7, 3) := by decide +kernel
theorem dX6_bank_6 : decode cX6_bank 6 = .ok (.iconst 0, 1) := by decide +kernel
theorem dX6_bank_7 : decode cX6_bank 7 = .ok (.iaload, 1) := by decide +kernel
theorem dX6_bank_8 : decode cX6_bank 8 = .ok (.iconst 1, 1) := by decide +kernel
theorem dX6_bank_9 : decode cX6_bank 9 = .ok (.isub, 1) := by decide +kernel
theorem dX6_bank_10 : decode cX6_bank 10 = .ok (.invokestatic 36, 3) := by decide +kernel
theorem dX6_bank_13 : decode cX6_bank 13 = .ok (.ifCond .ne 5, 3) := by decide +kernel
theorem dX6_bank_16 : decode cX6_bank 16 = .ok (.iconst (-1), 1) := by decide +kernel
theorem dX6_bank_17 : decode cX6_bank 17 = .ok (.ireturn, 1) := by decide +kernel
theorem dX6_bank_18 : decode cX6_bank 18 = .ok (.iload_n 2, 1) := by decide +kernel
theorem dX6_bank_19 : decode cX6_bank 19 = .ok (.tableswitch 55 0 3 #[29, 35, 35, 49], 29) := by decide +kernel
theorem dX6_bank_48 : decode cX6_bank 48 = .ok (.aload_n 0, 1) := by decide +kernel
theorem dX6_bank_49 : decode cX6_bank 49 = .ok (.iload_n 1, 1) := by decide +kernel
theorem dX6_bank_50 : decode cX6_bank 50 = .ok (.invokevirtual 126, 3) := by decide +kernel
theorem dX6_bank_53 : decode cX6_bank 53 = .ok (.ireturn, 1) := by decide +kernel
theorem dX6_bank_54 : decode cX6_bank 54 = .ok (.aload_n 0, 1) := by decide +kernel
theorem dX6_bank_55 : decode cX6_bank 55 = .ok (.getfield 7, 3) := by decide +kernel
theorem dX6_bank_58 : decode cX6_bank 58 = .ok (.iload_n 1, 1) := by decide +kernel
theorem dX6_bank_59 : decode cX6_bank 59 = .ok (.invokestatic 59, 3) := by decide +kernel
theorem dX6_bank_62 : decode cX6_bank 62 = .ok (.iload_n 2, 1) := by decide +kernel
theorem dX6_bank_63 : decode cX6_bank 63 = .ok (.iadd, 1) := by decide +kernel
theorem dX6_bank_64 : decode cX6_bank 64 = .ok (.iconst 1, 1) := by decide +kernel
theorem dX6_bank_65 : decode cX6_bank 65 = .ok (.iadd, 1) := by decide +kernel
theorem dX6_bank_66 : decode cX6_bank 66 = .ok (.iaload, 1) := by decide +kernel
theorem dX6_bank_67 : decode cX6_bank 67 = .ok (.ireturn, 1) := by decide +kernel
theorem dX6_bank_68 : decode cX6_bank 68 = .ok (.aload_n 0, 1) := by decide +kernel
theorem dX6_bank_69 : decode cX6_bank 69 = .ok (.iload_n 1, 1) := by decide +kernel
theorem dX6_bank_70 : decode cX6_bank 70 = .ok (.invokevirtual 129, 3) := by decide +kernel
theorem dX6_bank_73 : decode cX6_bank 73 = .ok (.ireturn, 1) := by decide +kernel
theorem dX6_bank_74 : decode cX6_bank 74 = .ok (.bipush (-2), 2) := by decide +kernel
theorem dX6_bank_76 : decode cX6_bank 76 = .ok (.ireturn, 1) := by decide +kernel
theorem dX6_ofStreams_0 : decode cX6_ofStreams 0 = .ok (.iconst 0, 1) := by decide +kernel
theorem dX6_ofStreams_1 : decode cX6_ofStreams 1 = .ok (.istore_n 2, 1) := by decide +kernel
theorem dX6_ofStreams_2 : decode cX6_ofStreams 2 = .ok (.iconst 0, 1) := by decide +kernel
theorem dX6_ofStreams_3 : decode cX6_ofStreams 3 = .ok (.istore_n 3, 1) := by decide +kernel
theorem dX6_ofStreams_4 : decode cX6_ofStreams 4 = .ok (.iload_n 3, 1) := by decide +kernel
theorem dX6_ofStreams_5 : decode cX6_ofStreams 5 = .ok (.aload_n 0, 1) := by decide +kernel
theorem dX6_ofStreams_6 : decode cX6_ofStreams 6 = .ok (.getfield 7, 3) := by decide +kernel
theorem dX6_ofStreams_9 : decode cX6_ofStreams 9 = .ok (.iconst 5, 1) := by decide +kernel
theorem dX6_ofStreams_10 : decode cX6_ofStreams 10 = .ok (.iaload, 1) := by decide +kernel
theorem dX6_ofStreams_11 : decode cX6_ofStreams 11 = .ok (.if_icmp .ge 75, 3) := by decide +kernel
theorem dX6_ofStreams_14 : decode cX6_ofStreams 14 = .ok (.iload_n 3, 1) := by decide +kernel
theorem dX6_ofStreams_15 : decode cX6_ofStreams 15 = .ok (.invokestatic 52, 3) := by decide +kernel
theorem dX6_ofStreams_18 : decode cX6_ofStreams 18 = .ok (.istore 4, 2) := by decide +kernel
theorem dX6_ofStreams_20 : decode cX6_ofStreams 20 = .ok (.iload_n 2, 1) := by decide +kernel
theorem dX6_ofStreams_21 : decode cX6_ofStreams 21 = .ok (.iload_n 1, 1) := by decide +kernel
theorem dX6_ofStreams_22 : decode cX6_ofStreams 22 = .ok (.bipush 7, 2) := by decide +kernel
theorem dX6_ofStreams_24 : decode cX6_ofStreams 24 = .ok (.if_icmp .ne 25, 3) := by decide +kernel
theorem dX6_ofStreams_27 : decode cX6_ofStreams 27 = .ok (.aload_n 0, 1) := by decide +kernel
theorem dX6_ofStreams_28 : decode cX6_ofStreams 28 = .ok (.getfield 7, 3) := by decide +kernel
theorem dX6_ofStreams_31 : decode cX6_ofStreams 31 = .ok (.iload 4, 2) := by decide +kernel
theorem dX6_ofStreams_33 : decode cX6_ofStreams 33 = .ok (.iconst 2, 1) := by decide +kernel
theorem dX6_ofStreams_34 : decode cX6_ofStreams 34 = .ok (.iadd, 1) := by decide +kernel
theorem dX6_ofStreams_35 : decode cX6_ofStreams 35 = .ok (.iaload, 1) := by decide +kernel
theorem dX6_ofStreams_36 : decode cX6_ofStreams 36 = .ok (.aload_n 0, 1) := by decide +kernel
theorem dX6_ofStreams_37 : decode cX6_ofStreams 37 = .ok (.getfield 7, 3) := by decide +kernel
theorem dX6_ofStreams_40 : decode cX6_ofStreams 40 = .ok (.iload 4, 2) := by decide +kernel
theorem dX6_ofStreams_42 : decode cX6_ofStreams 42 = .ok (.iconst 3, 1) := by decide +kernel
theorem dX6_ofStreams_43 : decode cX6_ofStreams 43 = .ok (.iadd, 1) := by decide +kernel
theorem dX6_ofStreams_44 : decode cX6_ofStreams 44 = .ok (.iaload, 1) := by decide +kernel
theorem dX6_ofStreams_45 : decode cX6_ofStreams 45 = .ok (.isub, 1) := by decide +kernel
theorem dX6_ofStreams_46 : decode cX6_ofStreams 46 = .ok (.goto 32, 3) := by decide +kernel
theorem dX6_ofStreams_49 : decode cX6_ofStreams 49 = .ok (.iload_n 1, 1) := by decide +kernel
theorem dX6_ofStreams_50 : decode cX6_ofStreams 50 = .ok (.bipush 8, 2) := by decide +kernel
theorem dX6_ofStreams_52 : decode cX6_ofStreams 52 = .ok (.if_icmp .ne 16, 3) := by decide +kernel
theorem dX6_ofStreams_55 : decode cX6_ofStreams 55 = .ok (.aload_n 0, 1) := by decide +kernel
theorem dX6_ofStreams_56 : decode cX6_ofStreams 56 = .ok (.getfield 7, 3) := by decide +kernel
theorem dX6_ofStreams_59 : decode cX6_ofStreams 59 = .ok (.iload 4, 2) := by decide +kernel
theorem dX6_ofStreams_61 : decode cX6_ofStreams 61 = .ok (.bipush 6, 2) := by decide +kernel
theorem dX6_ofStreams_63 : decode cX6_ofStreams 63 = .ok (.iadd, 1) := by decide +kernel
theorem dX6_ofStreams_64 : decode cX6_ofStreams 64 = .ok (.iaload, 1) := by decide +kernel
theorem dX6_ofStreams_65 : decode cX6_ofStreams 65 = .ok (.goto 13, 3) := by decide +kernel
theorem dX6_ofStreams_68 : decode cX6_ofStreams 68 = .ok (.aload_n 0, 1) := by decide +kernel
theorem dX6_ofStreams_69 : decode cX6_ofStreams 69 = .ok (.getfield 7, 3) := by decide +kernel
theorem dX6_ofStreams_72 : decode cX6_ofStreams 72 = .ok (.iload 4, 2) := by decide +kernel
theorem dX6_ofStreams_74 : decode cX6_ofStreams 74 = .ok (.bipush 7, 2) := by decide +kernel
theorem dX6_ofStreams_76 : decode cX6_ofStreams 76 = .ok (.iadd, 1) := by decide +kernel
theorem dX6_ofStreams_77 : decode cX6_ofStreams 77 = .ok (.iaload, 1) := by decide +kernel
theorem dX6_ofStreams_78 : decode cX6_ofStreams 78 = .ok (.iadd, 1) := by decide +kernel
theorem dX6_ofStreams_79 : decode cX6_ofStreams 79 = .ok (.istore_n 2, 1) := by decide +kernel
theorem dX6_ofStreams_80 : decode cX6_ofStreams 80 = .ok (.iinc 3 1, 3) := by decide +kernel
theorem dX6_ofStreams_83 : decode cX6_ofStreams 83 = .ok (.goto (-79), 3) := by decide +kernel
theorem dX6_ofStreams_86 : decode cX6_ofStreams 86 = .ok (.iload_n 2, 1) := by decide +kernel
theorem dX6_ofStreams_87 : decode cX6_ofStreams 87 = .ok (.ireturn, 1) := by decide +kernel
theorem dX6_busyBanks_0 : decode cX6_busyBanks 0 = .ok (.iconst 0, 1) := by decide +kernel
theorem dX6_busyBanks_1 : decode cX6_busyBanks 1 = .ok (.istore_n 1, 1) := by decide +kernel
theorem dX6_busyBanks_2 : decode cX6_busyBanks 2 = .ok (.iconst 0, 1) := by decide +kernel
theorem dX6_busyBanks_3 : decode cX6_busyBanks 3 = .ok (.istore_n 2, 1) := by decide +kernel
theorem dX6_busyBanks_4 : decode cX6_busyBanks 4 = .ok (.iload_n 2, 1) := by decide +kernel
theorem dX6_busyBanks_5 : decode cX6_busyBanks 5 = .ok (.aload_n 0, 1) := by decide +kernel
theorem dX6_busyBanks_6 : decode cX6_busyBanks 6 = .ok (.getfield 7, 3) := by decide +kernel
theorem dX6_busyBanks_9 : decode cX6_busyBanks 9 = .ok (.iconst 0, 1) := by decide +kernel
theorem dX6_busyBanks_10 : decode cX6_busyBanks 10 = .ok (.iaload, 1) := by decide +kernel
theorem dX6_busyBanks_11 : decode cX6_busyBanks 11 = .ok (.if_icmp .ge 25, 3) := by decide +kernel
theorem dX6_busyBanks_14 : decode cX6_busyBanks 14 = .ok (.iload_n 1, 1) := by decide +kernel
theorem dX6_busyBanks_15 : decode cX6_busyBanks 15 = .ok (.aload_n 0, 1) := by decide +kernel
theorem dX6_busyBanks_16 : decode cX6_busyBanks 16 = .ok (.iload_n 2, 1) := by decide +kernel
theorem dX6_busyBanks_17 : decode cX6_busyBanks 17 = .ok (.invokevirtual 126, 3) := by decide +kernel
theorem dX6_busyBanks_20 : decode cX6_busyBanks 20 = .ok (.ifCond .le 7, 3) := by decide +kernel
theorem dX6_busyBanks_23 : decode cX6_busyBanks 23 = .ok (.iconst 1, 1) := by decide +kernel
theorem dX6_busyBanks_24 : decode cX6_busyBanks 24 = .ok (.goto 4, 3) := by decide +kernel
theorem dX6_busyBanks_27 : decode cX6_busyBanks 27 = .ok (.iconst 0, 1) := by decide +kernel
theorem dX6_busyBanks_28 : decode cX6_busyBanks 28 = .ok (.iadd, 1) := by decide +kernel
theorem dX6_busyBanks_29 : decode cX6_busyBanks 29 = .ok (.istore_n 1, 1) := by decide +kernel
theorem dX6_busyBanks_30 : decode cX6_busyBanks 30 = .ok (.iinc 2 1, 3) := by decide +kernel
theorem dX6_busyBanks_33 : decode cX6_busyBanks 33 = .ok (.goto (-29), 3) := by decide +kernel
theorem dX6_busyBanks_36 : decode cX6_busyBanks 36 = .ok (.iload_n 1, 1) := by decide +kernel
theorem dX6_busyBanks_37 : decode cX6_busyBanks 37 = .ok (.ireturn, 1) := by decide +kernel
theorem dX6_count_0 : decode cX6_count 0 = .ok (.iload_n 1, 1) := by decide +kernel
theorem dX6_count_1 : decode cX6_count 1 = .ok (.iconst 0, 1) := by decide +kernel
theorem dX6_count_2 : decode cX6_count 2 = .ok (.iconst 5, 1) := by decide +kernel
theorem dX6_count_3 : decode cX6_count 3 = .ok (.invokestatic 36, 3) := by decide +kernel
theorem dX6_count_6 : decode cX6_count 6 = .ok (.ifCond .eq 10, 3) := by decide +kernel
theorem dX6_count_9 : decode cX6_count 9 = .ok (.aload_n 0, 1) := by decide +kernel
theorem dX6_count_10 : decode cX6_count 10 = .ok (.getfield 7, 3) := by decide +kernel
theorem dX6_count_13 : decode cX6_count 13 = .ok (.iload_n 1, 1) := by decide +kernel
theorem dX6_count_14 : decode cX6_count 14 = .ok (.iaload, 1) := by decide +kernel
theorem dX6_count_15 : decode cX6_count 15 = .ok (.ireturn, 1) := by decide +kernel
theorem dX6_count_16 : decode cX6_count 16 = .ok (.iload_n 1, 1) := by decide +kernel
theorem dX6_count_17 : decode cX6_count 17 = .ok (.tableswitch 78 6 13 #[47, 52, 52, 52, 58, 63, 68, 73], 47) := by decide +kernel
theorem dX6_count_64 : decode cX6_count 64 = .ok (.aload_n 0, 1) := by decide +kernel
theorem dX6_count_65 : decode cX6_count 65 = .ok (.invokevirtual 69, 3) := by decide +kernel
theorem dX6_count_68 : decode cX6_count 68 = .ok (.ireturn, 1) := by decide +kernel
theorem dX6_count_69 : decode cX6_count 69 = .ok (.aload_n 0, 1) := by decide +kernel
theorem dX6_count_70 : decode cX6_count 70 = .ok (.iload_n 1, 1) := by decide +kernel
theorem dX6_count_71 : decode cX6_count 71 = .ok (.invokevirtual 132, 3) := by decide +kernel
theorem dX6_count_74 : decode cX6_count 74 = .ok (.ireturn, 1) := by decide +kernel
theorem dX6_count_75 : decode cX6_count 75 = .ok (.aload_n 0, 1) := by decide +kernel
theorem dX6_count_76 : decode cX6_count 76 = .ok (.invokevirtual 135, 3) := by decide +kernel
theorem dX6_count_79 : decode cX6_count 79 = .ok (.ireturn, 1) := by decide +kernel
theorem dX6_count_80 : decode cX6_count 80 = .ok (.aload_n 0, 1) := by decide +kernel
theorem dX6_count_81 : decode cX6_count 81 = .ok (.invokevirtual 48, 3) := by decide +kernel
theorem dX6_count_84 : decode cX6_count 84 = .ok (.ireturn, 1) := by decide +kernel
theorem dX6_count_85 : decode cX6_count 85 = .ok (.aload_n 0, 1) := by decide +kernel
theorem dX6_count_86 : decode cX6_count 86 = .ok (.getfield 99, 3) := by decide +kernel
theorem dX6_count_89 : decode cX6_count 89 = .ok (.ireturn, 1) := by decide +kernel
theorem dX6_count_90 : decode cX6_count 90 = .ok (.aload_n 0, 1) := by decide +kernel
theorem dX6_count_91 : decode cX6_count 91 = .ok (.getfield 40, 3) := by decide +kernel
theorem dX6_count_94 : decode cX6_count 94 = .ok (.ireturn, 1) := by decide +kernel
theorem dX6_count_95 : decode cX6_count 95 = .ok (.bipush (-2), 2) := by decide +kernel
theorem dX6_count_97 : decode cX6_count 97 = .ok (.ireturn, 1) := by decide +kernel
theorem dX6_untilDone_0 : decode cX6_untilDone 0 = .ok (.aload_n 0, 1) := by decide +kernel
theorem dX6_untilDone_1 : decode cX6_untilDone 1 = .ok (.invokevirtual 138, 3) := by decide +kernel
theorem dX6_untilDone_4 : decode cX6_untilDone 4 = .ok (.aload_n 0, 1) := by decide +kernel
theorem dX6_untilDone_5 : decode cX6_untilDone 5 = .ok (.invokevirtual 141, 3) := by decide +kernel
theorem dX6_untilDone_8 : decode cX6_untilDone 8 = .ok (.istore_n 1, 1) := by decide +kernel
theorem dX6_untilDone_9 : decode cX6_untilDone 9 = .ok (.aload_n 0, 1) := by decide +kernel
theorem dX6_untilDone_10 : decode cX6_untilDone 10 = .ok (.invokevirtual 144, 3) := by decide +kernel
theorem dX6_untilDone_13 : decode cX6_untilDone 13 = .ok (.iload_n 1, 1) := by decide +kernel
theorem dX6_untilDone_14 : decode cX6_untilDone 14 = .ok (.ireturn, 1) := by decide +kernel
theorem dX6_comes_0 : decode cX6_comes 0 = .ok (.iconst 0, 1) := by decide +kernel
theorem dX6_comes_1 : decode cX6_comes 1 = .ok (.istore_n 3, 1) := by decide +kernel
theorem dX6_comes_2 : decode cX6_comes 2 = .ok (.iload_n 3, 1) := by decide +kernel
theorem dX6_comes_3 : decode cX6_comes 3 = .ok (.bipush 10, 2) := by decide +kernel
theorem dX6_comes_5 : decode cX6_comes 5 = .ok (.if_icmp .ge 31, 3) := by decide +kernel
theorem dX6_comes_8 : decode cX6_comes 8 = .ok (.aload_n 0, 1) := by decide +kernel
theorem dX6_comes_9 : decode cX6_comes 9 = .ok (.getfield 7, 3) := by decide +kernel
theorem dX6_comes_12 : decode cX6_comes 12 = .ok (.iload_n 1, 1) := by decide +kernel
theorem dX6_comes_13 : decode cX6_comes 13 = .ok (.invokestatic 52, 3) := by decide +kernel
theorem dX6_comes_16 : decode cX6_comes 16 = .ok (.iload_n 3, 1) := by decide +kernel
theorem dX6_comes_17 : decode cX6_comes 17 = .ok (.iadd, 1) := by decide +kernel
theorem dX6_comes_18 : decode cX6_comes 18 = .ok (.aload_n 0, 1) := by decide +kernel
theorem dX6_comes_19 : decode cX6_comes 19 = .ok (.getfield 16, 3) := by decide +kernel
theorem dX6_comes_22 : decode cX6_comes 22 = .ok (.iload_n 2, 1) := by decide +kernel
theorem dX6_comes_23 : decode cX6_comes 23 = .ok (.invokestatic 52, 3) := by decide +kernel
theorem dX6_comes_26 : decode cX6_comes 26 = .ok (.iload_n 3, 1) := by decide +kernel
theorem dX6_comes_27 : decode cX6_comes 27 = .ok (.iadd, 1) := by decide +kernel
theorem dX6_comes_28 : decode cX6_comes 28 = .ok (.iaload, 1) := by decide +kernel
theorem dX6_comes_29 : decode cX6_comes 29 = .ok (.iastore, 1) := by decide +kernel
theorem dX6_comes_30 : decode cX6_comes 30 = .ok (.iinc 3 1, 3) := by decide +kernel
theorem dX6_comes_33 : decode cX6_comes 33 = .ok (.goto (-31), 3) := by decide +kernel
theorem dX6_comes_36 : decode cX6_comes 36 = .ok (.return_, 1) := by decide +kernel
theorem dX6_cyclesWith_0 : decode cX6_cyclesWith 0 = .ok (.aload_n 0, 1) := by decide +kernel
theorem dX6_cyclesWith_1 : decode cX6_cyclesWith 1 = .ok (.invokevirtual 138, 3) := by decide +kernel
theorem dX6_cyclesWith_4 : decode cX6_cyclesWith 4 = .ok (.aload_n 0, 1) := by decide +kernel
theorem dX6_cyclesWith_5 : decode cX6_cyclesWith 5 = .ok (.iconst 0, 1) := by decide +kernel
theorem dX6_cyclesWith_6 : decode cX6_cyclesWith 6 = .ok (.iload_n 1, 1) := by decide +kernel
theorem dX6_cyclesWith_7 : decode cX6_cyclesWith 7 = .ok (.invokevirtual 147, 3) := by decide +kernel
theorem dX6_cyclesWith_10 : decode cX6_cyclesWith 10 = .ok (.aload_n 0, 1) := by decide +kernel
theorem dX6_cyclesWith_11 : decode cX6_cyclesWith 11 = .ok (.getfield 7, 3) := by decide +kernel
theorem dX6_cyclesWith_14 : decode cX6_cyclesWith 14 = .ok (.iconst 0, 1) := by decide +kernel
theorem dX6_cyclesWith_15 : decode cX6_cyclesWith 15 = .ok (.invokestatic 52, 3) := by decide +kernel
theorem dX6_cyclesWith_18 : decode cX6_cyclesWith 18 = .ok (.iconst 1, 1) := by decide +kernel
theorem dX6_cyclesWith_19 : decode cX6_cyclesWith 19 = .ok (.iadd, 1) := by decide +kernel
theorem dX6_cyclesWith_20 : decode cX6_cyclesWith 20 = .ok (.iload_n 2, 1) := by decide +kernel
theorem dX6_cyclesWith_21 : decode cX6_cyclesWith 21 = .ok (.iastore, 1) := by decide +kernel
theorem dX6_cyclesWith_22 : decode cX6_cyclesWith 22 = .ok (.aload_n 0, 1) := by decide +kernel
theorem dX6_cyclesWith_23 : decode cX6_cyclesWith 23 = .ok (.getfield 7, 3) := by decide +kernel
theorem dX6_cyclesWith_26 : decode cX6_cyclesWith 26 = .ok (.iconst 5, 1) := by decide +kernel
theorem dX6_cyclesWith_27 : decode cX6_cyclesWith 27 = .ok (.iconst 1, 1) := by decide +kernel
theorem dX6_cyclesWith_28 : decode cX6_cyclesWith 28 = .ok (.iastore, 1) := by decide +kernel
theorem dX6_cyclesWith_29 : decode cX6_cyclesWith 29 = .ok (.aload_n 0, 1) := by decide +kernel
theorem dX6_cyclesWith_30 : decode cX6_cyclesWith 30 = .ok (.invokevirtual 82, 3) := by decide +kernel
theorem dX6_cyclesWith_33 : decode cX6_cyclesWith 33 = .ok (.aload_n 0, 1) := by decide +kernel
theorem dX6_cyclesWith_34 : decode cX6_cyclesWith 34 = .ok (.invokevirtual 141, 3) := by decide +kernel
theorem dX6_cyclesWith_37 : decode cX6_cyclesWith 37 = .ok (.istore_n 3, 1) := by decide +kernel
theorem dX6_cyclesWith_38 : decode cX6_cyclesWith 38 = .ok (.aload_n 0, 1) := by decide +kernel
theorem dX6_cyclesWith_39 : decode cX6_cyclesWith 39 = .ok (.invokevirtual 144, 3) := by decide +kernel
theorem dX6_cyclesWith_42 : decode cX6_cyclesWith 42 = .ok (.iload_n 3, 1) := by decide +kernel
theorem dX6_cyclesWith_43 : decode cX6_cyclesWith 43 = .ok (.ireturn, 1) := by decide +kernel
theorem dX6_alone_0 : decode cX6_alone 0 = .ok (.aload_n 0, 1) := by decide +kernel
theorem dX6_alone_1 : decode cX6_alone 1 = .ok (.iload_n 1, 1) := by decide +kernel
theorem dX6_alone_2 : decode cX6_alone 2 = .ok (.invokevirtual 92, 3) := by decide +kernel
theorem dX6_alone_5 : decode cX6_alone 5 = .ok (.ifCond .ne 5, 3) := by decide +kernel
theorem dX6_alone_8 : decode cX6_alone 8 = .ok (.iconst (-1), 1) := by decide +kernel
theorem dX6_alone_9 : decode cX6_alone 9 = .ok (.ireturn, 1) := by decide +kernel
theorem dX6_alone_10 : decode cX6_alone 10 = .ok (.iload_n 2, 1) := by decide +kernel
theorem dX6_alone_11 : decode cX6_alone 11 = .ok (.iconst 0, 1) := by decide +kernel
theorem dX6_alone_12 : decode cX6_alone 12 = .ok (.sipush 1023, 3) := by decide +kernel
theorem dX6_alone_15 : decode cX6_alone 15 = .ok (.invokestatic 36, 3) := by decide +kernel
theorem dX6_alone_18 : decode cX6_alone 18 = .ok (.ifCond .eq 12, 3) := by decide +kernel
theorem dX6_alone_21 : decode cX6_alone 21 = .ok (.aload_n 0, 1) := by decide +kernel
theorem dX6_alone_22 : decode cX6_alone 22 = .ok (.iload_n 1, 1) := by decide +kernel
theorem dX6_alone_23 : decode cX6_alone 23 = .ok (.iload_n 2, 1) := by decide +kernel
theorem dX6_alone_24 : decode cX6_alone 24 = .ok (.invokevirtual 151, 3) := by decide +kernel
theorem dX6_alone_27 : decode cX6_alone 27 = .ok (.goto 5, 3) := by decide +kernel
theorem dX6_alone_30 : decode cX6_alone 30 = .ok (.bipush (-2), 2) := by decide +kernel
theorem dX6_alone_32 : decode cX6_alone 32 = .ok (.ireturn, 1) := by decide +kernel
theorem dX6_bestStride_0 : decode cX6_bestStride 0 = .ok (.aload_n 0, 1) := by decide +kernel
theorem dX6_bestStride_1 : decode cX6_bestStride 1 = .ok (.iload_n 1, 1) := by decide +kernel
theorem dX6_bestStride_2 : decode cX6_bestStride 2 = .ok (.invokevirtual 92, 3) := by decide +kernel
theorem dX6_bestStride_5 : decode cX6_bestStride 5 = .ok (.ifCond .ne 5, 3) := by decide +kernel
theorem dX6_bestStride_8 : decode cX6_bestStride 8 = .ok (.iconst (-1), 1) := by decide +kernel
theorem dX6_bestStride_9 : decode cX6_bestStride 9 = .ok (.ireturn, 1) := by decide +kernel
theorem dX6_bestStride_10 : decode cX6_bestStride 10 = .ok (.iload_n 2, 1) := by decide +kernel
theorem dX6_bestStride_11 : decode cX6_bestStride 11 = .ok (.iconst 0, 1) := by decide +kernel
theorem dX6_bestStride_12 : decode cX6_bestStride 12 = .ok (.sipush 1023, 3) := by decide +kernel
theorem dX6_bestStride_15 : decode cX6_bestStride 15 = .ok (.invokestatic 36, 3) := by decide +kernel
theorem dX6_bestStride_18 : decode cX6_bestStride 18 = .ok (.ifCond .eq 22, 3) := by decide +kernel
theorem dX6_bestStride_21 : decode cX6_bestStride 21 = .ok (.iload_n 3, 1) := by decide +kernel
theorem dX6_bestStride_22 : decode cX6_bestStride 22 = .ok (.iload_n 2, 1) := by decide +kernel
theorem dX6_bestStride_23 : decode cX6_bestStride 23 = .ok (.sipush 1023, 3) := by decide +kernel
theorem dX6_bestStride_26 : decode cX6_bestStride 26 = .ok (.invokestatic 36, 3) := by decide +kernel
theorem dX6_bestStride_29 : decode cX6_bestStride 29 = .ok (.ifCond .eq 11, 3) := by decide +kernel
theorem dX6_bestStride_32 : decode cX6_bestStride 32 = .ok (.iload_n 3, 1) := by decide +kernel
theorem dX6_bestStride_33 : decode cX6_bestStride 33 = .ok (.iload_n 2, 1) := by decide +kernel
theorem dX6_bestStride_34 : decode cX6_bestStride 34 = .ok (.bipush 63, 2) := by decide +kernel
theorem dX6_bestStride_36 : decode cX6_bestStride 36 = .ok (.iadd, 1) := by decide +kernel
theorem dX6_bestStride_37 : decode cX6_bestStride 37 = .ok (.if_icmp .le 6, 3) := by decide +kernel
theorem dX6_bestStride_40 : decode cX6_bestStride 40 = .ok (.bipush (-2), 2) := by decide +kernel
theorem dX6_bestStride_42 : decode cX6_bestStride 42 = .ok (.ireturn, 1) := by decide +kernel
theorem dX6_bestStride_43 : decode cX6_bestStride 43 = .ok (.iload_n 2, 1) := by decide +kernel
theorem dX6_bestStride_44 : decode cX6_bestStride 44 = .ok (.istore 4, 2) := by decide +kernel
theorem dX6_bestStride_46 : decode cX6_bestStride 46 = .ok (.ldc 155, 2) := by decide +kernel
theorem dX6_bestStride_48 : decode cX6_bestStride 48 = .ok (.istore 5, 2) := by decide +kernel
theorem dX6_bestStride_50 : decode cX6_bestStride 50 = .ok (.iload_n 2, 1) := by decide +kernel
theorem dX6_bestStride_51 : decode cX6_bestStride 51 = .ok (.istore 6, 2) := by decide +kernel
theorem dX6_bestStride_53 : decode cX6_bestStride 53 = .ok (.iload 6, 2) := by decide +kernel
theorem dX6_bestStride_55 : decode cX6_bestStride 55 = .ok (.iload_n 3, 1) := by decide +kernel
theorem dX6_bestStride_56 : decode cX6_bestStride 56 = .ok (.if_icmp .gt 50, 3) := by decide +kernel
theorem dX6_bestStride_59 : decode cX6_bestStride 59 = .ok (.aload_n 0, 1) := by decide +kernel
theorem dX6_bestStride_60 : decode cX6_bestStride 60 = .ok (.iload_n 1, 1) := by decide +kernel
theorem dX6_bestStride_61 : decode cX6_bestStride 61 = .ok (.iload 6, 2) := by decide +kernel
theorem dX6_bestStride_63 : decode cX6_bestStride 63 = .ok (.invokevirtual 151, 3) := by decide +kernel
theorem dX6_bestStride_66 : decode cX6_bestStride 66 = .ok (.istore 7, 2) := by decide +kernel
theorem dX6_bestStride_68 : decode cX6_bestStride 68 = .ok (.iload 7, 2) := by decide +kernel
theorem dX6_bestStride_70 : decode cX6_bestStride 70 = .ok (.iload 5, 2) := by decide +kernel
theorem dX6_bestStride_72 : decode cX6_bestStride 72 = .ok (.if_icmp .ge 8, 3) := by decide +kernel
theorem dX6_bestStride_75 : decode cX6_bestStride 75 = .ok (.iload 6, 2) := by decide +kernel
theorem dX6_bestStride_77 : decode cX6_bestStride 77 = .ok (.goto 5, 3) := by decide +kernel
theorem dX6_bestStride_80 : decode cX6_bestStride 80 = .ok (.iload 4, 2) := by decide +kernel
theorem dX6_bestStride_82 : decode cX6_bestStride 82 = .ok (.istore 4, 2) := by decide +kernel
theorem dX6_bestStride_84 : decode cX6_bestStride 84 = .ok (.iload 7, 2) := by decide +kernel
theorem dX6_bestStride_86 : decode cX6_bestStride 86 = .ok (.iload 5, 2) := by decide +kernel
theorem dX6_bestStride_88 : decode cX6_bestStride 88 = .ok (.if_icmp .ge 8, 3) := by decide +kernel
theorem dX6_bestStride_91 : decode cX6_bestStride 91 = .ok (.iload 7, 2) := by decide +kernel
theorem dX6_bestStride_93 : decode cX6_bestStride 93 = .ok (.goto 5, 3) := by decide +kernel
theorem dX6_bestStride_96 : decode cX6_bestStride 96 = .ok (.iload 5, 2) := by decide +kernel
theorem dX6_bestStride_98 : decode cX6_bestStride 98 = .ok (.istore 5, 2) := by decide +kernel
theorem dX6_bestStride_100 : decode cX6_bestStride 100 = .ok (.iinc 6 1, 3) := by decide +kernel
theorem dX6_bestStride_103 : decode cX6_bestStride 103 = .ok (.goto (-50), 3) := by decide +kernel
theorem dX6_bestStride_106 : decode cX6_bestStride 106 = .ok (.iload 4, 2) := by decide +kernel
theorem dX6_bestStride_108 : decode cX6_bestStride 108 = .ok (.ireturn, 1) := by decide +kernel
theorem dX6_bestMap_0 : decode cX6_bestMap 0 = .ok (.iload_n 1, 1) := by decide +kernel
theorem dX6_bestMap_1 : decode cX6_bestMap 1 = .ok (.iconst 0, 1) := by decide +kernel
theorem dX6_bestMap_2 : decode cX6_bestMap 2 = .ok (.iconst 1, 1) := by decide +kernel
theorem dX6_bestMap_3 : decode cX6_bestMap 3 = .ok (.invokestatic 36, 3) := by decide +kernel
theorem dX6_bestMap_6 : decode cX6_bestMap 6 = .ok (.ifCond .ne 6, 3) := by decide +kernel
theorem dX6_bestMap_9 : decode cX6_bestMap 9 = .ok (.bipush (-2), 2) := by decide +kernel
theorem dX6_bestMap_11 : decode cX6_bestMap 11 = .ok (.ireturn, 1) := by decide +kernel
theorem dX6_bestMap_12 : decode cX6_bestMap 12 = .ok (.iconst 0, 1) := by decide +kernel
theorem dX6_bestMap_13 : decode cX6_bestMap 13 = .ok (.istore_n 2, 1) := by decide +kernel
theorem dX6_bestMap_14 : decode cX6_bestMap 14 = .ok (.ldc 155, 2) := by decide +kernel
theorem dX6_bestMap_16 : decode cX6_bestMap 16 = .ok (.istore_n 3, 1) := by decide +kernel
theorem dX6_bestMap_17 : decode cX6_bestMap 17 = .ok (.iconst 0, 1) := by decide +kernel
theorem dX6_bestMap_18 : decode cX6_bestMap 18 = .ok (.istore 4, 2) := by decide +kernel
theorem dX6_bestMap_20 : decode cX6_bestMap 20 = .ok (.iload 4, 2) := by decide +kernel
theorem dX6_bestMap_22 : decode cX6_bestMap 22 = .ok (.iconst 3, 1) := by decide +kernel
theorem dX6_bestMap_23 : decode cX6_bestMap 23 = .ok (.if_icmp .ge 61, 3) := by decide +kernel
theorem dX6_bestMap_26 : decode cX6_bestMap 26 = .ok (.aload_n 0, 1) := by decide +kernel
theorem dX6_bestMap_27 : decode cX6_bestMap 27 = .ok (.invokevirtual 138, 3) := by decide +kernel
theorem dX6_bestMap_30 : decode cX6_bestMap 30 = .ok (.aload_n 0, 1) := by decide +kernel
theorem dX6_bestMap_31 : decode cX6_bestMap 31 = .ok (.getfield 7, 3) := by decide +kernel
theorem dX6_bestMap_34 : decode cX6_bestMap 34 = .ok (.iconst 2, 1) := by decide +kernel
theorem dX6_bestMap_35 : decode cX6_bestMap 35 = .ok (.iload 4, 2) := by decide +kernel
theorem dX6_bestMap_37 : decode cX6_bestMap 37 = .ok (.iastore, 1) := by decide +kernel
theorem dX6_bestMap_38 : decode cX6_bestMap 38 = .ok (.aload_n 0, 1) := by decide +kernel
theorem dX6_bestMap_39 : decode cX6_bestMap 39 = .ok (.invokevirtual 82, 3) := by decide +kernel
theorem dX6_bestMap_42 : decode cX6_bestMap 42 = .ok (.aload_n 0, 1) := by decide +kernel
theorem dX6_bestMap_43 : decode cX6_bestMap 43 = .ok (.invokevirtual 141, 3) := by decide +kernel
theorem dX6_bestMap_46 : decode cX6_bestMap 46 = .ok (.istore 5, 2) := by decide +kernel
theorem dX6_bestMap_48 : decode cX6_bestMap 48 = .ok (.aload_n 0, 1) := by decide +kernel
theorem dX6_bestMap_49 : decode cX6_bestMap 49 = .ok (.invokevirtual 144, 3) := by decide +kernel
theorem dX6_bestMap_52 : decode cX6_bestMap 52 = .ok (.iload 5, 2) := by decide +kernel
theorem dX6_bestMap_54 : decode cX6_bestMap 54 = .ok (.iload_n 3, 1) := by decide +kernel
theorem dX6_bestMap_55 : decode cX6_bestMap 55 = .ok (.if_icmp .ge 8, 3) := by decide +kernel
theorem dX6_bestMap_58 : decode cX6_bestMap 58 = .ok (.iload 4, 2) := by decide +kernel
theorem dX6_bestMap_60 : decode cX6_bestMap 60 = .ok (.goto 4, 3) := by decide +kernel
theorem dX6_bestMap_63 : decode cX6_bestMap 63 = .ok (.iload_n 2, 1) := by decide +kernel
theorem dX6_bestMap_64 : decode cX6_bestMap 64 = .ok (.istore_n 2, 1) := by decide +kernel
theorem dX6_bestMap_65 : decode cX6_bestMap 65 = .ok (.iload 5, 2) := by decide +kernel
theorem dX6_bestMap_67 : decode cX6_bestMap 67 = .ok (.iload_n 3, 1) := by decide +kernel
theorem dX6_bestMap_68 : decode cX6_bestMap 68 = .ok (.if_icmp .ge 8, 3) := by decide +kernel
theorem dX6_bestMap_71 : decode cX6_bestMap 71 = .ok (.iload 5, 2) := by decide +kernel
theorem dX6_bestMap_73 : decode cX6_bestMap 73 = .ok (.goto 4, 3) := by decide +kernel
theorem dX6_bestMap_76 : decode cX6_bestMap 76 = .ok (.iload_n 3, 1) := by decide +kernel
theorem dX6_bestMap_77 : decode cX6_bestMap 77 = .ok (.istore_n 3, 1) := by decide +kernel
theorem dX6_bestMap_78 : decode cX6_bestMap 78 = .ok (.iinc 4 1, 3) := by decide +kernel
theorem dX6_bestMap_81 : decode cX6_bestMap 81 = .ok (.goto (-61), 3) := by decide +kernel
theorem dX6_bestMap_84 : decode cX6_bestMap 84 = .ok (.iload_n 1, 1) := by decide +kernel
theorem dX6_bestMap_85 : decode cX6_bestMap 85 = .ok (.ifCond .ne 7, 3) := by decide +kernel
theorem dX6_bestMap_88 : decode cX6_bestMap 88 = .ok (.iload_n 2, 1) := by decide +kernel
theorem dX6_bestMap_89 : decode cX6_bestMap 89 = .ok (.goto 4, 3) := by decide +kernel
theorem dX6_bestMap_92 : decode cX6_bestMap 92 = .ok (.iload_n 3, 1) := by decide +kernel
theorem dX6_bestMap_93 : decode cX6_bestMap 93 = .ok (.ireturn, 1) := by decide +kernel
theorem dX6_clashes_0 : decode cX6_clashes 0 = .ok (.aload_n 0, 1) := by decide +kernel
theorem dX6_clashes_1 : decode cX6_clashes 1 = .ok (.iload_n 1, 1) := by decide +kernel
theorem dX6_clashes_2 : decode cX6_clashes 2 = .ok (.invokevirtual 92, 3) := by decide +kernel
theorem dX6_clashes_5 : decode cX6_clashes 5 = .ok (.ifCond .eq 11, 3) := by decide +kernel
theorem dX6_clashes_8 : decode cX6_clashes 8 = .ok (.aload_n 0, 1) := by decide +kernel
theorem dX6_clashes_9 : decode cX6_clashes 9 = .ok (.iload_n 2, 1) := by decide +kernel
theorem dX6_clashes_10 : decode cX6_clashes 10 = .ok (.invokevirtual 92, 3) := by decide +kernel
theorem dX6_clashes_13 : decode cX6_clashes 13 = .ok (.ifCond .ne 5, 3) := by decide +kernel
theorem dX6_clashes_16 : decode cX6_clashes 16 = .ok (.iconst (-1), 1) := by decide +kernel
theorem dX6_clashes_17 : decode cX6_clashes 17 = .ok (.ireturn, 1) := by decide +kernel
theorem dX6_clashes_18 : decode cX6_clashes 18 = .ok (.iload_n 1, 1) := by decide +kernel
theorem dX6_clashes_19 : decode cX6_clashes 19 = .ok (.iload_n 2, 1) := by decide +kernel
theorem dX6_clashes_20 : decode cX6_clashes 20 = .ok (.if_icmp .ne 6, 3) := by decide +kernel
theorem dX6_clashes_23 : decode cX6_clashes 23 = .ok (.bipush (-2), 2) := by decide +kernel
theorem dX6_clashes_25 : decode cX6_clashes 25 = .ok (.ireturn, 1) := by decide +kernel
theorem dX6_clashes_26 : decode cX6_clashes 26 = .ok (.aload_n 0, 1) := by decide +kernel
theorem dX6_clashes_27 : decode cX6_clashes 27 = .ok (.invokevirtual 138, 3) := by decide +kernel
theorem dX6_clashes_30 : decode cX6_clashes 30 = .ok (.aload_n 0, 1) := by decide +kernel
theorem dX6_clashes_31 : decode cX6_clashes 31 = .ok (.iconst 0, 1) := by decide +kernel
theorem dX6_clashes_32 : decode cX6_clashes 32 = .ok (.iload_n 1, 1) := by decide +kernel
theorem dX6_clashes_33 : decode cX6_clashes 33 = .ok (.iload_n 2, 1) := by decide +kernel
theorem dX6_clashes_34 : decode cX6_clashes 34 = .ok (.if_icmp .ge 7, 3) := by decide +kernel
theorem dX6_clashes_37 : decode cX6_clashes 37 = .ok (.iload_n 1, 1) := by decide +kernel
theorem dX6_clashes_38 : decode cX6_clashes 38 = .ok (.goto 4, 3) := by decide +kernel
theorem dX6_clashes_41 : decode cX6_clashes 41 = .ok (.iload_n 2, 1) := by decide +kernel
theorem dX6_clashes_42 : decode cX6_clashes 42 = .ok (.invokevirtual 147, 3) := by decide +kernel
theorem dX6_clashes_45 : decode cX6_clashes 45 = .ok (.aload_n 0, 1) := by decide +kernel
theorem dX6_clashes_46 : decode cX6_clashes 46 = .ok (.iconst 1, 1) := by decide +kernel
theorem dX6_clashes_47 : decode cX6_clashes 47 = .ok (.iload_n 1, 1) := by decide +kernel
theorem dX6_clashes_48 : decode cX6_clashes 48 = .ok (.iload_n 2, 1) := by decide +kernel
theorem dX6_clashes_49 : decode cX6_clashes 49 = .ok (.if_icmp .ge 7, 3) := by decide +kernel
theorem dX6_clashes_52 : decode cX6_clashes 52 = .ok (.iload_n 2, 1) := by decide +kernel
theorem dX6_clashes_53 : decode cX6_clashes 53 = .ok (.goto 4, 3) := by decide +kernel
theorem dX6_clashes_56 : decode cX6_clashes 56 = .ok (.iload_n 1, 1) := by decide +kernel
theorem dX6_clashes_57 : decode cX6_clashes 57 = .ok (.invokevirtual 147, 3) := by decide +kernel
theorem dX6_clashes_60 : decode cX6_clashes 60 = .ok (.aload_n 0, 1) := by decide +kernel
theorem dX6_clashes_61 : decode cX6_clashes 61 = .ok (.getfield 7, 3) := by decide +kernel
theorem dX6_clashes_64 : decode cX6_clashes 64 = .ok (.iconst 5, 1) := by decide +kernel
theorem dX6_clashes_65 : decode cX6_clashes 65 = .ok (.iconst 2, 1) := by decide +kernel
theorem dX6_clashes_66 : decode cX6_clashes 66 = .ok (.iastore, 1) := by decide +kernel
theorem dX6_clashes_67 : decode cX6_clashes 67 = .ok (.aload_n 0, 1) := by decide +kernel
theorem dX6_clashes_68 : decode cX6_clashes 68 = .ok (.invokevirtual 82, 3) := by decide +kernel
theorem dX6_clashes_71 : decode cX6_clashes 71 = .ok (.aload_n 0, 1) := by decide +kernel
theorem dX6_clashes_72 : decode cX6_clashes 72 = .ok (.invokevirtual 141, 3) := by decide +kernel
theorem dX6_clashes_75 : decode cX6_clashes 75 = .ok (.istore_n 3, 1) := by decide +kernel
theorem dX6_clashes_76 : decode cX6_clashes 76 = .ok (.aload_n 0, 1) := by decide +kernel
theorem dX6_clashes_77 : decode cX6_clashes 77 = .ok (.bipush 9, 2) := by decide +kernel
theorem dX6_clashes_79 : decode cX6_clashes 79 = .ok (.invokevirtual 132, 3) := by decide +kernel
theorem dX6_clashes_82 : decode cX6_clashes 82 = .ok (.istore 4, 2) := by decide +kernel
theorem dX6_clashes_84 : decode cX6_clashes 84 = .ok (.aload_n 0, 1) := by decide +kernel
theorem dX6_clashes_85 : decode cX6_clashes 85 = .ok (.invokevirtual 144, 3) := by decide +kernel
theorem dX6_clashes_88 : decode cX6_clashes 88 = .ok (.iload 4, 2) := by decide +kernel
theorem dX6_clashes_90 : decode cX6_clashes 90 = .ok (.ireturn, 1) := by decide +kernel
theorem dX6_put_0 : decode cX6_put 0 = .ok (.iconst 0, 1) := by decide +kernel
theorem dX6_put_1 : decode cX6_put 1 = .ok (.istore_n 3, 1) := by decide +kernel
theorem dX6_put_2 : decode cX6_put 2 = .ok (.lload_n 1, 1) := by decide +kernel
theorem dX6_put_3 : decode cX6_put 3 = .ok (.lstore 4, 2) := by decide +kernel
theorem dX6_put_5 : decode cX6_put 5 = .ok (.iload_n 3, 1) := by decide +kernel
theorem dX6_put_6 : decode cX6_put 6 = .ok (.bipush 8, 2) := by decide +kernel
theorem dX6_put_8 : decode cX6_put 8 = .ok (.if_icmp .ge 52, 3) := by decide +kernel
theorem dX6_put_11 : decode cX6_put 11 = .ok (.lload 4, 2) := by decide +kernel
theorem dX6_put_13 : decode cX6_put 13 = .ok (.lconst 0, 1) := by decide +kernel
theorem dX6_put_14 : decode cX6_put 14 = .ok (.lcmp, 1) := by decide +kernel
theorem dX6_put_15 : decode cX6_put 15 = .ok (.ifCond .eq 45, 3) := by decide +kernel
theorem dX6_put_18 : decode cX6_put 18 = .ok (.lload 4, 2) := by decide +kernel
theorem dX6_put_20 : decode cX6_put 20 = .ok (.ldc2_w 156, 3) := by decide +kernel
theorem dX6_put_23 : decode cX6_put 23 = .ok (.land, 1) := by decide +kernel
theorem dX6_put_24 : decode cX6_put 24 = .ok (.lstore 6, 2) := by decide +kernel
theorem dX6_put_26 : decode cX6_put 26 = .ok (.lload 6, 2) := by decide +kernel
theorem dX6_put_28 : decode cX6_put 28 = .ok (.ldc2_w 158, 3) := by decide +kernel
theorem dX6_put_31 : decode cX6_put 31 = .ok (.lcmp, 1) := by decide +kernel
theorem dX6_put_32 : decode cX6_put 32 = .ok (.ifCond .lt 12, 3) := by decide +kernel
theorem dX6_put_35 : decode cX6_put 35 = .ok (.lload 6, 2) := by decide +kernel
theorem dX6_put_37 : decode cX6_put 37 = .ok (.ldc2_w 160, 3) := by decide +kernel
theorem dX6_put_40 : decode cX6_put 40 = .ok (.lcmp, 1) := by decide +kernel
theorem dX6_put_41 : decode cX6_put 41 = .ok (.ifCond .le 6, 3) := by decide +kernel
theorem dX6_put_44 : decode cX6_put 44 = .ok (.bipush (-2), 2) := by decide +kernel
theorem dX6_put_46 : decode cX6_put 46 = .ok (.ireturn, 1) := by decide +kernel
theorem dX6_put_47 : decode cX6_put 47 = .ok (.lload 4, 2) := by decide +kernel
theorem dX6_put_49 : decode cX6_put 49 = .ok (.bipush 8, 2) := by decide +kernel
theorem dX6_put_51 : decode cX6_put 51 = .ok (.lushr, 1) := by decide +kernel
theorem dX6_put_52 : decode cX6_put 52 = .ok (.lstore 4, 2) := by decide +kernel
theorem dX6_put_54 : decode cX6_put 54 = .ok (.iinc 3 1, 3) := by decide +kernel
theorem dX6_put_57 : decode cX6_put 57 = .ok (.goto (-52), 3) := by decide +kernel
theorem dX6_put_60 : decode cX6_put 60 = .ok (.iload_n 3, 1) := by decide +kernel
theorem dX6_put_61 : decode cX6_put 61 = .ok (.ifCond .ne 6, 3) := by decide +kernel
theorem dX6_put_64 : decode cX6_put 64 = .ok (.bipush (-2), 2) := by decide +kernel
theorem dX6_put_66 : decode cX6_put 66 = .ok (.ireturn, 1) := by decide +kernel
theorem dX6_put_67 : decode cX6_put 67 = .ok (.aload_n 0, 1) := by decide +kernel
theorem dX6_put_68 : decode cX6_put 68 = .ok (.getfield 99, 3) := by decide +kernel
theorem dX6_put_71 : decode cX6_put 71 = .ok (.iload_n 3, 1) := by decide +kernel
theorem dX6_put_72 : decode cX6_put 72 = .ok (.iadd, 1) := by decide +kernel
theorem dX6_put_73 : decode cX6_put 73 = .ok (.bipush 60, 2) := by decide +kernel
theorem dX6_put_75 : decode cX6_put 75 = .ok (.if_icmp .le 6, 3) := by decide +kernel
theorem dX6_put_78 : decode cX6_put 78 = .ok (.bipush (-4), 2) := by decide +kernel
theorem dX6_put_80 : decode cX6_put 80 = .ok (.ireturn, 1) := by decide +kernel
theorem dX6_put_81 : decode cX6_put 81 = .ok (.iload_n 3, 1) := by decide +kernel
theorem dX6_put_82 : decode cX6_put 82 = .ok (.iconst 1, 1) := by decide +kernel
theorem dX6_put_83 : decode cX6_put 83 = .ok (.isub, 1) := by decide +kernel
theorem dX6_put_84 : decode cX6_put 84 = .ok (.istore 6, 2) := by decide +kernel
theorem dX6_put_86 : decode cX6_put 86 = .ok (.iload 6, 2) := by decide +kernel
theorem dX6_put_88 : decode cX6_put 88 = .ok (.ifCond .lt 41, 3) := by decide +kernel
theorem dX6_put_91 : decode cX6_put 91 = .ok (.aload_n 0, 1) := by decide +kernel
theorem dX6_put_92 : decode cX6_put 92 = .ok (.getfield 32, 3) := by decide +kernel
theorem dX6_put_95 : decode cX6_put 95 = .ok (.aload_n 0, 1) := by decide +kernel
theorem dX6_put_96 : decode cX6_put 96 = .ok (.getfield 99, 3) := by decide +kernel
theorem dX6_put_99 : decode cX6_put 99 = .ok (.lload_n 1, 1) := by decide +kernel
theorem dX6_put_100 : decode cX6_put 100 = .ok (.bipush 8, 2) := by decide +kernel
theorem dX6_put_102 : decode cX6_put 102 = .ok (.iload 6, 2) := by decide +kernel
theorem dX6_put_104 : decode cX6_put 104 = .ok (.imul, 1) := by decide +kernel
theorem dX6_put_105 : decode cX6_put 105 = .ok (.lushr, 1) := by decide +kernel
theorem dX6_put_106 : decode cX6_put 106 = .ok (.ldc2_w 156, 3) := by decide +kernel
theorem dX6_put_109 : decode cX6_put 109 = .ok (.land, 1) := by decide +kernel
theorem dX6_put_110 : decode cX6_put 110 = .ok (.l2i, 1) := by decide +kernel
theorem dX6_put_111 : decode cX6_put 111 = .ok (.i2c, 1) := by decide +kernel
theorem dX6_put_112 : decode cX6_put 112 = .ok (.castore, 1) := by decide +kernel
theorem dX6_put_113 : decode cX6_put 113 = .ok (.aload_n 0, 1) := by decide +kernel
theorem dX6_put_114 : decode cX6_put 114 = .ok (.dup, 1) := by decide +kernel
theorem dX6_put_115 : decode cX6_put 115 = .ok (.getfield 99, 3) := by decide +kernel
theorem dX6_put_118 : decode cX6_put 118 = .ok (.iconst 1, 1) := by decide +kernel
theorem dX6_put_119 : decode cX6_put 119 = .ok (.iadd, 1) := by decide +kernel
theorem dX6_put_120 : decode cX6_put 120 = .ok (.putfield 99, 3) := by decide +kernel
theorem dX6_put_123 : decode cX6_put 123 = .ok (.iinc 6 (-1), 3) := by decide +kernel
theorem dX6_put_126 : decode cX6_put 126 = .ok (.goto (-40), 3) := by decide +kernel
theorem dX6_put_129 : decode cX6_put 129 = .ok (.aload_n 0, 1) := by decide +kernel
theorem dX6_put_130 : decode cX6_put 130 = .ok (.getfield 99, 3) := by decide +kernel
theorem dX6_put_133 : decode cX6_put 133 = .ok (.ireturn, 1) := by decide +kernel
theorem dX6_wipe_0 : decode cX6_wipe 0 = .ok (.aload_n 0, 1) := by decide +kernel
theorem dX6_wipe_1 : decode cX6_wipe 1 = .ok (.getfield 99, 3) := by decide +kernel
theorem dX6_wipe_4 : decode cX6_wipe 4 = .ok (.istore_n 1, 1) := by decide +kernel
theorem dX6_wipe_5 : decode cX6_wipe 5 = .ok (.aload_n 0, 1) := by decide +kernel
theorem dX6_wipe_6 : decode cX6_wipe 6 = .ok (.iconst 0, 1) := by decide +kernel
theorem dX6_wipe_7 : decode cX6_wipe 7 = .ok (.putfield 99, 3) := by decide +kernel
theorem dX6_wipe_10 : decode cX6_wipe 10 = .ok (.iload_n 1, 1) := by decide +kernel
theorem dX6_wipe_11 : decode cX6_wipe 11 = .ok (.ireturn, 1) := by decide +kernel
theorem dX6_fault_0 : decode cX6_fault 0 = .ok (.aload_n 0, 1) := by decide +kernel
theorem dX6_fault_1 : decode cX6_fault 1 = .ok (.invokevirtual 120, 3) := by decide +kernel
theorem dX6_fault_4 : decode cX6_fault 4 = .ok (.istore_n 1, 1) := by decide +kernel
theorem dX6_fault_5 : decode cX6_fault 5 = .ok (.iload_n 1, 1) := by decide +kernel
theorem dX6_fault_6 : decode cX6_fault 6 = .ok (.ifCond .ge 8, 3) := by decide +kernel
theorem dX6_fault_9 : decode cX6_fault 9 = .ok (.bipush (-6), 2) := by decide +kernel
theorem dX6_fault_11 : decode cX6_fault 11 = .ok (.goto 4, 3) := by decide +kernel
theorem dX6_fault_14 : decode cX6_fault 14 = .ok (.iload_n 1, 1) := by decide +kernel
theorem dX6_fault_15 : decode cX6_fault 15 = .ok (.ireturn, 1) := by decide +kernel
theorem dX6_undo_0 : decode cX6_undo 0 = .ok (.aload_n 0, 1) := by decide +kernel
theorem dX6_undo_1 : decode cX6_undo 1 = .ok (.getfield 40, 3) := by decide +kernel
theorem dX6_undo_4 : decode cX6_undo 4 = .ok (.ifCond .ne 6, 3) := by decide +kernel
theorem dX6_undo_7 : decode cX6_undo 7 = .ok (.bipush (-5), 2) := by decide +kernel
theorem dX6_undo_9 : decode cX6_undo 9 = .ok (.ireturn, 1) := by decide +kernel
theorem dX6_undo_10 : decode cX6_undo 10 = .ok (.aload_n 0, 1) := by decide +kernel
theorem dX6_undo_11 : decode cX6_undo 11 = .ok (.dup, 1) := by decide +kernel
theorem dX6_undo_12 : decode cX6_undo 12 = .ok (.getfield 40, 3) := by decide +kernel
theorem dX6_undo_15 : decode cX6_undo 15 = .ok (.iconst 1, 1) := by decide +kernel
theorem dX6_undo_16 : decode cX6_undo 16 = .ok (.isub, 1) := by decide +kernel
theorem dX6_undo_17 : decode cX6_undo 17 = .ok (.putfield 40, 3) := by decide +kernel
theorem dX6_undo_20 : decode cX6_undo 20 = .ok (.iconst 0, 1) := by decide +kernel
theorem dX6_undo_21 : decode cX6_undo 21 = .ok (.istore_n 1, 1) := by decide +kernel
theorem dX6_undo_22 : decode cX6_undo 22 = .ok (.iload_n 1, 1) := by decide +kernel
theorem dX6_undo_23 : decode cX6_undo 23 = .ok (.bipush 110, 2) := by decide +kernel
theorem dX6_undo_25 : decode cX6_undo 25 = .ok (.if_icmp .ge 29, 3) := by decide +kernel
theorem dX6_undo_28 : decode cX6_undo 28 = .ok (.aload_n 0, 1) := by decide +kernel
theorem dX6_undo_29 : decode cX6_undo 29 = .ok (.getfield 7, 3) := by decide +kernel
theorem dX6_undo_32 : decode cX6_undo 32 = .ok (.iload_n 1, 1) := by decide +kernel
theorem dX6_undo_33 : decode cX6_undo 33 = .ok (.aload_n 0, 1) := by decide +kernel
theorem dX6_undo_34 : decode cX6_undo 34 = .ok (.getfield 19, 3) := by decide +kernel
theorem dX6_undo_37 : decode cX6_undo 37 = .ok (.bipush 110, 2) := by decide +kernel
theorem dX6_undo_39 : decode cX6_undo 39 = .ok (.aload_n 0, 1) := by decide +kernel
theorem dX6_undo_40 : decode cX6_undo 40 = .ok (.getfield 40, 3) := by decide +kernel
theorem dX6_undo_43 : decode cX6_undo 43 = .ok (.imul, 1) := by decide +kernel
theorem dX6_undo_44 : decode cX6_undo 44 = .ok (.iload_n 1, 1) := by decide +kernel
theorem dX6_undo_45 : decode cX6_undo 45 = .ok (.iadd, 1) := by decide +kernel
theorem dX6_undo_46 : decode cX6_undo 46 = .ok (.iaload, 1) := by decide +kernel
theorem dX6_undo_47 : decode cX6_undo 47 = .ok (.iastore, 1) := by decide +kernel
theorem dX6_undo_48 : decode cX6_undo 48 = .ok (.iinc 1 1, 3) := by decide +kernel
theorem dX6_undo_51 : decode cX6_undo 51 = .ok (.goto (-29), 3) := by decide +kernel
theorem dX6_undo_54 : decode cX6_undo 54 = .ok (.aload_n 0, 1) := by decide +kernel
theorem dX6_undo_55 : decode cX6_undo 55 = .ok (.getfield 40, 3) := by decide +kernel
theorem dX6_undo_58 : decode cX6_undo 58 = .ok (.ireturn, 1) := by decide +kernel
theorem dX6_save_0 : decode cX6_save 0 = .ok (.iload_n 1, 1) := by decide +kernel
theorem dX6_save_1 : decode cX6_save 1 = .ok (.iconst 0, 1) := by decide +kernel
theorem dX6_save_2 : decode cX6_save 2 = .ok (.iconst 1, 1) := by decide +kernel
theorem dX6_save_3 : decode cX6_save 3 = .ok (.invokestatic 36, 3) := by decide +kernel
theorem dX6_save_6 : decode cX6_save 6 = .ok (.ifCond .ne 6, 3) := by decide +kernel
theorem dX6_save_9 : decode cX6_save 9 = .ok (.bipush (-2), 2) := by decide +kernel
theorem dX6_save_11 : decode cX6_save 11 = .ok (.ireturn, 1) := by decide +kernel
theorem dX6_save_12 : decode cX6_save 12 = .ok (.iconst 0, 1) := by decide +kernel
theorem dX6_save_13 : decode cX6_save 13 = .ok (.istore_n 2, 1) := by decide +kernel
theorem dX6_save_14 : decode cX6_save 14 = .ok (.iload_n 2, 1) := by decide +kernel
theorem dX6_save_15 : decode cX6_save 15 = .ok (.bipush 110, 2) := by decide +kernel
theorem dX6_save_17 : decode cX6_save 17 = .ok (.if_icmp .ge 26, 3) := by decide +kernel
theorem dX6_save_20 : decode cX6_save 20 = .ok (.aload_n 0, 1) := by decide +kernel
theorem dX6_save_21 : decode cX6_save 21 = .ok (.getfield 22, 3) := by decide +kernel
theorem dX6_save_24 : decode cX6_save 24 = .ok (.bipush 110, 2) := by decide +kernel
theorem dX6_save_26 : decode cX6_save 26 = .ok (.iload_n 1, 1) := by decide +kernel
theorem dX6_save_27 : decode cX6_save 27 = .ok (.imul, 1) := by decide +kernel
theorem dX6_save_28 : decode cX6_save 28 = .ok (.iload_n 2, 1) := by decide +kernel
theorem dX6_save_29 : decode cX6_save 29 = .ok (.iadd, 1) := by decide +kernel
theorem dX6_save_30 : decode cX6_save 30 = .ok (.aload_n 0, 1) := by decide +kernel
theorem dX6_save_31 : decode cX6_save 31 = .ok (.getfield 7, 3) := by decide +kernel
theorem dX6_save_34 : decode cX6_save 34 = .ok (.iload_n 2, 1) := by decide +kernel
theorem dX6_save_35 : decode cX6_save 35 = .ok (.iaload, 1) := by decide +kernel
theorem dX6_save_36 : decode cX6_save 36 = .ok (.iastore, 1) := by decide +kernel
theorem dX6_save_37 : decode cX6_save 37 = .ok (.iinc 2 1, 3) := by decide +kernel
theorem dX6_save_40 : decode cX6_save 40 = .ok (.goto (-26), 3) := by decide +kernel
theorem dX6_save_43 : decode cX6_save 43 = .ok (.aload_n 0, 1) := by decide +kernel
theorem dX6_save_44 : decode cX6_save 44 = .ok (.getfield 25, 3) := by decide +kernel
theorem dX6_save_47 : decode cX6_save 47 = .ok (.iload_n 1, 1) := by decide +kernel
theorem dX6_save_48 : decode cX6_save 48 = .ok (.iconst 1, 1) := by decide +kernel
theorem dX6_save_49 : decode cX6_save 49 = .ok (.bastore, 1) := by decide +kernel
theorem dX6_save_50 : decode cX6_save 50 = .ok (.aload_n 0, 1) := by decide +kernel
theorem dX6_save_51 : decode cX6_save 51 = .ok (.getfield 7, 3) := by decide +kernel
theorem dX6_save_54 : decode cX6_save 54 = .ok (.iconst 4, 1) := by decide +kernel
theorem dX6_save_55 : decode cX6_save 55 = .ok (.iaload, 1) := by decide +kernel
theorem dX6_save_56 : decode cX6_save 56 = .ok (.ireturn, 1) := by decide +kernel
theorem dX6_restore_0 : decode cX6_restore 0 = .ok (.iload_n 1, 1) := by decide +kernel
theorem dX6_restore_1 : decode cX6_restore 1 = .ok (.iconst 0, 1) := by decide +kernel
theorem dX6_restore_2 : decode cX6_restore 2 = .ok (.iconst 1, 1) := by decide +kernel
theorem dX6_restore_3 : decode cX6_restore 3 = .ok (.invokestatic 36, 3) := by decide +kernel
theorem dX6_restore_6 : decode cX6_restore 6 = .ok (.ifCond .ne 6, 3) := by decide +kernel
theorem dX6_restore_9 : decode cX6_restore 9 = .ok (.bipush (-2), 2) := by decide +kernel
theorem dX6_restore_11 : decode cX6_restore 11 = .ok (.ireturn, 1) := by decide +kernel
theorem dX6_restore_12 : decode cX6_restore 12 = .ok (.aload_n 0, 1) := by decide +kernel
theorem dX6_restore_13 : decode cX6_restore 13 = .ok (.getfield 25, 3) := by decide +kernel
theorem dX6_restore_16 : decode cX6_restore 16 = .ok (.iload_n 1, 1) := by decide +kernel
theorem dX6_restore_17 : decode cX6_restore 17 = .ok (.baload, 1) := by decide +kernel
theorem dX6_restore_18 : decode cX6_restore 18 = .ok (.ifCond .ne 6, 3) := by decide +kernel
theorem dX6_restore_21 : decode cX6_restore 21 = .ok (.bipush (-5), 2) := by decide +kernel
theorem dX6_restore_23 : decode cX6_restore 23 = .ok (.ireturn, 1) := by decide +kernel
theorem dX6_restore_24 : decode cX6_restore 24 = .ok (.aload_n 0, 1) := by decide +kernel
theorem dX6_restore_25 : decode cX6_restore 25 = .ok (.invokevirtual 79, 3) := by decide +kernel
theorem dX6_restore_28 : decode cX6_restore 28 = .ok (.iconst 0, 1) := by decide +kernel
theorem dX6_restore_29 : decode cX6_restore 29 = .ok (.istore_n 2, 1) := by decide +kernel
theorem dX6_restore_30 : decode cX6_restore 30 = .ok (.iload_n 2, 1) := by decide +kernel
theorem dX6_restore_31 : decode cX6_restore 31 = .ok (.bipush 110, 2) := by decide +kernel
theorem dX6_restore_33 : decode cX6_restore 33 = .ok (.if_icmp .ge 26, 3) := by decide +kernel
theorem dX6_restore_36 : decode cX6_restore 36 = .ok (.aload_n 0, 1) := by decide +kernel
theorem dX6_restore_37 : decode cX6_restore 37 = .ok (.getfield 7, 3) := by decide +kernel
theorem dX6_restore_40 : decode cX6_restore 40 = .ok (.iload_n 2, 1) := by decide +kernel
theorem dX6_restore_41 : decode cX6_restore 41 = .ok (.aload_n 0, 1) := by decide +kernel
theorem dX6_restore_42 : decode cX6_restore 42 = .ok (.getfield 22, 3) := by decide +kernel
theorem dX6_restore_45 : decode cX6_restore 45 = .ok (.bipush 110, 2) := by decide +kernel
theorem dX6_restore_47 : decode cX6_restore 47 = .ok (.iload_n 1, 1) := by decide +kernel
theorem dX6_restore_48 : decode cX6_restore 48 = .ok (.imul, 1) := by decide +kernel
theorem dX6_restore_49 : decode cX6_restore 49 = .ok (.iload_n 2, 1) := by decide +kernel
theorem dX6_restore_50 : decode cX6_restore 50 = .ok (.iadd, 1) := by decide +kernel
theorem dX6_restore_51 : decode cX6_restore 51 = .ok (.iaload, 1) := by decide +kernel
theorem dX6_restore_52 : decode cX6_restore 52 = .ok (.iastore, 1) := by decide +kernel
theorem dX6_restore_53 : decode cX6_restore 53 = .ok (.iinc 2 1, 3) := by decide +kernel
theorem dX6_restore_56 : decode cX6_restore 56 = .ok (.goto (-26), 3) := by decide +kernel
theorem dX6_restore_59 : decode cX6_restore 59 = .ok (.aload_n 0, 1) := by decide +kernel
theorem dX6_restore_60 : decode cX6_restore 60 = .ok (.aload_n 0, 1) := by decide +kernel
theorem dX6_restore_61 : decode cX6_restore 61 = .ok (.getfield 7, 3) := by decide +kernel
theorem dX6_restore_64 : decode cX6_restore 64 = .ok (.iconst 4, 1) := by decide +kernel
theorem dX6_restore_65 : decode cX6_restore 65 = .ok (.iaload, 1) := by decide +kernel
theorem dX6_restore_66 : decode cX6_restore 66 = .ok (.invokevirtual 85, 3) := by decide +kernel
theorem dX6_restore_69 : decode cX6_restore 69 = .ok (.ireturn, 1) := by decide +kernel
end
section
theorem dL_law_0 : decode cL_law 0 = .ok (.new 7, 3) := by decide +kernel
theorem dL_law_3 : decode cL_law 3 = .ok (.dup, 1) := by decide +kernel
theorem dL_law_4 : decode cL_law 4 = .ok (.invokespecial 9, 3) := by decide +kernel
theorem dL_law_7 : decode cL_law 7 = .ok (.astore_n 1, 1) := by decide +kernel
theorem dL_law_8 : decode cL_law 8 = .ok (.new 10, 3) := by decide +kernel
theorem dL_law_11 : decode cL_law 11 = .ok (.dup, 1) := by decide +kernel
theorem dL_law_12 : decode cL_law 12 = .ok (.invokespecial 12, 3) := by decide +kernel
theorem dL_law_15 : decode cL_law 15 = .ok (.astore_n 2, 1) := by decide +kernel
theorem dL_law_16 : decode cL_law 16 = .ok (.iconst 0, 1) := by decide +kernel
theorem dL_law_17 : decode cL_law 17 = .ok (.istore_n 3, 1) := by decide +kernel
theorem dL_law_18 : decode cL_law 18 = .ok (.iload_n 3, 1) := by decide +kernel
theorem dL_law_19 : decode cL_law 19 = .ok (.aload_n 0, 1) := by decide +kernel
theorem dL_law_20 : decode cL_law 20 = .ok (.arraylength, 1) := by decide +kernel
theorem dL_law_21 : decode cL_law 21 = .ok (.iconst 4, 1) := by decide +kernel
theorem dL_law_22 : decode cL_law 22 = .ok (.isub, 1) := by decide +kernel
theorem dL_law_23 : decode cL_law 23 = .ok (.if_icmp .gt 695, 3) := by decide +kernel
theorem dL_law_26 : decode cL_law 26 = .ok (.aload_n 0, 1) := by decide +kernel
theorem dL_law_27 : decode cL_law 27 = .ok (.iload_n 3, 1) := by decide +kernel
theorem dL_law_28 : decode cL_law 28 = .ok (.iaload, 1) := by decide +kernel
theorem dL_law_29 : decode cL_law 29 = .ok (.bipush 31, 2) := by decide +kernel
theorem dL_law_31 : decode cL_law 31 = .ok (.iand, 1) := by decide +kernel
theorem dL_law_32 : decode cL_law 32 = .ok (.tableswitch 680 0 21 #[104, 137, 180, 193, 216, 249, 272, 285, 308, 341, 374, 397, 410, 443, 486, 509, 542, 595, 608, 621, 634, 657], 104) := by decide +kernel
theorem dL_law_136 : decode cL_law 136 = .ok (.aload_n 1, 1) := by decide +kernel
theorem dL_law_137 : decode cL_law 137 = .ok (.aload_n 0, 1) := by decide +kernel
theorem dL_law_138 : decode cL_law 138 = .ok (.iload_n 3, 1) := by decide +kernel
theorem dL_law_139 : decode cL_law 139 = .ok (.iconst 1, 1) := by decide +kernel
theorem dL_law_140 : decode cL_law 140 = .ok (.iadd, 1) := by decide +kernel
theorem dL_law_141 : decode cL_law 141 = .ok (.iaload, 1) := by decide +kernel
theorem dL_law_142 : decode cL_law 142 = .ok (.aload_n 0, 1) := by decide +kernel
theorem dL_law_143 : decode cL_law 143 = .ok (.iload_n 3, 1) := by decide +kernel
theorem dL_law_144 : decode cL_law 144 = .ok (.iconst 2, 1) := by decide +kernel
theorem dL_law_145 : decode cL_law 145 = .ok (.iadd, 1) := by decide +kernel
theorem dL_law_146 : decode cL_law 146 = .ok (.iaload, 1) := by decide +kernel
theorem dL_law_147 : decode cL_law 147 = .ok (.invokevirtual 13, 3) := by decide +kernel
theorem dL_law_150 : decode cL_law 150 = .ok (.aload_n 2, 1) := by decide +kernel
theorem dL_law_151 : decode cL_law 151 = .ok (.aload_n 0, 1) := by decide +kernel
theorem dL_law_152 : decode cL_law 152 = .ok (.iload_n 3, 1) := by decide +kernel
theorem dL_law_153 : decode cL_law 153 = .ok (.iconst 1, 1) := by decide +kernel
theorem dL_law_154 : decode cL_law 154 = .ok (.iadd, 1) := by decide +kernel
theorem dL_law_155 : decode cL_law 155 = .ok (.iaload, 1) := by decide +kernel
theorem dL_law_156 : decode cL_law 156 = .ok (.aload_n 0, 1) := by decide +kernel
theorem dL_law_157 : decode cL_law 157 = .ok (.iload_n 3, 1) := by decide +kernel
theorem dL_law_158 : decode cL_law 158 = .ok (.iconst 2, 1) := by decide +kernel
theorem dL_law_159 : decode cL_law 159 = .ok (.iadd, 1) := by decide +kernel
theorem dL_law_160 : decode cL_law 160 = .ok (.iaload, 1) := by decide +kernel
theorem dL_law_161 : decode cL_law 161 = .ok (.invokevirtual 17, 3) := by decide +kernel
theorem dL_law_164 : decode cL_law 164 = .ok (.if_icmp .eq 548, 3) := by decide +kernel
theorem dL_law_167 : decode cL_law 167 = .ok (.iconst 0, 1) := by decide +kernel
theorem dL_law_168 : decode cL_law 168 = .ok (.ireturn, 1) := by decide +kernel
theorem dL_law_169 : decode cL_law 169 = .ok (.aload_n 1, 1) := by decide +kernel
theorem dL_law_170 : decode cL_law 170 = .ok (.aload_n 0, 1) := by decide +kernel
theorem dL_law_171 : decode cL_law 171 = .ok (.iload_n 3, 1) := by decide +kernel
theorem dL_law_172 : decode cL_law 172 = .ok (.iconst 1, 1) := by decide +kernel
theorem dL_law_173 : decode cL_law 173 = .ok (.iadd, 1) := by decide +kernel
theorem dL_law_174 : decode cL_law 174 = .ok (.iaload, 1) := by decide +kernel
theorem dL_law_175 : decode cL_law 175 = .ok (.aload_n 0, 1) := by decide +kernel
theorem dL_law_176 : decode cL_law 176 = .ok (.iload_n 3, 1) := by decide +kernel
theorem dL_law_177 : decode cL_law 177 = .ok (.iconst 2, 1) := by decide +kernel
theorem dL_law_178 : decode cL_law 178 = .ok (.iadd, 1) := by decide +kernel
theorem dL_law_179 : decode cL_law 179 = .ok (.iaload, 1) := by decide +kernel
theorem dL_law_180 : decode cL_law 180 = .ok (.aload_n 0, 1) := by decide +kernel
theorem dL_law_181 : decode cL_law 181 = .ok (.iload_n 3, 1) := by decide +kernel
theorem dL_law_182 : decode cL_law 182 = .ok (.iconst 3, 1) := by decide +kernel
theorem dL_law_183 : decode cL_law 183 = .ok (.iadd, 1) := by decide +kernel
theorem dL_law_184 : decode cL_law 184 = .ok (.iaload, 1) := by decide +kernel
theorem dL_law_185 : decode cL_law 185 = .ok (.invokevirtual 18, 3) := by decide +kernel
theorem dL_law_188 : decode cL_law 188 = .ok (.aload_n 2, 1) := by decide +kernel
theorem dL_law_189 : decode cL_law 189 = .ok (.aload_n 0, 1) := by decide +kernel
theorem dL_law_190 : decode cL_law 190 = .ok (.iload_n 3, 1) := by decide +kernel
theorem dL_law_191 : decode cL_law 191 = .ok (.iconst 1, 1) := by decide +kernel
theorem dL_law_192 : decode cL_law 192 = .ok (.iadd, 1) := by decide +kernel
theorem dL_law_193 : decode cL_law 193 = .ok (.iaload, 1) := by decide +kernel
theorem dL_law_194 : decode cL_law 194 = .ok (.aload_n 0, 1) := by decide +kernel
theorem dL_law_195 : decode cL_law 195 = .ok (.iload_n 3, 1) := by decide +kernel
theorem dL_law_196 : decode cL_law 196 = .ok (.iconst 2, 1) := by decide +kernel
theorem dL_law_197 : decode cL_law 197 = .ok (.iadd, 1) := by decide +kernel
theorem dL_law_198 : decode cL_law 198 = .ok (.iaload, 1) := by decide +kernel
theorem dL_law_199 : decode cL_law 199 = .ok (.aload_n 0, 1) := by decide +kernel
theorem dL_law_200 : decode cL_law 200 = .ok (.iload_n 3, 1) := by decide +kernel
theorem dL_law_201 : decode cL_law 201 = .ok (.iconst 3, 1) := by decide +kernel
theorem dL_law_202 : decode cL_law 202 = .ok (.iadd, 1) := by decide +kernel
theorem dL_law_203 : decode cL_law 203 = .ok (.iaload, 1) := by decide +kernel
theorem dL_law_204 : decode cL_law 204 = .ok (.invokevirtual 22, 3) := by decide +kernel
theorem dL_law_207 : decode cL_law 207 = .ok (.if_icmp .eq 505, 3) := by decide +kernel
theorem dL_law_210 : decode cL_law 210 = .ok (.iconst 0, 1) := by decide +kernel
theorem dL_law_211 : decode cL_law 211 = .ok (.ireturn, 1) := by decide +kernel
theorem dL_law_212 : decode cL_law 212 = .ok (.aload_n 1, 1) := by decide +kernel
theorem dL_law_213 : decode cL_law 213 = .ok (.invokevirtual 23, 3) := by decide +kernel
theorem dL_law_216 : decode cL_law 216 = .ok (.aload_n 2, 1) := by decide +kernel
theorem dL_law_217 : decode cL_law 217 = .ok (.invokevirtual 27, 3) := by decide +kernel
theorem dL_law_220 : decode cL_law 220 = .ok (.if_icmp .eq 492, 3) := by decide +kernel
theorem dL_law_223 : decode cL_law 223 = .ok (.iconst 0, 1) := by decide +kernel
theorem dL_law_224 : decode cL_law 224 = .ok (.ireturn, 1) := by decide +kernel
theorem dL_law_225 : decode cL_law 225 = .ok (.aload_n 1, 1) := by decide +kernel
theorem dL_law_226 : decode cL_law 226 = .ok (.aload_n 0, 1) := by decide +kernel
theorem dL_law_227 : decode cL_law 227 = .ok (.iload_n 3, 1) := by decide +kernel
theorem dL_law_228 : decode cL_law 228 = .ok (.iconst 1, 1) := by decide +kernel
theorem dL_law_229 : decode cL_law 229 = .ok (.iadd, 1) := by decide +kernel
theorem dL_law_230 : decode cL_law 230 = .ok (.iaload, 1) := by decide +kernel
theorem dL_law_231 : decode cL_law 231 = .ok (.invokevirtual 28, 3) := by decide +kernel
theorem dL_law_234 : decode cL_law 234 = .ok (.aload_n 2, 1) := by decide +kernel
theorem dL_law_235 : decode cL_law 235 = .ok (.aload_n 0, 1) := by decide +kernel
theorem dL_law_236 : decode cL_law 236 = .ok (.iload_n 3, 1) := by decide +kernel
theorem dL_law_237 : decode cL_law 237 = .ok (.iconst 1, 1) := by decide +kernel
theorem dL_law_238 : decode cL_law 238 = .ok (.iadd, 1) := by decide +kernel
theorem dL_law_239 : decode cL_law 239 = .ok (.iaload, 1) := by decide +kernel
theorem dL_law_240 : decode cL_law 240 = .ok (.invokevirtual 32, 3) := by decide +kernel
theorem dL_law_243 : decode cL_law 243 = .ok (.if_icmp .eq 469, 3) := by decide +kernel
theorem dL_law_246 : decode cL_law 246 = .ok (.iconst 0, 1) := by decide +kernel
theorem dL_law_247 : decode cL_law 247 = .ok (.ireturn, 1) := by decide +kernel
theorem dL_law_248 : decode cL_law 248 = .ok (.aload_n 1, 1) := by decide +kernel
theorem dL_law_249 : decode cL_law 249 = .ok (.aload_n 0, 1) := by decide +kernel
theorem dL_law_250 : decode cL_law 250 = .ok (.iload_n 3, 1) := by decide +kernel
theorem dL_law_251 : decode cL_law 251 = .ok (.iconst 1, 1) := by decide +kernel
theorem dL_law_252 : decode cL_law 252 = .ok (.iadd, 1) := by decide +kernel
theorem dL_law_253 : decode cL_law 253 = .ok (.iaload, 1) := by decide +kernel
theorem dL_law_254 : decode cL_law 254 = .ok (.aload_n 0, 1) := by decide +kernel
theorem dL_law_255 : decode cL_law 255 = .ok (.iload_n 3, 1) := by decide +kernel
theorem dL_law_256 : decode cL_law 256 = .ok (.iconst 2, 1) := by decide +kernel
theorem dL_law_257 : decode cL_law 257 = .ok (.iadd, 1) := by decide +kernel
theorem dL_law_258 : decode cL_law 258 = .ok (.iaload, 1) := by decide +kernel
theorem dL_law_259 : decode cL_law 259 = .ok (.invokevirtual 33, 3) := by decide +kernel
theorem dL_law_262 : decode cL_law 262 = .ok (.aload_n 2, 1) := by decide +kernel
theorem dL_law_263 : decode cL_law 263 = .ok (.aload_n 0, 1) := by decide +kernel
theorem dL_law_264 : decode cL_law 264 = .ok (.iload_n 3, 1) := by decide +kernel
theorem dL_law_265 : decode cL_law 265 = .ok (.iconst 1, 1) := by decide +kernel
theorem dL_law_266 : decode cL_law 266 = .ok (.iadd, 1) := by decide +kernel
theorem dL_law_267 : decode cL_law 267 = .ok (.iaload, 1) := by decide +kernel
theorem dL_law_268 : decode cL_law 268 = .ok (.aload_n 0, 1) := by decide +kernel
theorem dL_law_269 : decode cL_law 269 = .ok (.iload_n 3, 1) := by decide +kernel
theorem dL_law_270 : decode cL_law 270 = .ok (.iconst 2, 1) := by decide +kernel
theorem dL_law_271 : decode cL_law 271 = .ok (.iadd, 1) := by decide +kernel
theorem dL_law_272 : decode cL_law 272 = .ok (.iaload, 1) := by decide +kernel
theorem dL_law_273 : decode cL_law 273 = .ok (.invokevirtual 36, 3) := by decide +kernel
theorem dL_law_276 : decode cL_law 276 = .ok (.if_icmp .eq 436, 3) := by decide +kernel
theorem dL_law_279 : decode cL_law 279 = .ok (.iconst 0, 1) := by decide +kernel
theorem dL_law_280 : decode cL_law 280 = .ok (.ireturn, 1) := by decide +kernel
theorem dL_law_281 : decode cL_law 281 = .ok (.aload_n 1, 1) := by decide +kernel
theorem dL_law_282 : decode cL_law 282 = .ok (.aload_n 0, 1) := by decide +kernel
theorem dL_law_283 : decode cL_law 283 = .ok (.iload_n 3, 1) := by decide +kernel
theorem dL_law_284 : decode cL_law 284 = .ok (.iconst 1, 1) := by decide +kernel
theorem dL_law_285 : decode cL_law 285 = .ok (.iadd, 1) := by decide +kernel
theorem dL_law_286 : decode cL_law 286 = .ok (.iaload, 1) := by decide +kernel
theorem dL_law_287 : decode cL_law 287 = .ok (.invokevirtual 37, 3) := by decide +kernel
theorem dL_law_290 : decode cL_law 290 = .ok (.aload_n 2, 1) := by decide +kernel
theorem dL_law_291 : decode cL_law 291 = .ok (.aload_n 0, 1) := by decide +kernel
theorem dL_law_292 : decode cL_law 292 = .ok (.iload_n 3, 1) := by decide +kernel
theorem dL_law_293 : decode cL_law 293 = .ok (.iconst 1, 1) := by decide +kernel
theorem dL_law_294 : decode cL_law 294 = .ok (.iadd, 1) := by decide +kernel
theorem dL_law_295 : decode cL_law 295 = .ok (.iaload, 1) := by decide +kernel
theorem dL_law_296 : decode cL_law 296 = .ok (.invokevirtual 40, 3) := by decide +kernel
theorem dL_law_299 : decode cL_law 299 = .ok (.if_icmp .eq 413, 3) := by decide +kernel
theorem dL_law_302 : decode cL_law 302 = .ok (.iconst 0, 1) := by decide +kernel
theorem dL_law_303 : decode cL_law 303 = .ok (.ireturn, 1) := by decide +kernel
theorem dL_law_304 : decode cL_law 304 = .ok (.aload_n 1, 1) := by decide +kernel
theorem dL_law_305 : decode cL_law 305 = .ok (.invokevirtual 41, 3) := by decide +kernel
theorem dL_law_308 : decode cL_law 308 = .ok (.aload_n 2, 1) := by decide +kernel
theorem dL_law_309 : decode cL_law 309 = .ok (.invokevirtual 44, 3) := by decide +kernel
theorem dL_law_312 : decode cL_law 312 = .ok (.if_icmp .eq 400, 3) := by decide +kernel
theorem dL_law_315 : decode cL_law 315 = .ok (.iconst 0, 1) := by decide +kernel
theorem dL_law_316 : decode cL_law 316 = .ok (.ireturn, 1) := by decide +kernel
theorem dL_law_317 : decode cL_law 317 = .ok (.aload_n 1, 1) := by decide +kernel
theorem dL_law_318 : decode cL_law 318 = .ok (.aload_n 0, 1) := by decide +kernel
theorem dL_law_319 : decode cL_law 319 = .ok (.iload_n 3, 1) := by decide +kernel
theorem dL_law_320 : decode cL_law 320 = .ok (.iconst 1, 1) := by decide +kernel
theorem dL_law_321 : decode cL_law 321 = .ok (.iadd, 1) := by decide +kernel
theorem dL_law_322 : decode cL_law 322 = .ok (.iaload, 1) := by decide +kernel
theorem dL_law_323 : decode cL_law 323 = .ok (.invokevirtual 45, 3) := by decide +kernel
theorem dL_law_326 : decode cL_law 326 = .ok (.aload_n 2, 1) := by decide +kernel
theorem dL_law_327 : decode cL_law 327 = .ok (.aload_n 0, 1) := by decide +kernel
theorem dL_law_328 : decode cL_law 328 = .ok (.iload_n 3, 1) := by decide +kernel
theorem dL_law_329 : decode cL_law 329 = .ok (.iconst 1, 1) := by decide +kernel
theorem dL_law_330 : decode cL_law 330 = .ok (.iadd, 1) := by decide +kernel
theorem dL_law_331 : decode cL_law 331 = .ok (.iaload, 1) := by decide +kernel
theorem dL_law_332 : decode cL_law 332 = .ok (.invokevirtual 48, 3) := by decide +kernel
theorem dL_law_335 : decode cL_law 335 = .ok (.if_icmp .eq 377, 3) := by decide +kernel
theorem dL_law_338 : decode cL_law 338 = .ok (.iconst 0, 1) := by decide +kernel
theorem dL_law_339 : decode cL_law 339 = .ok (.ireturn, 1) := by decide +kernel
theorem dL_law_340 : decode cL_law 340 = .ok (.aload_n 1, 1) := by decide +kernel
theorem dL_law_341 : decode cL_law 341 = .ok (.aload_n 0, 1) := by decide +kernel
theorem dL_law_342 : decode cL_law 342 = .ok (.iload_n 3, 1) := by decide +kernel
theorem dL_law_343 : decode cL_law 343 = .ok (.iconst 1, 1) := by decide +kernel
theorem dL_law_344 : decode cL_law 344 = .ok (.iadd, 1) := by decide +kernel
theorem dL_law_345 : decode cL_law 345 = .ok (.iaload, 1) := by decide +kernel
theorem dL_law_346 : decode cL_law 346 = .ok (.aload_n 0, 1) := by decide +kernel
theorem dL_law_347 : decode cL_law 347 = .ok (.iload_n 3, 1) := by decide +kernel
theorem dL_law_348 : decode cL_law 348 = .ok (.iconst 2, 1) := by decide +kernel
theorem dL_law_349 : decode cL_law 349 = .ok (.iadd, 1) := by decide +kernel
theorem dL_law_350 : decode cL_law 350 = .ok (.iaload, 1) := by decide +kernel
theorem dL_law_351 : decode cL_law 351 = .ok (.invokevirtual 49, 3) := by decide +kernel
theorem dL_law_354 : decode cL_law 354 = .ok (.aload_n 2, 1) := by decide +kernel
theorem dL_law_355 : decode cL_law 355 = .ok (.aload_n 0, 1) := by decide +kernel
theorem dL_law_356 : decode cL_law 356 = .ok (.iload_n 3, 1) := by decide +kernel
theorem dL_law_357 : decode cL_law 357 = .ok (.iconst 1, 1) := by decide +kernel
theorem dL_law_358 : decode cL_law 358 = .ok (.iadd, 1) := by decide +kernel
theorem dL_law_359 : decode cL_law 359 = .ok (.iaload, 1) := by decide +kernel
theorem dL_law_360 : decode cL_law 360 = .ok (.aload_n 0, 1) := by decide +kernel
theorem dL_law_361 : decode cL_law 361 = .ok (.iload_n 3, 1) := by decide +kernel
theorem dL_law_362 : decode cL_law 362 = .ok (.iconst 2, 1) := by decide +kernel
theorem dL_law_363 : decode cL_law 363 = .ok (.iadd, 1) := by decide +kernel
theorem dL_law_364 : decode cL_law 364 = .ok (.iaload, 1) := by decide +kernel
theorem dL_law_365 : decode cL_law 365 = .ok (.invokevirtual 52, 3) := by decide +kernel
theorem dL_law_368 : decode cL_law 368 = .ok (.if_icmp .eq 344, 3) := by decide +kernel
theorem dL_law_371 : decode cL_law 371 = .ok (.iconst 0, 1) := by decide +kernel
theorem dL_law_372 : decode cL_law 372 = .ok (.ireturn, 1) := by decide +kernel
theorem dL_law_373 : decode cL_law 373 = .ok (.aload_n 1, 1) := by decide +kernel
theorem dL_law_374 : decode cL_law 374 = .ok (.aload_n 0, 1) := by decide +kernel
theorem dL_law_375 : decode cL_law 375 = .ok (.iload_n 3, 1) := by decide +kernel
theorem dL_law_376 : decode cL_law 376 = .ok (.iconst 1, 1) := by decide +kernel
theorem dL_law_377 : decode cL_law 377 = .ok (.iadd, 1) := by decide +kernel
theorem dL_law_378 : decode cL_law 378 = .ok (.iaload, 1) := by decide +kernel
theorem dL_law_379 : decode cL_law 379 = .ok (.aload_n 0, 1) := by decide +kernel
theorem dL_law_380 : decode cL_law 380 = .ok (.iload_n 3, 1) := by decide +kernel
theorem dL_law_381 : decode cL_law 381 = .ok (.iconst 2, 1) := by decide +kernel
theorem dL_law_382 : decode cL_law 382 = .ok (.iadd, 1) := by decide +kernel
theorem dL_law_383 : decode cL_law 383 = .ok (.iaload, 1) := by decide +kernel
theorem dL_law_384 : decode cL_law 384 = .ok (.invokevirtual 53, 3) := by decide +kernel
theorem dL_law_387 : decode cL_law 387 = .ok (.aload_n 2, 1) := by decide +kernel
theorem dL_law_388 : decode cL_law 388 = .ok (.aload_n 0, 1) := by decide +kernel
theorem dL_law_389 : decode cL_law 389 = .ok (.iload_n 3, 1) := by decide +kernel
theorem dL_law_390 : decode cL_law 390 = .ok (.iconst 1, 1) := by decide +kernel
theorem dL_law_391 : decode cL_law 391 = .ok (.iadd, 1) := by decide +kernel
theorem dL_law_392 : decode cL_law 392 = .ok (.iaload, 1) := by decide +kernel
theorem dL_law_393 : decode cL_law 393 = .ok (.aload_n 0, 1) := by decide +kernel
theorem dL_law_394 : decode cL_law 394 = .ok (.iload_n 3, 1) := by decide +kernel
theorem dL_law_395 : decode cL_law 395 = .ok (.iconst 2, 1) := by decide +kernel
theorem dL_law_396 : decode cL_law 396 = .ok (.iadd, 1) := by decide +kernel
theorem dL_law_397 : decode cL_law 397 = .ok (.iaload, 1) := by decide +kernel
theorem dL_law_398 : decode cL_law 398 = .ok (.invokevirtual 56, 3) := by decide +kernel
theorem dL_law_401 : decode cL_law 401 = .ok (.if_icmp .eq 311, 3) := by decide +kernel
theorem dL_law_404 : decode cL_law 404 = .ok (.iconst 0, 1) := by decide +kernel
theorem dL_law_405 : decode cL_law 405 = .ok (.ireturn, 1) := by decide +kernel
theorem dL_law_406 : decode cL_law 406 = .ok (.aload_n 1, 1) := by decide +kernel
theorem dL_law_407 : decode cL_law 407 = .ok (.aload_n 0, 1) := by decide +kernel
theorem dL_law_408 : decode cL_law 408 = .ok (.iload_n 3, 1) := by decide +kernel
theorem dL_law_409 : decode cL_law 409 = .ok (.iconst 1, 1) := by decide +kernel
theorem dL_law_410 : decode cL_law 410 = .ok (.iadd, 1) := by decide +kernel
theorem dL_law_411 : decode cL_law 411 = .ok (.iaload, 1) := by decide +kernel
theorem dL_law_412 : decode cL_law 412 = .ok (.invokevirtual 57, 3) := by decide +kernel
theorem dL_law_415 : decode cL_law 415 = .ok (.aload_n 2, 1) := by decide +kernel
theorem dL_law_416 : decode cL_law 416 = .ok (.aload_n 0, 1) := by decide +kernel
theorem dL_law_417 : decode cL_law 417 = .ok (.iload_n 3, 1) := by decide +kernel
theorem dL_law_418 : decode cL_law 418 = .ok (.iconst 1, 1) := by decide +kernel
theorem dL_law_419 : decode cL_law 419 = .ok (.iadd, 1) := by decide +kernel
theorem dL_law_420 : decode cL_law 420 = .ok (.iaload, 1) := by decide +kernel
theorem dL_law_421 : decode cL_law 421 = .ok (.invokevirtual 60, 3) := by decide +kernel
theorem dL_law_424 : decode cL_law 424 = .ok (.if_icmp .eq 288, 3) := by decide +kernel
theorem dL_law_427 : decode cL_law 427 = .ok (.iconst 0, 1) := by decide +kernel
theorem dL_law_428 : decode cL_law 428 = .ok (.ireturn, 1) := by decide +kernel
theorem dL_law_429 : decode cL_law 429 = .ok (.aload_n 1, 1) := by decide +kernel
theorem dL_law_430 : decode cL_law 430 = .ok (.invokevirtual 61, 3) := by decide +kernel
theorem dL_law_433 : decode cL_law 433 = .ok (.aload_n 2, 1) := by decide +kernel
theorem dL_law_434 : decode cL_law 434 = .ok (.invokevirtual 64, 3) := by decide +kernel
theorem dL_law_437 : decode cL_law 437 = .ok (.if_icmp .eq 275, 3) := by decide +kernel
theorem dL_law_440 : decode cL_law 440 = .ok (.iconst 0, 1) := by decide +kernel
theorem dL_law_441 : decode cL_law 441 = .ok (.ireturn, 1) := by decide +kernel
theorem dL_law_442 : decode cL_law 442 = .ok (.aload_n 1, 1) := by decide +kernel
theorem dL_law_443 : decode cL_law 443 = .ok (.aload_n 0, 1) := by decide +kernel
theorem dL_law_444 : decode cL_law 444 = .ok (.iload_n 3, 1) := by decide +kernel
theorem dL_law_445 : decode cL_law 445 = .ok (.iconst 1, 1) := by decide +kernel
theorem dL_law_446 : decode cL_law 446 = .ok (.iadd, 1) := by decide +kernel
theorem dL_law_447 : decode cL_law 447 = .ok (.iaload, 1) := by decide +kernel
theorem dL_law_448 : decode cL_law 448 = .ok (.aload_n 0, 1) := by decide +kernel
theorem dL_law_449 : decode cL_law 449 = .ok (.iload_n 3, 1) := by decide +kernel
theorem dL_law_450 : decode cL_law 450 = .ok (.iconst 2, 1) := by decide +kernel
theorem dL_law_451 : decode cL_law 451 = .ok (.iadd, 1) := by decide +kernel
theorem dL_law_452 : decode cL_law 452 = .ok (.iaload, 1) := by decide +kernel
theorem dL_law_453 : decode cL_law 453 = .ok (.invokevirtual 65, 3) := by decide +kernel
theorem dL_law_456 : decode cL_law 456 = .ok (.aload_n 2, 1) := by decide +kernel
theorem dL_law_457 : decode cL_law 457 = .ok (.aload_n 0, 1) := by decide +kernel
theorem dL_law_458 : decode cL_law 458 = .ok (.iload_n 3, 1) := by decide +kernel
theorem dL_law_459 : decode cL_law 459 = .ok (.iconst 1, 1) := by decide +kernel
theorem dL_law_460 : decode cL_law 460 = .ok (.iadd, 1) := by decide +kernel
theorem dL_law_461 : decode cL_law 461 = .ok (.iaload, 1) := by decide +kernel
theorem dL_law_462 : decode cL_law 462 = .ok (.aload_n 0, 1) := by decide +kernel
theorem dL_law_463 : decode cL_law 463 = .ok (.iload_n 3, 1) := by decide +kernel
theorem dL_law_464 : decode cL_law 464 = .ok (.iconst 2, 1) := by decide +kernel
theorem dL_law_465 : decode cL_law 465 = .ok (.iadd, 1) := by decide +kernel
theorem dL_law_466 : decode cL_law 466 = .ok (.iaload, 1) := by decide +kernel
theorem dL_law_467 : decode cL_law 467 = .ok (.invokevirtual 68, 3) := by decide +kernel
theorem dL_law_470 : decode cL_law 470 = .ok (.if_icmp .eq 242, 3) := by decide +kernel
theorem dL_law_473 : decode cL_law 473 = .ok (.iconst 0, 1) := by decide +kernel
theorem dL_law_474 : decode cL_law 474 = .ok (.ireturn, 1) := by decide +kernel
theorem dL_law_475 : decode cL_law 475 = .ok (.aload_n 1, 1) := by decide +kernel
theorem dL_law_476 : decode cL_law 476 = .ok (.aload_n 0, 1) := by decide +kernel
theorem dL_law_477 : decode cL_law 477 = .ok (.iload_n 3, 1) := by decide +kernel
theorem dL_law_478 : decode cL_law 478 = .ok (.iconst 1, 1) := by decide +kernel
theorem dL_law_479 : decode cL_law 479 = .ok (.iadd, 1) := by decide +kernel
theorem dL_law_480 : decode cL_law 480 = .ok (.iaload, 1) := by decide +kernel
theorem dL_law_481 : decode cL_law 481 = .ok (.aload_n 0, 1) := by decide +kernel
theorem dL_law_482 : decode cL_law 482 = .ok (.iload_n 3, 1) := by decide +kernel
theorem dL_law_483 : decode cL_law 483 = .ok (.iconst 2, 1) := by decide +kernel
theorem dL_law_484 : decode cL_law 484 = .ok (.iadd, 1) := by decide +kernel
theorem dL_law_485 : decode cL_law 485 = .ok (.iaload, 1) := by decide +kernel
theorem dL_law_486 : decode cL_law 486 = .ok (.aload_n 0, 1) := by decide +kernel
theorem dL_law_487 : decode cL_law 487 = .ok (.iload_n 3, 1) := by decide +kernel
theorem dL_law_488 : decode cL_law 488 = .ok (.iconst 3, 1) := by decide +kernel
theorem dL_law_489 : decode cL_law 489 = .ok (.iadd, 1) := by decide +kernel
theorem dL_law_490 : decode cL_law 490 = .ok (.iaload, 1) := by decide +kernel
theorem dL_law_491 : decode cL_law 491 = .ok (.invokevirtual 69, 3) := by decide +kernel
theorem dL_law_494 : decode cL_law 494 = .ok (.aload_n 2, 1) := by decide +kernel
theorem dL_law_495 : decode cL_law 495 = .ok (.aload_n 0, 1) := by decide +kernel
theorem dL_law_496 : decode cL_law 496 = .ok (.iload_n 3, 1) := by decide +kernel
theorem dL_law_497 : decode cL_law 497 = .ok (.iconst 1, 1) := by decide +kernel
theorem dL_law_498 : decode cL_law 498 = .ok (.iadd, 1) := by decide +kernel
theorem dL_law_499 : decode cL_law 499 = .ok (.iaload, 1) := by decide +kernel
theorem dL_law_500 : decode cL_law 500 = .ok (.aload_n 0, 1) := by decide +kernel
theorem dL_law_501 : decode cL_law 501 = .ok (.iload_n 3, 1) := by decide +kernel
theorem dL_law_502 : decode cL_law 502 = .ok (.iconst 2, 1) := by decide +kernel
theorem dL_law_503 : decode cL_law 503 = .ok (.iadd, 1) := by decide +kernel
theorem dL_law_504 : decode cL_law 504 = .ok (.iaload, 1) := by decide +kernel
theorem dL_law_505 : decode cL_law 505 = .ok (.aload_n 0, 1) := by decide +kernel
theorem dL_law_506 : decode cL_law 506 = .ok (.iload_n 3, 1) := by decide +kernel
theorem dL_law_507 : decode cL_law 507 = .ok (.iconst 3, 1) := by decide +kernel
theorem dL_law_508 : decode cL_law 508 = .ok (.iadd, 1) := by decide +kernel
theorem dL_law_509 : decode cL_law 509 = .ok (.iaload, 1) := by decide +kernel
theorem dL_law_510 : decode cL_law 510 = .ok (.invokevirtual 72, 3) := by decide +kernel
theorem dL_law_513 : decode cL_law 513 = .ok (.if_icmp .eq 199, 3) := by decide +kernel
theorem dL_law_516 : decode cL_law 516 = .ok (.iconst 0, 1) := by decide +kernel
theorem dL_law_517 : decode cL_law 517 = .ok (.ireturn, 1) := by decide +kernel
theorem dL_law_518 : decode cL_law 518 = .ok (.aload_n 1, 1) := by decide +kernel
theorem dL_law_519 : decode cL_law 519 = .ok (.aload_n 0, 1) := by decide +kernel
theorem dL_law_520 : decode cL_law 520 = .ok (.iload_n 3, 1) := by decide +kernel
theorem dL_law_521 : decode cL_law 521 = .ok (.iconst 1, 1) := by decide +kernel
theorem dL_law_522 : decode cL_law 522 = .ok (.iadd, 1) := by decide +kernel
theorem dL_law_523 : decode cL_law 523 = .ok (.iaload, 1) := by decide +kernel
theorem dL_law_524 : decode cL_law 524 = .ok (.invokevirtual 73, 3) := by decide +kernel
theorem dL_law_527 : decode cL_law 527 = .ok (.aload_n 2, 1) := by decide +kernel
theorem dL_law_528 : decode cL_law 528 = .ok (.aload_n 0, 1) := by decide +kernel
theorem dL_law_529 : decode cL_law 529 = .ok (.iload_n 3, 1) := by decide +kernel
theorem dL_law_530 : decode cL_law 530 = .ok (.iconst 1, 1) := by decide +kernel
theorem dL_law_531 : decode cL_law 531 = .ok (.iadd, 1) := by decide +kernel
theorem dL_law_532 : decode cL_law 532 = .ok (.iaload, 1) := by decide +kernel
theorem dL_law_533 : decode cL_law 533 = .ok (.invokevirtual 76, 3) := by decide +kernel
theorem dL_law_536 : decode cL_law 536 = .ok (.if_icmp .eq 176, 3) := by decide +kernel
theorem dL_law_539 : decode cL_law 539 = .ok (.iconst 0, 1) := by decide +kernel
theorem dL_law_540 : decode cL_law 540 = .ok (.ireturn, 1) := by decide +kernel
theorem dL_law_541 : decode cL_law 541 = .ok (.aload_n 1, 1) := by decide +kernel
theorem dL_law_542 : decode cL_law 542 = .ok (.aload_n 0, 1) := by decide +kernel
theorem dL_law_543 : decode cL_law 543 = .ok (.iload_n 3, 1) := by decide +kernel
theorem dL_law_544 : decode cL_law 544 = .ok (.iconst 1, 1) := by decide +kernel
theorem dL_law_545 : decode cL_law 545 = .ok (.iadd, 1) := by decide +kernel
theorem dL_law_546 : decode cL_law 546 = .ok (.iaload, 1) := by decide +kernel
theorem dL_law_547 : decode cL_law 547 = .ok (.aload_n 0, 1) := by decide +kernel
theorem dL_law_548 : decode cL_law 548 = .ok (.iload_n 3, 1) := by decide +kernel
theorem dL_law_549 : decode cL_law 549 = .ok (.iconst 2, 1) := by decide +kernel
theorem dL_law_550 : decode cL_law 550 = .ok (.iadd, 1) := by decide +kernel
theorem dL_law_551 : decode cL_law 551 = .ok (.iaload, 1) := by decide +kernel
theorem dL_law_552 : decode cL_law 552 = .ok (.invokevirtual 77, 3) := by decide +kernel
theorem dL_law_555 : decode cL_law 555 = .ok (.aload_n 2, 1) := by decide +kernel
theorem dL_law_556 : decode cL_law 556 = .ok (.aload_n 0, 1) := by decide +kernel
theorem dL_law_557 : decode cL_law 557 = .ok (.iload_n 3, 1) := by decide +kernel
theorem dL_law_558 : decode cL_law 558 = .ok (.iconst 1, 1) := by decide +kernel
theorem dL_law_559 : decode cL_law 559 = .ok (.iadd, 1) := by decide +kernel
theorem dL_law_560 : decode cL_law 560 = .ok (.iaload, 1) := by decide +kernel
theorem dL_law_561 : decode cL_law 561 = .ok (.aload_n 0, 1) := by decide +kernel
theorem dL_law_562 : decode cL_law 562 = .ok (.iload_n 3, 1) := by decide +kernel
theorem dL_law_563 : decode cL_law 563 = .ok (.iconst 2, 1) := by decide +kernel
theorem dL_law_564 : decode cL_law 564 = .ok (.iadd, 1) := by decide +kernel
theorem dL_law_565 : decode cL_law 565 = .ok (.iaload, 1) := by decide +kernel
theorem dL_law_566 : decode cL_law 566 = .ok (.invokevirtual 80, 3) := by decide +kernel
theorem dL_law_569 : decode cL_law 569 = .ok (.if_icmp .eq 143, 3) := by decide +kernel
theorem dL_law_572 : decode cL_law 572 = .ok (.iconst 0, 1) := by decide +kernel
theorem dL_law_573 : decode cL_law 573 = .ok (.ireturn, 1) := by decide +kernel
theorem dL_law_574 : decode cL_law 574 = .ok (.aload_n 1, 1) := by decide +kernel
theorem dL_law_575 : decode cL_law 575 = .ok (.aload_n 0, 1) := by decide +kernel
theorem dL_law_576 : decode cL_law 576 = .ok (.iload_n 3, 1) := by decide +kernel
theorem dL_law_577 : decode cL_law 577 = .ok (.iconst 1, 1) := by decide +kernel
theorem dL_law_578 : decode cL_law 578 = .ok (.iadd, 1) := by decide +kernel
theorem dL_law_579 : decode cL_law 579 = .ok (.iaload, 1) := by decide +kernel
theorem dL_law_580 : decode cL_law 580 = .ok (.i2l, 1) := by decide +kernel
theorem dL_law_581 : decode cL_law 581 = .ok (.bipush 32, 2) := by decide +kernel
theorem dL_law_583 : decode cL_law 583 = .ok (.lshl, 1) := by decide +kernel
theorem dL_law_584 : decode cL_law 584 = .ok (.aload_n 0, 1) := by decide +kernel
theorem dL_law_585 : decode cL_law 585 = .ok (.iload_n 3, 1) := by decide +kernel
theorem dL_law_586 : decode cL_law 586 = .ok (.iconst 2, 1) := by decide +kernel
theorem dL_law_587 : decode cL_law 587 = .ok (.iadd, 1) := by decide +kernel
theorem dL_law_588 : decode cL_law 588 = .ok (.iaload, 1) := by decide +kernel
theorem dL_law_589 : decode cL_law 589 = .ok (.i2l, 1) := by decide +kernel
theorem dL_law_590 : decode cL_law 590 = .ok (.ldc2_w 81, 3) := by decide +kernel
theorem dL_law_593 : decode cL_law 593 = .ok (.land, 1) := by decide +kernel
theorem dL_law_594 : decode cL_law 594 = .ok (.lor, 1) := by decide +kernel
theorem dL_law_595 : decode cL_law 595 = .ok (.invokevirtual 83, 3) := by decide +kernel
theorem dL_law_598 : decode cL_law 598 = .ok (.aload_n 2, 1) := by decide +kernel
theorem dL_law_599 : decode cL_law 599 = .ok (.aload_n 0, 1) := by decide +kernel
theorem dL_law_600 : decode cL_law 600 = .ok (.iload_n 3, 1) := by decide +kernel
theorem dL_law_601 : decode cL_law 601 = .ok (.iconst 1, 1) := by decide +kernel
theorem dL_law_602 : decode cL_law 602 = .ok (.iadd, 1) := by decide +kernel
theorem dL_law_603 : decode cL_law 603 = .ok (.iaload, 1) := by decide +kernel
theorem dL_law_604 : decode cL_law 604 = .ok (.i2l, 1) := by decide +kernel
theorem dL_law_605 : decode cL_law 605 = .ok (.bipush 32, 2) := by decide +kernel
theorem dL_law_607 : decode cL_law 607 = .ok (.lshl, 1) := by decide +kernel
theorem dL_law_608 : decode cL_law 608 = .ok (.aload_n 0, 1) := by decide +kernel
theorem dL_law_609 : decode cL_law 609 = .ok (.iload_n 3, 1) := by decide +kernel
theorem dL_law_610 : decode cL_law 610 = .ok (.iconst 2, 1) := by decide +kernel
theorem dL_law_611 : decode cL_law 611 = .ok (.iadd, 1) := by decide +kernel
theorem dL_law_612 : decode cL_law 612 = .ok (.iaload, 1) := by decide +kernel
theorem dL_law_613 : decode cL_law 613 = .ok (.i2l, 1) := by decide +kernel
theorem dL_law_614 : decode cL_law 614 = .ok (.ldc2_w 81, 3) := by decide +kernel
theorem dL_law_617 : decode cL_law 617 = .ok (.land, 1) := by decide +kernel
theorem dL_law_618 : decode cL_law 618 = .ok (.lor, 1) := by decide +kernel
theorem dL_law_619 : decode cL_law 619 = .ok (.invokevirtual 87, 3) := by decide +kernel
theorem dL_law_622 : decode cL_law 622 = .ok (.if_icmp .eq 90, 3) := by decide +kernel
theorem dL_law_625 : decode cL_law 625 = .ok (.iconst 0, 1) := by decide +kernel
theorem dL_law_626 : decode cL_law 626 = .ok (.ireturn, 1) := by decide +kernel
theorem dL_law_627 : decode cL_law 627 = .ok (.aload_n 1, 1) := by decide +kernel
theorem dL_law_628 : decode cL_law 628 = .ok (.invokevirtual 88, 3) := by decide +kernel
theorem dL_law_631 : decode cL_law 631 = .ok (.aload_n 2, 1) := by decide +kernel
theorem dL_law_632 : decode cL_law 632 = .ok (.invokevirtual 91, 3) := by decide +kernel
theorem dL_law_635 : decode cL_law 635 = .ok (.if_icmp .eq 77, 3) := by decide +kernel
theorem dL_law_638 : decode cL_law 638 = .ok (.iconst 0, 1) := by decide +kernel
theorem dL_law_639 : decode cL_law 639 = .ok (.ireturn, 1) := by decide +kernel
theorem dL_law_640 : decode cL_law 640 = .ok (.aload_n 1, 1) := by decide +kernel
theorem dL_law_641 : decode cL_law 641 = .ok (.invokevirtual 92, 3) := by decide +kernel
theorem dL_law_644 : decode cL_law 644 = .ok (.aload_n 2, 1) := by decide +kernel
theorem dL_law_645 : decode cL_law 645 = .ok (.invokevirtual 95, 3) := by decide +kernel
theorem dL_law_648 : decode cL_law 648 = .ok (.if_icmp .eq 64, 3) := by decide +kernel
theorem dL_law_651 : decode cL_law 651 = .ok (.iconst 0, 1) := by decide +kernel
theorem dL_law_652 : decode cL_law 652 = .ok (.ireturn, 1) := by decide +kernel
theorem dL_law_653 : decode cL_law 653 = .ok (.aload_n 1, 1) := by decide +kernel
theorem dL_law_654 : decode cL_law 654 = .ok (.invokevirtual 96, 3) := by decide +kernel
theorem dL_law_657 : decode cL_law 657 = .ok (.aload_n 2, 1) := by decide +kernel
theorem dL_law_658 : decode cL_law 658 = .ok (.invokevirtual 99, 3) := by decide +kernel
theorem dL_law_661 : decode cL_law 661 = .ok (.if_icmp .eq 51, 3) := by decide +kernel
theorem dL_law_664 : decode cL_law 664 = .ok (.iconst 0, 1) := by decide +kernel
theorem dL_law_665 : decode cL_law 665 = .ok (.ireturn, 1) := by decide +kernel
theorem dL_law_666 : decode cL_law 666 = .ok (.aload_n 1, 1) := by decide +kernel
theorem dL_law_667 : decode cL_law 667 = .ok (.aload_n 0, 1) := by decide +kernel
theorem dL_law_668 : decode cL_law 668 = .ok (.iload_n 3, 1) := by decide +kernel
theorem dL_law_669 : decode cL_law 669 = .ok (.iconst 1, 1) := by decide +kernel
theorem dL_law_670 : decode cL_law 670 = .ok (.iadd, 1) := by decide +kernel
theorem dL_law_671 : decode cL_law 671 = .ok (.iaload, 1) := by decide +kernel
theorem dL_law_672 : decode cL_law 672 = .ok (.invokevirtual 100, 3) := by decide +kernel
theorem dL_law_675 : decode cL_law 675 = .ok (.aload_n 2, 1) := by decide +kernel
theorem dL_law_676 : decode cL_law 676 = .ok (.aload_n 0, 1) := by decide +kernel
theorem dL_law_677 : decode cL_law 677 = .ok (.iload_n 3, 1) := by decide +kernel
theorem dL_law_678 : decode cL_law 678 = .ok (.iconst 1, 1) := by decide +kernel
theorem dL_law_679 : decode cL_law 679 = .ok (.iadd, 1) := by decide +kernel
theorem dL_law_680 : decode cL_law 680 = .ok (.iaload, 1) := by decide +kernel
theorem dL_law_681 : decode cL_law 681 = .ok (.invokevirtual 103, 3) := by decide +kernel
theorem dL_law_684 : decode cL_law 684 = .ok (.if_icmp .eq 28, 3) := by decide +kernel
theorem dL_law_687 : decode cL_law 687 = .ok (.iconst 0, 1) := by decide +kernel
theorem dL_law_688 : decode cL_law 688 = .ok (.ireturn, 1) := by decide +kernel
theorem dL_law_689 : decode cL_law 689 = .ok (.aload_n 1, 1) := by decide +kernel
theorem dL_law_690 : decode cL_law 690 = .ok (.aload_n 0, 1) := by decide +kernel
theorem dL_law_691 : decode cL_law 691 = .ok (.iload_n 3, 1) := by decide +kernel
theorem dL_law_692 : decode cL_law 692 = .ok (.iconst 1, 1) := by decide +kernel
theorem dL_law_693 : decode cL_law 693 = .ok (.iadd, 1) := by decide +kernel
theorem dL_law_694 : decode cL_law 694 = .ok (.iaload, 1) := by decide +kernel
theorem dL_law_695 : decode cL_law 695 = .ok (.invokevirtual 104, 3) := by decide +kernel
theorem dL_law_698 : decode cL_law 698 = .ok (.aload_n 2, 1) := by decide +kernel
theorem dL_law_699 : decode cL_law 699 = .ok (.aload_n 0, 1) := by decide +kernel
theorem dL_law_700 : decode cL_law 700 = .ok (.iload_n 3, 1) := by decide +kernel
theorem dL_law_701 : decode cL_law 701 = .ok (.iconst 1, 1) := by decide +kernel
theorem dL_law_702 : decode cL_law 702 = .ok (.iadd, 1) := by decide +kernel
theorem dL_law_703 : decode cL_law 703 = .ok (.iaload, 1) := by decide +kernel
theorem dL_law_704 : decode cL_law 704 = .ok (.invokevirtual 107, 3) := by decide +kernel
theorem dL_law_707 : decode cL_law 707 = .ok (.if_icmp .eq 5, 3) := by decide +kernel
theorem dL_law_710 : decode cL_law 710 = .ok (.iconst 0, 1) := by decide +kernel
theorem dL_law_711 : decode cL_law 711 = .ok (.ireturn, 1) := by decide +kernel
theorem dL_law_712 : decode cL_law 712 = .ok (.iinc 3 4, 3) := by decide +kernel
theorem dL_law_715 : decode cL_law 715 = .ok (.goto (-697), 3) := by decide +kernel
theorem dL_law_718 : decode cL_law 718 = .ok (.iconst 1, 1) := by decide +kernel
theorem dL_law_719 : decode cL_law 719 = .ok (.ireturn, 1) := by decide +kernel
theorem dJ6_bitCount_0f7a4_0 : decode cJ6_bitCount_0f7a4 0 = .ok (.iload_n 0, 1) := by decide +kernel
theorem dJ6_bitCount_0f7a4_1 : decode cJ6_bitCount_0f7a4 1 = .ok (.iload_n 0, 1) := by decide +kernel
theorem dJ6_bitCount_0f7a4_2 : decode cJ6_bitCount_0f7a4 2 = .ok (.iconst 1, 1) := by decide +kernel
theorem dJ6_bitCount_0f7a4_3 : decode cJ6_bitCount_0f7a4 3 = .ok (.iushr, 1) := by decide +kernel
theorem dJ6_bitCount_0f7a4_4 : decode cJ6_bitCount_0f7a4 4 = .ok (.ldc_w 265, 3) := by decide +kernel
theorem dJ6_bitCount_0f7a4_7 : decode cJ6_bitCount_0f7a4 7 = .ok (.iand, 1) := by decide +kernel
theorem dJ6_bitCount_0f7a4_8 : decode cJ6_bitCount_0f7a4 8 = .ok (.isub, 1) := by decide +kernel
theorem dJ6_bitCount_0f7a4_9 : decode cJ6_bitCount_0f7a4 9 = .ok (.istore_n 0, 1) := by decide +kernel
theorem dJ6_bitCount_0f7a4_10 : decode cJ6_bitCount_0f7a4 10 = .ok (.iload_n 0, 1) := by decide +kernel
theorem dJ6_bitCount_0f7a4_11 : decode cJ6_bitCount_0f7a4 11 = .ok (.ldc_w 266, 3) := by decide +kernel
theorem dJ6_bitCount_0f7a4_14 : decode cJ6_bitCount_0f7a4 14 = .ok (.iand, 1) := by decide +kernel
theorem dJ6_bitCount_0f7a4_15 : decode cJ6_bitCount_0f7a4 15 = .ok (.iload_n 0, 1) := by decide +kernel
theorem dJ6_bitCount_0f7a4_16 : decode cJ6_bitCount_0f7a4 16 = .ok (.iconst 2, 1) := by decide +kernel
theorem dJ6_bitCount_0f7a4_17 : decode cJ6_bitCount_0f7a4 17 = .ok (.iushr, 1) := by decide +kernel
theorem dJ6_bitCount_0f7a4_18 : decode cJ6_bitCount_0f7a4 18 = .ok (.ldc_w 266, 3) := by decide +kernel
theorem dJ6_bitCount_0f7a4_21 : decode cJ6_bitCount_0f7a4 21 = .ok (.iand, 1) := by decide +kernel
theorem dJ6_bitCount_0f7a4_22 : decode cJ6_bitCount_0f7a4 22 = .ok (.iadd, 1) := by decide +kernel
theorem dJ6_bitCount_0f7a4_23 : decode cJ6_bitCount_0f7a4 23 = .ok (.istore_n 0, 1) := by decide +kernel
theorem dJ6_bitCount_0f7a4_24 : decode cJ6_bitCount_0f7a4 24 = .ok (.iload_n 0, 1) := by decide +kernel
theorem dJ6_bitCount_0f7a4_25 : decode cJ6_bitCount_0f7a4 25 = .ok (.iload_n 0, 1) := by decide +kernel
theorem dJ6_bitCount_0f7a4_26 : decode cJ6_bitCount_0f7a4 26 = .ok (.iconst 4, 1) := by decide +kernel
theorem dJ6_bitCount_0f7a4_27 : decode cJ6_bitCount_0f7a4 27 = .ok (.iushr, 1) := by decide +kernel
theorem dJ6_bitCount_0f7a4_28 : decode cJ6_bitCount_0f7a4 28 = .ok (.iadd, 1) := by decide +kernel
theorem dJ6_bitCount_0f7a4_29 : decode cJ6_bitCount_0f7a4 29 = .ok (.ldc_w 267, 3) := by decide +kernel
theorem dJ6_bitCount_0f7a4_32 : decode cJ6_bitCount_0f7a4 32 = .ok (.iand, 1) := by decide +kernel
theorem dJ6_bitCount_0f7a4_33 : decode cJ6_bitCount_0f7a4 33 = .ok (.istore_n 0, 1) := by decide +kernel
theorem dJ6_bitCount_0f7a4_34 : decode cJ6_bitCount_0f7a4 34 = .ok (.iload_n 0, 1) := by decide +kernel
theorem dJ6_bitCount_0f7a4_35 : decode cJ6_bitCount_0f7a4 35 = .ok (.iload_n 0, 1) := by decide +kernel
theorem dJ6_bitCount_0f7a4_36 : decode cJ6_bitCount_0f7a4 36 = .ok (.bipush 8, 2) := by decide +kernel
theorem dJ6_bitCount_0f7a4_38 : decode cJ6_bitCount_0f7a4 38 = .ok (.iushr, 1) := by decide +kernel
theorem dJ6_bitCount_0f7a4_39 : decode cJ6_bitCount_0f7a4 39 = .ok (.iadd, 1) := by decide +kernel
theorem dJ6_bitCount_0f7a4_40 : decode cJ6_bitCount_0f7a4 40 = .ok (.istore_n 0, 1) := by decide +kernel
theorem dJ6_bitCount_0f7a4_41 : decode cJ6_bitCount_0f7a4 41 = .ok (.iload_n 0, 1) := by decide +kernel
theorem dJ6_bitCount_0f7a4_42 : decode cJ6_bitCount_0f7a4 42 = .ok (.iload_n 0, 1) := by decide +kernel
theorem dJ6_bitCount_0f7a4_43 : decode cJ6_bitCount_0f7a4 43 = .ok (.bipush 16, 2) := by decide +kernel
theorem dJ6_bitCount_0f7a4_45 : decode cJ6_bitCount_0f7a4 45 = .ok (.iushr, 1) := by decide +kernel
theorem dJ6_bitCount_0f7a4_46 : decode cJ6_bitCount_0f7a4 46 = .ok (.iadd, 1) := by decide +kernel
theorem dJ6_bitCount_0f7a4_47 : decode cJ6_bitCount_0f7a4 47 = .ok (.istore_n 0, 1) := by decide +kernel
theorem dJ6_bitCount_0f7a4_48 : decode cJ6_bitCount_0f7a4 48 = .ok (.iload_n 0, 1) := by decide +kernel
theorem dJ6_bitCount_0f7a4_49 : decode cJ6_bitCount_0f7a4 49 = .ok (.bipush 63, 2) := by decide +kernel
theorem dJ6_bitCount_0f7a4_51 : decode cJ6_bitCount_0f7a4 51 = .ok (.iand, 1) := by decide +kernel
theorem dJ6_bitCount_0f7a4_52 : decode cJ6_bitCount_0f7a4 52 = .ok (.ireturn, 1) := by decide +kernel
theorem dJ9_max_7cf53_0 : decode cJ9_max_7cf53 0 = .ok (.iload_n 0, 1) := by decide +kernel
theorem dJ9_max_7cf53_1 : decode cJ9_max_7cf53 1 = .ok (.iload_n 1, 1) := by decide +kernel
theorem dJ9_max_7cf53_2 : decode cJ9_max_7cf53 2 = .ok (.if_icmp .lt 7, 3) := by decide +kernel
theorem dJ9_max_7cf53_5 : decode cJ9_max_7cf53 5 = .ok (.iload_n 0, 1) := by decide +kernel
theorem dJ9_max_7cf53_6 : decode cJ9_max_7cf53 6 = .ok (.goto 4, 3) := by decide +kernel
theorem dJ9_max_7cf53_9 : decode cJ9_max_7cf53 9 = .ok (.iload_n 1, 1) := by decide +kernel
theorem dJ9_max_7cf53_10 : decode cJ9_max_7cf53 10 = .ok (.ireturn, 1) := by decide +kernel
theorem dJ9_min_7cf53_0 : decode cJ9_min_7cf53 0 = .ok (.iload_n 0, 1) := by decide +kernel
theorem dJ9_min_7cf53_1 : decode cJ9_min_7cf53 1 = .ok (.iload_n 1, 1) := by decide +kernel
theorem dJ9_min_7cf53_2 : decode cJ9_min_7cf53 2 = .ok (.if_icmp .gt 7, 3) := by decide +kernel
theorem dJ9_min_7cf53_5 : decode cJ9_min_7cf53 5 = .ok (.iload_n 0, 1) := by decide +kernel
theorem dJ9_min_7cf53_6 : decode cJ9_min_7cf53 6 = .ok (.goto 4, 3) := by decide +kernel
theorem dJ9_min_7cf53_9 : decode cJ9_min_7cf53 9 = .ok (.iload_n 1, 1) := by decide +kernel
theorem dJ9_min_7cf53_10 : decode cJ9_min_7cf53 10 = .ok (.ireturn, 1) := by decide +kernel
end
section
/-! ===== whole numbers as ints ===== -/
def iI (x : Int) : Int32 := Int32.ofInt x
def R32 (x : Int) : Prop := -2147483648 ≤ x ∧ x < 2147483648
theorem iI_toInt {x : Int} (h : R32 x) : (iI x).toInt = x := Int32.toInt_ofInt_of_le (by have := h.1; omega) (by have := h.2; omega)
theorem iI_self (y : Int32) : iI y.toInt = y := Int32.ofInt_toInt y
theorem iI_rng (y : Int32) : R32 y.toInt := ⟨by have := y.le_toInt; omega, by have := y.toInt_lt; omega⟩
theorem iI_add (a b : Int) : iI a + iI b = iI (a + b) := (Int32.ofInt_add a b).symm
theorem iI_sub (a b : Int) : iI a - iI b = iI (a - b) := (Int32.ofInt_sub a b).symm
theorem iI_mul (a b : Int) : iI a * iI b = iI (a * b) := (Int32.ofInt_mul a b).symm
theorem iI_lt {a b : Int} (ha : R32 a) (hb : R32 b) : iI a < iI b ↔ a < b := by rw [Int32.lt_iff_toInt_lt, iI_toInt ha, iI_toInt hb]
theorem iI_le {a b : Int} (ha : R32 a) (hb : R32 b) : iI a ≤ iI b ↔ a ≤ b := by rw [Int32.le_iff_toInt_le, iI_toInt ha, iI_toInt hb]
theorem iI_eq {a b : Int} (ha : R32 a) (hb : R32 b) : iI a = iI b ↔ a = b := by rw [← Int32.toInt_inj, iI_toInt ha, iI_toInt hb]
theorem iI_zero : (0 : Int32) = iI 0 := by decide +kernel
theorem r32_zero : R32 0 := ⟨by decide, by decide⟩
theorem iI_cl {x : Int} (h0 : 0 ≤ x) (h1 : x < 2147483648) : (((iI x).toNatClampNeg : Nat) : Int) = x := by
  show ((((iI x).toInt).toNat : Nat) : Int) = x
  rw [iI_toInt ⟨by omega, h1⟩]; omega
theorem iI_in {x : Int} {n : Nat} (h0 : 0 ≤ x) (h1 : x < n) (hn : n < 2147483648) : vp_in (iI x) n := vp_in_iff.mpr (by rw [iI_toInt ⟨by omega, by omega⟩]; exact ⟨h0, h1⟩)
theorem iI_div {a b : Int} (ha : 0 ≤ a) (ha2 : a < 2147483648) (hb : 0 < b) (hb2 : b < 2147483648) : iI a / iI b = iI (a / b) := by
  rw [← Int32.toInt_inj, Int32.toInt_div_of_ne_right _ _ (by
    intro h
    have h1 : (iI b).toInt = (-1 : Int32).toInt := by rw [h]
    rw [iI_toInt ⟨by omega, hb2⟩, show (-1 : Int32).toInt = -1 from by decide +kernel] at h1
    omega), iI_toInt ⟨by omega, ha2⟩, iI_toInt ⟨by omega, hb2⟩, Int.tdiv_eq_ediv_of_nonneg ha, iI_toInt]
  have h1 := Int.ediv_nonneg ha (by omega : (0 : Int) ≤ b)
  have h2 : a / b ≤ a := Int.ediv_le_self b ha
  exact ⟨by omega, by omega⟩
theorem iI_rem {a b : Int} (ha : 0 ≤ a) (ha2 : a < 2147483648) (hb : 0 < b) (hb2 : b < 2147483648) : iI a - iI a / iI b * iI b = iI (a % b) := by
  rw [iI_div ha ha2 hb hb2, iI_mul, iI_sub, Int.emod_def, Int.mul_comm]
theorem iI_ne0 {b : Int} (hb : 0 < b) (hb2 : b < 2147483648) : ¬ iI b = 0 := by
  rw [iI_zero, iI_eq ⟨by omega, hb2⟩ r32_zero]; omega
/-! ===== cells ===== -/
abbrev Mem : Type := Nat → va_E
def up {α : Type} (f : Int → α) (k : Int) (v : α) : Int → α := fun j => if j = k then v else f j
theorem up_eq {α : Type} (f : Int → α) (k : Int) (v : α) : up f k v k = v := if_pos rfl
theorem up_ne {α : Type} (f : Int → α) {k j : Int} (v : α) (h : j ≠ k) : up f k v j = f j := if_neg h
def trw (n : Nat) (f : Int → Int) : Nat → Int32 := fun j : Nat => if j < n then iI (f (j : Int)) else 0
def cC (ca : Nat → ClassId) (n : Nat) (f : Int → Int) : va_E := .inl (ca 0, n, .inl (trw n f))
def cI (ca : Nat → ClassId) (n : Nat) (f : Int → Int) : va_E := .inl (ca 1, n, .inl (trw n f))
def cZ (ca : Nat → ClassId) (n : Nat) (f : Int → Int) : va_E := .inl (ca 2, n, .inl (trw n f))
theorem trw_ext {n : Nat} {f g : Int → Int} (h : ∀ k, 0 ≤ k → k < n → f k = g k) : trw n f = trw n g := by
  funext j
  unfold trw
  by_cases hj : j < n
  · rw [if_pos hj, if_pos hj, h j (by omega) (by omega)]
  · rw [if_neg hj, if_neg hj]
theorem cI_ext {ca : Nat → ClassId} {n : Nat} {f g : Int → Int} (h : ∀ k, 0 ≤ k → k < n → f k = g k) : cI ca n f = cI ca n g := by unfold cI; rw [trw_ext h]
theorem cC_ext {ca : Nat → ClassId} {n : Nat} {f g : Int → Int} (h : ∀ k, 0 ≤ k → k < n → f k = g k) : cC ca n f = cC ca n g := by unfold cC; rw [trw_ext h]
theorem cZ_ext {ca : Nat → ClassId} {n : Nat} {f g : Int → Int} (h : ∀ k, 0 ≤ k → k < n → f k = g k) : cZ ca n f = cZ ca n g := by unfold cZ; rw [trw_ext h]
theorem trw_at {n : Nat} {f : Int → Int} {i : Int} (h0 : 0 ≤ i) (h1 : i < n) (hn : n < 2147483648) : trw n f (iI i).toNatClampNeg = iI (f i) := by
  have h := iI_cl h0 (by omega)
  unfold trw
  rw [if_pos (by omega), h]
def cR (ca : Nat → ClassId) (t : Nat) (n : Nat) (f : Int → Option Nat) : va_E := .inl (ca t, n, .inr (.inr (.inr (.inr (fun j : Nat => f (j : Int))))))
theorem up_row {n : Nat} {f : Int → Int} {i v : Int} (h0 : 0 ≤ i) (h1 : i < n) (hn : n < 2147483648) : upd (trw n f) (iI i).toNatClampNeg (iI v) = trw n (up f i v) := by
  funext j
  have h := iI_cl h0 (by omega)
  by_cases hj : j = (iI i).toNatClampNeg
  · subst hj
    simp only [upd, trw, up, h, if_true]
    rw [if_pos (by omega)]
  · have h2 : ¬ (j : Int) = i := by omega
    simp only [upd, trw, up, hj, h2, if_false]
theorem up_rowq {f : Int → Option Nat} {i : Int} {v : Option Nat} (h0 : 0 ≤ i) (h1 : i < 2147483648) : va_up (fun j : Nat => f (j : Int)) (iI i).toNatClampNeg v = (fun j : Nat => up f i v (j : Int)) := by
  funext j
  have h := iI_cl h0 h1
  by_cases hj : j = (iI i).toNatClampNeg
  · subst hj
    simp only [va_up, up, h, if_true]
  · have h2 : ¬ (j : Int) = i := by omega
    simp only [va_up, up, hj, h2, if_false]
abbrev tyL (ca : Nat → ClassId) : List (ClassId × FieldType) := [(ca 0, .char), (ca 1, .int), (ca 2, .boolean), (ca 3, .object RX0), (ca 4, .object RX3), (ca 5, .object RX4)]
/-! ===== the class's static rows ===== -/
def tLS : Int → Int := fun j => if j = 0 then 2 else if j = 1 then 1 else 0
def tMS : Int → Int := fun j => if j = 0 then 16 else if j = 1 then 12 else if j = 2 then 2 else 1
def tFS : Int → Int := fun j => if j = 0 then 8 else if j = 1 then 4 else 0
def tGP : Int → Int := fun j => if j < 2 then 0 else if j = 2 then 2 else if j < 5 then 3 else if j < 7 then 5 else if j < 11 then 7 else if j < 13 then 11 else 13
def tLN : Int → Int := fun j => if j < 2 then 0 else 1
def tMN : Int → Int := fun j => if j = 0 then 4095 else if j = 1 then 1023 else 200
def tBN : Int → Int := fun j => if j = 0 then 43 else if j = 1 then 42 else 59
def Sz (n d : String) (ty : FieldType) (N : Nat) (f : Int → Int) (A : Nat → Prop) (U : State) (H : Heap) : Prop := ∃ t : Nat, va_Z "StrideBanks" n d (.ref t) A U H ∧ va_T ty t N (fun j : Nat => .int (iI (f (j : Int)))) A U H
def St (A : Nat → Prop) (U : State) (H : Heap) : Prop := Sz "LEAST_SETTING" "[I" .int 4 tLS A U H ∧ Sz "MOST_SETTING" "[I" .int 4 tMS A U H ∧ Sz "FIRST_SETTING" "[I" .int 4 tFS A U H ∧ Sz "GREATEST_PRIME_TO" "[I" .int 17 tGP A U H ∧ Sz "LEAST_NUMBER" "[I" .int 3 tLN A U H ∧ Sz "MOST_NUMBER" "[I" .int 3 tMN A U H ∧ Sz "BEHIND_NUMBER" "[C" .char 3 tBN A U H
theorem Sz.on {n d : String} {ty : FieldType} {N : Nat} {f : Int → Int} {A B : Nat → Prop} {u U : State} {H H1 : Heap} (h : Sz n d ty N f A u H) (hvm : u.vm.Alike U.vm) (hq : ∀ a : Nat, a < H.size → ¬ A a → H1[a]? = H[a]?) (hAB : ∀ q, B q → A q) : Sz n d ty N f B U H1 := by
  obtain ⟨t, h1, h2⟩ := h
  exact ⟨t, ((h1.moved hvm).kept hq).narrow hAB, ((h2.moved hvm).kept hq).narrow hAB⟩
theorem St.on {A B : Nat → Prop} {u U : State} {H H1 : Heap} (h : St A u H) (hvm : u.vm.Alike U.vm) (hq : ∀ a : Nat, a < H.size → ¬ A a → H1[a]? = H[a]?) (hAB : ∀ q, B q → A q) : St B U H1 := by
  obtain ⟨h1, h2, h3, h4, h5, h6, h7⟩ := h
  exact ⟨h1.on hvm hq hAB, h2.on hvm hq hAB, h3.on hvm hq hAB, h4.on hvm hq hAB, h5.on hvm hq hAB, h6.on hvm hq hAB, h7.on hvm hq hAB⟩
/-! ===== words of nest mates and arrays: they stay ===== -/
theorem nw_warm {w : Cond} (hw : isNW w = true) {s U : State} (hW : s.WarmedH U.vm) (h : va_Nw w s) : va_Nw w U := by
  cases w <;> first | exact va_Nw.warmM hW h | exact va_Nw.warmF hW h | (rename_i ty; cases ty <;> first | exact va_AO.moved hW.alike h | (exact absurd hw (by simp [isNW]))) | (exact absurd hw (by simp [isNW]))
theorem nw_same {w : Cond} (hw : isNW w = true) {s U : State} (e : s.vm = U.vm) (h : va_Nw w s) : va_Nw w U := by
  have hA : s.vm.Alike U.vm := e ▸ Vm.Alike.refl _
  cases w <;> first | exact va_Nw.same rfl e h | (rename_i ty; cases ty <;> first | exact va_AO.moved hA h | (exact absurd hw (by simp [isNW]))) | (exact absurd hw (by simp [isNW]))
/-! ===== a world, a contract, a walk ===== -/
def AL (L : List Nat) (sz : Nat) : Nat → Prop := fun q => q ∈ L ∨ sz ≤ q
theorem pl_D {A : Nat → Prop} {L : List Nat} {M : Mem} (hn : L.Nodup) (hA : ∀ a ∈ L, A a) : va_D A (va_pl L M) := by
  refine ⟨fun i j x y hx hy hxy => ?_, fun k q hk => ?_⟩
  · simp only [va_pl, List.getElem?_map, Option.map_eq_some_iff] at hx hy
    obtain ⟨a, ha, rfl⟩ := hx
    obtain ⟨b, hb, rfl⟩ := hy
    have hab : a = b := hxy
    subst hab
    have hi := (List.getElem?_eq_some_iff.mp ha).1
    exact (List.getElem?_inj hi hn).mp (ha.trans hb.symm)
  · simp only [va_pl, List.getElem?_map, Option.map_eq_some_iff] at hk
    obtain ⟨a, ha, rfl⟩ := hk
    exact hA a (List.mem_of_getElem? ha)
theorem pl_nodup {A : Nat → Prop} {L : List Nat} {M : Mem} (h : va_D A (va_pl L M)) : L.Nodup := by
  refine List.pairwise_iff_getElem.mpr ?_
  intro i j hi hj hij he
  have e1 : L[i]? = some L[i] := List.getElem?_eq_getElem hi
  have e2 : L[j]? = some L[j] := List.getElem?_eq_getElem hj
  have h4 := h.1 i j (L[i], M L[i]) (L[j], M L[j]) (by simp only [va_pl, List.getElem?_map, e1, Option.map_some]) (by simp only [va_pl, List.getElem?_map, e2, Option.map_some]) he
  omega
theorem pl_A {A : Nat → Prop} {L : List Nat} {M : Mem} (h : va_D A (va_pl L M)) : ∀ a ∈ L, A a := by
  intro a ha
  obtain ⟨i, hi⟩ := List.getElem?_of_mem ha
  exact h.2 i (a, M a) (by simp [va_pl, hi])
def Wp (D : va_G) (ca : Nat → ClassId) (L : List Nat) (M : Mem) (sz : Nat) (U : State) : Prop :=
  U.heap.size = sz ∧ va_P D vwCl (va_pl L M) U.heap ∧ L.Nodup ∧ va_K D vwCl (tyL ca) U ∧ (∀ w ∈ NW, va_Nw w U) ∧ St (AL L sz) U U.heap
def Qk (D : va_G) (A : Nat → Prop) (K : Option Value → List Nat → Mem → Prop) : Array Value → State → Outcome → State → Prop := fun _ st oc t =>
  (∃ (r : Option Value) (L1 : List Nat) (M1 : Mem), oc = .returned r ∧ K r L1 M1 ∧ va_P D vwCl (va_pl L1 M1) t.heap ∧ va_D A (va_pl L1 M1)) ∧ va_F A st t
abbrev Rm (h mc ms : Nat) : Room := { frames := h, cells := mc, slots := ms, locals := 40 * h }
abbrev wm (y : MethodName) (cc : ByteArray) (maxL : Nat) (ret : Option FieldType) : List Cond := .code y cc maxL ret :: TB
abbrev PreT : Type := (Nat → ClassId) → List Value → List Nat → Mem → Prop
abbrev PostT : Type := (Nat → ClassId) → List Value → List Nat → Mem → Option Value → List Nat → Mem → Prop
def Ct (l : Launch) (y : MethodName) (cc : ByteArray) (maxL : Nat) (ret : Option FieldType) (h mc ms : Nat) (Pre : PreT) (Post : PostT) : Prop :=
  ∀ (D : va_G) (ca : Nat → ClassId) (av : List Value) (L : List Nat) (M : Mem) (sz : Nat), Pre ca av L M → Met l y (wm y cc maxL ret) (Rm h mc ms) (va_Pc av (Wp D ca L M sz)) (Qk D (AL L sz) (Post ca av L M)) mc ms (AL L sz)
def Fx (p : Program) (s : State) (m : MethodId) (args : Array Value) (meth : Method) (c : Code) (D : va_G) (ca : Nat → ClassId) (A : Nat → Prop) (nL : Nat) (cc : ByteArray) (own : String) : Prop :=
  CallFix p m c cc nL s args TB own ∧ va_K D vwCl (tyL ca) s ∧ (∀ w ∈ NW, va_Nw w s) ∧ St A s s.heap ∧ (∀ q, s.heap.size ≤ q → A q) ∧ meth.locks = false
def G (p : Program) (l : Launch) (e : Env) (R : Room) (s : State) (m : MethodId) (args : Array Value) (below : List Frame) (meth : Method) (c : Code) (D : va_G) (A : Nat → Prop) (nL : Nat) (Q : State → Prop) (cells slots : Nat) (L : List Nat) (M : Mem) (pc : Nat) (lv : List (Nat × Value)) (st : List Value) : Prop :=
  ∀ (H : Heap) (locs : List Loc) (ls : Array Slot), va_P D vwCl (va_pl L M) H → va_D A (va_pl L M) → va_S A s.heap H locs → lv_has ls nL lv → W p l e R s m args below meth c H locs cells slots Q (F0 m pc ls st)
theorem wp_calling {D : va_G} {ca : Nat → ClassId} {L : List Nat} {M : Mem} {sz : Nat} {U : State} {g : JFrame} {mk : MethodId} {a : Array Value} (h : Wp D ca L M sz U) : Wp D ca L M sz (U.calling g mk a) := by
  obtain ⟨h1, h2, h3, h4, h5, h6⟩ := h
  exact ⟨h1, h2, h3, va_K.moved (u := U) (U := U.calling g mk a) (Vm.Alike.refl U.vm) h4, fun w hw => nw_same (s := U) (U := U.calling g mk a) (List.mem_filter.mp hw).2 rfl (h5 w hw), h6.on (U := U.calling g mk a) (Vm.Alike.refl U.vm) (fun _ _ _ => rfl) (fun _ q => q)⟩
theorem Ct_of {l : Launch} {y : MethodName} {cc : ByteArray} {maxL : Nat} {ret : Option FieldType} {h mc ms : Nat} {Pre : PreT} {Post : PostT} {own : String} (hy : plainName y.cls = true) (hyo : y.cls = own) (hav : ∀ ca av L M, Pre ca av L M → (lg_sl av).length ≤ maxL)
    (body : ∀ (p : Program) (e : Env) (s : State) (m : MethodId) (args : Array Value) (below : List Frame) (meth : Method) (c : Code) (D : va_G) (ca : Nat → ClassId) (A : Nat → Prop) (av : List Value) (L : List Nat) (M : Mem), Pre ca av L M → Fx p s m args meth c D ca A maxL cc own → meth.sig.returnType = ret → (y.name = meth.name) →
      G p l e (Rm h mc ms) s m args below meth c D A maxL (MQ below (Qk D A (Post ca av L M)) args s mc ms A) 0 0 L M 0 (lv_args 0 av) []) : Ct l y cc maxL ret h mc ms Pre Post := by
  intro D ca av L M sz hpre
  refine Met.ofW (cc := cc) (maxL := maxL) (ret := ret) hy rfl ?_
  intro p e s m args below meth c s₁ B hml hv
  obtain ⟨rfl, hsz, hP, hN, hK, hNW, hSt⟩ := hv
  have hts := atoms_spec (ws := wm y cc maxL ret) B.pre
  have hown : s.vm.findClass own = some m.cls := hyo ▸ findClass_of_methodNamed B.named
  subst hsz
  have X : Fx p s m av.toArray meth c D ca (AL L s.heap.size) maxL cc own := ⟨⟨B.exec, B.bytes, hml, hown, fun w hw => hts w (List.mem_cons_of_mem _ hw)⟩, hK, hNW, hSt, fun q hq => Or.inr hq, B.notSynchronized⟩
  rw [lg_entry_eq]
  exact body p e s m av.toArray below meth c D ca (AL L s.heap.size) av L M hpre X B.returns ((name_of_methodNamed B.named B.method).1.symm) s.heap [] _ hP (pl_D hN (fun a ha => Or.inl ha)) va_S.rf (lv_entry av (hav ca av L M hpre))
end
section
section Rows
variable {p : Program} {l : Launch} {e : Env} {R : Room} {s : State} {m : MethodId} {args : Array Value} {below : List Frame} {meth : Method} {c : Code} {D : va_G} {ca : Nat → ClassId} {A : Nat → Prop} {nL : Nat} {Q : State → Prop} {cells slots : Nat} {cc : ByteArray} {own : String} {L : List Nat} {M : Mem} {pc n : Nat} {lv : List (Nat × Value)} {st : List Value}
theorem g_iconst (X : Fx p s m args meth c D ca A nL cc own) {z : Int} (d : decode cc pc = .ok (.iconst z, 1)) (hn : pc + 1 = n) (k : G p l e R s m args below meth c D A nL Q cells slots L M n lv (.int (iI z) :: st)) : G p l e R s m args below meth c D A nL Q cells slots L M pc lv (st) := by
  intro H locs ls hP hD hS hl
  subst hn
  exact lv_iconst X.1.1 X.1.2.1 d rfl (k H locs ls hP hD hS hl)
theorem g_bipush (X : Fx p s m args meth c D ca A nL cc own) {z : Int} (hz : (Int8.ofInt z).toInt32 = iI z) (d : decode cc pc = .ok (.bipush z, 2)) (hn : pc + 2 = n) (k : G p l e R s m args below meth c D A nL Q cells slots L M n lv (.int (iI z) :: st)) : G p l e R s m args below meth c D A nL Q cells slots L M pc lv (st) := by
  intro H locs ls hP hD hS hl
  subst hn
  exact lv_bipush X.1.1 X.1.2.1 d hz (k H locs ls hP hD hS hl)
theorem g_sipush (X : Fx p s m args meth c D ca A nL cc own) {z : Int} (hz : (Int16.ofInt z).toInt32 = iI z) (d : decode cc pc = .ok (.sipush z, 3)) (hn : pc + 3 = n) (k : G p l e R s m args below meth c D A nL Q cells slots L M n lv (.int (iI z) :: st)) : G p l e R s m args below meth c D A nL Q cells slots L M pc lv (st) := by
  intro H locs ls hP hD hS hl
  subst hn
  exact lv_sipush X.1.1 X.1.2.1 d hz (k H locs ls hP hD hS hl)
theorem g_ldc (X : Fx p s m args meth c D ca A nL cc own) {index : Nat} {z : Int} {v : Int32} (w : Cond.constant own index v ∈ TB) (hv : v = iI z) (d : decode cc pc = .ok (.ldc index, 2)) (hn : pc + 2 = n) (k : G p l e R s m args below meth c D A nL Q cells slots L M n lv (.int (iI z) :: st)) : G p l e R s m args below meth c D A nL Q cells slots L M pc lv (st) := by
  intro H locs ls hP hD hS hl
  subst hn
  exact lv_ldc X.1.1 X.1.2.1 X.1.2.2.2.1 (X.1.2.2.2.2 _ w) d (hv ▸ k H locs ls hP hD hS hl)
theorem g_ldcr (X : Fx p s m args meth c D ca A nL cc own) {index : Nat} {v : Int32} (w : Cond.constant own index v ∈ TB) (d : decode cc pc = .ok (.ldc index, 2)) (hn : pc + 2 = n) (k : G p l e R s m args below meth c D A nL Q cells slots L M n lv (.int v :: st)) : G p l e R s m args below meth c D A nL Q cells slots L M pc lv (st) := by
  intro H locs ls hP hD hS hl
  subst hn
  exact lv_ldc X.1.1 X.1.2.1 X.1.2.2.2.1 (X.1.2.2.2.2 _ w) d (k H locs ls hP hD hS hl)
theorem g_ldc2 (X : Fx p s m args meth c D ca A nL cc own) {index : Nat} {v : Int64} (w : Cond.constantLong own index v ∈ TB) (d : decode cc pc = .ok (.ldc2_w index, 3)) (hn : pc + 3 = n) (k : G p l e R s m args below meth c D A nL Q cells slots L M n lv (.long v :: st)) : G p l e R s m args below meth c D A nL Q cells slots L M pc lv (st) := by
  intro H locs ls hP hD hS hl
  subst hn
  exact lv_ldc2 X.1.1 X.1.2.1 X.1.2.2.2.1 (X.1.2.2.2.2 _ w) d (k H locs ls hP hD hS hl)
theorem g_lconst (X : Fx p s m args meth c D ca A nL cc own) {z : Fin 2} {v : Int64} (hv : Int64.ofNat (z : Nat) = v) (d : decode cc pc = .ok (.lconst z, 1)) (hn : pc + 1 = n) (k : G p l e R s m args below meth c D A nL Q cells slots L M n lv (.long v :: st)) : G p l e R s m args below meth c D A nL Q cells slots L M pc lv (st) := by
  intro H locs ls hP hD hS hl
  subst hn
  exact lv_lconst X.1.1 X.1.2.1 d hv (k H locs ls hP hD hS hl)
theorem g_iload_n (X : Fx p s m args meth c D ca A nL cc own) {i : Fin 4} {x : Int32} (q : Nat) (hq : lv[q]? = some ((i : Nat), .int x)) (d : decode cc pc = .ok (.iload_n i, 1)) (hn : pc + 1 = n) (k : G p l e R s m args below meth c D A nL Q cells slots L M n lv (.int x :: st)) : G p l e R s m args below meth c D A nL Q cells slots L M pc lv (st) := by
  intro H locs ls hP hD hS hl
  subst hn
  exact lv_iload_n X.1.1 X.1.2.1 d rfl (lv_at hl q hq) (k H locs ls hP hD hS hl)
theorem g_iload (X : Fx p s m args meth c D ca A nL cc own) {i : Nat} {x : Int32} (q : Nat) (hq : lv[q]? = some (i, .int x)) (d : decode cc pc = .ok (.iload i, 2)) (hn : pc + 2 = n) (k : G p l e R s m args below meth c D A nL Q cells slots L M n lv (.int x :: st)) : G p l e R s m args below meth c D A nL Q cells slots L M pc lv (st) := by
  intro H locs ls hP hD hS hl
  subst hn
  exact lv_iload X.1.1 X.1.2.1 d (lv_at hl q hq) (k H locs ls hP hD hS hl)
theorem g_aload_n (X : Fx p s m args meth c D ca A nL cc own) {i : Fin 4} {x : Nat} (q : Nat) (hq : lv[q]? = some ((i : Nat), .ref x)) (d : decode cc pc = .ok (.aload_n i, 1)) (hn : pc + 1 = n) (k : G p l e R s m args below meth c D A nL Q cells slots L M n lv (.ref x :: st)) : G p l e R s m args below meth c D A nL Q cells slots L M pc lv (st) := by
  intro H locs ls hP hD hS hl
  subst hn
  exact lv_aload_n X.1.1 X.1.2.1 d rfl (lv_at hl q hq) (k H locs ls hP hD hS hl)
theorem g_aload (X : Fx p s m args meth c D ca A nL cc own) {i : Nat} {x : Nat} (q : Nat) (hq : lv[q]? = some (i, .ref x)) (d : decode cc pc = .ok (.aload i, 2)) (hn : pc + 2 = n) (k : G p l e R s m args below meth c D A nL Q cells slots L M n lv (.ref x :: st)) : G p l e R s m args below meth c D A nL Q cells slots L M pc lv (st) := by
  intro H locs ls hP hD hS hl
  subst hn
  exact lv_aload X.1.1 X.1.2.1 d (lv_at hl q hq) (k H locs ls hP hD hS hl)
theorem g_lload_n (X : Fx p s m args meth c D ca A nL cc own) {i : Fin 4} {x : Int64} (q : Nat) (hq : lv[q]? = some ((i : Nat), .long x)) (d : decode cc pc = .ok (.lload_n i, 1)) (hn : pc + 1 = n) (k : G p l e R s m args below meth c D A nL Q cells slots L M n lv (.long x :: st)) : G p l e R s m args below meth c D A nL Q cells slots L M pc lv (st) := by
  intro H locs ls hP hD hS hl
  subst hn
  exact lv_lload_n X.1.1 X.1.2.1 d rfl (lv_at hl q hq) (k H locs ls hP hD hS hl)
theorem g_lload (X : Fx p s m args meth c D ca A nL cc own) {i : Nat} {x : Int64} (q : Nat) (hq : lv[q]? = some (i, .long x)) (d : decode cc pc = .ok (.lload i, 2)) (hn : pc + 2 = n) (k : G p l e R s m args below meth c D A nL Q cells slots L M n lv (.long x :: st)) : G p l e R s m args below meth c D A nL Q cells slots L M pc lv (st) := by
  intro H locs ls hP hD hS hl
  subst hn
  exact lv_lload X.1.1 X.1.2.1 d (lv_at hl q hq) (k H locs ls hP hD hS hl)
theorem g_istore_n (X : Fx p s m args meth c D ca A nL cc own) {i : Fin 4} {x : Int32} {lv' : List (Nat × Value)} (hi : (i : Nat) < nL) (hlv : ((i : Nat), Value.int x) :: lv.filter (fun q => !(q.1 == (i : Nat)) && !(q.1 + 1 == (i : Nat) && q.2.category == 2)) = lv') (d : decode cc pc = .ok (.istore_n i, 1)) (hn : pc + 1 = n) (k : G p l e R s m args below meth c D A nL Q cells slots L M n lv' (st)) : G p l e R s m args below meth c D A nL Q cells slots L M pc lv (.int x :: st) := by
  intro H locs ls hP hD hS hl
  subst hn
  exact lv_istore_n X.1.1 X.1.2.1 d rfl hl hi hlv (fun ls' hl' => k H locs ls' hP hD hS hl')
theorem g_istore (X : Fx p s m args meth c D ca A nL cc own) {i : Nat} {x : Int32} {lv' : List (Nat × Value)} (hi : i < nL) (hlv : (i, Value.int x) :: lv.filter (fun q => !(q.1 == i) && !(q.1 + 1 == i && q.2.category == 2)) = lv') (d : decode cc pc = .ok (.istore i, 2)) (hn : pc + 2 = n) (k : G p l e R s m args below meth c D A nL Q cells slots L M n lv' (st)) : G p l e R s m args below meth c D A nL Q cells slots L M pc lv (.int x :: st) := by
  intro H locs ls hP hD hS hl
  subst hn
  exact lv_istore X.1.1 X.1.2.1 d hl hi hlv (fun ls' hl' => k H locs ls' hP hD hS hl')
theorem g_astore_n (X : Fx p s m args meth c D ca A nL cc own) {i : Fin 4} {x : Nat} {lv' : List (Nat × Value)} (hi : (i : Nat) < nL) (hlv : ((i : Nat), Value.ref x) :: lv.filter (fun q => !(q.1 == (i : Nat)) && !(q.1 + 1 == (i : Nat) && q.2.category == 2)) = lv') (d : decode cc pc = .ok (.astore_n i, 1)) (hn : pc + 1 = n) (k : G p l e R s m args below meth c D A nL Q cells slots L M n lv' (st)) : G p l e R s m args below meth c D A nL Q cells slots L M pc lv (.ref x :: st) := by
  intro H locs ls hP hD hS hl
  subst hn
  exact lv_astore_n X.1.1 X.1.2.1 d rfl hl hi hlv (fun ls' hl' => k H locs ls' hP hD hS hl')
theorem g_astore (X : Fx p s m args meth c D ca A nL cc own) {i : Nat} {x : Nat} {lv' : List (Nat × Value)} (hi : i < nL) (hlv : (i, Value.ref x) :: lv.filter (fun q => !(q.1 == i) && !(q.1 + 1 == i && q.2.category == 2)) = lv') (d : decode cc pc = .ok (.astore i, 2)) (hn : pc + 2 = n) (k : G p l e R s m args below meth c D A nL Q cells slots L M n lv' (st)) : G p l e R s m args below meth c D A nL Q cells slots L M pc lv (.ref x :: st) := by
  intro H locs ls hP hD hS hl
  subst hn
  exact lv_astore X.1.1 X.1.2.1 d hl hi hlv (fun ls' hl' => k H locs ls' hP hD hS hl')
theorem g_lstore_n (X : Fx p s m args meth c D ca A nL cc own) {i : Fin 4} {x : Int64} {lv' : List (Nat × Value)} (hi : (i : Nat) + 1 < nL) (hlv : ((i : Nat), Value.long x) :: lv.filter (fun q => !(q.1 == (i : Nat)) && (!(q.1 == (i : Nat) + 1) && !(q.1 + 1 == (i : Nat) && q.2.category == 2))) = lv') (d : decode cc pc = .ok (.lstore_n i, 1)) (hn : pc + 1 = n) (k : G p l e R s m args below meth c D A nL Q cells slots L M n lv' (st)) : G p l e R s m args below meth c D A nL Q cells slots L M pc lv (.long x :: st) := by
  intro H locs ls hP hD hS hl
  subst hn
  exact lv_lstore_n X.1.1 X.1.2.1 d rfl hl hi hlv (fun ls' hl' => k H locs ls' hP hD hS hl')
theorem g_lstore (X : Fx p s m args meth c D ca A nL cc own) {i : Nat} {x : Int64} {lv' : List (Nat × Value)} (hi : i + 1 < nL) (hlv : (i, Value.long x) :: lv.filter (fun q => !(q.1 == i) && (!(q.1 == i + 1) && !(q.1 + 1 == i && q.2.category == 2))) = lv') (d : decode cc pc = .ok (.lstore i, 2)) (hn : pc + 2 = n) (k : G p l e R s m args below meth c D A nL Q cells slots L M n lv' (st)) : G p l e R s m args below meth c D A nL Q cells slots L M pc lv (.long x :: st) := by
  intro H locs ls hP hD hS hl
  subst hn
  exact lv_lstore X.1.1 X.1.2.1 d hl hi hlv (fun ls' hl' => k H locs ls' hP hD hS hl')
theorem g_iinc (X : Fx p s m args meth c D ca A nL cc own) {i : Nat} {z x : Int} {lv' : List (Nat × Value)} (q : Nat) (hq : lv[q]? = some (i, .int (iI x))) (hi : i < nL) (hlv : (i, Value.int (iI (x + z))) :: lv.filter (fun q => !(q.1 == i) && !(q.1 + 1 == i && q.2.category == 2)) = lv') (d : decode cc pc = .ok (.iinc i z, 3)) (hn : pc + 3 = n) (k : G p l e R s m args below meth c D A nL Q cells slots L M n lv' (st)) : G p l e R s m args below meth c D A nL Q cells slots L M pc lv (st) := by
  intro H locs ls hP hD hS hl
  subst hn
  exact lv_iinc X.1.1 X.1.2.1 d hl (k := q) hq (iI_add x z) hi hlv (fun ls' hl' => k H locs ls' hP hD hS hl')
theorem g_iadd (X : Fx p s m args meth c D ca A nL cc own) {a b : Int} (d : decode cc pc = .ok (.iadd, 1)) (hn : pc + 1 = n) (k : G p l e R s m args below meth c D A nL Q cells slots L M n lv (.int (iI (a + b)) :: st)) : G p l e R s m args below meth c D A nL Q cells slots L M pc lv (.int (iI b) :: .int (iI a) :: st) := by
  intro H locs ls hP hD hS hl
  subst hn
  exact lv_iadd X.1.1 X.1.2.1 d (by rw [iI_add]; exact k H locs ls hP hD hS hl)
theorem g_isub (X : Fx p s m args meth c D ca A nL cc own) {a b : Int} (d : decode cc pc = .ok (.isub, 1)) (hn : pc + 1 = n) (k : G p l e R s m args below meth c D A nL Q cells slots L M n lv (.int (iI (a - b)) :: st)) : G p l e R s m args below meth c D A nL Q cells slots L M pc lv (.int (iI b) :: .int (iI a) :: st) := by
  intro H locs ls hP hD hS hl
  subst hn
  exact lv_isub X.1.1 X.1.2.1 d (by rw [iI_sub]; exact k H locs ls hP hD hS hl)
theorem g_imul (X : Fx p s m args meth c D ca A nL cc own) {a b : Int} (d : decode cc pc = .ok (.imul, 1)) (hn : pc + 1 = n) (k : G p l e R s m args below meth c D A nL Q cells slots L M n lv (.int (iI (a * b)) :: st)) : G p l e R s m args below meth c D A nL Q cells slots L M pc lv (.int (iI b) :: .int (iI a) :: st) := by
  intro H locs ls hP hD hS hl
  subst hn
  exact lv_imul X.1.1 X.1.2.1 d (by rw [iI_mul]; exact k H locs ls hP hD hS hl)
theorem g_idiv (X : Fx p s m args meth c D ca A nL cc own) {a b : Int} (h : (0 ≤ a ∧ a < 2147483648) ∧ 0 < b ∧ b < 2147483648) (d : decode cc pc = .ok (.idiv, 1)) (hn : pc + 1 = n) (k : G p l e R s m args below meth c D A nL Q cells slots L M n lv (.int (iI (a / b)) :: st)) : G p l e R s m args below meth c D A nL Q cells slots L M pc lv (.int (iI b) :: .int (iI a) :: st) := by
  intro H locs ls hP hD hS hl
  subst hn
  exact lv_idiv X.1.1 X.1.2.1 d (iI_ne0 h.2.1 h.2.2) (by rw [iI_div h.1.1 h.1.2 h.2.1 h.2.2]; exact k H locs ls hP hD hS hl)
theorem g_irem (X : Fx p s m args meth c D ca A nL cc own) {a b : Int} (h : (0 ≤ a ∧ a < 2147483648) ∧ 0 < b ∧ b < 2147483648) (d : decode cc pc = .ok (.irem, 1)) (hn : pc + 1 = n) (k : G p l e R s m args below meth c D A nL Q cells slots L M n lv (.int (iI (a % b)) :: st)) : G p l e R s m args below meth c D A nL Q cells slots L M pc lv (.int (iI b) :: .int (iI a) :: st) := by
  intro H locs ls hP hD hS hl
  subst hn
  exact lv_irem X.1.1 X.1.2.1 d (iI_ne0 h.2.1 h.2.2) (by rw [iI_rem h.1.1 h.1.2 h.2.1 h.2.2]; exact k H locs ls hP hD hS hl)
theorem g_iand (X : Fx p s m args meth c D ca A nL cc own) {x y v : Int32} (hv : x &&& y = v) (d : decode cc pc = .ok (.iand, 1)) (hn : pc + 1 = n) (k : G p l e R s m args below meth c D A nL Q cells slots L M n lv (.int v :: st)) : G p l e R s m args below meth c D A nL Q cells slots L M pc lv (.int y :: .int x :: st) := by
  intro H locs ls hP hD hS hl
  subst hn
  exact lv_iand X.1.1 X.1.2.1 d (hv ▸ k H locs ls hP hD hS hl)
theorem g_ior (X : Fx p s m args meth c D ca A nL cc own) {x y v : Int32} (hv : x ||| y = v) (d : decode cc pc = .ok (.ior, 1)) (hn : pc + 1 = n) (k : G p l e R s m args below meth c D A nL Q cells slots L M n lv (.int v :: st)) : G p l e R s m args below meth c D A nL Q cells slots L M pc lv (.int y :: .int x :: st) := by
  intro H locs ls hP hD hS hl
  subst hn
  exact lv_ior X.1.1 X.1.2.1 d (hv ▸ k H locs ls hP hD hS hl)
theorem g_ishl (X : Fx p s m args meth c D ca A nL cc own) {x y v : Int32} (hv : x <<< (y &&& 31) = v) (d : decode cc pc = .ok (.ishl, 1)) (hn : pc + 1 = n) (k : G p l e R s m args below meth c D A nL Q cells slots L M n lv (.int v :: st)) : G p l e R s m args below meth c D A nL Q cells slots L M pc lv (.int y :: .int x :: st) := by
  intro H locs ls hP hD hS hl
  subst hn
  exact lv_ishl X.1.1 X.1.2.1 d (hv ▸ k H locs ls hP hD hS hl)
theorem g_ishr (X : Fx p s m args meth c D ca A nL cc own) {x y v : Int32} (hv : x >>> (y &&& 31) = v) (d : decode cc pc = .ok (.ishr, 1)) (hn : pc + 1 = n) (k : G p l e R s m args below meth c D A nL Q cells slots L M n lv (.int v :: st)) : G p l e R s m args below meth c D A nL Q cells slots L M pc lv (.int y :: .int x :: st) := by
  intro H locs ls hP hD hS hl
  subst hn
  exact lv_ishr X.1.1 X.1.2.1 d (hv ▸ k H locs ls hP hD hS hl)
theorem g_land (X : Fx p s m args meth c D ca A nL cc own) {x y v : Int64} (hv : x &&& y = v) (d : decode cc pc = .ok (.land, 1)) (hn : pc + 1 = n) (k : G p l e R s m args below meth c D A nL Q cells slots L M n lv (.long v :: st)) : G p l e R s m args below meth c D A nL Q cells slots L M pc lv (.long y :: .long x :: st) := by
  intro H locs ls hP hD hS hl
  subst hn
  exact lv_land X.1.1 X.1.2.1 d (hv ▸ k H locs ls hP hD hS hl)
theorem g_lor (X : Fx p s m args meth c D ca A nL cc own) {x y v : Int64} (hv : x ||| y = v) (d : decode cc pc = .ok (.lor, 1)) (hn : pc + 1 = n) (k : G p l e R s m args below meth c D A nL Q cells slots L M n lv (.long v :: st)) : G p l e R s m args below meth c D A nL Q cells slots L M pc lv (.long y :: .long x :: st) := by
  intro H locs ls hP hD hS hl
  subst hn
  exact lv_lor X.1.1 X.1.2.1 d (hv ▸ k H locs ls hP hD hS hl)
theorem g_lshl (X : Fx p s m args meth c D ca A nL cc own) {x v : Int64} {y : Int32} (hv : x <<< (y.toInt64 &&& 63) = v) (d : decode cc pc = .ok (.lshl, 1)) (hn : pc + 1 = n) (k : G p l e R s m args below meth c D A nL Q cells slots L M n lv (.long v :: st)) : G p l e R s m args below meth c D A nL Q cells slots L M pc lv (.int y :: .long x :: st) := by
  intro H locs ls hP hD hS hl
  subst hn
  exact lv_lshl X.1.1 X.1.2.1 d hv (k H locs ls hP hD hS hl)
theorem g_lushr (X : Fx p s m args meth c D ca A nL cc own) {x v : Int64} {y : Int32} (hv : (x.toUInt64 >>> (y.toInt64.toUInt64 &&& Int64.toUInt64 63)).toInt64 = v) (d : decode cc pc = .ok (.lushr, 1)) (hn : pc + 1 = n) (k : G p l e R s m args below meth c D A nL Q cells slots L M n lv (.long v :: st)) : G p l e R s m args below meth c D A nL Q cells slots L M pc lv (.int y :: .long x :: st) := by
  intro H locs ls hP hD hS hl
  subst hn
  exact lv_lushr X.1.1 X.1.2.1 d hv (k H locs ls hP hD hS hl)
theorem g_i2l (X : Fx p s m args meth c D ca A nL cc own) {x : Int32} {v : Int64} (hv : x.toInt64 = v) (d : decode cc pc = .ok (.i2l, 1)) (hn : pc + 1 = n) (k : G p l e R s m args below meth c D A nL Q cells slots L M n lv (.long v :: st)) : G p l e R s m args below meth c D A nL Q cells slots L M pc lv (.int x :: st) := by
  intro H locs ls hP hD hS hl
  subst hn
  exact lv_i2l X.1.1 X.1.2.1 d hv (k H locs ls hP hD hS hl)
theorem g_l2i (X : Fx p s m args meth c D ca A nL cc own) {x : Int64} {v : Int32} (hv : x.toInt32 = v) (d : decode cc pc = .ok (.l2i, 1)) (hn : pc + 1 = n) (k : G p l e R s m args below meth c D A nL Q cells slots L M n lv (.int v :: st)) : G p l e R s m args below meth c D A nL Q cells slots L M pc lv (.long x :: st) := by
  intro H locs ls hP hD hS hl
  subst hn
  exact lv_l2i X.1.1 X.1.2.1 d hv (k H locs ls hP hD hS hl)
theorem g_i2c (X : Fx p s m args meth c D ca A nL cc own) {x v : Int32} (hv : (x.toUInt32 % 65536).toInt32 = v) (d : decode cc pc = .ok (.i2c, 1)) (hn : pc + 1 = n) (k : G p l e R s m args below meth c D A nL Q cells slots L M n lv (.int v :: st)) : G p l e R s m args below meth c D A nL Q cells slots L M pc lv (.int x :: st) := by
  intro H locs ls hP hD hS hl
  subst hn
  exact lv_i2c X.1.1 X.1.2.1 d hv (k H locs ls hP hD hS hl)
theorem g_lcmp (X : Fx p s m args meth c D ca A nL cc own) {x y : Int64} (d : decode cc pc = .ok (.lcmp, 1)) (hn : pc + 1 = n) (k : G p l e R s m args below meth c D A nL Q cells slots L M n lv (.int (lg_cmp x y) :: st)) : G p l e R s m args below meth c D A nL Q cells slots L M pc lv (.long y :: .long x :: st) := by
  intro H locs ls hP hD hS hl
  subst hn
  exact W.lcmp X.1.1 X.1.2.1 d (k H locs ls hP hD hS hl)
theorem g_pop (X : Fx p s m args meth c D ca A nL cc own) {va : Value} (hva : va.category = 1) (d : decode cc pc = .ok (.pop, 1)) (hn : pc + 1 = n) (k : G p l e R s m args below meth c D A nL Q cells slots L M n lv (st)) : G p l e R s m args below meth c D A nL Q cells slots L M pc lv (va :: st) := by
  intro H locs ls hP hD hS hl
  subst hn
  exact lv_pop X.1.1 X.1.2.1 d hva (k H locs ls hP hD hS hl)
theorem g_dup (X : Fx p s m args meth c D ca A nL cc own) {va : Value} (hva : va.category = 1) (d : decode cc pc = .ok (.dup, 1)) (hn : pc + 1 = n) (k : G p l e R s m args below meth c D A nL Q cells slots L M n lv (va :: va :: st)) : G p l e R s m args below meth c D A nL Q cells slots L M pc lv (va :: st) := by
  intro H locs ls hP hD hS hl
  subst hn
  exact lv_dup X.1.1 X.1.2.1 d hva (k H locs ls hP hD hS hl)
theorem g_dup2 (X : Fx p s m args meth c D ca A nL cc own) {va vb : Value} (hva : va.category = 1) (hvb : vb.category = 1) (d : decode cc pc = .ok (.dup2, 1)) (hn : pc + 1 = n) (k : G p l e R s m args below meth c D A nL Q cells slots L M n lv (va :: vb :: va :: vb :: st)) : G p l e R s m args below meth c D A nL Q cells slots L M pc lv (va :: vb :: st) := by
  intro H locs ls hP hD hS hl
  subst hn
  exact lv_dup2_11 X.1.1 X.1.2.1 d hva hvb (k H locs ls hP hD hS hl)
theorem g_goto (X : Fx p s m args meth c D ca A nL cc own) {off : Int} (d : decode cc pc = .ok (.goto off, 3)) (hn : (pc : Int) + off = (n : Int)) (k : G p l e R s m args below meth c D A nL Q cells slots L M n lv st) : G p l e R s m args below meth c D A nL Q cells slots L M pc lv st := fun H locs ls hP hD hS hl => lv_goto X.1.1 X.1.2.1 d hn (k H locs ls hP hD hS hl)
theorem g_icmp_eq (X : Fx p s m args meth c D ca A nL cc own) {a b : Int} {off : Int} {tgt : Nat} (ha : R32 a) (hb : R32 b) (d : decode cc pc = .ok (.if_icmp .eq off, 3)) (ht : (pc : Int) + off = (tgt : Int)) (hn : pc + 3 = n) (kt : a = b → G p l e R s m args below meth c D A nL Q cells slots L M tgt lv st) (kf : ¬ (a = b) → G p l e R s m args below meth c D A nL Q cells slots L M n lv st) : G p l e R s m args below meth c D A nL Q cells slots L M pc lv (.int (iI b) :: .int (iI a) :: st) := by
  intro H locs ls hP hD hS hl
  subst hn
  refine lv_icmp_eq X.1.1 X.1.2.1 d ht (fun h => ?_) (fun h => ?_)
  · exact kt ((iI_eq ha hb).mp h) H locs ls hP hD hS hl
  · exact kf (fun q => h ((iI_eq ha hb).mpr q)) H locs ls hP hD hS hl
theorem g_if_eq (X : Fx p s m args meth c D ca A nL cc own) {a : Int} {off : Int} {tgt : Nat} (ha : R32 a) (d : decode cc pc = .ok (.ifCond .eq off, 3)) (ht : (pc : Int) + off = (tgt : Int)) (hn : pc + 3 = n) (kt : a = 0 → G p l e R s m args below meth c D A nL Q cells slots L M tgt lv st) (kf : ¬ (a = 0) → G p l e R s m args below meth c D A nL Q cells slots L M n lv st) : G p l e R s m args below meth c D A nL Q cells slots L M pc lv (.int (iI a) :: st) := by
  intro H locs ls hP hD hS hl
  subst hn
  refine lv_if_eq X.1.1 X.1.2.1 d ht (fun h => ?_) (fun h => ?_)
  · rw [iI_zero] at h; exact kt ((iI_eq ha r32_zero).mp h) H locs ls hP hD hS hl
  · rw [iI_zero] at h; exact kf (fun q => h ((iI_eq ha r32_zero).mpr q)) H locs ls hP hD hS hl
theorem g_icmp_ne (X : Fx p s m args meth c D ca A nL cc own) {a b : Int} {off : Int} {tgt : Nat} (ha : R32 a) (hb : R32 b) (d : decode cc pc = .ok (.if_icmp .ne off, 3)) (ht : (pc : Int) + off = (tgt : Int)) (hn : pc + 3 = n) (kt : a ≠ b → G p l e R s m args below meth c D A nL Q cells slots L M tgt lv st) (kf : ¬ (a ≠ b) → G p l e R s m args below meth c D A nL Q cells slots L M n lv st) : G p l e R s m args below meth c D A nL Q cells slots L M pc lv (.int (iI b) :: .int (iI a) :: st) := by
  intro H locs ls hP hD hS hl
  subst hn
  refine lv_icmp_ne X.1.1 X.1.2.1 d ht (fun h => ?_) (fun h => ?_)
  · exact kt (fun q => h ((iI_eq ha hb).mpr q)) H locs ls hP hD hS hl
  · exact kf (fun q => q ((iI_eq ha hb).mp h)) H locs ls hP hD hS hl
theorem g_if_ne (X : Fx p s m args meth c D ca A nL cc own) {a : Int} {off : Int} {tgt : Nat} (ha : R32 a) (d : decode cc pc = .ok (.ifCond .ne off, 3)) (ht : (pc : Int) + off = (tgt : Int)) (hn : pc + 3 = n) (kt : a ≠ 0 → G p l e R s m args below meth c D A nL Q cells slots L M tgt lv st) (kf : ¬ (a ≠ 0) → G p l e R s m args below meth c D A nL Q cells slots L M n lv st) : G p l e R s m args below meth c D A nL Q cells slots L M pc lv (.int (iI a) :: st) := by
  intro H locs ls hP hD hS hl
  subst hn
  refine lv_if_ne X.1.1 X.1.2.1 d ht (fun h => ?_) (fun h => ?_)
  · rw [iI_zero] at h; exact kt (fun q => h ((iI_eq ha r32_zero).mpr q)) H locs ls hP hD hS hl
  · rw [iI_zero] at h; exact kf (fun q => q ((iI_eq ha r32_zero).mp h)) H locs ls hP hD hS hl
theorem g_icmp_lt (X : Fx p s m args meth c D ca A nL cc own) {a b : Int} {off : Int} {tgt : Nat} (ha : R32 a) (hb : R32 b) (d : decode cc pc = .ok (.if_icmp .lt off, 3)) (ht : (pc : Int) + off = (tgt : Int)) (hn : pc + 3 = n) (kt : a < b → G p l e R s m args below meth c D A nL Q cells slots L M tgt lv st) (kf : ¬ (a < b) → G p l e R s m args below meth c D A nL Q cells slots L M n lv st) : G p l e R s m args below meth c D A nL Q cells slots L M pc lv (.int (iI b) :: .int (iI a) :: st) := by
  intro H locs ls hP hD hS hl
  subst hn
  refine lv_icmp_lt X.1.1 X.1.2.1 d ht (fun h => ?_) (fun h => ?_)
  · exact kt ((iI_lt ha hb).mp h) H locs ls hP hD hS hl
  · exact kf (fun q => h ((iI_lt ha hb).mpr q)) H locs ls hP hD hS hl
theorem g_if_lt (X : Fx p s m args meth c D ca A nL cc own) {a : Int} {off : Int} {tgt : Nat} (ha : R32 a) (d : decode cc pc = .ok (.ifCond .lt off, 3)) (ht : (pc : Int) + off = (tgt : Int)) (hn : pc + 3 = n) (kt : a < 0 → G p l e R s m args below meth c D A nL Q cells slots L M tgt lv st) (kf : ¬ (a < 0) → G p l e R s m args below meth c D A nL Q cells slots L M n lv st) : G p l e R s m args below meth c D A nL Q cells slots L M pc lv (.int (iI a) :: st) := by
  intro H locs ls hP hD hS hl
  subst hn
  refine lv_if_lt X.1.1 X.1.2.1 d ht (fun h => ?_) (fun h => ?_)
  · rw [iI_zero] at h; exact kt ((iI_lt ha r32_zero).mp h) H locs ls hP hD hS hl
  · rw [iI_zero] at h; exact kf (fun q => h ((iI_lt ha r32_zero).mpr q)) H locs ls hP hD hS hl
theorem g_icmp_le (X : Fx p s m args meth c D ca A nL cc own) {a b : Int} {off : Int} {tgt : Nat} (ha : R32 a) (hb : R32 b) (d : decode cc pc = .ok (.if_icmp .le off, 3)) (ht : (pc : Int) + off = (tgt : Int)) (hn : pc + 3 = n) (kt : a ≤ b → G p l e R s m args below meth c D A nL Q cells slots L M tgt lv st) (kf : ¬ (a ≤ b) → G p l e R s m args below meth c D A nL Q cells slots L M n lv st) : G p l e R s m args below meth c D A nL Q cells slots L M pc lv (.int (iI b) :: .int (iI a) :: st) := by
  intro H locs ls hP hD hS hl
  subst hn
  refine lv_icmp_le X.1.1 X.1.2.1 d ht (fun h => ?_) (fun h => ?_)
  · exact kt ((iI_le ha hb).mp h) H locs ls hP hD hS hl
  · exact kf (fun q => h ((iI_le ha hb).mpr q)) H locs ls hP hD hS hl
theorem g_if_le (X : Fx p s m args meth c D ca A nL cc own) {a : Int} {off : Int} {tgt : Nat} (ha : R32 a) (d : decode cc pc = .ok (.ifCond .le off, 3)) (ht : (pc : Int) + off = (tgt : Int)) (hn : pc + 3 = n) (kt : a ≤ 0 → G p l e R s m args below meth c D A nL Q cells slots L M tgt lv st) (kf : ¬ (a ≤ 0) → G p l e R s m args below meth c D A nL Q cells slots L M n lv st) : G p l e R s m args below meth c D A nL Q cells slots L M pc lv (.int (iI a) :: st) := by
  intro H locs ls hP hD hS hl
  subst hn
  refine lv_if_le X.1.1 X.1.2.1 d ht (fun h => ?_) (fun h => ?_)
  · rw [iI_zero] at h; exact kt ((iI_le ha r32_zero).mp h) H locs ls hP hD hS hl
  · rw [iI_zero] at h; exact kf (fun q => h ((iI_le ha r32_zero).mpr q)) H locs ls hP hD hS hl
theorem g_icmp_gt (X : Fx p s m args meth c D ca A nL cc own) {a b : Int} {off : Int} {tgt : Nat} (ha : R32 a) (hb : R32 b) (d : decode cc pc = .ok (.if_icmp .gt off, 3)) (ht : (pc : Int) + off = (tgt : Int)) (hn : pc + 3 = n) (kt : b < a → G p l e R s m args below meth c D A nL Q cells slots L M tgt lv st) (kf : ¬ (b < a) → G p l e R s m args below meth c D A nL Q cells slots L M n lv st) : G p l e R s m args below meth c D A nL Q cells slots L M pc lv (.int (iI b) :: .int (iI a) :: st) := by
  intro H locs ls hP hD hS hl
  subst hn
  refine lv_icmp_gt X.1.1 X.1.2.1 d ht (fun h => ?_) (fun h => ?_)
  · exact kt ((iI_lt hb ha).mp h) H locs ls hP hD hS hl
  · exact kf (fun q => h ((iI_lt hb ha).mpr q)) H locs ls hP hD hS hl
theorem g_if_gt (X : Fx p s m args meth c D ca A nL cc own) {a : Int} {off : Int} {tgt : Nat} (ha : R32 a) (d : decode cc pc = .ok (.ifCond .gt off, 3)) (ht : (pc : Int) + off = (tgt : Int)) (hn : pc + 3 = n) (kt : 0 < a → G p l e R s m args below meth c D A nL Q cells slots L M tgt lv st) (kf : ¬ (0 < a) → G p l e R s m args below meth c D A nL Q cells slots L M n lv st) : G p l e R s m args below meth c D A nL Q cells slots L M pc lv (.int (iI a) :: st) := by
  intro H locs ls hP hD hS hl
  subst hn
  refine lv_if_gt X.1.1 X.1.2.1 d ht (fun h => ?_) (fun h => ?_)
  · rw [iI_zero] at h; exact kt ((iI_lt r32_zero ha).mp h) H locs ls hP hD hS hl
  · rw [iI_zero] at h; exact kf (fun q => h ((iI_lt r32_zero ha).mpr q)) H locs ls hP hD hS hl
theorem g_icmp_ge (X : Fx p s m args meth c D ca A nL cc own) {a b : Int} {off : Int} {tgt : Nat} (ha : R32 a) (hb : R32 b) (d : decode cc pc = .ok (.if_icmp .ge off, 3)) (ht : (pc : Int) + off = (tgt : Int)) (hn : pc + 3 = n) (kt : b ≤ a → G p l e R s m args below meth c D A nL Q cells slots L M tgt lv st) (kf : ¬ (b ≤ a) → G p l e R s m args below meth c D A nL Q cells slots L M n lv st) : G p l e R s m args below meth c D A nL Q cells slots L M pc lv (.int (iI b) :: .int (iI a) :: st) := by
  intro H locs ls hP hD hS hl
  subst hn
  refine lv_icmp_ge X.1.1 X.1.2.1 d ht (fun h => ?_) (fun h => ?_)
  · exact kt ((iI_le hb ha).mp h) H locs ls hP hD hS hl
  · exact kf (fun q => h ((iI_le hb ha).mpr q)) H locs ls hP hD hS hl
theorem g_if_ge (X : Fx p s m args meth c D ca A nL cc own) {a : Int} {off : Int} {tgt : Nat} (ha : R32 a) (d : decode cc pc = .ok (.ifCond .ge off, 3)) (ht : (pc : Int) + off = (tgt : Int)) (hn : pc + 3 = n) (kt : 0 ≤ a → G p l e R s m args below meth c D A nL Q cells slots L M tgt lv st) (kf : ¬ (0 ≤ a) → G p l e R s m args below meth c D A nL Q cells slots L M n lv st) : G p l e R s m args below meth c D A nL Q cells slots L M pc lv (.int (iI a) :: st) := by
  intro H locs ls hP hD hS hl
  subst hn
  refine lv_if_ge X.1.1 X.1.2.1 d ht (fun h => ?_) (fun h => ?_)
  · rw [iI_zero] at h; exact kt ((iI_le r32_zero ha).mp h) H locs ls hP hD hS hl
  · rw [iI_zero] at h; exact kf (fun q => h ((iI_le r32_zero ha).mpr q)) H locs ls hP hD hS hl
theorem g_if_eqb (X : Fx p s m args meth c D ca A nL cc own) {c0 : Prop} [Decidable c0] {off : Int} {tgt : Nat} (d : decode cc pc = .ok (.ifCond .eq off, 3)) (ht : (pc : Int) + off = (tgt : Int)) (hn : pc + 3 = n) (kt : ¬ c0 → G p l e R s m args below meth c D A nL Q cells slots L M tgt lv st) (kf : c0 → G p l e R s m args below meth c D A nL Q cells slots L M n lv st) : G p l e R s m args below meth c D A nL Q cells slots L M pc lv (.int (iI (if c0 then 1 else 0)) :: st) := by
  by_cases hc : c0
  · rw [if_pos hc]; exact g_if_eq X ⟨by decide, by decide⟩ d ht hn (fun h => absurd h (by decide)) (fun _ => kf hc)
  · rw [if_neg hc]; exact g_if_eq X ⟨by decide, by decide⟩ d ht hn (fun _ => kt hc) (fun h => absurd rfl h)
theorem g_if_neb (X : Fx p s m args meth c D ca A nL cc own) {c0 : Prop} [Decidable c0] {off : Int} {tgt : Nat} (d : decode cc pc = .ok (.ifCond .ne off, 3)) (ht : (pc : Int) + off = (tgt : Int)) (hn : pc + 3 = n) (kt : c0 → G p l e R s m args below meth c D A nL Q cells slots L M tgt lv st) (kf : ¬ c0 → G p l e R s m args below meth c D A nL Q cells slots L M n lv st) : G p l e R s m args below meth c D A nL Q cells slots L M pc lv (.int (iI (if c0 then 1 else 0)) :: st) := by
  by_cases hc : c0
  · rw [if_pos hc]; exact g_if_ne X ⟨by decide, by decide⟩ d ht hn (fun _ => kt hc) (fun h => absurd (by decide) h)
  · rw [if_neg hc]; exact g_if_ne X ⟨by decide, by decide⟩ d ht hn (fun h => absurd rfl h) (fun _ => kf hc)
theorem g_icmp_same (X : Fx p s m args meth c D ca A nL cc own) {x : Int32} {off : Int} {tgt : Nat} (d : decode cc pc = .ok (.if_icmp .eq off, 3)) (ht : (pc : Int) + off = (tgt : Int)) (kt : G p l e R s m args below meth c D A nL Q cells slots L M tgt lv st) : G p l e R s m args below meth c D A nL Q cells slots L M pc lv (.int x :: .int x :: st) := fun H locs ls hP hD hS hl => lv_icmp_eq X.1.1 X.1.2.1 d ht (fun _ => kt H locs ls hP hD hS hl) (fun h => absurd rfl h)
theorem g_if_raw (X : Fx p s m args meth c D ca A nL cc own) {x : Int32} {off : Int} {tgt : Nat} (d : decode cc pc = .ok (.ifCond .eq off, 3)) (ht : (pc : Int) + off = (tgt : Int)) (hn : pc + 3 = n) (kt : x = 0 → G p l e R s m args below meth c D A nL Q cells slots L M tgt lv st) (kf : ¬ x = 0 → G p l e R s m args below meth c D A nL Q cells slots L M n lv st) : G p l e R s m args below meth c D A nL Q cells slots L M pc lv (.int x :: st) := fun H locs ls hP hD hS hl => lv_if_eq X.1.1 X.1.2.1 d ht (fun h => kt h H locs ls hP hD hS hl) (fun h => hn ▸ kf h H locs ls hP hD hS hl)
theorem g_tsIn (X : Fx p s m args meth c D ca A nL cc own) {dflt lo hi : Int} {offs : Array Int} {len : Nat} {x : Int} {off : Int} {tgt : Nat} (d : decode cc pc = .ok (.tableswitch dflt lo hi offs, len)) (hx : R32 x) (z : Int) (hz : x = z) (h1 : lo ≤ z) (h2 : z ≤ hi) (ho : offs[(z - lo).toNat]? = some off) (ht : (pc : Int) + off = (tgt : Int)) (k : G p l e R s m args below meth c D A nL Q cells slots L M tgt lv st) : G p l e R s m args below meth c D A nL Q cells slots L M pc lv (.int (iI x) :: st) := by
  subst hz
  intro H locs ls hP hD hS hl
  exact lv_tableIn X.1.1 X.1.2.1 d (by rw [iI_toInt hx]; omega) (by rw [iI_toInt hx]; omega) (by rw [iI_toInt hx]; exact ho) ht (k H locs ls hP hD hS hl)
theorem g_tsOut (X : Fx p s m args meth c D ca A nL cc own) {dflt lo hi : Int} {offs : Array Int} {len : Nat} {x : Int} {tgt : Nat} (d : decode cc pc = .ok (.tableswitch dflt lo hi offs, len)) (hx : R32 x) (h1 : x < lo ∨ hi < x) (ht : (pc : Int) + dflt = (tgt : Int)) (k : G p l e R s m args below meth c D A nL Q cells slots L M tgt lv st) : G p l e R s m args below meth c D A nL Q cells slots L M pc lv (.int (iI x) :: st) := by
  intro H locs ls hP hD hS hl
  exact lv_tableOut X.1.1 X.1.2.1 d (by rw [iI_toInt hx]; exact h1) ht (k H locs ls hP hD hS hl)
theorem g_lv {lv' : List (Nat × Value)} (ks : List Nat) (h : lv_pick lv ks = lv') (k : G p l e R s m args below meth c D A nL Q cells slots L M pc lv' st) : G p l e R s m args below meth c D A nL Q cells slots L M pc lv st := fun H locs ls hP hD hS hl => k H locs ls hP hD hS (lv_sub hl ks h)
theorem g_st {st' : List Value} (h : st = st') (k : G p l e R s m args below meth c D A nL Q cells slots L M pc lv st') : G p l e R s m args below meth c D A nL Q cells slots L M pc lv st := h ▸ k
theorem pl_at {a : Nat} (ha : a ∈ L) : ∃ q0 : Nat, (va_pl L M)[q0]? = some (a, M a) := va_pl_get (X := []) (f := M) ha
theorem pl_set {A0 : Nat → Prop} {a q0 : Nat} {x : va_E} (hD : va_D A0 (va_pl L M)) (ha : a ∈ L) (hq : (va_pl L M)[q0]? = some (a, M a)) : (va_pl L M).set q0 (a, x) = va_pl L (va_up M a x) := va_pl_set (X := []) hD ha hq
def Cls (ci : Nat) (C : String) (T : u_T) (N : Nat) (ty : Nat → FieldType) : Prop := (∀ w ∈ u_ws C T N, w ∈ TB) ∧ vwCl[ci]? = some (C, T, N) ∧ (∀ k, k < N → parseFieldDescriptor (T k).2.2.1 = some (ty k)) ∧ (∀ a, a < N → ∀ b, b < N → a ≠ b → (T a).2.1 ≠ (T b).2.1)
theorem cl_X0 : Cls 0 RX0 TX0 4 tyX0 := ⟨uw_X0, rfl, tyX0_ok, nmX0⟩
theorem cl_X1 : Cls 1 RX1 TX1 2 tyX1 := ⟨uw_X1, rfl, tyX1_ok, nmX1⟩
theorem cl_X2 : Cls 2 RX2 TX2 4 tyX2 := ⟨uw_X2, rfl, tyX2_ok, nmX2⟩
theorem cl_X3 : Cls 3 RX3 TX3 5 tyX3 := ⟨uw_X3, rfl, tyX3_ok, nmX3⟩
theorem cl_X4 : Cls 4 RX4 TX4 8 tyX4 := ⟨uw_X4, rfl, tyX4_ok, nmX4⟩
theorem cl_X5 : Cls 5 RX5 TX5 6 tyX5 := ⟨uw_X5, rfl, tyX5_ok, nmX5⟩
theorem cl_X6 : Cls 6 RX6 TX6 12 tyX6 := ⟨uw_X6, rfl, tyX6_ok, nmX6⟩
theorem g_get (X : Fx p s m args meth c D ca A nL cc own) {ref C : String} {T : u_T} {N ci index a : Nat} {ty : Nat → FieldType} {fs : List Value} {v : Value} (hc : Cls ci C T N ty) (k : Nat) (hk : k < N) (hlink : Cond.fieldLink own index ref (T k).2.1 (T k).2.2.1 ∈ TB) (href : (T k).1 = ref) (ha : a ∈ L) (hM : M a = .inr (ci, fs)) (hv : fs[k]? = some v) (d : decode cc pc = .ok (.getfield index, 3)) (hn : pc + 3 = n) (kk : G p l e R s m args below meth c D A nL Q cells slots L M n lv (v :: st)) : G p l e R s m args below meth c D A nL Q cells slots L M pc lv (.ref a :: st) := by
  intro H locs ls hP hD hS hl
  subst hn
  obtain ⟨q0, hq⟩ := pl_at (M := M) ha
  rw [hM] at hq
  exact va_get X.1.1 X.1.2.1 X.1.2.2.2.2 hc.1 X.1.2.2.2.1 X.2.1 hP q0 hq hc.2.1 k hk (X.1.2.2.2.2 _ hlink) (fun _ h => href ▸ h) hv d (kk H locs ls hP hD hS hl)
theorem g_getN (X : Fx p s m args meth c D ca A nL cc own) {host : String} {ref C : String} {T : u_T} {N ci index a : Nat} {ty : Nat → FieldType} {fs : List Value} {v : Value} (hc : Cls ci C T N ty) (k : Nat) (hk : k < N) (hlink : Cond.fieldLinkNest own index ref (T k).2.1 (T k).2.2.1 host ∈ NW) (href : (T k).1 = ref) (ha : a ∈ L) (hM : M a = .inr (ci, fs)) (hv : fs[k]? = some v) (d : decode cc pc = .ok (.getfield index, 3)) (hn : pc + 3 = n) (kk : G p l e R s m args below meth c D A nL Q cells slots L M n lv (v :: st)) : G p l e R s m args below meth c D A nL Q cells slots L M pc lv (.ref a :: st) := by
  intro H locs ls hP hD hS hl
  subst hn
  obtain ⟨q0, hq⟩ := pl_at (M := M) ha
  rw [hM] at hq
  exact va_getN X.1.1 X.1.2.1 X.1.2.2.2.2 hc.1 X.1.2.2.2.1 X.2.1 hP q0 hq hc.2.1 k hk (va_Nw.use rfl (X.2.2.1 _ hlink)) (fun _ h => href ▸ h) hv d (kk H locs ls hP hD hS hl)
theorem g_put (X : Fx p s m args meth c D ca A nL cc own) {ref C : String} {T : u_T} {N ci index a : Nat} {ty : Nat → FieldType} {fs : List Value} {v : Value} {fs' : List Value} (hc : Cls ci C T N ty) (k : Nat) (hk : k < N) (hlink : Cond.fieldLink own index ref (T k).2.1 (T k).2.2.1 ∈ TB) (href : (T k).1 = ref) (ha : a ∈ L) (hM : M a = .inr (ci, fs)) (hfin : (T k).2.2.2 = false) (hnar : narrow (ty k) v = v) (hfit : fits (ty k) v = true) (hl0 : k < fs.length) (hfs : fs.set k v = fs') (d : decode cc pc = .ok (.putfield index, 3)) (hn : pc + 3 = n) (kk : ∀ M1 : Mem, M1 a = .inr (ci, fs') → (∀ b, b ≠ a → M1 b = M b) → G p l e R s m args below meth c D A nL Q cells slots L M1 n lv st) : G p l e R s m args below meth c D A nL Q cells slots L M pc lv (v :: .ref a :: st) := by
  intro H locs ls hP hD hS hl
  subst hn
  subst hfs
  obtain ⟨q0, hq0⟩ := pl_at (M := M) ha
  have hq := hq0
  rw [hM] at hq
  refine va_put X.1.1 X.1.2.1 X.1.2.2.2.2 hc.1 ty hc.2.2.1 hc.2.2.2 X.1.2.2.2.1 X.2.1 hP hD hS q0 hq hc.2.1 k hk (X.1.2.2.2.2 _ hlink) (fun _ h => href ▸ h) hfin (hc.2.2.1 k hk) hnar hfit hl0 d (fun H1 locs1 hP1 hD1 hS1 => ?_)
  rw [pl_set hD ha hq0] at hP1 hD1
  exact kk _ (va_up_self _ _ _) (fun b hb => va_up_ne _ _ hb) H1 locs1 ls hP1 hD1 hS1 hl
theorem g_putN (X : Fx p s m args meth c D ca A nL cc own) {host : String} {ref C : String} {T : u_T} {N ci index a : Nat} {ty : Nat → FieldType} {fs : List Value} {v : Value} {fs' : List Value} (hc : Cls ci C T N ty) (k : Nat) (hk : k < N) (hlink : Cond.fieldLinkNest own index ref (T k).2.1 (T k).2.2.1 host ∈ NW) (href : (T k).1 = ref) (ha : a ∈ L) (hM : M a = .inr (ci, fs)) (hfin : (T k).2.2.2 = false) (hnar : narrow (ty k) v = v) (hfit : fits (ty k) v = true) (hl0 : k < fs.length) (hfs : fs.set k v = fs') (d : decode cc pc = .ok (.putfield index, 3)) (hn : pc + 3 = n) (kk : ∀ M1 : Mem, M1 a = .inr (ci, fs') → (∀ b, b ≠ a → M1 b = M b) → G p l e R s m args below meth c D A nL Q cells slots L M1 n lv st) : G p l e R s m args below meth c D A nL Q cells slots L M pc lv (v :: .ref a :: st) := by
  intro H locs ls hP hD hS hl
  subst hn
  subst hfs
  obtain ⟨q0, hq0⟩ := pl_at (M := M) ha
  have hq := hq0
  rw [hM] at hq
  refine va_putN X.1.1 X.1.2.1 X.1.2.2.2.2 hc.1 ty hc.2.2.1 hc.2.2.2 X.1.2.2.2.1 X.2.1 hP hD hS q0 hq hc.2.1 k hk (va_Nw.use rfl (X.2.2.1 _ hlink)) (fun _ h => href ▸ h) hfin (hc.2.2.1 k hk) hnar hfit hl0 d (fun H1 locs1 hP1 hD1 hS1 => ?_)
  rw [pl_set hD ha hq0] at hP1 hD1
  exact kk _ (va_up_self _ _ _) (fun b hb => va_up_ne _ _ hb) H1 locs1 ls hP1 hD1 hS1 hl
theorem g_putF (X : Fx p s m args meth c D ca A nL cc own) {ref C : String} {T : u_T} {N ci index a : Nat} {ty : Nat → FieldType} {fs : List Value} {v : Value} {fs' : List Value} (hc : Cls ci C T N ty) (k : Nat) (hk : k < N) (hlink : Cond.fieldLink own index ref (T k).2.1 (T k).2.2.1 ∈ TB) (href : (T k).1 = ref) (ha : a ∈ L) (hM : M a = .inr (ci, fs)) (hfin : (T k).2.2.2 = true) (hin2 : meth.name = "<init>") (hdecl : (T k).1 = own) (hnar : narrow (ty k) v = v) (hfit : fits (ty k) v = true) (hl0 : k < fs.length) (hfs : fs.set k v = fs') (d : decode cc pc = .ok (.putfield index, 3)) (hn : pc + 3 = n) (kk : ∀ M1 : Mem, M1 a = .inr (ci, fs') → (∀ b, b ≠ a → M1 b = M b) → G p l e R s m args below meth c D A nL Q cells slots L M1 n lv st) : G p l e R s m args below meth c D A nL Q cells slots L M pc lv (v :: .ref a :: st) := by
  intro H locs ls hP hD hS hl
  subst hn
  subst hfs
  obtain ⟨q0, hq0⟩ := pl_at (M := M) ha
  have hq := hq0
  rw [hM] at hq
  refine va_putF X.1.1 X.1.2.1 X.1.2.2.2.2 hc.1 ty hc.2.2.1 hc.2.2.2 X.1.2.2.2.1 X.2.1 hP hD hS q0 hq hc.2.1 k hk (X.1.2.2.2.2 _ hlink) (fun _ h => href ▸ h) hfin hin2 hdecl (hc.2.2.1 k hk) hnar hfit hl0 d (fun H1 locs1 hP1 hD1 hS1 => ?_)
  rw [pl_set hD ha hq0] at hP1 hD1
  exact kk _ (va_up_self _ _ _) (fun b hb => va_up_ne _ _ hb) H1 locs1 ls hP1 hD1 hS1 hl
theorem g_iald (X : Fx p s m args meth c D ca A nL cc own) {a N : Nat} {f : Int → Int} {i : Int} (ha : a ∈ L) (hM : M a = cI ca N f) (hi : 0 ≤ i ∧ i < N) (hN : N < 2147483648) (d : decode cc pc = .ok (.iaload, 1)) (hn : pc + 1 = n) (kk : G p l e R s m args below meth c D A nL Q cells slots L M n lv (.int (iI (f i)) :: st)) : G p l e R s m args below meth c D A nL Q cells slots L M pc lv (.int (iI i) :: .ref a :: st) := by
  intro H locs ls hP hD hS hl
  subst hn
  obtain ⟨q0, hq⟩ := pl_at (M := M) ha
  rw [hM] at hq
  refine va_iald X.1.1 X.1.2.1 X.2.1 hP q0 1 hq rfl (iI_in hi.1 hi.2 hN) d ?_
  rw [trw_at hi.1 hi.2 hN]
  exact kk H locs ls hP hD hS hl
theorem g_cald (X : Fx p s m args meth c D ca A nL cc own) {a N : Nat} {f : Int → Int} {i : Int} (ha : a ∈ L) (hM : M a = cC ca N f) (hi : 0 ≤ i ∧ i < N) (hN : N < 2147483648) (d : decode cc pc = .ok (.caload, 1)) (hn : pc + 1 = n) (kk : G p l e R s m args below meth c D A nL Q cells slots L M n lv (.int (iI (f i)) :: st)) : G p l e R s m args below meth c D A nL Q cells slots L M pc lv (.int (iI i) :: .ref a :: st) := by
  intro H locs ls hP hD hS hl
  subst hn
  obtain ⟨q0, hq⟩ := pl_at (M := M) ha
  rw [hM] at hq
  refine va_cald X.1.1 X.1.2.1 X.2.1 hP q0 0 hq rfl (iI_in hi.1 hi.2 hN) d ?_
  rw [trw_at hi.1 hi.2 hN]
  exact kk H locs ls hP hD hS hl
theorem g_zald (X : Fx p s m args meth c D ca A nL cc own) {a N : Nat} {f : Int → Int} {i : Int} (ha : a ∈ L) (hM : M a = cZ ca N f) (hi : 0 ≤ i ∧ i < N) (hN : N < 2147483648) (d : decode cc pc = .ok (.baload, 1)) (hn : pc + 1 = n) (kk : G p l e R s m args below meth c D A nL Q cells slots L M n lv (.int (iI (f i)) :: st)) : G p l e R s m args below meth c D A nL Q cells slots L M pc lv (.int (iI i) :: .ref a :: st) := by
  intro H locs ls hP hD hS hl
  subst hn
  obtain ⟨q0, hq⟩ := pl_at (M := M) ha
  rw [hM] at hq
  refine va_zald X.1.1 X.1.2.1 X.2.1 hP q0 2 hq rfl (iI_in hi.1 hi.2 hN) d ?_
  rw [trw_at hi.1 hi.2 hN]
  exact kk H locs ls hP hD hS hl
theorem g_iast (X : Fx p s m args meth c D ca A nL cc own) {a N : Nat} {f : Int → Int} {i v : Int} (ha : a ∈ L) (hM : M a = cI ca N f) (hi : 0 ≤ i ∧ i < N) (hN : N < 2147483648) (d : decode cc pc = .ok (.iastore, 1)) (hn : pc + 1 = n) (kk : ∀ M1 : Mem, M1 a = cI ca N (up f i v) → (∀ b, b ≠ a → M1 b = M b) → G p l e R s m args below meth c D A nL Q cells slots L M1 n lv st) : G p l e R s m args below meth c D A nL Q cells slots L M pc lv (.int (iI v) :: .int (iI i) :: .ref a :: st) := by
  intro H locs ls hP hD hS hl
  subst hn
  obtain ⟨q0, hq0⟩ := pl_at (M := M) ha
  have hq := hq0
  rw [hM] at hq
  refine va_iast X.1.1 X.1.2.1 X.2.1 hP hD hS q0 1 hq rfl (iI_in hi.1 hi.2 hN) d (fun H1 locs1 hP1 hD1 hS1 => ?_)
  rw [pl_set hD ha hq0, up_row hi.1 hi.2 hN] at hP1 hD1
  exact kk _ (va_up_self _ _ _) (fun b hb => va_up_ne _ _ hb) H1 locs1 ls hP1 hD1 hS1 hl
theorem g_cast (X : Fx p s m args meth c D ca A nL cc own) {a N : Nat} {f : Int → Int} {i v : Int} (ha : a ∈ L) (hM : M a = cC ca N f) (hi : 0 ≤ i ∧ i < N) (hN : N < 2147483648) (hv : vp_nar .char (iI v) = iI v) (d : decode cc pc = .ok (.castore, 1)) (hn : pc + 1 = n) (kk : ∀ M1 : Mem, M1 a = cC ca N (up f i v) → (∀ b, b ≠ a → M1 b = M b) → G p l e R s m args below meth c D A nL Q cells slots L M1 n lv st) : G p l e R s m args below meth c D A nL Q cells slots L M pc lv (.int (iI v) :: .int (iI i) :: .ref a :: st) := by
  intro H locs ls hP hD hS hl
  subst hn
  obtain ⟨q0, hq0⟩ := pl_at (M := M) ha
  have hq := hq0
  rw [hM] at hq
  refine va_cast X.1.1 X.1.2.1 X.2.1 hP hD hS q0 0 hq rfl (iI_in hi.1 hi.2 hN) d (fun H1 locs1 hP1 hD1 hS1 => ?_)
  rw [hv] at hP1 hD1
  rw [pl_set hD ha hq0, up_row hi.1 hi.2 hN] at hP1 hD1
  exact kk _ (va_up_self _ _ _) (fun b hb => va_up_ne _ _ hb) H1 locs1 ls hP1 hD1 hS1 hl
theorem g_zast (X : Fx p s m args meth c D ca A nL cc own) {a N : Nat} {f : Int → Int} {i v : Int} (ha : a ∈ L) (hM : M a = cZ ca N f) (hi : 0 ≤ i ∧ i < N) (hN : N < 2147483648) (hv : vp_nar .boolean (iI v) = iI v) (d : decode cc pc = .ok (.bastore, 1)) (hn : pc + 1 = n) (kk : ∀ M1 : Mem, M1 a = cZ ca N (up f i v) → (∀ b, b ≠ a → M1 b = M b) → G p l e R s m args below meth c D A nL Q cells slots L M1 n lv st) : G p l e R s m args below meth c D A nL Q cells slots L M pc lv (.int (iI v) :: .int (iI i) :: .ref a :: st) := by
  intro H locs ls hP hD hS hl
  subst hn
  obtain ⟨q0, hq0⟩ := pl_at (M := M) ha
  have hq := hq0
  rw [hM] at hq
  refine va_zast X.1.1 X.1.2.1 X.2.1 hP hD hS q0 2 hq rfl (iI_in hi.1 hi.2 hN) d (fun H1 locs1 hP1 hD1 hS1 => ?_)
  rw [hv] at hP1 hD1
  rw [pl_set hD ha hq0, up_row hi.1 hi.2 hN] at hP1 hD1
  exact kk _ (va_up_self _ _ _) (fun b hb => va_up_ne _ _ hb) H1 locs1 ls hP1 hD1 hS1 hl
theorem g_aald (X : Fx p s m args meth c D ca A nL cc own) {a N t : Nat} {C : String} {f : Int → Option Nat} {i : Int} {v : Nat} (ht : (tyL ca)[t]? = some (ca t, .object C)) (ha : a ∈ L) (hM : M a = cR ca t N f) (hi : 0 ≤ i ∧ i < N) (hN : N < 2147483648) (hv : f i = some v) (d : decode cc pc = .ok (.aaload, 1)) (hn : pc + 1 = n) (kk : G p l e R s m args below meth c D A nL Q cells slots L M n lv (.ref v :: st)) : G p l e R s m args below meth c D A nL Q cells slots L M pc lv (.int (iI i) :: .ref a :: st) := by
  intro H locs ls hP hD hS hl
  subst hn
  obtain ⟨q0, hq⟩ := pl_at (M := M) ha
  rw [hM] at hq
  refine va_aldq X.1.1 X.1.2.1 X.2.1 hP q0 t hq ht (iI_in hi.1 hi.2 hN) d ?_
  show W p l e R s m args below meth c H locs cells slots Q (F0 m (pc + 1) ls (va_rf (f (((iI i).toNatClampNeg : Nat) : Int)) :: st))
  rw [iI_cl hi.1 (by omega), hv]
  exact kk H locs ls hP hD hS hl
theorem g_aast (X : Fx p s m args meth c D ca A nL cc own) {a N t ci v : Nat} {f : Int → Option Nat} {i : Int} {vs : List Value} {r : vw_C} (ht : (tyL ca)[t]? = some (ca t, .object r.1)) (hr : vwCl[ci]? = some r) (ha : a ∈ L) (hM : M a = cR ca t N f) (hb : v ∈ L) (hMv : M v = .inr (ci, vs)) (hi : 0 ≤ i ∧ i < N) (hN : N < 2147483648) (d : decode cc pc = .ok (.aastore, 1)) (hn : pc + 1 = n) (kk : ∀ M1 : Mem, M1 a = cR ca t N (up f i (some v)) → (∀ b, b ≠ a → M1 b = M b) → G p l e R s m args below meth c D A nL Q cells slots L M1 n lv st) : G p l e R s m args below meth c D A nL Q cells slots L M pc lv (.ref v :: .int (iI i) :: .ref a :: st) := by
  intro H locs ls hP hD hS hl
  subst hn
  obtain ⟨q0, hq0⟩ := pl_at (M := M) ha
  have hq := hq0
  rw [hM] at hq
  obtain ⟨q1, hq1⟩ := pl_at (M := M) hb
  rw [hMv] at hq1
  refine va_astq X.1.1 X.1.2.1 X.2.1 hP hD hS q0 t q1 ci hq ht hq1 hr (iI_in hi.1 hi.2 hN) d (fun H1 locs1 hP1 hD1 hS1 => ?_)
  rw [pl_set hD ha hq0, up_rowq hi.1 (by omega)] at hP1 hD1
  exact kk _ (va_up_self _ _ _) (fun b hb => va_up_ne _ _ hb) H1 locs1 ls hP1 hD1 hS1 hl
theorem g_gets (X : Fx p s m args meth c D ca A nL cc own) {f d0 host : String} {ty : FieldType} {N index : Nat} {g : Int → Int} (hlink : Cond.fieldLink own index "StrideBanks" f d0 ∈ TB) (hz : Sz f d0 ty N g A s s.heap) (d : decode cc pc = .ok (.getstatic index, 3)) (hn : pc + 3 = n) (kk : ∀ t : Nat, va_T ty t N (fun j : Nat => .int (iI (g (j : Int)))) A s s.heap → G p l e R s m args below meth c D A nL Q cells slots L M n lv (.ref t :: st)) : G p l e R s m args below meth c D A nL Q cells slots L M pc lv st := by
  intro H locs ls hP hD hS hl
  subst hn
  obtain ⟨t, h1, h2⟩ := hz
  exact va_gets X.1.1 X.1.2.1 h1 hS X.1.2.2.2.1 (X.1.2.2.2.2 _ hlink) (fun _ h => h) d (kk t h2 H locs ls hP hD hS hl)
theorem g_getsN (X : Fx p s m args meth c D ca A nL cc own) {f d0 host : String} {ty : FieldType} {N index : Nat} {g : Int → Int} (hlink : Cond.fieldLinkNest own index "StrideBanks" f d0 host ∈ NW) (hz : Sz f d0 ty N g A s s.heap) (d : decode cc pc = .ok (.getstatic index, 3)) (hn : pc + 3 = n) (kk : ∀ t : Nat, va_T ty t N (fun j : Nat => .int (iI (g (j : Int)))) A s s.heap → G p l e R s m args below meth c D A nL Q cells slots L M n lv (.ref t :: st)) : G p l e R s m args below meth c D A nL Q cells slots L M pc lv st := by
  intro H locs ls hP hD hS hl
  subst hn
  obtain ⟨t, h1, h2⟩ := hz
  exact va_getsN X.1.1 X.1.2.1 h1 hS X.1.2.2.2.1 (va_Nw.use rfl (X.2.2.1 _ hlink)) (fun _ h => h) d (kk t h2 H locs ls hP hD hS hl)
theorem g_ti (X : Fx p s m args meth c D ca A nL cc own) {t N : Nat} {g : Int → Int} {i : Int} (hT : va_T .int t N (fun j : Nat => .int (iI (g (j : Int)))) A s s.heap) (hi : 0 ≤ i ∧ i < N) (hN : N < 2147483648) (d : decode cc pc = .ok (.iaload, 1)) (hn : pc + 1 = n) (kk : G p l e R s m args below meth c D A nL Q cells slots L M n lv (.int (iI (g i)) :: st)) : G p l e R s m args below meth c D A nL Q cells slots L M pc lv (.int (iI i) :: .ref t :: st) := by
  intro H locs ls hP hD hS hl
  subst hn
  exact va_ti X.1.1 X.1.2.1 hT hS (iI_in hi.1 hi.2 hN) (v := .int (iI (g i))) (by show Value.int (iI (g (((iI i).toNatClampNeg : Nat) : Int))) = _; rw [iI_cl hi.1 (by omega)]) d (kk H locs ls hP hD hS hl)
theorem g_tc (X : Fx p s m args meth c D ca A nL cc own) {t N : Nat} {g : Int → Int} {i : Int} (hT : va_T .char t N (fun j : Nat => .int (iI (g (j : Int)))) A s s.heap) (hi : 0 ≤ i ∧ i < N) (hN : N < 2147483648) (d : decode cc pc = .ok (.caload, 1)) (hn : pc + 1 = n) (kk : G p l e R s m args below meth c D A nL Q cells slots L M n lv (.int (iI (g i)) :: st)) : G p l e R s m args below meth c D A nL Q cells slots L M pc lv (.int (iI i) :: .ref t :: st) := by
  intro H locs ls hP hD hS hl
  subst hn
  exact va_tc X.1.1 X.1.2.1 hT hS (iI_in hi.1 hi.2 hN) (v := .int (iI (g i))) (by show Value.int (iI (g (((iI i).toNatClampNeg : Nat) : Int))) = _; rw [iI_cl hi.1 (by omega)]) d (kk H locs ls hP hD hS hl)
theorem g_max (X : Fx p s m args meth c D ca A nL cc own) {index : Nat} {a b : Int} (ha : R32 a) (hb : R32 b) (hlink : Cond.methodLink own index yJ9_max_7cf53 ∈ TB) (hR : 1 ≤ R.frames ∧ 21 ≤ R.locals) (hcs : cells ≤ R.cells ∧ slots ≤ R.slots) (hst : (st.map fun v => v.category).sum ≤ 8) (d : decode cc pc = .ok (.invokestatic index, 3)) (hn : pc + 3 = n) (kk : G p l e R s m args below meth c D A nL Q cells slots L M n lv (.int (iI (if a < b then b else a)) :: st)) : G p l e R s m args below meth c D A nL Q cells slots L M pc lv (.int (iI b) :: .int (iI a) :: st) := by
  intro H locs ls hP hD hS hl
  subst hn
  refine va_mmax X.1.1 X.1.2.1 (X.1.2.2.1.trans hl.1.symm) X.1.2.2.2.1 (X.1.2.2.2.2 _ hlink) (X.1.2.2.2.2 _ wt_J9_max_7cf53) (X.1.2.2.2.2 _ w0_J9) (X.1.2.2.2.2 _ wc_J9_max_7cf53) hR.1 (by omega) hcs.1 hcs.2 d ?_
  have hh : (if iI a < iI b then iI b else iI a) = iI (if a < b then b else a) := by
    by_cases h : a < b
    · rw [if_pos h, if_pos ((iI_lt ha hb).mpr h)]
    · rw [if_neg h, if_neg (fun q => h ((iI_lt ha hb).mp q))]
  rw [hh]
  exact kk H locs ls hP hD hS hl
theorem g_min (X : Fx p s m args meth c D ca A nL cc own) {index : Nat} {a b : Int} (ha : R32 a) (hb : R32 b) (hlink : Cond.methodLink own index yJ9_min_7cf53 ∈ TB) (hR : 1 ≤ R.frames ∧ 21 ≤ R.locals) (hcs : cells ≤ R.cells ∧ slots ≤ R.slots) (hst : (st.map fun v => v.category).sum ≤ 8) (d : decode cc pc = .ok (.invokestatic index, 3)) (hn : pc + 3 = n) (kk : G p l e R s m args below meth c D A nL Q cells slots L M n lv (.int (iI (if b < a then b else a)) :: st)) : G p l e R s m args below meth c D A nL Q cells slots L M pc lv (.int (iI b) :: .int (iI a) :: st) := by
  intro H locs ls hP hD hS hl
  subst hn
  refine va_mmin X.1.1 X.1.2.1 (X.1.2.2.1.trans hl.1.symm) X.1.2.2.2.1 (X.1.2.2.2.2 _ hlink) (X.1.2.2.2.2 _ wt_J9_min_7cf53) (X.1.2.2.2.2 _ w0_J9) (X.1.2.2.2.2 _ wc_J9_min_7cf53) hR.1 (by omega) hcs.1 hcs.2 d ?_
  have hh : (if iI b < iI a then iI b else iI a) = iI (if b < a then b else a) := by
    by_cases h : b < a
    · rw [if_pos h, if_pos ((iI_lt hb ha).mpr h)]
    · rw [if_neg h, if_neg (fun q => h ((iI_lt hb ha).mp q))]
  rw [hh]
  exact kk H locs ls hP hD hS hl
end Rows
end
section
section Calls2
variable {p : Program} {l : Launch} {e : Env} {R : Room} {s : State} {m : MethodId} {args : Array Value} {below : List Frame} {meth : Method} {c : Code} {D : va_G} {ca : Nat → ClassId} {A : Nat → Prop} {nL : Nat} {Q : State → Prop} {cells slots : Nat} {cc : ByteArray} {own : String} {L : List Nat} {M : Mem} {pc n : Nat} {lv : List (Nat × Value)} {st rest : List Value}
/-- ends -/
theorem qk_end {K : Option Value → List Nat → Mem → Prop} {H : Heap} {locs : List Loc} {r : Option Value} {t : State} (hK : K r L M) (hP : va_P D vwCl (va_pl L M) H) (hD : va_D A (va_pl L M)) (hS : va_S A s.heap H locs) (ht : t.heap = H) : Qk D A K args s (.returned r) t :=
  ⟨⟨r, L, M, rfl, hK, by rw [ht]; exact hP, hD⟩, hS.F ht⟩
theorem g_iret {K : Option Value → List Nat → Mem → Prop} {mc ms : Nat} (X : Fx p s m args meth c D ca A nL cc own) (hr : meth.sig.returnType = some .int) {v : Int32} (hc : cells ≤ mc ∧ slots ≤ ms) (d : decode cc pc = .ok (.ireturn, 1)) (hK : K (some (.int v)) L M) : G p l e R s m args below meth c D A nL (MQ below (Qk D A K) args s mc ms A) cells slots L M pc lv [.int v] := by
  intro H locs ls hP hD hS hl
  refine W.widen hc.1 hc.2 ?_
  exact W.iret X.1.1 X.1.2.1 hr (fun t ht _ => qk_end hK hP hD hS ht) hS.2.2 d X.2.2.2.2.2
theorem g_zret {K : Option Value → List Nat → Mem → Prop} {mc ms : Nat} (X : Fx p s m args meth c D ca A nL cc own) (hr : meth.sig.returnType = some .boolean) {v : Int32} (hv : narrow .boolean (.int v) = .int v) (hc : cells ≤ mc ∧ slots ≤ ms) (d : decode cc pc = .ok (.ireturn, 1)) (hK : K (some (.int v)) L M) : G p l e R s m args below meth c D A nL (MQ below (Qk D A K) args s mc ms A) cells slots L M pc lv [.int v] := by
  intro H locs ls hP hD hS hl
  refine W.widen hc.1 hc.2 ?_
  exact W.zret X.1.1 X.1.2.1 hr hv (fun t ht _ => qk_end hK hP hD hS ht) hS.2.2 d X.2.2.2.2.2
theorem nar_ite {c0 : Prop} [Decidable c0] : narrow .boolean (.int (iI (if c0 then 1 else 0))) = .int (iI (if c0 then 1 else 0)) := by
  by_cases h : c0
  · rw [if_pos h]; rfl
  · rw [if_neg h]; rfl
theorem g_vret {K : Option Value → List Nat → Mem → Prop} {mc ms : Nat} (X : Fx p s m args meth c D ca A nL cc own) (hr : meth.sig.returnType = none) (hc : cells ≤ mc ∧ slots ≤ ms) (d : decode cc pc = .ok (.return_, 1)) (hK : K none L M) : G p l e R s m args below meth c D A nL (MQ below (Qk D A K) args s mc ms A) cells slots L M pc lv [] := by
  intro H locs ls hP hD hS hl
  refine W.widen hc.1 hc.2 ?_
  exact W.vret X.1.1 X.1.2.1 hr (fun t ht _ => qk_end hK hP hD hS ht) hS.2.2 d X.2.2.2.2.2
/-- what a callee is given -/
theorem wp_at (X : Fx p s m args meth c D ca A nL cc own) {H : Heap} {locs : List Loc} (hP : va_P D vwCl (va_pl L M) H) (hD : va_D A (va_pl L M)) (hS : va_S A s.heap H locs) {U : State} (hU : U.heap = H) (hW : s.WarmedH U.vm) : Wp D ca L M H.size U :=
  ⟨by rw [hU], by rw [hU]; exact hP, pl_nodup hD, X.2.1.moved hW.alike, fun w hw => nw_warm (List.mem_filter.mp hw).2 hW (X.2.2.1 w hw), by
    rw [hU]
    exact X.2.2.2.1.on hW.alike hS.2.1 (fun q hq => hq.elim (fun h => pl_A hD q h) (fun h => X.2.2.2.2.1 q (Nat.le_trans hS.1 h)))⟩
theorem al_A (X : Fx p s m args meth c D ca A nL cc own) {H : Heap} {locs : List Loc} (hD : va_D A (va_pl L M)) (hS : va_S A s.heap H locs) : ∀ q, AL L H.size q → A q := fun q hq => hq.elim (fun h => pl_A hD q h) (fun h => X.2.2.2.2.1 q (Nat.le_trans hS.1 h))
theorem g_run (X : Fx p s m args meth c D ca A nL cc own) {mc ms : Nat} {K : Option Value → List Nat → Mem → Prop} {a : Array Value} {H : Heap} {locs : List Loc} {ls : Array Slot} (hD : va_D A (va_pl L M)) (hS : va_S A s.heap H locs) (hl : lv_has ls nL lv)
    (hr : va_Run p l e R s m args below meth c H locs cells slots mc ms (F0 m pc ls st) rest (Qk D (AL L H.size) K a) (AL L H.size))
    (hn : pc + 3 = n) (kk : ∀ r L1 M1, K r L1 M1 → G p l e R s m args below meth c D A nL Q (cells + mc) (slots + ms) L1 M1 n lv (r.toList ++ rest)) : W p l e R s m args below meth c H locs cells slots Q (F0 m pc ls st) := by
  subst hn
  intro T hT XS
  obtain ⟨v, st₀, t, T', L', h0, X', hL, e1, e2, ⟨⟨r, L1, M1, hv, hp, hP1, hD1⟩, hz, hk⟩, sto⟩ := hr T hT XS
  cases hv
  rw [h0] at hz hk
  have hA := al_A X hD hS
  obtain ⟨t2, a1, b1⟩ := kk v L1 M1 hp T'.heap (locs ++ L') ls (by rw [e1]; exact hP1) (hD1.weaken (fun _ _ _ h => hA _ h))
    ⟨Nat.le_trans hS.1 (by rw [e1]; exact hz), fun q h1 h2 => by rw [e1, hk q (Nat.lt_of_lt_of_le h1 hS.1) (fun z => h2 (hA q z))]; exact hS.2.1 q h1 h2, fun q hq => by
      rcases List.mem_append.mp hq with h | h
      · exact hS.2.2 q h
      · exact hA _ (hL q h)⟩ hl T' rfl X'
  exact ⟨t2, sto t2 a1, b1⟩
theorem good_cons {y : MethodName} {bytes : ByteArray} {maxL : Nat} {ret : Option FieldType} (w : Cond.code y bytes maxL ret ∈ TB) : GoodIn TB (wm y bytes maxL ret) := fun x hx => (List.mem_cons.mp hx).elim (fun h => tb_good x (h ▸ w)) (fun h => tb_good x h)
theorem good_app {b ws : List Cond} (h : ∀ w ∈ b, w ∈ TB) (g : GoodIn TB ws) : GoodIn TB (b ++ ws) := fun x hx => (List.mem_append.mp hx).elim (fun q => tb_good x (h x q)) (fun q => g x q)
abbrev CtArgs (y : MethodName) (k : Nat) : Prop := y.cls ≠ "java/lang/invoke/MethodHandle" ∧ y.cls ≠ "java/lang/invoke/VarHandle" ∧ (parseMethodDescriptor y.desc).map (fun d => d.parameters.length) = some k
/-- a method of the object's own class -/
theorem g_callV (X : Fx p s m args meth c D ca A nL cc own) {y : MethodName} {bytes : ByteArray} {maxL : Nat} {ret : Option FieldType} {h mc ms : Nat} {Pre : PreT} {Post : PostT} (hC : Ct l y bytes maxL ret h mc ms Pre Post) {index b ci k : Nat} {As fs : List Value} {C : String} {T : u_T} {N : Nat} {ty : Nat → FieldType} (hcl : Cls ci C T N ty) (hyC : y.cls = C)
    (hy : CtArgs y k) (hk : As.length = k) (wl : Cond.methodLink own index y ∈ TB) (wi : Cond.instanceMethod y ∈ TB) (wsel : Cond.selects C y y ∈ TB) (wc : Cond.code y bytes maxL ret ∈ TB) (w0 : Cond.initialized C ∈ TB) (hR : h + 1 ≤ R.frames ∧ 8 + (maxL + 11) + 40 * h ≤ R.locals)
    (hb : b ∈ L) (hMb : M b = .inr (ci, fs)) (hsm : (rest.map fun v => v.category).sum ≤ 8) (hcs : cells + mc ≤ R.cells ∧ slots + ms ≤ R.slots) (hst : st = As.reverse ++ .ref b :: rest) (d : decode cc pc = .ok (.invokevirtual index, 3)) (hn : pc + 3 = n) (hpre : Pre ca (.ref b :: As) L M)
    (kk : ∀ r L1 M1, Post ca (.ref b :: As) L M r L1 M1 → G p l e R s m args below meth c D A nL Q (cells + mc) (slots + ms) L1 M1 n lv (r.toList ++ rest)) : G p l e R s m args below meth c D A nL Q cells slots L M pc lv st := by
  intro H locs ls hP hD hS hl
  subst hk
  obtain ⟨q0, hq⟩ := pl_at (M := M) hb
  rw [hMb] at hq
  have hr := va_runV (p := p) (l := l) (e := e) (R := R) (s := s) (m := m) (args := args) (below := below) (meth := meth) (c := c) (H := H) (locs := locs) (cells := cells) (slots := slots) (C := C) (b := b) (As := As) (rest := rest) (g := F0 m pc ls st) X.1 (hC D ca (.ref b :: As) L M H.size hpre)
    (cwV As.length X.1.2.2.2.2 (good_app (b := [.methodLink own index y, .instanceMethod y, .selects C y y, .initialized C]) (by
      intro w hw
      simp only [List.mem_cons, List.mem_nil_iff, or_false] at hw
      rcases hw with rfl | rfl | rfl | rfl
      · exact wl
      · exact wi
      · exact wsel
      · exact w0) (good_cons wc)) rfl rfl rfl ⟨hyC, hy⟩ hR)
    ⟨fun a U g mk q => ⟨q.1, wp_calling q.2⟩, va_recv X.2.1 hP hcl.2.1 hq, fun U hU hW => ⟨rfl, wp_at X hP hD hS hU hW⟩⟩ rfl rfl hl.1 hst (lv_room hsm) d hcs
  exact g_run X hD hS hl hr hn kk
/-- a static method of the own class -/
theorem g_callS (X : Fx p s m args meth c D ca A nL cc own) {y : MethodName} {bytes : ByteArray} {maxL : Nat} {ret : Option FieldType} {h mc ms : Nat} {Pre : PreT} {Post : PostT} (hC : Ct l y bytes maxL ret h mc ms Pre Post) {index k : Nat} {As : List Value} (hyC : y.cls = own)
    (hy : CtArgs y k) (hk : As.length = k) (wl : Cond.methodLink own index y ∈ TB) (wt : Cond.static y ∈ TB) (wc : Cond.code y bytes maxL ret ∈ TB) (w0 : Cond.initialized own ∈ TB) (hR : h + 1 ≤ R.frames ∧ 8 + (maxL + 11) + 40 * h ≤ R.locals)
    (hsm : (rest.map fun v => v.category).sum ≤ 8) (hcs : cells + mc ≤ R.cells ∧ slots + ms ≤ R.slots) (hst : st = As.reverse ++ rest) (d : decode cc pc = .ok (.invokestatic index, 3)) (hn : pc + 3 = n) (hpre : Pre ca As L M)
    (kk : ∀ r L1 M1, Post ca As L M r L1 M1 → G p l e R s m args below meth c D A nL Q (cells + mc) (slots + ms) L1 M1 n lv (r.toList ++ rest)) : G p l e R s m args below meth c D A nL Q cells slots L M pc lv st := by
  intro H locs ls hP hD hS hl
  subst hk
  have hr := va_runS (p := p) (l := l) (e := e) (R := R) (s := s) (m := m) (args := args) (below := below) (meth := meth) (c := c) (H := H) (locs := locs) (cells := cells) (slots := slots) (As := As) (rest := rest) (g := F0 m pc ls st) X.1 (hC D ca As L M H.size hpre)
    (cwS As.length X.1.2.2.2.2 (good_app (b := [.methodLink own index y, .static y, .initialized own]) (by
      intro w hw
      simp only [List.mem_cons, List.mem_nil_iff, or_false] at hw
      rcases hw with rfl | rfl | rfl
      · exact wl
      · exact wt
      · exact w0) (good_cons wc)) rfl rfl rfl ⟨hyC, hy⟩ hR)
    ⟨fun a U g mk q => ⟨q.1, wp_calling q.2⟩, fun U hU hW => ⟨rfl, wp_at X hP hD hS hU hW⟩⟩ rfl rfl hl.1 hst (lv_room hsm) d hcs
  exact g_run X hD hS hl hr hn kk
/-- a static method of any class (the JDK's) -/
theorem g_callT (X : Fx p s m args meth c D ca A nL cc own) {y : MethodName} {bytes : ByteArray} {maxL : Nat} {ret : Option FieldType} {h mc ms : Nat} {Pre : PreT} {Post : PostT} (hC : Ct l y bytes maxL ret h mc ms Pre Post) {index k : Nat} {As : List Value}
    (hy : CtArgs y k) (hk : As.length = k) (wl : Cond.methodLink own index y ∈ TB) (wt : Cond.static y ∈ TB) (wc : Cond.code y bytes maxL ret ∈ TB) (w0 : Cond.initialized y.cls ∈ TB) (hR : h + 1 ≤ R.frames ∧ 8 + (maxL + 11) + 40 * h ≤ R.locals)
    (hsm : (rest.map fun v => v.category).sum ≤ 8) (hcs : cells + mc ≤ R.cells ∧ slots + ms ≤ R.slots) (hst : st = As.reverse ++ rest) (d : decode cc pc = .ok (.invokestatic index, 3)) (hn : pc + 3 = n) (hpre : Pre ca As L M)
    (kk : ∀ r L1 M1, Post ca As L M r L1 M1 → G p l e R s m args below meth c D A nL Q (cells + mc) (slots + ms) L1 M1 n lv (r.toList ++ rest)) : G p l e R s m args below meth c D A nL Q cells slots L M pc lv st := by
  intro H locs ls hP hD hS hl
  subst hk
  have hr := va_runS (p := p) (l := l) (e := e) (R := R) (s := s) (m := m) (args := args) (below := below) (meth := meth) (c := c) (H := H) (locs := locs) (cells := cells) (slots := slots) (As := As) (rest := rest) (g := F0 m pc ls st) X.1 (hC D ca As L M H.size hpre)
    (va_cwS As.length X.1.2.2.2.2 (good_app (b := [.methodLink own index y, .static y, .initialized y.cls]) (by
      intro w hw
      simp only [List.mem_cons, List.mem_nil_iff, or_false] at hw
      rcases hw with rfl | rfl | rfl
      · exact wl
      · exact wt
      · exact w0) (good_cons wc)) rfl rfl rfl hy hR)
    ⟨fun a U g mk q => ⟨q.1, wp_calling q.2⟩, fun U hU hW => ⟨rfl, wp_at X hP hD hS hU hW⟩⟩ rfl rfl hl.1 hst (lv_room hsm) d hcs
  exact g_run X hD hS hl hr hn kk
/-- a private method of a nest mate -/
theorem g_callVN (X : Fx p s m args meth c D ca A nL cc own) {y : MethodName} {bytes : ByteArray} {maxL : Nat} {ret : Option FieldType} {h mc ms : Nat} {Pre : PreT} {Post : PostT} (hC : Ct l y bytes maxL ret h mc ms Pre Post) {host : String} {index b ci k : Nat} {As fs : List Value} {C : String} {T : u_T} {N : Nat} {ty : Nat → FieldType} (hcl : Cls ci C T N ty) (hyC : y.cls = C)
    (hy : CtArgs y k) (hk : As.length = k) (wl : Cond.methodLinkNest own index y host ∈ NW) (wi : Cond.instanceMethod y ∈ TB) (wsel : Cond.selects C y y ∈ TB) (wc : Cond.code y bytes maxL ret ∈ TB) (w0 : Cond.initialized C ∈ TB) (hR : h + 1 ≤ R.frames ∧ 8 + (maxL + 11) + 40 * h ≤ R.locals)
    (hb : b ∈ L) (hMb : M b = .inr (ci, fs)) (hsm : (rest.map fun v => v.category).sum ≤ 8) (hcs : cells + mc ≤ R.cells ∧ slots + ms ≤ R.slots) (hst : st = As.reverse ++ .ref b :: rest) (d : decode cc pc = .ok (.invokevirtual index, 3)) (hn : pc + 3 = n) (hpre : Pre ca (.ref b :: As) L M)
    (kk : ∀ r L1 M1, Post ca (.ref b :: As) L M r L1 M1 → G p l e R s m args below meth c D A nL Q (cells + mc) (slots + ms) L1 M1 n lv (r.toList ++ rest)) : G p l e R s m args below meth c D A nL Q cells slots L M pc lv st := by
  intro H locs ls hP hD hS hl
  subst hk
  obtain ⟨q0, hq⟩ := pl_at (M := M) hb
  rw [hMb] at hq
  subst hyC
  have hr := va_runVN (p := p) (l := l) (e := e) (R := R) (s := s) (m := m) (args := args) (below := below) (meth := meth) (c := c) (H := H) (locs := locs) (cells := cells) (slots := slots) (C := y.cls) (b := b) (As := As) (rest := rest) (g := F0 m pc ls st) X.1 (hC D ca (.ref b :: As) L M H.size hpre)
    ⟨va_cnB As.length X.1.2.2.2.2 (good_cons wc) rfl rfl rfl (X.2.2.1 _ wl) (X.1.2.2.2.2 _ w0) hy hR, X.1.2.2.2.2 _ wi, X.1.2.2.2.2 _ wsel⟩
    ⟨fun a U g mk q => ⟨q.1, wp_calling q.2⟩, va_recv X.2.1 hP hcl.2.1 hq, fun U hU hW => ⟨rfl, wp_at X hP hD hS hU hW⟩⟩ rfl rfl hl.1 hst (lv_room hsm) d hcs
  exact g_run X hD hS hl hr hn kk
/-- a private static method of a nest mate -/
theorem g_callSN (X : Fx p s m args meth c D ca A nL cc own) {y : MethodName} {bytes : ByteArray} {maxL : Nat} {ret : Option FieldType} {h mc ms : Nat} {Pre : PreT} {Post : PostT} (hC : Ct l y bytes maxL ret h mc ms Pre Post) {host : String} {index k : Nat} {As : List Value} {C : String} (hyC : y.cls = C)
    (hy : CtArgs y k) (hk : As.length = k) (wl : Cond.methodLinkNest own index y host ∈ NW) (wt : Cond.static y ∈ TB) (wc : Cond.code y bytes maxL ret ∈ TB) (w0 : Cond.initialized C ∈ TB) (hR : h + 1 ≤ R.frames ∧ 8 + (maxL + 11) + 40 * h ≤ R.locals)
    (hsm : (rest.map fun v => v.category).sum ≤ 8) (hcs : cells + mc ≤ R.cells ∧ slots + ms ≤ R.slots) (hst : st = As.reverse ++ rest) (d : decode cc pc = .ok (.invokestatic index, 3)) (hn : pc + 3 = n) (hpre : Pre ca As L M)
    (kk : ∀ r L1 M1, Post ca As L M r L1 M1 → G p l e R s m args below meth c D A nL Q (cells + mc) (slots + ms) L1 M1 n lv (r.toList ++ rest)) : G p l e R s m args below meth c D A nL Q cells slots L M pc lv st := by
  intro H locs ls hP hD hS hl
  subst hk
  subst hyC
  have hr := va_runSN (p := p) (l := l) (e := e) (R := R) (s := s) (m := m) (args := args) (below := below) (meth := meth) (c := c) (H := H) (locs := locs) (cells := cells) (slots := slots) (As := As) (rest := rest) (g := F0 m pc ls st) X.1 (hC D ca As L M H.size hpre)
    ⟨va_cnB As.length X.1.2.2.2.2 (good_cons wc) rfl rfl rfl (X.2.2.1 _ wl) (X.1.2.2.2.2 _ w0) hy hR, X.1.2.2.2.2 _ wt, trivial⟩
    ⟨fun a U g mk q => ⟨q.1, wp_calling q.2⟩, fun U hU hW => ⟨rfl, wp_at X hP hD hS hU hW⟩⟩ rfl rfl hl.1 hst (lv_room hsm) d hcs
  exact g_run X hD hS hl hr hn kk
/-- constructors -/
theorem g_callI (X : Fx p s m args meth c D ca A nL cc own) {y : MethodName} {bytes : ByteArray} {maxL : Nat} {h mc ms : Nat} {Pre : PreT} {Post : PostT} (hC : Ct l y bytes maxL none h mc ms Pre Post) {index b k : Nat} {As : List Value} {C : String} (hyC : y.cls = C) (hin : y.name = "<init>")
    (hy : CtArgs y k) (hk : As.length = k) (wl : Cond.methodLink own index y ∈ TB) (wi : Cond.instanceMethod y ∈ TB) (wc : Cond.code y bytes maxL none ∈ TB) (w0 : Cond.initialized C ∈ TB) (hR : h + 1 ≤ R.frames ∧ 8 + (maxL + 11) + 40 * h ≤ R.locals)
    (hsm : (rest.map fun v => v.category).sum ≤ 8) (hcs : cells + mc ≤ R.cells ∧ slots + ms ≤ R.slots) (hst : st = As.reverse ++ .ref b :: rest) (d : decode cc pc = .ok (.invokespecial index, 3)) (hn : pc + 3 = n) (hpre : Pre ca (.ref b :: As) L M)
    (kk : ∀ r L1 M1, Post ca (.ref b :: As) L M r L1 M1 → G p l e R s m args below meth c D A nL Q (cells + mc) (slots + ms) L1 M1 n lv (r.toList ++ rest)) : G p l e R s m args below meth c D A nL Q cells slots L M pc lv st := by
  intro H locs ls hP hD hS hl
  subst hk
  subst hyC
  have hr := va_runI (p := p) (l := l) (e := e) (R := R) (s := s) (m := m) (args := args) (below := below) (meth := meth) (c := c) (H := H) (locs := locs) (cells := cells) (slots := slots) (b := b) (As := As) (rest := rest) (g := F0 m pc ls st) X.1 (hC D ca (.ref b :: As) L M H.size hpre)
    (cwI As.length X.1.2.2.2.2 (good_cons wc) rfl rfl rfl (X.1.2.2.2.2 _ w0) (X.1.2.2.2.2 _ wl) (X.1.2.2.2.2 _ wi) hin hy hR)
    ⟨fun a U g mk q => ⟨q.1, wp_calling q.2⟩, fun U hU hW => ⟨rfl, wp_at X hP hD hS hU hW⟩⟩ rfl rfl hl.1 hst (lv_room hsm) d hcs
  exact g_run X hD hS hl hr hn kk
theorem g_callIN (X : Fx p s m args meth c D ca A nL cc own) {y : MethodName} {bytes : ByteArray} {maxL : Nat} {h mc ms : Nat} {Pre : PreT} {Post : PostT} (hC : Ct l y bytes maxL none h mc ms Pre Post) {host : String} {index b k : Nat} {As : List Value} {C : String} (hyC : y.cls = C) (hin : y.name = "<init>")
    (hy : CtArgs y k) (hk : As.length = k) (wl : Cond.methodLinkNest own index y host ∈ NW) (wi : Cond.instanceMethod y ∈ TB) (wc : Cond.code y bytes maxL none ∈ TB) (w0 : Cond.initialized C ∈ TB) (hR : h + 1 ≤ R.frames ∧ 8 + (maxL + 11) + 40 * h ≤ R.locals)
    (hsm : (rest.map fun v => v.category).sum ≤ 8) (hcs : cells + mc ≤ R.cells ∧ slots + ms ≤ R.slots) (hst : st = As.reverse ++ .ref b :: rest) (d : decode cc pc = .ok (.invokespecial index, 3)) (hn : pc + 3 = n) (hpre : Pre ca (.ref b :: As) L M)
    (kk : ∀ r L1 M1, Post ca (.ref b :: As) L M r L1 M1 → G p l e R s m args below meth c D A nL Q (cells + mc) (slots + ms) L1 M1 n lv (r.toList ++ rest)) : G p l e R s m args below meth c D A nL Q cells slots L M pc lv st := by
  intro H locs ls hP hD hS hl
  subst hk
  subst hyC
  have hr := va_runIN (p := p) (l := l) (e := e) (R := R) (s := s) (m := m) (args := args) (below := below) (meth := meth) (c := c) (H := H) (locs := locs) (cells := cells) (slots := slots) (b := b) (As := As) (rest := rest) (g := F0 m pc ls st) X.1 (hC D ca (.ref b :: As) L M H.size hpre)
    ⟨va_cnB As.length X.1.2.2.2.2 (good_cons wc) rfl rfl rfl (X.2.2.1 _ wl) (X.1.2.2.2.2 _ w0) hy hR, hin, X.1.2.2.2.2 _ wi⟩
    ⟨fun a U g mk q => ⟨q.1, wp_calling q.2⟩, fun U hU hW => ⟨rfl, wp_at X hP hD hS hU hW⟩⟩ rfl rfl hl.1 hst (lv_room hsm) d hcs
  exact g_run X hD hS hl hr hn kk
end Calls2
end
section
/-! what every call wants to know of its method; small things -/
theorem ca_J6_bitCount_0f7a4 : CtArgs yJ6_bitCount_0f7a4 1 := ⟨by decide, by decide, by decide +kernel⟩
theorem ca_J9_max_7cf53 : CtArgs yJ9_max_7cf53 2 := ⟨by decide, by decide, by decide +kernel⟩
theorem ca_J9_min_7cf53 : CtArgs yJ9_min_7cf53 2 := ⟨by decide, by decide, by decide +kernel⟩
theorem ca_X0_beginAnew : CtArgs yX0_beginAnew 0 := ⟨by decide, by decide, by decide +kernel⟩
theorem ca_X0_copy : CtArgs yX0_copy 1 := ⟨by decide, by decide, by decide +kernel⟩
theorem ca_X0_init : CtArgs yX0_init 0 := ⟨by decide, by decide, by decide +kernel⟩
theorem ca_X1_forgetOldest : CtArgs yX1_forgetOldest 0 := ⟨by decide, by decide, by decide +kernel⟩
theorem ca_X1_init : CtArgs yX1_init 0 := ⟨by decide, by decide, by decide +kernel⟩
theorem ca_X1_record : CtArgs yX1_record 1 := ⟨by decide, by decide, by decide +kernel⟩
theorem ca_X1_takeBack : CtArgs yX1_takeBack 1 := ⟨by decide, by decide, by decide +kernel⟩
theorem ca_X2_append : CtArgs yX2_append 2 := ⟨by decide, by decide, by decide +kernel⟩
theorem ca_X2_firstFault : CtArgs yX2_firstFault 0 := ⟨by decide, by decide, by decide +kernel⟩
theorem ca_X2_init : CtArgs yX2_init 0 := ⟨by decide, by decide, by decide +kernel⟩
theorem ca_X2_numberOf : CtArgs yX2_numberOf 2 := ⟨by decide, by decide, by decide +kernel⟩
theorem ca_X2_streamsFound : CtArgs yX2_streamsFound 0 := ⟨by decide, by decide, by decide +kernel⟩
theorem ca_X2_takesDigit : CtArgs yX2_takesDigit 3 := ⟨by decide, by decide, by decide +kernel⟩
theorem ca_X3_append : CtArgs yX3_append 3 := ⟨by decide, by decide, by decide +kernel⟩
theorem ca_X3_appendLike : CtArgs yX3_appendLike 1 := ⟨by decide, by decide, by decide +kernel⟩
theorem ca_X3_ask : CtArgs yX3_ask 1 := ⟨by decide, by decide, by decide +kernel⟩
theorem ca_X3_bankAt : CtArgs yX3_bankAt 1 := ⟨by decide, by decide, by decide +kernel⟩
theorem ca_X3_banksMet : CtArgs yX3_banksMet 1 := ⟨by decide, by decide, by decide +kernel⟩
theorem ca_X3_beginAnew : CtArgs yX3_beginAnew 0 := ⟨by decide, by decide, by decide +kernel⟩
theorem ca_X3_busyBanks : CtArgs yX3_busyBanks 0 := ⟨by decide, by decide, by decide +kernel⟩
theorem ca_X3_copy : CtArgs yX3_copy 1 := ⟨by decide, by decide, by decide +kernel⟩
theorem ca_X3_copySettings : CtArgs yX3_copySettings 1 := ⟨by decide, by decide, by decide +kernel⟩
theorem ca_X3_freeBanks : CtArgs yX3_freeBanks 0 := ⟨by decide, by decide, by decide +kernel⟩
theorem ca_X3_greatestPrime : CtArgs yX3_greatestPrime 0 := ⟨by decide, by decide, by decide +kernel⟩
theorem ca_X3_has : CtArgs yX3_has 1 := ⟨by decide, by decide, by decide +kernel⟩
theorem ca_X3_init : CtArgs yX3_init 0 := ⟨by decide, by decide, by decide +kernel⟩
theorem ca_X3_lonelyCycles : CtArgs yX3_lonelyCycles 2 := ⟨by decide, by decide, by decide +kernel⟩
theorem ca_X3_passAll : CtArgs yX3_passAll 0 := ⟨by decide, by decide, by decide +kernel⟩
theorem ca_X3_passCycle : CtArgs yX3_passCycle 0 := ⟨by decide, by decide, by decide +kernel⟩
theorem ca_X3_remove : CtArgs yX3_remove 1 := ⟨by decide, by decide, by decide +kernel⟩
theorem ca_X3_total : CtArgs yX3_total 1 := ⟨by decide, by decide, by decide +kernel⟩
theorem ca_X3_wordsLeftIn : CtArgs yX3_wordsLeftIn 1 := ⟨by decide, by decide, by decide +kernel⟩
theorem ca_X4_beginAnew : CtArgs yX4_beginAnew 0 := ⟨by decide, by decide, by decide +kernel⟩
theorem ca_X4_copy : CtArgs yX4_copy 1 := ⟨by decide, by decide, by decide +kernel⟩
theorem ca_X4_finishRequest : CtArgs yX4_finishRequest 2 := ⟨by decide, by decide, by decide +kernel⟩
theorem ca_X4_init : CtArgs yX4_init 0 := ⟨by decide, by decide, by decide +kernel⟩
theorem ca_X4_nextAddress : CtArgs yX4_nextAddress 0 := ⟨by decide, by decide, by decide +kernel⟩
theorem ca_X4_tell : CtArgs yX4_tell 1 := ⟨by decide, by decide, by decide +kernel⟩
theorem ca_X5_add : CtArgs yX5_add 3 := ⟨by decide, by decide, by decide +kernel⟩
theorem ca_X5_alone : CtArgs yX5_alone 2 := ⟨by decide, by decide, by decide +kernel⟩
theorem ca_X5_bank : CtArgs yX5_bank 2 := ⟨by decide, by decide, by decide +kernel⟩
theorem ca_X5_bankOf : CtArgs yX5_bankOf 1 := ⟨by decide, by decide, by decide +kernel⟩
theorem ca_X5_bestMap : CtArgs yX5_bestMap 1 := ⟨by decide, by decide, by decide +kernel⟩
theorem ca_X5_bestStride : CtArgs yX5_bestStride 3 := ⟨by decide, by decide, by decide +kernel⟩
theorem ca_X5_charactersIn : CtArgs yX5_charactersIn 1 := ⟨by decide, by decide, by decide +kernel⟩
theorem ca_X5_clashes : CtArgs yX5_clashes 2 := ⟨by decide, by decide, by decide +kernel⟩
theorem ca_X5_count : CtArgs yX5_count 1 := ⟨by decide, by decide, by decide +kernel⟩
theorem ca_X5_cyclesAlone : CtArgs yX5_cyclesAlone 2 := ⟨by decide, by decide, by decide +kernel⟩
theorem ca_X5_cyclesByMap : CtArgs yX5_cyclesByMap 1 := ⟨by decide, by decide, by decide +kernel⟩
theorem ca_X5_drop : CtArgs yX5_drop 1 := ⟨by decide, by decide, by decide +kernel⟩
theorem ca_X5_fault : CtArgs yX5_fault 0 := ⟨by decide, by decide, by decide +kernel⟩
theorem ca_X5_init : CtArgs yX5_init 0 := ⟨by decide, by decide, by decide +kernel⟩
theorem ca_X5_isIn : CtArgs yX5_isIn 3 := ⟨by decide, by decide, by decide +kernel⟩
theorem ca_X5_put : CtArgs yX5_put 1 := ⟨by decide, by decide, by decide +kernel⟩
theorem ca_X5_read : CtArgs yX5_read 0 := ⟨by decide, by decide, by decide +kernel⟩
theorem ca_X5_reset : CtArgs yX5_reset 0 := ⟨by decide, by decide, by decide +kernel⟩
theorem ca_X5_restore : CtArgs yX5_restore 1 := ⟨by decide, by decide, by decide +kernel⟩
theorem ca_X5_run : CtArgs yX5_run 1 := ⟨by decide, by decide, by decide +kernel⟩
theorem ca_X5_save : CtArgs yX5_save 1 := ⟨by decide, by decide, by decide +kernel⟩
theorem ca_X5_set : CtArgs yX5_set 2 := ⟨by decide, by decide, by decide +kernel⟩
theorem ca_X5_stream : CtArgs yX5_stream 2 := ⟨by decide, by decide, by decide +kernel⟩
theorem ca_X5_stride : CtArgs yX5_stride 2 := ⟨by decide, by decide, by decide +kernel⟩
theorem ca_X5_undo : CtArgs yX5_undo 0 := ⟨by decide, by decide, by decide +kernel⟩
theorem ca_X5_untilDone : CtArgs yX5_untilDone 0 := ⟨by decide, by decide, by decide +kernel⟩
theorem ca_X5_wipe : CtArgs yX5_wipe 0 := ⟨by decide, by decide, by decide +kernel⟩
theorem ca_X6_accepts : CtArgs yX6_accepts 1 := ⟨by decide, by decide, by decide +kernel⟩
theorem ca_X6_add : CtArgs yX6_add 3 := ⟨by decide, by decide, by decide +kernel⟩
theorem ca_X6_alone : CtArgs yX6_alone 2 := ⟨by decide, by decide, by decide +kernel⟩
theorem ca_X6_asks : CtArgs yX6_asks 1 := ⟨by decide, by decide, by decide +kernel⟩
theorem ca_X6_b : CtArgs yX6_b 1 := ⟨by decide, by decide, by decide +kernel⟩
theorem ca_X6_bank : CtArgs yX6_bank 2 := ⟨by decide, by decide, by decide +kernel⟩
theorem ca_X6_bankAt : CtArgs yX6_bankAt 1 := ⟨by decide, by decide, by decide +kernel⟩
theorem ca_X6_bankOf : CtArgs yX6_bankOf 1 := ⟨by decide, by decide, by decide +kernel⟩
theorem ca_X6_begins : CtArgs yX6_begins 1 := ⟨by decide, by decide, by decide +kernel⟩
theorem ca_X6_beginsAnew : CtArgs yX6_beginsAnew 0 := ⟨by decide, by decide, by decide +kernel⟩
theorem ca_X6_bestMap : CtArgs yX6_bestMap 1 := ⟨by decide, by decide, by decide +kernel⟩
theorem ca_X6_bestStride : CtArgs yX6_bestStride 3 := ⟨by decide, by decide, by decide +kernel⟩
theorem ca_X6_busy : CtArgs yX6_busy 1 := ⟨by decide, by decide, by decide +kernel⟩
theorem ca_X6_busyBanks : CtArgs yX6_busyBanks 0 := ⟨by decide, by decide, by decide +kernel⟩
theorem ca_X6_clashes : CtArgs yX6_clashes 2 := ⟨by decide, by decide, by decide +kernel⟩
theorem ca_X6_comes : CtArgs yX6_comes 2 := ⟨by decide, by decide, by decide +kernel⟩
theorem ca_X6_count : CtArgs yX6_count 1 := ⟨by decide, by decide, by decide +kernel⟩
theorem ca_X6_cycle : CtArgs yX6_cycle 0 := ⟨by decide, by decide, by decide +kernel⟩
theorem ca_X6_cyclesWith : CtArgs yX6_cyclesWith 2 := ⟨by decide, by decide, by decide +kernel⟩
theorem ca_X6_drop : CtArgs yX6_drop 1 := ⟨by decide, by decide, by decide +kernel⟩
theorem ca_X6_fault : CtArgs yX6_fault 0 := ⟨by decide, by decide, by decide +kernel⟩
theorem ca_X6_faultOf : CtArgs yX6_faultOf 0 := ⟨by decide, by decide, by decide +kernel⟩
theorem ca_X6_hold : CtArgs yX6_hold 0 := ⟨by decide, by decide, by decide +kernel⟩
theorem ca_X6_in : CtArgs yX6_in 3 := ⟨by decide, by decide, by decide +kernel⟩
theorem ca_X6_init : CtArgs yX6_init 0 := ⟨by decide, by decide, by decide +kernel⟩
theorem ca_X6_isPrime : CtArgs yX6_isPrime 1 := ⟨by decide, by decide, by decide +kernel⟩
theorem ca_X6_isSetting : CtArgs yX6_isSetting 2 := ⟨by decide, by decide, by decide +kernel⟩
theorem ca_X6_isSign : CtArgs yX6_isSign 2 := ⟨by decide, by decide, by decide +kernel⟩
theorem ca_X6_isStream : CtArgs yX6_isStream 1 := ⟨by decide, by decide, by decide +kernel⟩
theorem ca_X6_keepTrial : CtArgs yX6_keepTrial 0 := ⟨by decide, by decide, by decide +kernel⟩
theorem ca_X6_m : CtArgs yX6_m 1 := ⟨by decide, by decide, by decide +kernel⟩
theorem ca_X6_meets : CtArgs yX6_meets 1 := ⟨by decide, by decide, by decide +kernel⟩
theorem ca_X6_number : CtArgs yX6_number 3 := ⟨by decide, by decide, by decide +kernel⟩
theorem ca_X6_ofStreams : CtArgs yX6_ofStreams 1 := ⟨by decide, by decide, by decide +kernel⟩
theorem ca_X6_prime : CtArgs yX6_prime 0 := ⟨by decide, by decide, by decide +kernel⟩
theorem ca_X6_put : CtArgs yX6_put 1 := ⟨by decide, by decide, by decide +kernel⟩
theorem ca_X6_putBack : CtArgs yX6_putBack 0 := ⟨by decide, by decide, by decide +kernel⟩
theorem ca_X6_puts : CtArgs yX6_puts 3 := ⟨by decide, by decide, by decide +kernel⟩
theorem ca_X6_read : CtArgs yX6_read 0 := ⟨by decide, by decide, by decide +kernel⟩
theorem ca_X6_readsStream : CtArgs yX6_readsStream 0 := ⟨by decide, by decide, by decide +kernel⟩
theorem ca_X6_recorded : CtArgs yX6_recorded 1 := ⟨by decide, by decide, by decide +kernel⟩
theorem ca_X6_reset : CtArgs yX6_reset 0 := ⟨by decide, by decide, by decide +kernel⟩
theorem ca_X6_restore : CtArgs yX6_restore 1 := ⟨by decide, by decide, by decide +kernel⟩
theorem ca_X6_run : CtArgs yX6_run 1 := ⟨by decide, by decide, by decide +kernel⟩
theorem ca_X6_runsOut : CtArgs yX6_runsOut 0 := ⟨by decide, by decide, by decide +kernel⟩
theorem ca_X6_save : CtArgs yX6_save 1 := ⟨by decide, by decide, by decide +kernel⟩
theorem ca_X6_set : CtArgs yX6_set 2 := ⟨by decide, by decide, by decide +kernel⟩
theorem ca_X6_stream : CtArgs yX6_stream 2 := ⟨by decide, by decide, by decide +kernel⟩
theorem ca_X6_stride : CtArgs yX6_stride 2 := ⟨by decide, by decide, by decide +kernel⟩
theorem ca_X6_undo : CtArgs yX6_undo 0 := ⟨by decide, by decide, by decide +kernel⟩
theorem ca_X6_untilDone : CtArgs yX6_untilDone 0 := ⟨by decide, by decide, by decide +kernel⟩
theorem ca_X6_wipe : CtArgs yX6_wipe 0 := ⟨by decide, by decide, by decide +kernel⟩
theorem ca_X6_wordsIn : CtArgs yX6_wordsIn 1 := ⟨by decide, by decide, by decide +kernel⟩
theorem ca_X6_wordsLeft : CtArgs yX6_wordsLeft 0 := ⟨by decide, by decide, by decide +kernel⟩
theorem ne_cell {M : Mem} {a b : Nat} {x y : va_E} (ha : M a = x) (hb : M b = y) (h : x ≠ y) : a ≠ b := fun q => h (by rw [← ha, ← hb, q])
theorem nar_z1 : vp_nar .boolean (iI 1) = iI 1 := by decide +kernel
abbrev oRow (f : Int → Int) : va_E := .inr (4, [.int (iI (f 0)), .int (iI (f 1)), .int (iI (f 2)), .int (iI (f 3)), .int (iI (f 4)), .int (iI (f 5)), .int (iI (f 6)), .int (iI (f 7))])
abbrev oBank (f : Int → Int) : va_E := .inr (0, [.int (iI (f 0)), .int (iI (f 1)), .int (iI (f 2)), .int (iI (f 3))])
end
section
/-! rows of banks and streams: what their methods do to a cell -/
def rwBegin (f : Int → Int) : Int → Int := fun k => if k = 0 then f 0 else if k = 1 then f 1 else if k = 2 then f 2 else if k = 3 then f 2 else if k = 4 then f 0 else if k = 5 then 0 else if k = 6 then 0 else -6
def rwNext (f : Int → Int) : Int := if f 3 = f 2 then f 0 else (f 4 + f 1) % 4096
def rwTell (f : Int → Int) (w : Int) : Int := if w = 0 then f 0 else if w = 1 then f 1 else if w = 2 then f 2 else if w = 3 then f 3 else if w = 4 then (if f 3 > 0 then rwNext f else -6) else if w = 5 then f 5 else if w = 6 then f 6 else if w = 7 then f 7 else -2
def rwFin (f : Int → Int) (a cy : Int) : Int → Int := fun k => if k = 0 then f 0 else if k = 1 then f 1 else if k = 2 then f 2 else if k = 3 then f 3 - 1 else if k = 4 then a else if k = 5 then f 5 else if k = 6 then f 6 else if f 3 - 1 = 0 then cy else f 7
def bkBegin : Int → Int := fun k => if k = 1 then -1 else 0
set_option maxRecDepth 100000 in
set_option maxHeartbeats 4000000 in
theorem ct_X4_beginAnew (l : Launch) (a : Nat) (f : Int → Int) : Ct l yX4_beginAnew cX4_beginAnew 1 none 0 0 0 (fun ca av L M => av = [.ref a] ∧ a ∈ L ∧ M a = oRow f) (fun ca av L M r L1 M1 => r = none ∧ L = L1 ∧ M1 a = oRow (rwBegin f) ∧ ∀ b, b ≠ a → M1 b = M b) := by
  refine Ct_of (own := RX4) (by decide) rfl (by rintro _ _ _ _ ⟨rfl, _⟩; exact Nat.le_of_ble_eq_true rfl) ?_
  rintro p e s m args below meth c D ca A av L M ⟨rfl, ha, hM⟩ X hret hname
  refine g_lv (lv' := [(0, .ref a)]) [0] rfl ?_
  refine g_aload_n X 0 rfl dX4_beginAnew_0 rfl ?_
  refine g_aload_n X 0 rfl dX4_beginAnew_1 rfl ?_
  refine g_get X cl_X4 2 (by decide) wf_X4_9 rfl ha hM rfl dX4_beginAnew_2 rfl ?_
  refine g_put X cl_X4 3 (by decide) wf_X4_15 rfl ha hM rfl rfl rfl (Nat.le_of_ble_eq_true rfl) (fs' := [.int (iI (f 0)), .int (iI (f 1)), .int (iI (f 2)), .int (iI (f 2)), .int (iI (f 4)), .int (iI (f 5)), .int (iI (f 6)), .int (iI (f 7))]) rfl dX4_beginAnew_5 rfl (fun M_1 hM_2 fr_3 => ?_)
  refine g_aload_n X 0 rfl dX4_beginAnew_8 rfl ?_
  refine g_aload_n X 0 rfl dX4_beginAnew_9 rfl ?_
  refine g_get X cl_X4 0 (by decide) wf_X4_18 rfl ha hM_2 rfl dX4_beginAnew_10 rfl ?_
  refine g_put X cl_X4 4 (by decide) wf_X4_21 rfl ha hM_2 rfl rfl rfl (Nat.le_of_ble_eq_true rfl) (fs' := [.int (iI (f 0)), .int (iI (f 1)), .int (iI (f 2)), .int (iI (f 2)), .int (iI (f 0)), .int (iI (f 5)), .int (iI (f 6)), .int (iI (f 7))]) rfl dX4_beginAnew_13 rfl (fun M_4 hM_5 fr_6 => ?_)
  refine g_aload_n X 0 rfl dX4_beginAnew_16 rfl ?_
  refine g_iconst X (z := 0) dX4_beginAnew_17 rfl ?_
  refine g_put X cl_X4 5 (by decide) wf_X4_24 rfl ha hM_5 rfl rfl rfl (Nat.le_of_ble_eq_true rfl) (fs' := [.int (iI (f 0)), .int (iI (f 1)), .int (iI (f 2)), .int (iI (f 2)), .int (iI (f 0)), .int (iI 0), .int (iI (f 6)), .int (iI (f 7))]) rfl dX4_beginAnew_18 rfl (fun M_7 hM_8 fr_9 => ?_)
  refine g_aload_n X 0 rfl dX4_beginAnew_21 rfl ?_
  refine g_iconst X (z := 0) dX4_beginAnew_22 rfl ?_
  refine g_put X cl_X4 6 (by decide) wf_X4_27 rfl ha hM_8 rfl rfl rfl (Nat.le_of_ble_eq_true rfl) (fs' := [.int (iI (f 0)), .int (iI (f 1)), .int (iI (f 2)), .int (iI (f 2)), .int (iI (f 0)), .int (iI 0), .int (iI 0), .int (iI (f 7))]) rfl dX4_beginAnew_23 rfl (fun M_10 hM_11 fr_12 => ?_)
  refine g_aload_n X 0 rfl dX4_beginAnew_26 rfl ?_
  refine g_bipush X (z := -6) (by decide +kernel) dX4_beginAnew_27 rfl ?_
  refine g_put X cl_X4 7 (by decide) wf_X4_30 rfl ha hM_11 rfl rfl rfl (Nat.le_of_ble_eq_true rfl) (fs' := [.int (iI (f 0)), .int (iI (f 1)), .int (iI (f 2)), .int (iI (f 2)), .int (iI (f 0)), .int (iI 0), .int (iI 0), .int (iI (-6))]) rfl dX4_beginAnew_29 rfl (fun M_13 hM_14 fr_15 => ?_)
  exact g_vret X hret ⟨Nat.le_of_ble_eq_true rfl, Nat.le_of_ble_eq_true rfl⟩ dX4_beginAnew_32 ⟨rfl, rfl, hM_14.trans rfl, fun b hb => ((fr_15 b hb).trans ((fr_12 b hb).trans ((fr_9 b hb).trans ((fr_6 b hb).trans (fr_3 b hb)))))⟩
set_option maxRecDepth 100000 in
set_option maxHeartbeats 4000000 in
theorem ct_X0_beginAnew (l : Launch) (a : Nat) (f : Int → Int) : Ct l yX0_beginAnew cX0_beginAnew 1 none 0 0 0 (fun ca av L M => av = [.ref a] ∧ a ∈ L ∧ M a = oBank f) (fun ca av L M r L1 M1 => r = none ∧ L = L1 ∧ M1 a = oBank bkBegin ∧ ∀ b, b ≠ a → M1 b = M b) := by
  refine Ct_of (own := RX0) (by decide) rfl (by rintro _ _ _ _ ⟨rfl, _⟩; exact Nat.le_of_ble_eq_true rfl) ?_
  rintro p e s m args below meth c D ca A av L M ⟨rfl, ha, hM⟩ X hret hname
  refine g_lv (lv' := [(0, .ref a)]) [0] rfl ?_
  refine g_aload_n X 0 rfl dX0_beginAnew_0 rfl ?_
  refine g_iconst X (z := 0) dX0_beginAnew_1 rfl ?_
  refine g_put X cl_X0 0 (by decide) wf_X0_9 rfl ha hM rfl rfl rfl (Nat.le_of_ble_eq_true rfl) (fs' := [.int (iI 0), .int (iI (f 1)), .int (iI (f 2)), .int (iI (f 3))]) rfl dX0_beginAnew_2 rfl (fun M_1 hM_2 fr_3 => ?_)
  refine g_aload_n X 0 rfl dX0_beginAnew_5 rfl ?_
  refine g_iconst X (z := -1) dX0_beginAnew_6 rfl ?_
  refine g_put X cl_X0 1 (by decide) wf_X0_15 rfl ha hM_2 rfl rfl rfl (Nat.le_of_ble_eq_true rfl) (fs' := [.int (iI 0), .int (iI (-1)), .int (iI (f 2)), .int (iI (f 3))]) rfl dX0_beginAnew_7 rfl (fun M_4 hM_5 fr_6 => ?_)
  refine g_aload_n X 0 rfl dX0_beginAnew_10 rfl ?_
  refine g_iconst X (z := 0) dX0_beginAnew_11 rfl ?_
  refine g_put X cl_X0 2 (by decide) wf_X0_18 rfl ha hM_5 rfl rfl rfl (Nat.le_of_ble_eq_true rfl) (fs' := [.int (iI 0), .int (iI (-1)), .int (iI 0), .int (iI (f 3))]) rfl dX0_beginAnew_12 rfl (fun M_7 hM_8 fr_9 => ?_)
  refine g_aload_n X 0 rfl dX0_beginAnew_15 rfl ?_
  refine g_iconst X (z := 0) dX0_beginAnew_16 rfl ?_
  refine g_put X cl_X0 3 (by decide) wf_X0_21 rfl ha hM_8 rfl rfl rfl (Nat.le_of_ble_eq_true rfl) (fs' := [.int (iI 0), .int (iI (-1)), .int (iI 0), .int (iI 0)]) rfl dX0_beginAnew_17 rfl (fun M_10 hM_11 fr_12 => ?_)
  exact g_vret X hret ⟨Nat.le_of_ble_eq_true rfl, Nat.le_of_ble_eq_true rfl⟩ dX0_beginAnew_20 ⟨rfl, rfl, hM_11.trans rfl, fun b hb => ((fr_12 b hb).trans ((fr_9 b hb).trans ((fr_6 b hb).trans (fr_3 b hb))))⟩
set_option maxRecDepth 100000 in
set_option maxHeartbeats 4000000 in
theorem ct_X4_copy (l : Launch) (a a2 : Nat) (f g : Int → Int) : Ct l yX4_copy cX4_copy 2 none 0 0 0 (fun ca av L M => av = [.ref a, .ref a2] ∧ a ∈ L ∧ M a = oRow f ∧ a2 ∈ L ∧ M a2 = oRow g ∧ a2 ≠ a) (fun ca av L M r L1 M1 => r = none ∧ L = L1 ∧ M1 a = oRow g ∧ ∀ b, b ≠ a → M1 b = M b) := by
  refine Ct_of (own := RX4) (by decide) rfl (by rintro _ _ _ _ ⟨rfl, _⟩; exact Nat.le_of_ble_eq_true rfl) ?_
  rintro p e s m args below meth c D ca A av L M ⟨rfl, ha, hM, ha2, hM2, hne⟩ X hret hname
  refine g_lv (lv' := [(0, .ref a), (1, .ref a2)]) [0, 1] rfl ?_
  refine g_aload_n X 0 rfl dX4_copy_0 rfl ?_
  refine g_aload_n X 1 rfl dX4_copy_1 rfl ?_
  refine g_get X cl_X4 0 (by decide) wf_X4_18 rfl ha2 hM2 rfl dX4_copy_2 rfl ?_
  refine g_put X cl_X4 0 (by decide) wf_X4_18 rfl ha hM rfl rfl rfl (Nat.le_of_ble_eq_true rfl) (fs' := [.int (iI (g 0)), .int (iI (f 1)), .int (iI (f 2)), .int (iI (f 3)), .int (iI (f 4)), .int (iI (f 5)), .int (iI (f 6)), .int (iI (f 7))]) rfl dX4_copy_5 rfl (fun M_1 hM_2 fr_3 => ?_)
  have hM_4 : M_1 a2 = .inr (4, [.int (iI (g 0)), .int (iI (g 1)), .int (iI (g 2)), .int (iI (g 3)), .int (iI (g 4)), .int (iI (g 5)), .int (iI (g 6)), .int (iI (g 7))]) := (fr_3 a2 hne).trans hM2
  refine g_aload_n X 0 rfl dX4_copy_8 rfl ?_
  refine g_aload_n X 1 rfl dX4_copy_9 rfl ?_
  refine g_get X cl_X4 1 (by decide) wf_X4_33 rfl ha2 hM_4 rfl dX4_copy_10 rfl ?_
  refine g_put X cl_X4 1 (by decide) wf_X4_33 rfl ha hM_2 rfl rfl rfl (Nat.le_of_ble_eq_true rfl) (fs' := [.int (iI (g 0)), .int (iI (g 1)), .int (iI (f 2)), .int (iI (f 3)), .int (iI (f 4)), .int (iI (f 5)), .int (iI (f 6)), .int (iI (f 7))]) rfl dX4_copy_13 rfl (fun M_5 hM_6 fr_7 => ?_)
  have hM_8 : M_5 a2 = .inr (4, [.int (iI (g 0)), .int (iI (g 1)), .int (iI (g 2)), .int (iI (g 3)), .int (iI (g 4)), .int (iI (g 5)), .int (iI (g 6)), .int (iI (g 7))]) := (fr_7 a2 hne).trans hM_4
  refine g_aload_n X 0 rfl dX4_copy_16 rfl ?_
  refine g_aload_n X 1 rfl dX4_copy_17 rfl ?_
  refine g_get X cl_X4 2 (by decide) wf_X4_9 rfl ha2 hM_8 rfl dX4_copy_18 rfl ?_
  refine g_put X cl_X4 2 (by decide) wf_X4_9 rfl ha hM_6 rfl rfl rfl (Nat.le_of_ble_eq_true rfl) (fs' := [.int (iI (g 0)), .int (iI (g 1)), .int (iI (g 2)), .int (iI (f 3)), .int (iI (f 4)), .int (iI (f 5)), .int (iI (f 6)), .int (iI (f 7))]) rfl dX4_copy_21 rfl (fun M_9 hM_10 fr_11 => ?_)
  have hM_12 : M_9 a2 = .inr (4, [.int (iI (g 0)), .int (iI (g 1)), .int (iI (g 2)), .int (iI (g 3)), .int (iI (g 4)), .int (iI (g 5)), .int (iI (g 6)), .int (iI (g 7))]) := (fr_11 a2 hne).trans hM_8
  refine g_aload_n X 0 rfl dX4_copy_24 rfl ?_
  refine g_aload_n X 1 rfl dX4_copy_25 rfl ?_
  refine g_get X cl_X4 3 (by decide) wf_X4_15 rfl ha2 hM_12 rfl dX4_copy_26 rfl ?_
  refine g_put X cl_X4 3 (by decide) wf_X4_15 rfl ha hM_10 rfl rfl rfl (Nat.le_of_ble_eq_true rfl) (fs' := [.int (iI (g 0)), .int (iI (g 1)), .int (iI (g 2)), .int (iI (g 3)), .int (iI (f 4)), .int (iI (f 5)), .int (iI (f 6)), .int (iI (f 7))]) rfl dX4_copy_29 rfl (fun M_13 hM_14 fr_15 => ?_)
  have hM_16 : M_13 a2 = .inr (4, [.int (iI (g 0)), .int (iI (g 1)), .int (iI (g 2)), .int (iI (g 3)), .int (iI (g 4)), .int (iI (g 5)), .int (iI (g 6)), .int (iI (g 7))]) := (fr_15 a2 hne).trans hM_12
  refine g_aload_n X 0 rfl dX4_copy_32 rfl ?_
  refine g_aload_n X 1 rfl dX4_copy_33 rfl ?_
  refine g_get X cl_X4 4 (by decide) wf_X4_21 rfl ha2 hM_16 rfl dX4_copy_34 rfl ?_
  refine g_put X cl_X4 4 (by decide) wf_X4_21 rfl ha hM_14 rfl rfl rfl (Nat.le_of_ble_eq_true rfl) (fs' := [.int (iI (g 0)), .int (iI (g 1)), .int (iI (g 2)), .int (iI (g 3)), .int (iI (g 4)), .int (iI (f 5)), .int (iI (f 6)), .int (iI (f 7))]) rfl dX4_copy_37 rfl (fun M_17 hM_18 fr_19 => ?_)
  have hM_20 : M_17 a2 = .inr (4, [.int (iI (g 0)), .int (iI (g 1)), .int (iI (g 2)), .int (iI (g 3)), .int (iI (g 4)), .int (iI (g 5)), .int (iI (g 6)), .int (iI (g 7))]) := (fr_19 a2 hne).trans hM_16
  refine g_aload_n X 0 rfl dX4_copy_40 rfl ?_
  refine g_aload_n X 1 rfl dX4_copy_41 rfl ?_
  refine g_get X cl_X4 5 (by decide) wf_X4_24 rfl ha2 hM_20 rfl dX4_copy_42 rfl ?_
  refine g_put X cl_X4 5 (by decide) wf_X4_24 rfl ha hM_18 rfl rfl rfl (Nat.le_of_ble_eq_true rfl) (fs' := [.int (iI (g 0)), .int (iI (g 1)), .int (iI (g 2)), .int (iI (g 3)), .int (iI (g 4)), .int (iI (g 5)), .int (iI (f 6)), .int (iI (f 7))]) rfl dX4_copy_45 rfl (fun M_21 hM_22 fr_23 => ?_)
  have hM_24 : M_21 a2 = .inr (4, [.int (iI (g 0)), .int (iI (g 1)), .int (iI (g 2)), .int (iI (g 3)), .int (iI (g 4)), .int (iI (g 5)), .int (iI (g 6)), .int (iI (g 7))]) := (fr_23 a2 hne).trans hM_20
  refine g_aload_n X 0 rfl dX4_copy_48 rfl ?_
  refine g_aload_n X 1 rfl dX4_copy_49 rfl ?_
  refine g_get X cl_X4 6 (by decide) wf_X4_27 rfl ha2 hM_24 rfl dX4_copy_50 rfl ?_
  refine g_put X cl_X4 6 (by decide) wf_X4_27 rfl ha hM_22 rfl rfl rfl (Nat.le_of_ble_eq_true rfl) (fs' := [.int (iI (g 0)), .int (iI (g 1)), .int (iI (g 2)), .int (iI (g 3)), .int (iI (g 4)), .int (iI (g 5)), .int (iI (g 6)), .int (iI (f 7))]) rfl dX4_copy_53 rfl (fun M_25 hM_26 fr_27 => ?_)
  have hM_28 : M_25 a2 = .inr (4, [.int (iI (g 0)), .int (iI (g 1)), .int (iI (g 2)), .int (iI (g 3)), .int (iI (g 4)), .int (iI (g 5)), .int (iI (g 6)), .int (iI (g 7))]) := (fr_27 a2 hne).trans hM_24
  refine g_aload_n X 0 rfl dX4_copy_56 rfl ?_
  refine g_aload_n X 1 rfl dX4_copy_57 rfl ?_
  refine g_get X cl_X4 7 (by decide) wf_X4_30 rfl ha2 hM_28 rfl dX4_copy_58 rfl ?_
  refine g_put X cl_X4 7 (by decide) wf_X4_30 rfl ha hM_26 rfl rfl rfl (Nat.le_of_ble_eq_true rfl) (fs' := [.int (iI (g 0)), .int (iI (g 1)), .int (iI (g 2)), .int (iI (g 3)), .int (iI (g 4)), .int (iI (g 5)), .int (iI (g 6)), .int (iI (g 7))]) rfl dX4_copy_61 rfl (fun M_29 hM_30 fr_31 => ?_)
  have hM_32 : M_29 a2 = .inr (4, [.int (iI (g 0)), .int (iI (g 1)), .int (iI (g 2)), .int (iI (g 3)), .int (iI (g 4)), .int (iI (g 5)), .int (iI (g 6)), .int (iI (g 7))]) := (fr_31 a2 hne).trans hM_28
  exact g_vret X hret ⟨Nat.le_of_ble_eq_true rfl, Nat.le_of_ble_eq_true rfl⟩ dX4_copy_64 ⟨rfl, rfl, hM_30.trans rfl, fun b hb => ((fr_31 b hb).trans ((fr_27 b hb).trans ((fr_23 b hb).trans ((fr_19 b hb).trans ((fr_15 b hb).trans ((fr_11 b hb).trans ((fr_7 b hb).trans (fr_3 b hb))))))))⟩
set_option maxRecDepth 100000 in
set_option maxHeartbeats 4000000 in
theorem ct_X0_copy (l : Launch) (a a2 : Nat) (f g : Int → Int) : Ct l yX0_copy cX0_copy 2 none 0 0 0 (fun ca av L M => av = [.ref a, .ref a2] ∧ a ∈ L ∧ M a = oBank f ∧ a2 ∈ L ∧ M a2 = oBank g ∧ a2 ≠ a) (fun ca av L M r L1 M1 => r = none ∧ L = L1 ∧ M1 a = oBank g ∧ ∀ b, b ≠ a → M1 b = M b) := by
  refine Ct_of (own := RX0) (by decide) rfl (by rintro _ _ _ _ ⟨rfl, _⟩; exact Nat.le_of_ble_eq_true rfl) ?_
  rintro p e s m args below meth c D ca A av L M ⟨rfl, ha, hM, ha2, hM2, hne⟩ X hret hname
  refine g_lv (lv' := [(0, .ref a), (1, .ref a2)]) [0, 1] rfl ?_
  refine g_aload_n X 0 rfl dX0_copy_0 rfl ?_
  refine g_aload_n X 1 rfl dX0_copy_1 rfl ?_
  refine g_get X cl_X0 0 (by decide) wf_X0_9 rfl ha2 hM2 rfl dX0_copy_2 rfl ?_
  refine g_put X cl_X0 0 (by decide) wf_X0_9 rfl ha hM rfl rfl rfl (Nat.le_of_ble_eq_true rfl) (fs' := [.int (iI (g 0)), .int (iI (f 1)), .int (iI (f 2)), .int (iI (f 3))]) rfl dX0_copy_5 rfl (fun M_1 hM_2 fr_3 => ?_)
  have hM_4 : M_1 a2 = .inr (0, [.int (iI (g 0)), .int (iI (g 1)), .int (iI (g 2)), .int (iI (g 3))]) := (fr_3 a2 hne).trans hM2
  refine g_aload_n X 0 rfl dX0_copy_8 rfl ?_
  refine g_aload_n X 1 rfl dX0_copy_9 rfl ?_
  refine g_get X cl_X0 1 (by decide) wf_X0_15 rfl ha2 hM_4 rfl dX0_copy_10 rfl ?_
  refine g_put X cl_X0 1 (by decide) wf_X0_15 rfl ha hM_2 rfl rfl rfl (Nat.le_of_ble_eq_true rfl) (fs' := [.int (iI (g 0)), .int (iI (g 1)), .int (iI (f 2)), .int (iI (f 3))]) rfl dX0_copy_13 rfl (fun M_5 hM_6 fr_7 => ?_)
  have hM_8 : M_5 a2 = .inr (0, [.int (iI (g 0)), .int (iI (g 1)), .int (iI (g 2)), .int (iI (g 3))]) := (fr_7 a2 hne).trans hM_4
  refine g_aload_n X 0 rfl dX0_copy_16 rfl ?_
  refine g_aload_n X 1 rfl dX0_copy_17 rfl ?_
  refine g_get X cl_X0 2 (by decide) wf_X0_18 rfl ha2 hM_8 rfl dX0_copy_18 rfl ?_
  refine g_put X cl_X0 2 (by decide) wf_X0_18 rfl ha hM_6 rfl rfl rfl (Nat.le_of_ble_eq_true rfl) (fs' := [.int (iI (g 0)), .int (iI (g 1)), .int (iI (g 2)), .int (iI (f 3))]) rfl dX0_copy_21 rfl (fun M_9 hM_10 fr_11 => ?_)
  have hM_12 : M_9 a2 = .inr (0, [.int (iI (g 0)), .int (iI (g 1)), .int (iI (g 2)), .int (iI (g 3))]) := (fr_11 a2 hne).trans hM_8
  refine g_aload_n X 0 rfl dX0_copy_24 rfl ?_
  refine g_aload_n X 1 rfl dX0_copy_25 rfl ?_
  refine g_get X cl_X0 3 (by decide) wf_X0_21 rfl ha2 hM_12 rfl dX0_copy_26 rfl ?_
  refine g_put X cl_X0 3 (by decide) wf_X0_21 rfl ha hM_10 rfl rfl rfl (Nat.le_of_ble_eq_true rfl) (fs' := [.int (iI (g 0)), .int (iI (g 1)), .int (iI (g 2)), .int (iI (g 3))]) rfl dX0_copy_29 rfl (fun M_13 hM_14 fr_15 => ?_)
  have hM_16 : M_13 a2 = .inr (0, [.int (iI (g 0)), .int (iI (g 1)), .int (iI (g 2)), .int (iI (g 3))]) := (fr_15 a2 hne).trans hM_12
  exact g_vret X hret ⟨Nat.le_of_ble_eq_true rfl, Nat.le_of_ble_eq_true rfl⟩ dX0_copy_32 ⟨rfl, rfl, hM_14.trans rfl, fun b hb => ((fr_15 b hb).trans ((fr_11 b hb).trans ((fr_7 b hb).trans (fr_3 b hb))))⟩
set_option maxRecDepth 100000 in
set_option maxHeartbeats 4000000 in
theorem ct_X4_nextAddress (l : Launch) (a : Nat) (f : Int → Int) : Ct l yX4_nextAddress cX4_nextAddress 1 (some .int) 0 0 0 (fun ca av L M => av = [.ref a] ∧ a ∈ L ∧ M a = oRow f ∧ R32 (f 3) ∧ R32 (f 2) ∧ (0 ≤ f 4 + f 1 ∧ f 4 + f 1 < 2147483648)) (fun ca av L M r L1 M1 => r = some (.int (iI (rwNext f))) ∧ L = L1 ∧ M = M1) := by
  refine Ct_of (own := RX4) (by decide) rfl (by rintro _ _ _ _ ⟨rfl, _⟩; exact Nat.le_of_ble_eq_true rfl) ?_
  rintro p e s m args below meth c D ca A av L M ⟨rfl, ha, hM, hr3, hr2, hs⟩ X hret hname
  refine g_lv (lv' := [(0, .ref a)]) [0] rfl ?_
  refine g_aload_n X 0 rfl dX4_nextAddress_0 rfl ?_
  refine g_get X cl_X4 3 (by decide) wf_X4_15 rfl ha hM rfl dX4_nextAddress_1 rfl ?_
  refine g_aload_n X 0 rfl dX4_nextAddress_4 rfl ?_
  refine g_get X cl_X4 2 (by decide) wf_X4_9 rfl ha hM rfl dX4_nextAddress_5 rfl ?_
  refine g_icmp_ne X hr3 hr2 (tgt := 18) dX4_nextAddress_8 (by decide) rfl (fun h_1 => ?_) (fun h_1 => ?_)
  · refine g_aload_n X 0 rfl dX4_nextAddress_18 rfl ?_
    refine g_get X cl_X4 4 (by decide) wf_X4_21 rfl ha hM rfl dX4_nextAddress_19 rfl ?_
    refine g_aload_n X 0 rfl dX4_nextAddress_22 rfl ?_
    refine g_get X cl_X4 1 (by decide) wf_X4_33 rfl ha hM rfl dX4_nextAddress_23 rfl ?_
    refine g_iadd X dX4_nextAddress_26 rfl ?_
    refine g_sipush X (z := 4096) (by decide +kernel) dX4_nextAddress_27 rfl ?_
    refine g_irem X ⟨hs, by decide, by decide⟩ dX4_nextAddress_30 rfl ?_
    exact g_iret X hret ⟨Nat.le_of_ble_eq_true rfl, Nat.le_of_ble_eq_true rfl⟩ dX4_nextAddress_31 ⟨by rw [rwNext, if_neg h_1], rfl, rfl⟩
  · refine g_aload_n X 0 rfl dX4_nextAddress_11 rfl ?_
    refine g_get X cl_X4 0 (by decide) wf_X4_18 rfl ha hM rfl dX4_nextAddress_12 rfl ?_
    refine g_goto X (n := 31) dX4_nextAddress_15 (by decide) ?_
    exact g_iret X hret ⟨Nat.le_of_ble_eq_true rfl, Nat.le_of_ble_eq_true rfl⟩ dX4_nextAddress_31 ⟨by rw [rwNext, if_pos (Decidable.not_not.mp h_1)], rfl, rfl⟩
set_option maxRecDepth 100000 in
set_option maxHeartbeats 4000000 in
theorem ct_X4_tell (l : Launch) (a : Nat) (f : Int → Int) (w : Int) : Ct l yX4_tell cX4_tell 2 (some .int) 1 0 0 (fun ca av L M => av = [.ref a, .int (iI w)] ∧ a ∈ L ∧ M a = oRow f ∧ R32 w ∧ R32 (f 3) ∧ R32 (f 2) ∧ (0 ≤ f 4 + f 1 ∧ f 4 + f 1 < 2147483648)) (fun ca av L M r L1 M1 => r = some (.int (iI (rwTell f w))) ∧ L = L1 ∧ M = M1) := by
  refine Ct_of (own := RX4) (by decide) rfl (by rintro _ _ _ _ ⟨rfl, _⟩; exact Nat.le_of_ble_eq_true rfl) ?_
  rintro p e s m args below meth c D ca A av L M ⟨rfl, ha, hM, hw, hr3, hr2, hs⟩ X hret hname
  refine g_lv (lv' := [(0, .ref a), (1, .int (iI w))]) [0, 1] rfl ?_
  refine g_iload_n X 1 rfl dX4_tell_0 rfl ?_
  by_cases h_1 : 0 ≤ w ∧ w ≤ 7
  · have h_1a : w = 0 ∨ w = 1 ∨ w = 2 ∨ w = 3 ∨ w = 4 ∨ w = 5 ∨ w = 6 ∨ w = 7 := by omega
    rcases h_1a with h_1a | h_1a | h_1a | h_1a | h_1a | h_1a | h_1a | h_1a
    · refine g_tsIn X dX4_tell_1 hw 0 h_1a (by decide) (by decide) rfl (by decide : _ = ((48 : Nat) : Int)) ?_
      refine g_aload_n X 0 rfl dX4_tell_48 rfl ?_
      refine g_get X cl_X4 0 (by decide) wf_X4_18 rfl ha hM rfl dX4_tell_49 rfl ?_
      exact g_iret X hret ⟨Nat.le_of_ble_eq_true rfl, Nat.le_of_ble_eq_true rfl⟩ dX4_tell_52 ⟨by rw [rwTell, if_pos h_1a], rfl, rfl⟩
    · refine g_tsIn X dX4_tell_1 hw 1 h_1a (by decide) (by decide) rfl (by decide : _ = ((53 : Nat) : Int)) ?_
      refine g_aload_n X 0 rfl dX4_tell_53 rfl ?_
      refine g_get X cl_X4 1 (by decide) wf_X4_33 rfl ha hM rfl dX4_tell_54 rfl ?_
      exact g_iret X hret ⟨Nat.le_of_ble_eq_true rfl, Nat.le_of_ble_eq_true rfl⟩ dX4_tell_57 ⟨by rw [rwTell, if_neg (by omega : ¬ w = 0), if_pos h_1a], rfl, rfl⟩
    · refine g_tsIn X dX4_tell_1 hw 2 h_1a (by decide) (by decide) rfl (by decide : _ = ((58 : Nat) : Int)) ?_
      refine g_aload_n X 0 rfl dX4_tell_58 rfl ?_
      refine g_get X cl_X4 2 (by decide) wf_X4_9 rfl ha hM rfl dX4_tell_59 rfl ?_
      exact g_iret X hret ⟨Nat.le_of_ble_eq_true rfl, Nat.le_of_ble_eq_true rfl⟩ dX4_tell_62 ⟨by rw [rwTell, if_neg (by omega : ¬ w = 0), if_neg (by omega : ¬ w = 1), if_pos h_1a], rfl, rfl⟩
    · refine g_tsIn X dX4_tell_1 hw 3 h_1a (by decide) (by decide) rfl (by decide : _ = ((63 : Nat) : Int)) ?_
      refine g_aload_n X 0 rfl dX4_tell_63 rfl ?_
      refine g_get X cl_X4 3 (by decide) wf_X4_15 rfl ha hM rfl dX4_tell_64 rfl ?_
      exact g_iret X hret ⟨Nat.le_of_ble_eq_true rfl, Nat.le_of_ble_eq_true rfl⟩ dX4_tell_67 ⟨by rw [rwTell, if_neg (by omega : ¬ w = 0), if_neg (by omega : ¬ w = 1), if_neg (by omega : ¬ w = 2), if_pos h_1a], rfl, rfl⟩
    · refine g_tsIn X dX4_tell_1 hw 4 h_1a (by decide) (by decide) rfl (by decide : _ = ((68 : Nat) : Int)) ?_
      refine g_aload_n X 0 rfl dX4_tell_68 rfl ?_
      refine g_get X cl_X4 3 (by decide) wf_X4_15 rfl ha hM rfl dX4_tell_69 rfl ?_
      refine g_if_le X hr3 (tgt := 82) dX4_tell_72 (by decide) rfl (fun h_2 => ?_) (fun h_2 => ?_)
      · refine g_bipush X (z := -6) (by decide +kernel) dX4_tell_82 rfl ?_
        exact g_iret X hret ⟨Nat.le_of_ble_eq_true rfl, Nat.le_of_ble_eq_true rfl⟩ dX4_tell_84 ⟨by rw [rwTell, if_neg (by omega : ¬ w = 0), if_neg (by omega : ¬ w = 1), if_neg (by omega : ¬ w = 2), if_neg (by omega : ¬ w = 3), if_pos h_1a, if_neg (by omega)], rfl, rfl⟩
      · refine g_aload_n X 0 rfl dX4_tell_75 rfl ?_
        refine g_callV X (ct_X4_nextAddress l a f) (As := []) (rest := []) cl_X4 rfl ca_X4_nextAddress rfl wm_X4_36 wi_X4_nextAddress ws_X4_nextAddress wc_X4_nextAddress w0_X4 ⟨by decide, by decide⟩ ha hM (by decide) ⟨by decide, by decide⟩ rfl dX4_tell_76 rfl ⟨rfl, ha, hM, hr3, hr2, hs⟩ (fun r1 L1 M1 hq => ?_)
        obtain ⟨rfl, rfl, rfl⟩ := hq
        refine g_st (st' := [.int (iI (rwNext f))]) rfl ?_
        refine g_goto X (n := 84) dX4_tell_79 (by decide) ?_
        exact g_iret X hret ⟨Nat.le_of_ble_eq_true rfl, Nat.le_of_ble_eq_true rfl⟩ dX4_tell_84 ⟨by rw [rwTell, if_neg (by omega : ¬ w = 0), if_neg (by omega : ¬ w = 1), if_neg (by omega : ¬ w = 2), if_neg (by omega : ¬ w = 3), if_pos h_1a, if_pos (by omega)], rfl, rfl⟩
    · refine g_tsIn X dX4_tell_1 hw 5 h_1a (by decide) (by decide) rfl (by decide : _ = ((85 : Nat) : Int)) ?_
      refine g_aload_n X 0 rfl dX4_tell_85 rfl ?_
      refine g_get X cl_X4 5 (by decide) wf_X4_24 rfl ha hM rfl dX4_tell_86 rfl ?_
      exact g_iret X hret ⟨Nat.le_of_ble_eq_true rfl, Nat.le_of_ble_eq_true rfl⟩ dX4_tell_89 ⟨by rw [rwTell, if_neg (by omega : ¬ w = 0), if_neg (by omega : ¬ w = 1), if_neg (by omega : ¬ w = 2), if_neg (by omega : ¬ w = 3), if_neg (by omega : ¬ w = 4), if_pos h_1a], rfl, rfl⟩
    · refine g_tsIn X dX4_tell_1 hw 6 h_1a (by decide) (by decide) rfl (by decide : _ = ((90 : Nat) : Int)) ?_
      refine g_aload_n X 0 rfl dX4_tell_90 rfl ?_
      refine g_get X cl_X4 6 (by decide) wf_X4_27 rfl ha hM rfl dX4_tell_91 rfl ?_
      exact g_iret X hret ⟨Nat.le_of_ble_eq_true rfl, Nat.le_of_ble_eq_true rfl⟩ dX4_tell_94 ⟨by rw [rwTell, if_neg (by omega : ¬ w = 0), if_neg (by omega : ¬ w = 1), if_neg (by omega : ¬ w = 2), if_neg (by omega : ¬ w = 3), if_neg (by omega : ¬ w = 4), if_neg (by omega : ¬ w = 5), if_pos h_1a], rfl, rfl⟩
    · refine g_tsIn X dX4_tell_1 hw 7 h_1a (by decide) (by decide) rfl (by decide : _ = ((95 : Nat) : Int)) ?_
      refine g_aload_n X 0 rfl dX4_tell_95 rfl ?_
      refine g_get X cl_X4 7 (by decide) wf_X4_30 rfl ha hM rfl dX4_tell_96 rfl ?_
      exact g_iret X hret ⟨Nat.le_of_ble_eq_true rfl, Nat.le_of_ble_eq_true rfl⟩ dX4_tell_99 ⟨by rw [rwTell, if_neg (by omega : ¬ w = 0), if_neg (by omega : ¬ w = 1), if_neg (by omega : ¬ w = 2), if_neg (by omega : ¬ w = 3), if_neg (by omega : ¬ w = 4), if_neg (by omega : ¬ w = 5), if_neg (by omega : ¬ w = 6), if_pos h_1a], rfl, rfl⟩
  · refine g_tsOut X dX4_tell_1 hw (by omega) (by decide : _ = ((100 : Nat) : Int)) ?_
    refine g_bipush X (z := -2) (by decide +kernel) dX4_tell_100 rfl ?_
    exact g_iret X hret ⟨Nat.le_of_ble_eq_true rfl, Nat.le_of_ble_eq_true rfl⟩ dX4_tell_102 ⟨by rw [rwTell, if_neg (by omega : ¬ w = 0), if_neg (by omega : ¬ w = 1), if_neg (by omega : ¬ w = 2), if_neg (by omega : ¬ w = 3), if_neg (by omega : ¬ w = 4), if_neg (by omega : ¬ w = 5), if_neg (by omega : ¬ w = 6), if_neg (by omega : ¬ w = 7)], rfl, rfl⟩
theorem oRow_eq {f : Int → Int} {x0 x1 x2 x3 x4 x5 x6 x7 : Int} (h0 : x0 = f 0) (h1 : x1 = f 1) (h2 : x2 = f 2) (h3 : x3 = f 3) (h4 : x4 = f 4) (h5 : x5 = f 5) (h6 : x6 = f 6) (h7 : x7 = f 7) : (.inr (4, [.int (iI x0), .int (iI x1), .int (iI x2), .int (iI x3), .int (iI x4), .int (iI x5), .int (iI x6), .int (iI x7)]) : va_E) = oRow f := by
  subst h0 h1 h2 h3 h4 h5 h6 h7; rfl
theorem oBank_eq {f : Int → Int} {x0 x1 x2 x3 : Int} (h0 : x0 = f 0) (h1 : x1 = f 1) (h2 : x2 = f 2) (h3 : x3 = f 3) : (.inr (0, [.int (iI x0), .int (iI x1), .int (iI x2), .int (iI x3)]) : va_E) = oBank f := by
  subst h0 h1 h2 h3; rfl
set_option maxRecDepth 100000 in
set_option maxHeartbeats 4000000 in
theorem ct_X4_finishRequest (l : Launch) (a : Nat) (f : Int → Int) (w cy : Int) : Ct l yX4_finishRequest cX4_finishRequest 3 none 0 0 0 (fun ca av L M => av = [.ref a, .int (iI w), .int (iI cy)] ∧ a ∈ L ∧ M a = oRow f ∧ R32 (f 3 - 1)) (fun ca av L M r L1 M1 => r = none ∧ L = L1 ∧ M1 a = oRow (rwFin f w cy) ∧ ∀ b, b ≠ a → M1 b = M b) := by
  refine Ct_of (own := RX4) (by decide) rfl (by rintro _ _ _ _ ⟨rfl, _⟩; exact Nat.le_of_ble_eq_true rfl) ?_
  rintro p e s m args below meth c D ca A av L M ⟨rfl, ha, hM, hr3⟩ X hret hname
  refine g_lv (lv' := [(0, .ref a), (1, .int (iI w)), (2, .int (iI cy))]) [0, 1, 2] rfl ?_
  refine g_aload_n X 0 rfl dX4_finishRequest_0 rfl ?_
  refine g_iload_n X 1 rfl dX4_finishRequest_1 rfl ?_
  refine g_put X cl_X4 4 (by decide) wf_X4_21 rfl ha hM rfl rfl rfl (Nat.le_of_ble_eq_true rfl) (fs' := [.int (iI (f 0)), .int (iI (f 1)), .int (iI (f 2)), .int (iI (f 3)), .int (iI w), .int (iI (f 5)), .int (iI (f 6)), .int (iI (f 7))]) rfl dX4_finishRequest_2 rfl (fun M_1 hM_2 fr_3 => ?_)
  refine g_aload_n X 0 rfl dX4_finishRequest_5 rfl ?_
  refine g_dup X rfl dX4_finishRequest_6 rfl ?_
  refine g_get X cl_X4 3 (by decide) wf_X4_15 rfl ha hM_2 rfl dX4_finishRequest_7 rfl ?_
  refine g_iconst X (z := 1) dX4_finishRequest_10 rfl ?_
  refine g_isub X dX4_finishRequest_11 rfl ?_
  refine g_put X cl_X4 3 (by decide) wf_X4_15 rfl ha hM_2 rfl rfl rfl (Nat.le_of_ble_eq_true rfl) (fs' := [.int (iI (f 0)), .int (iI (f 1)), .int (iI (f 2)), .int (iI (f 3 - 1)), .int (iI w), .int (iI (f 5)), .int (iI (f 6)), .int (iI (f 7))]) rfl dX4_finishRequest_12 rfl (fun M_4 hM_5 fr_6 => ?_)
  refine g_aload_n X 0 rfl dX4_finishRequest_15 rfl ?_
  refine g_get X cl_X4 3 (by decide) wf_X4_15 rfl ha hM_5 rfl dX4_finishRequest_16 rfl ?_
  refine g_if_ne X hr3 (tgt := 27) dX4_finishRequest_19 (by decide) rfl (fun h_7 => ?_) (fun h_7 => ?_)
  · exact g_vret X hret ⟨Nat.le_of_ble_eq_true rfl, Nat.le_of_ble_eq_true rfl⟩ dX4_finishRequest_27 ⟨rfl, rfl, by rw [hM_5]; exact oRow_eq rfl rfl rfl rfl rfl rfl rfl (by show f 7 = (if f 3 - 1 = 0 then cy else f 7); rw [if_neg h_7]), fun b hb => ((fr_6 b hb).trans (fr_3 b hb))⟩
  · refine g_aload_n X 0 rfl dX4_finishRequest_22 rfl ?_
    refine g_iload_n X 2 rfl dX4_finishRequest_23 rfl ?_
    refine g_put X cl_X4 7 (by decide) wf_X4_30 rfl ha hM_5 rfl rfl rfl (Nat.le_of_ble_eq_true rfl) (fs' := [.int (iI (f 0)), .int (iI (f 1)), .int (iI (f 2)), .int (iI (f 3 - 1)), .int (iI w), .int (iI (f 5)), .int (iI (f 6)), .int (iI cy)]) rfl dX4_finishRequest_24 rfl (fun M_8 hM_9 fr_10 => ?_)
    exact g_vret X hret ⟨Nat.le_of_ble_eq_true rfl, Nat.le_of_ble_eq_true rfl⟩ dX4_finishRequest_27 ⟨rfl, rfl, by rw [hM_9]; exact oRow_eq rfl rfl rfl rfl rfl rfl rfl (by show cy = (if f 3 - 1 = 0 then cy else f 7); rw [if_pos (Decidable.not_not.mp h_7)]), fun b hb => ((fr_10 b hb).trans ((fr_6 b hb).trans (fr_3 b hb)))⟩
end
section
/-! ===== the reference's numbers as a function: settings 0 to 3, cycle 4, streams 5, bank b at 6 + 4 b, stream i at 70 + 10 i ===== -/
abbrev oMd (μ : Nat → Nat) (q : Int → Int) : va_E := .inr (6, [.ref (μ 1), .ref (μ 2), .ref (μ 3), .ref (μ 4), .ref (μ 5), .ref (μ 6), .ref (μ 7), .ref (μ 8), .int (iI (q 0)), .int (iI (q 1)), .int (iI (q 2)), .int (iI (q 3))])
def MuOk (μ : Nat → Nat) (L : List Nat) : Prop := (∀ i, i < 9 → μ i ∈ L) ∧ ∀ i j, i < 9 → j < 9 → μ i = μ j → i = j
theorem MuOk.mem {μ : Nat → Nat} {L : List Nat} (h : MuOk μ L) (i : Nat) (hi : i < 9) : μ i ∈ L := h.1 i hi
theorem MuOk.ne {μ : Nat → Nat} {L : List Nat} (h : MuOk μ L) {i j : Nat} (hi : i < 9) (hj : j < 9) (hij : i ≠ j) : μ i ≠ μ j := fun q => hij (h.2 i j hi hj q)
def InvS (g : Int → Int) : Prop := (2 ≤ g 0 ∧ g 0 ≤ 16) ∧ (1 ≤ g 1 ∧ g 1 ≤ 12) ∧ (0 ≤ g 2 ∧ g 2 ≤ 2) ∧ (0 ≤ g 3 ∧ g 3 ≤ 1) ∧ (0 ≤ g 4 ∧ g 4 ≤ 1000000) ∧ (0 ≤ g 5 ∧ g 5 ≤ 4)
def InvB (g : Int → Int) : Prop := ∀ b, 0 ≤ b → b < 16 → (0 ≤ g (6 + 4 * b) ∧ g (6 + 4 * b) ≤ g 4 + 12) ∧ (-1 ≤ g (6 + 4 * b + 1) ∧ g (6 + 4 * b + 1) < 4)
def rowI (g : Int → Int) (q : Int) : Prop := (0 ≤ g q ∧ g q < 4096) ∧ (0 ≤ g (q + 1) ∧ g (q + 1) < 1024) ∧ (1 ≤ g (q + 2) ∧ g (q + 2) ≤ 200) ∧ (0 ≤ g (q + 3) ∧ g (q + 3) ≤ g (q + 2)) ∧ (0 ≤ g (q + 4) ∧ g (q + 4) < 4096) ∧ ((g (q + 3) = g (q + 2) ∧ g (q + 5) = -1 ∧ g (q + 4) = g q) ∨ (g (q + 3) < g (q + 2) ∧ 0 ≤ g (q + 5) ∧ g (q + 5) < 4096 ∧ g (q + 4) = (g (q + 5) + g (q + 1)) % 4096))
def InvR (g : Int → Int) : Prop := ∀ i, 0 ≤ i → i < g 5 → rowI g (70 + 10 * i)
def Inv (g : Int → Int) : Prop := InvS g ∧ InvB g ∧ InvR g
def cpy (n : Int) (f h : Int → Int) : Int → Int := fun k => if 0 ≤ k ∧ k < n then f k else h k
theorem cpy_0 (f h : Int → Int) : cpy 0 f h = h := funext fun k => if_neg (by omega)
theorem cpy_up (f h : Int → Int) {k : Int} (hk : 0 ≤ k) : up (cpy k f h) k (f k) = cpy (k + 1) f h := by
  funext j
  simp only [up, cpy]
  by_cases h1 : j = k
  · subst h1; rw [if_pos rfl, if_pos (by omega)]
  · rw [if_neg h1]
    by_cases h2 : 0 ≤ j ∧ j < k
    · rw [if_pos h2, if_pos (by omega)]
    · rw [if_neg h2, if_neg (by omega)]
theorem cpy_in {n : Int} {f h : Int → Int} {k : Int} (h0 : 0 ≤ k) (h1 : k < n) : cpy n f h k = f k := if_pos ⟨h0, h1⟩
theorem cpy_out {n : Int} {f h : Int → Int} {k : Int} (h1 : ¬ (0 ≤ k ∧ k < n)) : cpy n f h k = h k := if_neg h1
/-- prime numbers up to 16 -/
def ptB (n : Int) : Nat → Bool
  | 0 => true
  | k + 1 => ptB n k && decide (n % ((k : Int) + 2) > 0)
abbrev isPr (n : Int) : Prop := ptB n (n - 2).toNat = true
theorem ptB_next {v y z : Int} {k : Nat} (hy : y = (k : Int) + 2) (hz : z = if ptB v k = true then 1 else 0) : (z ≠ 0 → v % y > 0 → (1 : Int) = if ptB v (k + 1) = true then 1 else 0) ∧ (z = 0 ∨ ¬ v % y > 0 → (0 : Int) = if ptB v (k + 1) = true then 1 else 0) := by
  subst hy
  cases hp : ptB v k
  · rw [hp] at hz
    simp only [Bool.false_eq_true, if_false] at hz
    refine ⟨fun h => absurd hz h, fun _ => ?_⟩
    rw [ptB, hp]; rfl
  · rw [hp] at hz
    simp only [if_true] at hz
    refine ⟨fun _ h => ?_, fun h => ?_⟩
    · rw [ptB, hp, if_pos (by simp only [Bool.true_and, decide_eq_true_eq]; exact h)]
    · have h2 : ¬ v % ((k : Int) + 2) > 0 := h.elim (fun q => absurd (hz.symm.trans q) (by decide)) id
      rw [ptB, hp, if_neg (by simp only [Bool.true_and, decide_eq_true_eq]; exact h2)]
theorem isPr_step {n : Int} (h1 : 2 ≤ n) (h2 : n ≤ 16) : (isPr n → tGP n = n) ∧ (¬ isPr n → 3 ≤ n ∧ tGP (n - 1) = tGP n) := by
  rcases (by omega : n = 2 ∨ n = 3 ∨ n = 4 ∨ n = 5 ∨ n = 6 ∨ n = 7 ∨ n = 8 ∨ n = 9 ∨ n = 10 ∨ n = 11 ∨ n = 12 ∨ n = 13 ∨ n = 14 ∨ n = 15 ∨ n = 16) with h | h | h | h | h | h | h | h | h | h | h | h | h | h | h <;> subst h <;> decide
theorem tGP_rng {n : Int} (h1 : 2 ≤ n) (h2 : n ≤ 16) : 2 ≤ tGP n ∧ tGP n ≤ n := by
  rcases (by omega : n = 2 ∨ n = 3 ∨ n = 4 ∨ n = 5 ∨ n = 6 ∨ n = 7 ∨ n = 8 ∨ n = 9 ∨ n = 10 ∨ n = 11 ∨ n = 12 ∨ n = 13 ∨ n = 14 ∨ n = 15 ∨ n = 16) with h | h | h | h | h | h | h | h | h | h | h | h | h | h | h <;> subst h <;> decide
def bkG (g : Int → Int) (a : Int) : Int := if g 2 = 0 then a % g 0 else if g 2 = 1 then (a + a / g 0) % g 0 else a % tGP (g 0)
theorem bkG_rng {g : Int → Int} (hI : InvS g) (a : Int) : 0 ≤ bkG g a ∧ bkG g a < g 0 ∧ bkG g a < 16 := by
  obtain ⟨⟨h1, h2⟩, -⟩ := hI
  have h3 := tGP_rng h1 h2
  have e1 := Int.emod_nonneg a (by omega : g 0 ≠ 0)
  have e2 := Int.emod_lt_of_pos a (by omega : 0 < g 0)
  have e3 := Int.emod_nonneg (a + a / g 0) (by omega : g 0 ≠ 0)
  have e4 := Int.emod_lt_of_pos (a + a / g 0) (by omega : 0 < g 0)
  have e5 := Int.emod_nonneg a (by omega : tGP (g 0) ≠ 0)
  have e6 := Int.emod_lt_of_pos a (by omega : 0 < tGP (g 0))
  unfold bkG
  split
  · omega
  · split <;> omega
def asksG (g : Int → Int) (i : Int) : Int → Int :=
  if g (6 + 4 * bkG g (g (70 + 10 * i + 4))) > g 4 then
    up (up (up g (70 + 10 * i + 6) (g (70 + 10 * i + 6) + 1)) (70 + 10 * i + 7) (g (70 + 10 * i + 7) + if g (6 + 4 * bkG g (g (70 + 10 * i + 4)) + 1) = i then 0 else 1)) (6 + 4 * bkG g (g (70 + 10 * i + 4)) + 3) (g (6 + 4 * bkG g (g (70 + 10 * i + 4)) + 3) + 1)
  else
    up (up (up (up (up (up (up g (6 + 4 * bkG g (g (70 + 10 * i + 4))) (g 4 + g 1)) (6 + 4 * bkG g (g (70 + 10 * i + 4)) + 1) i) (6 + 4 * bkG g (g (70 + 10 * i + 4)) + 2) (g (6 + 4 * bkG g (g (70 + 10 * i + 4)) + 2) + 1)) (70 + 10 * i + 5) (g (70 + 10 * i + 4))) (70 + 10 * i + 4) ((g (70 + 10 * i + 4) + g (70 + 10 * i + 1)) % 4096)) (70 + 10 * i + 3) (g (70 + 10 * i + 3) - 1)) (70 + 10 * i + 8) (if g (70 + 10 * i + 3) - 1 = 0 then g 4 else -1)
def asksR (g : Int → Int) (i : Int) : Int := if g (6 + 4 * bkG g (g (70 + 10 * i + 4))) > g 4 then 0 else 1
end
section
/-! the reference: small methods -/
set_option maxRecDepth 100000 in
set_option maxHeartbeats 4000000 in
theorem ct_X6_in (l : Launch) (v lo hi : Int) : Ct l yX6_in cX6_in 3 (some .boolean) 0 0 0 (fun ca av L M => av = [.int (iI v), .int (iI lo), .int (iI hi)] ∧ R32 v ∧ R32 lo ∧ R32 hi) (fun ca av L M r L1 M1 => r = some (.int (iI (if lo ≤ v ∧ v ≤ hi then 1 else 0))) ∧ L = L1 ∧ M = M1) := by
  refine Ct_of (own := RX6) (by decide) rfl (by rintro _ _ _ _ ⟨rfl, _⟩; exact Nat.le_of_ble_eq_true rfl) ?_
  rintro p e s m args below meth c D ca A av L M ⟨rfl, hv, hlo, hhi⟩ X hret hname
  refine g_lv (lv' := [(0, .int (iI v)), (1, .int (iI lo)), (2, .int (iI hi))]) [0, 1, 2] rfl ?_
  refine g_iload_n X 0 rfl dX6_in_0 rfl ?_
  refine g_iload_n X 1 rfl dX6_in_1 rfl ?_
  refine g_icmp_lt X hv hlo (tgt := 14) dX6_in_2 (by decide) rfl (fun h_1 => ?_) (fun h_1 => ?_)
  · refine g_iconst X (z := 0) dX6_in_14 rfl ?_
    exact g_zret X hret (by rfl) ⟨Nat.le_of_ble_eq_true rfl, Nat.le_of_ble_eq_true rfl⟩ dX6_in_15 ⟨by rw [if_neg (by omega)], rfl, rfl⟩
  · refine g_iload_n X 0 rfl dX6_in_5 rfl ?_
    refine g_iload_n X 2 rfl dX6_in_6 rfl ?_
    refine g_icmp_gt X hv hhi (tgt := 14) dX6_in_7 (by decide) rfl (fun h_2 => ?_) (fun h_2 => ?_)
    · refine g_iconst X (z := 0) dX6_in_14 rfl ?_
      exact g_zret X hret (by rfl) ⟨Nat.le_of_ble_eq_true rfl, Nat.le_of_ble_eq_true rfl⟩ dX6_in_15 ⟨by rw [if_neg (by omega)], rfl, rfl⟩
    · refine g_iconst X (z := 1) dX6_in_10 rfl ?_
      refine g_goto X (n := 15) dX6_in_11 (by decide) ?_
      exact g_zret X hret (by rfl) ⟨Nat.le_of_ble_eq_true rfl, Nat.le_of_ble_eq_true rfl⟩ dX6_in_15 ⟨by rw [if_pos ⟨by omega, by omega⟩], rfl, rfl⟩
set_option maxRecDepth 100000 in
set_option maxHeartbeats 4000000 in
theorem ct_X5_isIn (l : Launch) (v lo hi : Int) : Ct l yX5_isIn cX5_isIn 3 (some .boolean) 0 0 0 (fun ca av L M => av = [.int (iI v), .int (iI lo), .int (iI hi)] ∧ R32 v ∧ R32 lo ∧ R32 hi) (fun ca av L M r L1 M1 => r = some (.int (iI (if lo ≤ v ∧ v ≤ hi then 1 else 0))) ∧ L = L1 ∧ M = M1) := by
  refine Ct_of (own := RX5) (by decide) rfl (by rintro _ _ _ _ ⟨rfl, _⟩; exact Nat.le_of_ble_eq_true rfl) ?_
  rintro p e s m args below meth c D ca A av L M ⟨rfl, hv, hlo, hhi⟩ X hret hname
  refine g_lv (lv' := [(0, .int (iI v)), (1, .int (iI lo)), (2, .int (iI hi))]) [0, 1, 2] rfl ?_
  refine g_iload_n X 0 rfl dX5_isIn_0 rfl ?_
  refine g_iload_n X 1 rfl dX5_isIn_1 rfl ?_
  refine g_icmp_lt X hv hlo (tgt := 14) dX5_isIn_2 (by decide) rfl (fun h_1 => ?_) (fun h_1 => ?_)
  · refine g_iconst X (z := 0) dX5_isIn_14 rfl ?_
    exact g_zret X hret (by rfl) ⟨Nat.le_of_ble_eq_true rfl, Nat.le_of_ble_eq_true rfl⟩ dX5_isIn_15 ⟨by rw [if_neg (by omega)], rfl, rfl⟩
  · refine g_iload_n X 0 rfl dX5_isIn_5 rfl ?_
    refine g_iload_n X 2 rfl dX5_isIn_6 rfl ?_
    refine g_icmp_gt X hv hhi (tgt := 14) dX5_isIn_7 (by decide) rfl (fun h_2 => ?_) (fun h_2 => ?_)
    · refine g_iconst X (z := 0) dX5_isIn_14 rfl ?_
      exact g_zret X hret (by rfl) ⟨Nat.le_of_ble_eq_true rfl, Nat.le_of_ble_eq_true rfl⟩ dX5_isIn_15 ⟨by rw [if_neg (by omega)], rfl, rfl⟩
    · refine g_iconst X (z := 1) dX5_isIn_10 rfl ?_
      refine g_goto X (n := 15) dX5_isIn_11 (by decide) ?_
      exact g_zret X hret (by rfl) ⟨Nat.le_of_ble_eq_true rfl, Nat.le_of_ble_eq_true rfl⟩ dX5_isIn_15 ⟨by rw [if_pos ⟨by omega, by omega⟩], rfl, rfl⟩
set_option maxRecDepth 100000 in
set_option maxHeartbeats 4000000 in
theorem ct_X6_b (l : Launch) (b : Int) : Ct l yX6_b cX6_b 1 (some .int) 0 0 0 (fun ca av L M => av = [.int (iI b)] ∧ True) (fun ca av L M r L1 M1 => r = some (.int (iI (6 + 4 * b))) ∧ L = L1 ∧ M = M1) := by
  refine Ct_of (own := RX6) (by decide) rfl (by rintro _ _ _ _ ⟨rfl, _⟩; exact Nat.le_of_ble_eq_true rfl) ?_
  rintro p e s m args below meth c D ca A av L M ⟨rfl, _⟩ X hret hname
  refine g_lv (lv' := [(0, .int (iI b))]) [0] rfl ?_
  refine g_bipush X (z := 6) (by decide +kernel) dX6_b_0 rfl ?_
  refine g_iconst X (z := 4) dX6_b_2 rfl ?_
  refine g_iload_n X 0 rfl dX6_b_3 rfl ?_
  refine g_imul X dX6_b_4 rfl ?_
  refine g_iadd X dX6_b_5 rfl ?_
  exact g_iret X hret ⟨Nat.le_of_ble_eq_true rfl, Nat.le_of_ble_eq_true rfl⟩ dX6_b_6 ⟨rfl, rfl, rfl⟩
set_option maxRecDepth 100000 in
set_option maxHeartbeats 4000000 in
theorem ct_X6_m (l : Launch) (i : Int) : Ct l yX6_m cX6_m 1 (some .int) 0 0 0 (fun ca av L M => av = [.int (iI i)] ∧ True) (fun ca av L M r L1 M1 => r = some (.int (iI (70 + 10 * i))) ∧ L = L1 ∧ M = M1) := by
  refine Ct_of (own := RX6) (by decide) rfl (by rintro _ _ _ _ ⟨rfl, _⟩; exact Nat.le_of_ble_eq_true rfl) ?_
  rintro p e s m args below meth c D ca A av L M ⟨rfl, _⟩ X hret hname
  refine g_lv (lv' := [(0, .int (iI i))]) [0] rfl ?_
  refine g_bipush X (z := 70) (by decide +kernel) dX6_m_0 rfl ?_
  refine g_bipush X (z := 10) (by decide +kernel) dX6_m_2 rfl ?_
  refine g_iload_n X 0 rfl dX6_m_4 rfl ?_
  refine g_imul X dX6_m_5 rfl ?_
  refine g_iadd X dX6_m_6 rfl ?_
  exact g_iret X hret ⟨Nat.le_of_ble_eq_true rfl, Nat.le_of_ble_eq_true rfl⟩ dX6_m_7 ⟨rfl, rfl, rfl⟩
set_option maxRecDepth 100000 in
set_option maxHeartbeats 4000000 in
theorem ct_X6_isStream (l : Launch) (μ : Nat → Nat) (q g : Int → Int) (i : Int) : Ct l yX6_isStream cX6_isStream 2 (some .boolean) 1 0 0 (fun ca av L M => av = [.ref (μ 0), .int (iI i)] ∧ MuOk μ L ∧ M (μ 0) = oMd μ q ∧ M (μ 1) = cI ca 110 g ∧ R32 i ∧ (0 ≤ g 5 ∧ g 5 ≤ 4)) (fun ca av L M r L1 M1 => r = some (.int (iI (if 0 ≤ i ∧ i ≤ g 5 - 1 then 1 else 0))) ∧ L = L1 ∧ M = M1) := by
  refine Ct_of (own := RX6) (by decide) rfl (by rintro _ _ _ _ ⟨rfl, _⟩; exact Nat.le_of_ble_eq_true rfl) ?_
  rintro p e s m args below meth c D ca A av L M ⟨rfl, hμ, hMo, hMs, hi, hn⟩ X hret hname
  refine g_lv (lv' := [(0, .ref (μ 0)), (1, .int (iI i))]) [0, 1] rfl ?_
  refine g_iload_n X 1 rfl dX6_isStream_0 rfl ?_
  refine g_iconst X (z := 0) dX6_isStream_1 rfl ?_
  refine g_aload_n X 0 rfl dX6_isStream_2 rfl ?_
  refine g_get X cl_X6 0 (by decide) wf_X6_7 rfl (hμ.mem 0 (by decide)) hMo rfl dX6_isStream_3 rfl ?_
  refine g_iconst X (z := 5) dX6_isStream_6 rfl ?_
  refine g_iald X (hμ.mem 1 (by decide)) hMs ⟨by decide, by decide⟩ (by decide) dX6_isStream_7 rfl ?_
  refine g_iconst X (z := 1) dX6_isStream_8 rfl ?_
  refine g_isub X dX6_isStream_9 rfl ?_
  refine g_callS X (ct_X6_in l i 0 (g 5 - 1)) (As := [.int (iI i), .int (iI 0), .int (iI (g 5 - 1))]) (rest := []) rfl ca_X6_in rfl wm_X6_36 wt_X6_in wc_X6_in w0_X6 ⟨by decide, by decide⟩ (by decide) ⟨by decide, by decide⟩ rfl dX6_isStream_10 rfl ⟨rfl, hi, ⟨by decide, by decide⟩, ⟨by omega, by omega⟩⟩ (fun r1 L1 M1 hq => ?_)
  obtain ⟨rfl, rfl, rfl⟩ := hq
  refine g_st (st' := [.int (iI (if 0 ≤ i ∧ i ≤ (g 5 - 1) then 1 else 0))]) rfl ?_
  exact g_zret X hret nar_ite ⟨Nat.le_of_ble_eq_true rfl, Nat.le_of_ble_eq_true rfl⟩ dX6_isStream_13 ⟨rfl, rfl, rfl⟩
set_option maxRecDepth 100000 in
set_option maxHeartbeats 4000000 in
theorem ct_X6_isPrime (l : Launch) (v : Int) : Ct l yX6_isPrime cX6_isPrime 3 (some .boolean) 0 0 0 (fun ca av L M => av = [.int (iI v)] ∧ 2 ≤ v ∧ v ≤ 16) (fun ca av L M r L1 M1 => r = some (.int (iI (if isPr v then 1 else 0))) ∧ L = L1 ∧ M = M1) := by
  refine Ct_of (own := RX6) (by decide) rfl (by rintro _ _ _ _ ⟨rfl, _⟩; exact Nat.le_of_ble_eq_true rfl) ?_
  rintro p e s m args below meth c D ca A av L M ⟨rfl, h2, h16⟩ X hret hname
  refine g_lv (lv' := [(0, .int (iI v))]) [0] rfl ?_
  generalize hQ : MQ below _ args s _ _ A = Q
  have lp : ∀ (n : Nat) (k : Nat) (z y : Int) (hy : y = (k : Int) + 2) (hyv : y ≤ v) (hz : z = if ptB v k = true then 1 else 0) (hm : v - y < (n : Int)), G p l e (Rm 0 0 0) s m args below meth c D A 3 Q 0 0 L M 4 [(0, .int (iI v)), (1, .int (iI z)), (2, .int (iI y))] [] := by
    intro n
    induction n with
    | zero =>
      intro k z y hy hyv hz hm
      exfalso; omega
    | succ n ih =>
      intro k z y hy hyv hz hm
      have hz2 : z = 0 ∨ z = 1 := by rw [hz]; split <;> simp
      have hvy := Int.emod_nonneg v (by omega : y ≠ 0)
      have hvy2 := Int.emod_lt_of_pos v (by omega : 0 < y)
      refine g_iload_n X 2 rfl dX6_isPrime_4 rfl ?_
      refine g_iload_n X 0 rfl dX6_isPrime_5 rfl ?_
      refine g_icmp_ge X ⟨by omega, by omega⟩ ⟨by omega, by omega⟩ (tgt := 31) dX6_isPrime_6 (by decide) rfl (fun h_1 => ?_) (fun h_1 => ?_)
      · refine g_iload_n X 1 rfl dX6_isPrime_31 rfl ?_
        subst hQ
        exact g_zret X hret (by rcases hz2 with q | q <;> rw [q] <;> rfl) ⟨Nat.le_of_ble_eq_true rfl, Nat.le_of_ble_eq_true rfl⟩ dX6_isPrime_32 ⟨by have e0 : (v - 2).toNat = k := (by omega); simp only [isPr, e0, hz], rfl, rfl⟩
      · refine g_iload_n X 1 rfl dX6_isPrime_9 rfl ?_
        refine g_if_eq X ⟨by omega, by omega⟩ (tgt := 23) dX6_isPrime_10 (by decide) rfl (fun h_2 => ?_) (fun h_2 => ?_)
        · refine g_iconst X (z := 0) dX6_isPrime_23 rfl ?_
          refine g_istore_n X (lv' := [(1, .int (iI 0)), (0, .int (iI v)), (2, .int (iI y))]) (by decide) rfl dX6_isPrime_24 rfl ?_
          refine g_iinc X (lv' := [(2, .int (iI (y + 1))), (1, .int (iI 0)), (0, .int (iI v))]) 2 rfl (by decide) rfl dX6_isPrime_25 rfl ?_
          refine g_goto X (n := 4) dX6_isPrime_28 (by decide) ?_
          refine g_lv (lv' := [(0, .int (iI v)), (1, .int (iI 0)), (2, .int (iI (y + 1)))]) [2, 1, 0] rfl ?_
          exact ih (k + 1) _ _ (by omega) (by omega) ((ptB_next hy hz).2 (by omega)) (by omega)
        · refine g_iload_n X 0 rfl dX6_isPrime_13 rfl ?_
          refine g_iload_n X 2 rfl dX6_isPrime_14 rfl ?_
          refine g_irem X ⟨⟨by omega, by omega⟩, by omega, by omega⟩ dX6_isPrime_15 rfl ?_
          refine g_if_le X ⟨by omega, by omega⟩ (tgt := 23) dX6_isPrime_16 (by decide) rfl (fun h_3 => ?_) (fun h_3 => ?_)
          · refine g_iconst X (z := 0) dX6_isPrime_23 rfl ?_
            refine g_istore_n X (lv' := [(1, .int (iI 0)), (0, .int (iI v)), (2, .int (iI y))]) (by decide) rfl dX6_isPrime_24 rfl ?_
            refine g_iinc X (lv' := [(2, .int (iI (y + 1))), (1, .int (iI 0)), (0, .int (iI v))]) 2 rfl (by decide) rfl dX6_isPrime_25 rfl ?_
            refine g_goto X (n := 4) dX6_isPrime_28 (by decide) ?_
            refine g_lv (lv' := [(0, .int (iI v)), (1, .int (iI 0)), (2, .int (iI (y + 1)))]) [2, 1, 0] rfl ?_
            exact ih (k + 1) _ _ (by omega) (by omega) ((ptB_next hy hz).2 (by omega)) (by omega)
          · refine g_iconst X (z := 1) dX6_isPrime_19 rfl ?_
            refine g_goto X (n := 24) dX6_isPrime_20 (by decide) ?_
            refine g_istore_n X (lv' := [(1, .int (iI 1)), (0, .int (iI v)), (2, .int (iI y))]) (by decide) rfl dX6_isPrime_24 rfl ?_
            refine g_iinc X (lv' := [(2, .int (iI (y + 1))), (1, .int (iI 1)), (0, .int (iI v))]) 2 rfl (by decide) rfl dX6_isPrime_25 rfl ?_
            refine g_goto X (n := 4) dX6_isPrime_28 (by decide) ?_
            refine g_lv (lv' := [(0, .int (iI v)), (1, .int (iI 1)), (2, .int (iI (y + 1)))]) [2, 1, 0] rfl ?_
            exact ih (k + 1) _ _ (by omega) (by omega) ((ptB_next hy hz).1 (by omega) (by omega)) (by omega)
  refine g_iconst X (z := 1) dX6_isPrime_0 rfl ?_
  refine g_istore_n X (lv' := [(1, .int (iI 1)), (0, .int (iI v))]) (by decide) rfl dX6_isPrime_1 rfl ?_
  refine g_iconst X (z := 2) dX6_isPrime_2 rfl ?_
  refine g_istore_n X (lv' := [(2, .int (iI 2)), (1, .int (iI 1)), (0, .int (iI v))]) (by decide) rfl dX6_isPrime_3 rfl ?_
  refine g_lv (lv' := [(0, .int (iI v)), (1, .int (iI 1)), (2, .int (iI 2))]) [2, 1, 0] rfl ?_
  exact lp 20 0 _ _ (by decide) (by omega) (by rfl) (by omega)
set_option maxRecDepth 100000 in
set_option maxHeartbeats 4000000 in
theorem ct_X6_prime (l : Launch) (μ : Nat → Nat) (q g : Int → Int) : Ct l yX6_prime cX6_prime 2 (some .int) 1 0 0 (fun ca av L M => av = [.ref (μ 0)] ∧ MuOk μ L ∧ M (μ 0) = oMd μ q ∧ M (μ 1) = cI ca 110 g ∧ 2 ≤ g 0 ∧ g 0 ≤ 16) (fun ca av L M r L1 M1 => r = some (.int (iI (tGP (g 0)))) ∧ L = L1 ∧ M = M1) := by
  refine Ct_of (own := RX6) (by decide) rfl (by rintro _ _ _ _ ⟨rfl, _⟩; exact Nat.le_of_ble_eq_true rfl) ?_
  rintro p e s m args below meth c D ca A av L M ⟨rfl, hμ, hMo, hMs, h2, h16⟩ X hret hname
  refine g_lv (lv' := [(0, .ref (μ 0))]) [0] rfl ?_
  generalize hQ : MQ below _ args s _ _ A = Q
  have lp : ∀ (n : Nat) (y : Int) (hy2 : 2 ≤ y) (hy16 : y ≤ 16) (hy : tGP y = tGP (g 0)) (hm : y < (n : Int)), G p l e (Rm 1 0 0) s m args below meth c D A 2 Q 0 0 L M 7 [(0, .ref (μ 0)), (1, .int (iI y))] [] := by
    intro n
    induction n with
    | zero =>
      intro y hy2 hy16 hy hm
      exfalso; omega
    | succ n ih =>
      intro y hy2 hy16 hy hm
      refine g_iload_n X 1 rfl dX6_prime_7 rfl ?_
      refine g_callS X (ct_X6_isPrime l y) (As := [.int (iI y)]) (rest := []) rfl ca_X6_isPrime rfl wm_X6_44 wt_X6_isPrime wc_X6_isPrime w0_X6 ⟨by decide, by decide⟩ (by decide) ⟨by decide, by decide⟩ rfl dX6_prime_8 rfl ⟨rfl, by omega, by omega⟩ (fun r1 L1 M1 hq => ?_)
      obtain ⟨rfl, rfl, rfl⟩ := hq
      refine g_st (st' := [.int (iI (if isPr y then 1 else 0))]) rfl ?_
      refine g_if_neb X (tgt := 20) dX6_prime_11 (by decide) rfl (fun h_1 => ?_) (fun h_1 => ?_)
      · refine g_iload_n X 1 rfl dX6_prime_20 rfl ?_
        subst hQ
        exact g_iret X hret ⟨Nat.le_of_ble_eq_true rfl, Nat.le_of_ble_eq_true rfl⟩ dX6_prime_21 ⟨by rw [← hy, (isPr_step (n := y) (by omega) (by omega)).1 h_1], rfl, rfl⟩
      · refine g_iinc X (lv' := [(1, .int (iI (y + (-1)))), (0, .ref (μ 0))]) 1 rfl (by decide) rfl dX6_prime_14 rfl ?_
        refine g_goto X (n := 7) dX6_prime_17 (by decide) ?_
        have hs := (isPr_step (n := y) (by omega) (by omega)).2 h_1
        refine g_lv (lv' := [(0, .ref (μ 0)), (1, .int (iI (y + (-1))))]) [1, 0] rfl ?_
        exact ih _ (by omega) (by omega) (hs.2.trans hy) (by omega)
  refine g_aload_n X 0 rfl dX6_prime_0 rfl ?_
  refine g_get X cl_X6 0 (by decide) wf_X6_7 rfl (hμ.mem 0 (by decide)) hMo rfl dX6_prime_1 rfl ?_
  refine g_iconst X (z := 0) dX6_prime_4 rfl ?_
  refine g_iald X (hμ.mem 1 (by decide)) hMs ⟨by decide, by decide⟩ (by decide) dX6_prime_5 rfl ?_
  refine g_istore_n X (lv' := [(1, .int (iI (g 0))), (0, .ref (μ 0))]) (by decide) rfl dX6_prime_6 rfl ?_
  refine g_lv (lv' := [(0, .ref (μ 0)), (1, .int (iI (g 0)))]) [1, 0] rfl ?_
  exact lp 20 _ (by omega) (by omega) rfl (by omega)
end
section
/-! the reference: banks, a request, begins -/
set_option maxRecDepth 100000 in
set_option maxHeartbeats 4000000 in
theorem ct_X6_bankAt (l : Launch) (μ : Nat → Nat) (q g : Int → Int) (a : Int) : Ct l yX6_bankAt cX6_bankAt 3 (some .int) 2 0 0 (fun ca av L M => av = [.ref (μ 0), .int (iI a)] ∧ MuOk μ L ∧ M (μ 0) = oMd μ q ∧ M (μ 1) = cI ca 110 g ∧ InvS g ∧ 0 ≤ a ∧ a ≤ 1000000) (fun ca av L M r L1 M1 => r = some (.int (iI (bkG g a))) ∧ L = L1 ∧ M = M1) := by
  refine Ct_of (own := RX6) (by decide) rfl (by rintro _ _ _ _ ⟨rfl, _⟩; exact Nat.le_of_ble_eq_true rfl) ?_
  rintro p e s m args below meth c D ca A av L M ⟨rfl, hμ, hMo, hMs, hI, ha0, ha1⟩ X hret hname
  refine g_lv (lv' := [(0, .ref (μ 0)), (1, .int (iI a))]) [0, 1] rfl ?_
  obtain ⟨⟨i00, i01⟩, ⟨i10, i11⟩, ⟨i20, i21⟩, ⟨i30, i31⟩, ⟨i40, i41⟩, i50, i51⟩ := id hI
  have hg := tGP_rng i00 i01
  have hd1 := Int.ediv_nonneg ha0 (by omega : 0 ≤ g 0)
  have hd2 := Int.ediv_le_self (g 0) ha0
  refine g_aload_n X 0 rfl dX6_bankAt_0 rfl ?_
  refine g_get X cl_X6 0 (by decide) wf_X6_7 rfl (hμ.mem 0 (by decide)) hMo rfl dX6_bankAt_1 rfl ?_
  refine g_iconst X (z := 0) dX6_bankAt_4 rfl ?_
  refine g_iald X (hμ.mem 1 (by decide)) hMs ⟨by decide, by decide⟩ (by decide) dX6_bankAt_5 rfl ?_
  refine g_istore_n X (lv' := [(2, .int (iI (g 0))), (0, .ref (μ 0)), (1, .int (iI a))]) (by decide) rfl dX6_bankAt_6 rfl ?_
  refine g_aload_n X 1 rfl dX6_bankAt_7 rfl ?_
  refine g_get X cl_X6 0 (by decide) wf_X6_7 rfl (hμ.mem 0 (by decide)) hMo rfl dX6_bankAt_8 rfl ?_
  refine g_iconst X (z := 2) dX6_bankAt_11 rfl ?_
  refine g_iald X (hμ.mem 1 (by decide)) hMs ⟨by decide, by decide⟩ (by decide) dX6_bankAt_12 rfl ?_
  refine g_if_ne X ⟨by omega, by omega⟩ (tgt := 22) dX6_bankAt_13 (by decide) rfl (fun h_1 => ?_) (fun h_1 => ?_)
  · refine g_aload_n X 1 rfl dX6_bankAt_22 rfl ?_
    refine g_get X cl_X6 0 (by decide) wf_X6_7 rfl (hμ.mem 0 (by decide)) hMo rfl dX6_bankAt_23 rfl ?_
    refine g_iconst X (z := 2) dX6_bankAt_26 rfl ?_
    refine g_iald X (hμ.mem 1 (by decide)) hMs ⟨by decide, by decide⟩ (by decide) dX6_bankAt_27 rfl ?_
    refine g_iconst X (z := 1) dX6_bankAt_28 rfl ?_
    refine g_icmp_ne X ⟨by omega, by omega⟩ ⟨by decide, by decide⟩ (tgt := 42) dX6_bankAt_29 (by decide) rfl (fun h_2 => ?_) (fun h_2 => ?_)
    · refine g_iload_n X 2 rfl dX6_bankAt_42 rfl ?_
      refine g_aload_n X 1 rfl dX6_bankAt_43 rfl ?_
      refine g_callV X (ct_X6_prime l μ q g) (As := []) (rest := [.int (iI a)]) cl_X6 rfl ca_X6_prime rfl wm_X6_48 wi_X6_prime ws_X6_prime wc_X6_prime w0_X6 ⟨by decide, by decide⟩ (hμ.mem 0 (by decide)) hMo (Nat.le_of_ble_eq_true rfl) ⟨by decide, by decide⟩ rfl dX6_bankAt_44 rfl ⟨rfl, hμ, hMo, hMs, by omega, by omega⟩ (fun r1 L1 M1 hq => ?_)
      obtain ⟨rfl, rfl, rfl⟩ := hq
      refine g_st (st' := [.int (iI (tGP (g 0))), .int (iI a)]) rfl ?_
      refine g_irem X ⟨⟨by omega, by omega⟩, by omega, by omega⟩ dX6_bankAt_47 rfl ?_
      exact g_iret X hret ⟨Nat.le_of_ble_eq_true rfl, Nat.le_of_ble_eq_true rfl⟩ dX6_bankAt_48 ⟨by rw [bkG, if_neg (by omega), if_neg (by omega)], rfl, rfl⟩
    · refine g_iload_n X 2 rfl dX6_bankAt_32 rfl ?_
      refine g_iload_n X 2 rfl dX6_bankAt_33 rfl ?_
      refine g_iload_n X 0 rfl dX6_bankAt_34 rfl ?_
      refine g_idiv X ⟨⟨by omega, by omega⟩, by omega, by omega⟩ dX6_bankAt_35 rfl ?_
      refine g_iadd X dX6_bankAt_36 rfl ?_
      refine g_iload_n X 0 rfl dX6_bankAt_37 rfl ?_
      refine g_irem X ⟨⟨by omega, by omega⟩, by omega, by omega⟩ dX6_bankAt_38 rfl ?_
      refine g_goto X (n := 48) dX6_bankAt_39 (by decide) ?_
      exact g_iret X hret ⟨Nat.le_of_ble_eq_true rfl, Nat.le_of_ble_eq_true rfl⟩ dX6_bankAt_48 ⟨by rw [bkG, if_neg (by omega), if_pos (by omega)], rfl, rfl⟩
  · refine g_iload_n X 2 rfl dX6_bankAt_16 rfl ?_
    refine g_iload_n X 0 rfl dX6_bankAt_17 rfl ?_
    refine g_irem X ⟨⟨by omega, by omega⟩, by omega, by omega⟩ dX6_bankAt_18 rfl ?_
    refine g_goto X (n := 48) dX6_bankAt_19 (by decide) ?_
    exact g_iret X hret ⟨Nat.le_of_ble_eq_true rfl, Nat.le_of_ble_eq_true rfl⟩ dX6_bankAt_48 ⟨by rw [bkG, if_pos (by omega)], rfl, rfl⟩
set_option maxRecDepth 100000 in
set_option maxHeartbeats 4000000 in
theorem ct_X6_asks (l : Launch) (μ : Nat → Nat) (q g : Int → Int) (i : Int) : Ct l yX6_asks cX6_asks 4 (some .int) 3 0 0 (fun ca av L M => av = [.ref (μ 0), .int (iI i)] ∧ MuOk μ L ∧ M (μ 0) = oMd μ q ∧ M (μ 1) = cI ca 110 g ∧ Inv g ∧ 0 ≤ i ∧ i < g 5 ∧ 0 < g (70 + 10 * i + 3)) (fun ca av L M r L1 M1 => r = some (.int (iI (asksR g i))) ∧ L = L1 ∧ M1 (μ 1) = cI ca 110 (asksG g i) ∧ ∀ b, b ≠ μ 1 → M1 b = M b) := by
  refine Ct_of (own := RX6) (by decide) rfl (by rintro _ _ _ _ ⟨rfl, _⟩; exact Nat.le_of_ble_eq_true rfl) ?_
  rintro p e s m args below meth c D ca A av L M ⟨rfl, hμ, hMo, hMs, hI, hi0, hi1, hleft⟩ X hret hname
  refine g_lv (lv' := [(0, .ref (μ 0)), (1, .int (iI i))]) [0, 1] rfl ?_
  obtain ⟨⟨i00, i01⟩, ⟨i10, i11⟩, ⟨i20, i21⟩, ⟨i30, i31⟩, ⟨i40, i41⟩, i50, i51⟩ := id hI.1
  obtain ⟨⟨r00, r01⟩, ⟨r10, r11⟩, ⟨r20, r21⟩, ⟨r30, r31⟩, ⟨r40, r41⟩, r5⟩ := hI.2.2 i hi0 hi1
  have hbk := bkG_rng hI.1 (g (70 + 10 * i + 4))
  have hfb := hI.2.1 _ hbk.1 hbk.2.2
  refine g_iload_n X 1 rfl dX6_asks_0 rfl ?_
  refine g_callS X (ct_X6_m l i) (As := [.int (iI i)]) (rest := []) rfl ca_X6_m rfl wm_X6_52 wt_X6_m wc_X6_m w0_X6 ⟨by decide, by decide⟩ (by decide) ⟨by decide, by decide⟩ rfl dX6_asks_1 rfl ⟨rfl, trivial⟩ (fun r1 L1 M1 hq => ?_)
  obtain ⟨rfl, rfl, rfl⟩ := hq
  refine g_st (st' := [.int (iI (70 + 10 * i))]) rfl ?_
  refine g_istore_n X (lv' := [(2, .int (iI (70 + 10 * i))), (0, .ref (μ 0)), (1, .int (iI i))]) (by decide) rfl dX6_asks_4 rfl ?_
  refine g_aload_n X 1 rfl dX6_asks_5 rfl ?_
  refine g_aload_n X 1 rfl dX6_asks_6 rfl ?_
  refine g_get X cl_X6 0 (by decide) wf_X6_7 rfl (hμ.mem 0 (by decide)) hMo rfl dX6_asks_7 rfl ?_
  refine g_iload_n X 0 rfl dX6_asks_10 rfl ?_
  refine g_iconst X (z := 4) dX6_asks_11 rfl ?_
  refine g_iadd X dX6_asks_12 rfl ?_
  refine g_iald X (hμ.mem 1 (by decide)) hMs ⟨by omega, by omega⟩ (by decide) dX6_asks_13 rfl ?_
  refine g_callV X (ct_X6_bankAt l μ q g (g ((70 + 10 * i) + 4))) (As := [.int (iI (g ((70 + 10 * i) + 4)))]) (rest := []) cl_X6 rfl ca_X6_bankAt rfl wm_X6_56 wi_X6_bankAt ws_X6_bankAt wc_X6_bankAt w0_X6 ⟨by decide, by decide⟩ (hμ.mem 0 (by decide)) hMo (by decide) ⟨by decide, by decide⟩ rfl dX6_asks_14 rfl ⟨rfl, hμ, hMo, hMs, hI.1, by omega, by omega⟩ (fun r1 L1 M1 hq => ?_)
  obtain ⟨rfl, rfl, rfl⟩ := hq
  refine g_st (st' := [.int (iI (bkG g (g ((70 + 10 * i) + 4))))]) rfl ?_
  refine g_callS X (ct_X6_b l (bkG g (g ((70 + 10 * i) + 4)))) (As := [.int (iI (bkG g (g ((70 + 10 * i) + 4))))]) (rest := []) rfl ca_X6_b rfl wm_X6_59 wt_X6_b wc_X6_b w0_X6 ⟨by decide, by decide⟩ (by decide) ⟨by decide, by decide⟩ rfl dX6_asks_17 rfl ⟨rfl, trivial⟩ (fun r1 L1 M1 hq => ?_)
  obtain ⟨rfl, rfl, rfl⟩ := hq
  refine g_st (st' := [.int (iI (6 + 4 * bkG g (g ((70 + 10 * i) + 4))))]) rfl ?_
  refine g_istore_n X (lv' := [(3, .int (iI (6 + 4 * bkG g (g ((70 + 10 * i) + 4))))), (2, .int (iI (70 + 10 * i))), (0, .ref (μ 0)), (1, .int (iI i))]) (by decide) rfl dX6_asks_20 rfl ?_
  refine g_aload_n X 2 rfl dX6_asks_21 rfl ?_
  refine g_get X cl_X6 0 (by decide) wf_X6_7 rfl (hμ.mem 0 (by decide)) hMo rfl dX6_asks_22 rfl ?_
  refine g_iload_n X 0 rfl dX6_asks_25 rfl ?_
  refine g_iconst X (z := 0) dX6_asks_26 rfl ?_
  refine g_iadd X dX6_asks_27 rfl ?_
  refine g_st (st' := [.int (iI (6 + 4 * bkG g (g ((70 + 10 * i) + 4)))), .ref (μ 1)]) (by rw [Int.add_zero]) ?_
  refine g_iald X (hμ.mem 1 (by decide)) hMs ⟨by omega, by omega⟩ (by decide) dX6_asks_28 rfl ?_
  refine g_aload_n X 2 rfl dX6_asks_29 rfl ?_
  refine g_get X cl_X6 0 (by decide) wf_X6_7 rfl (hμ.mem 0 (by decide)) hMo rfl dX6_asks_30 rfl ?_
  refine g_iconst X (z := 4) dX6_asks_33 rfl ?_
  refine g_iald X (hμ.mem 1 (by decide)) hMs ⟨by decide, by decide⟩ (by decide) dX6_asks_34 rfl ?_
  refine g_icmp_le X ⟨by omega, by omega⟩ ⟨by omega, by omega⟩ (tgt := 94) dX6_asks_35 (by decide) rfl (fun h_1 => ?_) (fun h_1 => ?_)
  · refine g_aload_n X 2 rfl dX6_asks_94 rfl ?_
    refine g_get X cl_X6 0 (by decide) wf_X6_7 rfl (hμ.mem 0 (by decide)) hMo rfl dX6_asks_95 rfl ?_
    refine g_iload_n X 0 rfl dX6_asks_98 rfl ?_
    refine g_iconst X (z := 0) dX6_asks_99 rfl ?_
    refine g_iadd X dX6_asks_100 rfl ?_
    refine g_st (st' := [.int (iI (6 + 4 * bkG g (g ((70 + 10 * i) + 4)))), .ref (μ 1)]) (by rw [Int.add_zero]) ?_
    refine g_aload_n X 2 rfl dX6_asks_101 rfl ?_
    refine g_get X cl_X6 0 (by decide) wf_X6_7 rfl (hμ.mem 0 (by decide)) hMo rfl dX6_asks_102 rfl ?_
    refine g_iconst X (z := 4) dX6_asks_105 rfl ?_
    refine g_iald X (hμ.mem 1 (by decide)) hMs ⟨by decide, by decide⟩ (by decide) dX6_asks_106 rfl ?_
    refine g_aload_n X 2 rfl dX6_asks_107 rfl ?_
    refine g_get X cl_X6 0 (by decide) wf_X6_7 rfl (hμ.mem 0 (by decide)) hMo rfl dX6_asks_108 rfl ?_
    refine g_iconst X (z := 1) dX6_asks_111 rfl ?_
    refine g_iald X (hμ.mem 1 (by decide)) hMs ⟨by decide, by decide⟩ (by decide) dX6_asks_112 rfl ?_
    refine g_iadd X dX6_asks_113 rfl ?_
    refine g_iast X (hμ.mem 1 (by decide)) hMs ⟨by omega, by omega⟩ (by decide) dX6_asks_114 rfl (fun M_2 hM_3 fr_4 => ?_)
    obtain ⟨g_5, hg_6⟩ : ∃ x : Int → Int, x = up g (6 + 4 * bkG g (g ((70 + 10 * i) + 4))) (g 4 + g 1) := ⟨_, rfl⟩
    rw [← hg_6] at hM_3
    have hM_7 : M_2 (μ 0) = .inr (6, [.ref (μ 1), .ref (μ 2), .ref (μ 3), .ref (μ 4), .ref (μ 5), .ref (μ 6), .ref (μ 7), .ref (μ 8), .int (iI (q 0)), .int (iI (q 1)), .int (iI (q 2)), .int (iI (q 3))]) := (fr_4 (μ 0) (hμ.ne (i := 0) (j := 1) (by decide) (by decide) (by decide))).trans hMo
    refine g_aload_n X 2 rfl dX6_asks_115 rfl ?_
    refine g_get X cl_X6 0 (by decide) wf_X6_7 rfl (hμ.mem 0 (by decide)) hM_7 rfl dX6_asks_116 rfl ?_
    refine g_iload_n X 0 rfl dX6_asks_119 rfl ?_
    refine g_iconst X (z := 1) dX6_asks_120 rfl ?_
    refine g_iadd X dX6_asks_121 rfl ?_
    refine g_iload_n X 3 rfl dX6_asks_122 rfl ?_
    refine g_iast X (hμ.mem 1 (by decide)) hM_3 ⟨by omega, by omega⟩ (by decide) dX6_asks_123 rfl (fun M_8 hM_9 fr_10 => ?_)
    obtain ⟨g_11, hg_12⟩ : ∃ x : Int → Int, x = up g_5 ((6 + 4 * bkG g (g ((70 + 10 * i) + 4))) + 1) i := ⟨_, rfl⟩
    rw [← hg_12] at hM_9
    have hM_13 : M_8 (μ 0) = .inr (6, [.ref (μ 1), .ref (μ 2), .ref (μ 3), .ref (μ 4), .ref (μ 5), .ref (μ 6), .ref (μ 7), .ref (μ 8), .int (iI (q 0)), .int (iI (q 1)), .int (iI (q 2)), .int (iI (q 3))]) := (fr_10 (μ 0) (hμ.ne (i := 0) (j := 1) (by decide) (by decide) (by decide))).trans hM_7
    refine g_aload_n X 2 rfl dX6_asks_124 rfl ?_
    refine g_get X cl_X6 0 (by decide) wf_X6_7 rfl (hμ.mem 0 (by decide)) hM_13 rfl dX6_asks_125 rfl ?_
    refine g_iload_n X 0 rfl dX6_asks_128 rfl ?_
    refine g_iconst X (z := 2) dX6_asks_129 rfl ?_
    refine g_iadd X dX6_asks_130 rfl ?_
    refine g_dup2 X rfl rfl dX6_asks_131 rfl ?_
    refine g_iald X (hμ.mem 1 (by decide)) hM_9 ⟨by omega, by omega⟩ (by decide) dX6_asks_132 rfl ?_
    have hr_14 : g_11 ((6 + 4 * bkG g (g ((70 + 10 * i) + 4))) + 2) = g ((6 + 4 * bkG g (g ((70 + 10 * i) + 4))) + 2) := by rw [hg_12, up_ne _ _ (by omega), hg_6, up_ne _ _ (by omega)]
    refine g_st (st' := [.int (iI (g ((6 + 4 * bkG g (g ((70 + 10 * i) + 4))) + 2))), .int (iI ((6 + 4 * bkG g (g ((70 + 10 * i) + 4))) + 2)), .ref (μ 1)]) (by rw [hr_14]) ?_
    refine g_iconst X (z := 1) dX6_asks_133 rfl ?_
    refine g_iadd X dX6_asks_134 rfl ?_
    refine g_iast X (hμ.mem 1 (by decide)) hM_9 ⟨by omega, by omega⟩ (by decide) dX6_asks_135 rfl (fun M_15 hM_16 fr_17 => ?_)
    obtain ⟨g_18, hg_19⟩ : ∃ x : Int → Int, x = up g_11 ((6 + 4 * bkG g (g ((70 + 10 * i) + 4))) + 2) (g ((6 + 4 * bkG g (g ((70 + 10 * i) + 4))) + 2) + 1) := ⟨_, rfl⟩
    rw [← hg_19] at hM_16
    have hM_20 : M_15 (μ 0) = .inr (6, [.ref (μ 1), .ref (μ 2), .ref (μ 3), .ref (μ 4), .ref (μ 5), .ref (μ 6), .ref (μ 7), .ref (μ 8), .int (iI (q 0)), .int (iI (q 1)), .int (iI (q 2)), .int (iI (q 3))]) := (fr_17 (μ 0) (hμ.ne (i := 0) (j := 1) (by decide) (by decide) (by decide))).trans hM_13
    refine g_aload_n X 2 rfl dX6_asks_136 rfl ?_
    refine g_get X cl_X6 0 (by decide) wf_X6_7 rfl (hμ.mem 0 (by decide)) hM_20 rfl dX6_asks_137 rfl ?_
    refine g_iload_n X 1 rfl dX6_asks_140 rfl ?_
    refine g_iconst X (z := 5) dX6_asks_141 rfl ?_
    refine g_iadd X dX6_asks_142 rfl ?_
    refine g_aload_n X 2 rfl dX6_asks_143 rfl ?_
    refine g_get X cl_X6 0 (by decide) wf_X6_7 rfl (hμ.mem 0 (by decide)) hM_20 rfl dX6_asks_144 rfl ?_
    refine g_iload_n X 1 rfl dX6_asks_147 rfl ?_
    refine g_iconst X (z := 4) dX6_asks_148 rfl ?_
    refine g_iadd X dX6_asks_149 rfl ?_
    refine g_iald X (hμ.mem 1 (by decide)) hM_16 ⟨by omega, by omega⟩ (by decide) dX6_asks_150 rfl ?_
    have hr_21 : g_18 ((70 + 10 * i) + 4) = g ((70 + 10 * i) + 4) := by rw [hg_19, up_ne _ _ (by omega), hg_12, up_ne _ _ (by omega), hg_6, up_ne _ _ (by omega)]
    refine g_st (st' := [.int (iI (g ((70 + 10 * i) + 4))), .int (iI ((70 + 10 * i) + 5)), .ref (μ 1)]) (by rw [hr_21]) ?_
    refine g_iast X (hμ.mem 1 (by decide)) hM_16 ⟨by omega, by omega⟩ (by decide) dX6_asks_151 rfl (fun M_22 hM_23 fr_24 => ?_)
    obtain ⟨g_25, hg_26⟩ : ∃ x : Int → Int, x = up g_18 ((70 + 10 * i) + 5) (g ((70 + 10 * i) + 4)) := ⟨_, rfl⟩
    rw [← hg_26] at hM_23
    have hM_27 : M_22 (μ 0) = .inr (6, [.ref (μ 1), .ref (μ 2), .ref (μ 3), .ref (μ 4), .ref (μ 5), .ref (μ 6), .ref (μ 7), .ref (μ 8), .int (iI (q 0)), .int (iI (q 1)), .int (iI (q 2)), .int (iI (q 3))]) := (fr_24 (μ 0) (hμ.ne (i := 0) (j := 1) (by decide) (by decide) (by decide))).trans hM_20
    refine g_aload_n X 2 rfl dX6_asks_152 rfl ?_
    refine g_get X cl_X6 0 (by decide) wf_X6_7 rfl (hμ.mem 0 (by decide)) hM_27 rfl dX6_asks_153 rfl ?_
    refine g_iload_n X 1 rfl dX6_asks_156 rfl ?_
    refine g_iconst X (z := 4) dX6_asks_157 rfl ?_
    refine g_iadd X dX6_asks_158 rfl ?_
    refine g_aload_n X 2 rfl dX6_asks_159 rfl ?_
    refine g_get X cl_X6 0 (by decide) wf_X6_7 rfl (hμ.mem 0 (by decide)) hM_27 rfl dX6_asks_160 rfl ?_
    refine g_iload_n X 1 rfl dX6_asks_163 rfl ?_
    refine g_iconst X (z := 4) dX6_asks_164 rfl ?_
    refine g_iadd X dX6_asks_165 rfl ?_
    refine g_iald X (hμ.mem 1 (by decide)) hM_23 ⟨by omega, by omega⟩ (by decide) dX6_asks_166 rfl ?_
    have hr_28 : g_25 ((70 + 10 * i) + 4) = g ((70 + 10 * i) + 4) := by rw [hg_26, up_ne _ _ (by omega), hg_19, up_ne _ _ (by omega), hg_12, up_ne _ _ (by omega), hg_6, up_ne _ _ (by omega)]
    refine g_st (st' := [.int (iI (g ((70 + 10 * i) + 4))), .int (iI ((70 + 10 * i) + 4)), .ref (μ 1)]) (by rw [hr_28]) ?_
    refine g_aload_n X 2 rfl dX6_asks_167 rfl ?_
    refine g_get X cl_X6 0 (by decide) wf_X6_7 rfl (hμ.mem 0 (by decide)) hM_27 rfl dX6_asks_168 rfl ?_
    refine g_iload_n X 1 rfl dX6_asks_171 rfl ?_
    refine g_iconst X (z := 1) dX6_asks_172 rfl ?_
    refine g_iadd X dX6_asks_173 rfl ?_
    refine g_iald X (hμ.mem 1 (by decide)) hM_23 ⟨by omega, by omega⟩ (by decide) dX6_asks_174 rfl ?_
    have hr_29 : g_25 ((70 + 10 * i) + 1) = g ((70 + 10 * i) + 1) := by rw [hg_26, up_ne _ _ (by omega), hg_19, up_ne _ _ (by omega), hg_12, up_ne _ _ (by omega), hg_6, up_ne _ _ (by omega)]
    refine g_st (st' := [.int (iI (g ((70 + 10 * i) + 1))), .int (iI (g ((70 + 10 * i) + 4))), .int (iI ((70 + 10 * i) + 4)), .ref (μ 1)]) (by rw [hr_29]) ?_
    refine g_iadd X dX6_asks_175 rfl ?_
    refine g_sipush X (z := 4096) (by decide +kernel) dX6_asks_176 rfl ?_
    refine g_irem X ⟨⟨by omega, by omega⟩, by omega, by omega⟩ dX6_asks_179 rfl ?_
    refine g_iast X (hμ.mem 1 (by decide)) hM_23 ⟨by omega, by omega⟩ (by decide) dX6_asks_180 rfl (fun M_30 hM_31 fr_32 => ?_)
    obtain ⟨g_33, hg_34⟩ : ∃ x : Int → Int, x = up g_25 ((70 + 10 * i) + 4) ((g ((70 + 10 * i) + 4) + g ((70 + 10 * i) + 1)) % 4096) := ⟨_, rfl⟩
    rw [← hg_34] at hM_31
    have hM_35 : M_30 (μ 0) = .inr (6, [.ref (μ 1), .ref (μ 2), .ref (μ 3), .ref (μ 4), .ref (μ 5), .ref (μ 6), .ref (μ 7), .ref (μ 8), .int (iI (q 0)), .int (iI (q 1)), .int (iI (q 2)), .int (iI (q 3))]) := (fr_32 (μ 0) (hμ.ne (i := 0) (j := 1) (by decide) (by decide) (by decide))).trans hM_27
    refine g_aload_n X 2 rfl dX6_asks_181 rfl ?_
    refine g_get X cl_X6 0 (by decide) wf_X6_7 rfl (hμ.mem 0 (by decide)) hM_35 rfl dX6_asks_182 rfl ?_
    refine g_iload_n X 1 rfl dX6_asks_185 rfl ?_
    refine g_iconst X (z := 3) dX6_asks_186 rfl ?_
    refine g_iadd X dX6_asks_187 rfl ?_
    refine g_dup2 X rfl rfl dX6_asks_188 rfl ?_
    refine g_iald X (hμ.mem 1 (by decide)) hM_31 ⟨by omega, by omega⟩ (by decide) dX6_asks_189 rfl ?_
    have hr_36 : g_33 ((70 + 10 * i) + 3) = g ((70 + 10 * i) + 3) := by rw [hg_34, up_ne _ _ (by omega), hg_26, up_ne _ _ (by omega), hg_19, up_ne _ _ (by omega), hg_12, up_ne _ _ (by omega), hg_6, up_ne _ _ (by omega)]
    refine g_st (st' := [.int (iI (g ((70 + 10 * i) + 3))), .int (iI ((70 + 10 * i) + 3)), .ref (μ 1)]) (by rw [hr_36]) ?_
    refine g_iconst X (z := 1) dX6_asks_190 rfl ?_
    refine g_isub X dX6_asks_191 rfl ?_
    refine g_iast X (hμ.mem 1 (by decide)) hM_31 ⟨by omega, by omega⟩ (by decide) dX6_asks_192 rfl (fun M_37 hM_38 fr_39 => ?_)
    obtain ⟨g_40, hg_41⟩ : ∃ x : Int → Int, x = up g_33 ((70 + 10 * i) + 3) (g ((70 + 10 * i) + 3) - 1) := ⟨_, rfl⟩
    rw [← hg_41] at hM_38
    have hM_42 : M_37 (μ 0) = .inr (6, [.ref (μ 1), .ref (μ 2), .ref (μ 3), .ref (μ 4), .ref (μ 5), .ref (μ 6), .ref (μ 7), .ref (μ 8), .int (iI (q 0)), .int (iI (q 1)), .int (iI (q 2)), .int (iI (q 3))]) := (fr_39 (μ 0) (hμ.ne (i := 0) (j := 1) (by decide) (by decide) (by decide))).trans hM_35
    refine g_aload_n X 2 rfl dX6_asks_193 rfl ?_
    refine g_get X cl_X6 0 (by decide) wf_X6_7 rfl (hμ.mem 0 (by decide)) hM_42 rfl dX6_asks_194 rfl ?_
    refine g_iload_n X 1 rfl dX6_asks_197 rfl ?_
    refine g_bipush X (z := 8) (by decide +kernel) dX6_asks_198 rfl ?_
    refine g_iadd X dX6_asks_200 rfl ?_
    refine g_aload_n X 2 rfl dX6_asks_201 rfl ?_
    refine g_get X cl_X6 0 (by decide) wf_X6_7 rfl (hμ.mem 0 (by decide)) hM_42 rfl dX6_asks_202 rfl ?_
    refine g_iload_n X 1 rfl dX6_asks_205 rfl ?_
    refine g_iconst X (z := 3) dX6_asks_206 rfl ?_
    refine g_iadd X dX6_asks_207 rfl ?_
    refine g_iald X (hμ.mem 1 (by decide)) hM_38 ⟨by omega, by omega⟩ (by decide) dX6_asks_208 rfl ?_
    have hr_43 : g_40 ((70 + 10 * i) + 3) = g ((70 + 10 * i) + 3) - 1 := by rw [hg_41, up_eq]
    refine g_st (st' := [.int (iI (g ((70 + 10 * i) + 3) - 1)), .int (iI ((70 + 10 * i) + 8)), .ref (μ 1)]) (by rw [hr_43]) ?_
    refine g_if_ne X ⟨by omega, by omega⟩ (tgt := 221) dX6_asks_209 (by decide) rfl (fun h_44 => ?_) (fun h_44 => ?_)
    · refine g_iconst X (z := -1) dX6_asks_221 rfl ?_
      refine g_iast X (hμ.mem 1 (by decide)) hM_38 ⟨by omega, by omega⟩ (by decide) dX6_asks_222 rfl (fun M_45 hM_46 fr_47 => ?_)
      obtain ⟨g_48, hg_49⟩ : ∃ x : Int → Int, x = up g_40 ((70 + 10 * i) + 8) (-1) := ⟨_, rfl⟩
      rw [← hg_49] at hM_46
      have hM_50 : M_45 (μ 0) = .inr (6, [.ref (μ 1), .ref (μ 2), .ref (μ 3), .ref (μ 4), .ref (μ 5), .ref (μ 6), .ref (μ 7), .ref (μ 8), .int (iI (q 0)), .int (iI (q 1)), .int (iI (q 2)), .int (iI (q 3))]) := (fr_47 (μ 0) (hμ.ne (i := 0) (j := 1) (by decide) (by decide) (by decide))).trans hM_42
      refine g_iconst X (z := 1) dX6_asks_223 rfl ?_
      exact g_iret X hret ⟨Nat.le_of_ble_eq_true rfl, Nat.le_of_ble_eq_true rfl⟩ dX6_asks_224 ⟨by rw [asksR, if_neg (by omega)], rfl, (hM_46).trans (by rw [hg_49, hg_41, hg_34, hg_26, hg_19, hg_12, hg_6, asksG, if_neg (by omega), if_neg (by omega)]), fun b hb => ((fr_47 b hb).trans ((fr_39 b hb).trans ((fr_32 b hb).trans ((fr_24 b hb).trans ((fr_17 b hb).trans ((fr_10 b hb).trans (fr_4 b hb)))))))⟩
    · refine g_aload_n X 2 rfl dX6_asks_212 rfl ?_
      refine g_get X cl_X6 0 (by decide) wf_X6_7 rfl (hμ.mem 0 (by decide)) hM_42 rfl dX6_asks_213 rfl ?_
      refine g_iconst X (z := 4) dX6_asks_216 rfl ?_
      refine g_iald X (hμ.mem 1 (by decide)) hM_38 ⟨by decide, by decide⟩ (by decide) dX6_asks_217 rfl ?_
      have hr_51 : g_40 4 = g 4 := by rw [hg_41, up_ne _ _ (by omega), hg_34, up_ne _ _ (by omega), hg_26, up_ne _ _ (by omega), hg_19, up_ne _ _ (by omega), hg_12, up_ne _ _ (by omega), hg_6, up_ne _ _ (by omega)]
      refine g_st (st' := [.int (iI (g 4)), .int (iI ((70 + 10 * i) + 8)), .ref (μ 1)]) (by rw [hr_51]) ?_
      refine g_goto X (n := 222) dX6_asks_218 (by decide) ?_
      refine g_iast X (hμ.mem 1 (by decide)) hM_38 ⟨by omega, by omega⟩ (by decide) dX6_asks_222 rfl (fun M_52 hM_53 fr_54 => ?_)
      obtain ⟨g_55, hg_56⟩ : ∃ x : Int → Int, x = up g_40 ((70 + 10 * i) + 8) (g 4) := ⟨_, rfl⟩
      rw [← hg_56] at hM_53
      have hM_57 : M_52 (μ 0) = .inr (6, [.ref (μ 1), .ref (μ 2), .ref (μ 3), .ref (μ 4), .ref (μ 5), .ref (μ 6), .ref (μ 7), .ref (μ 8), .int (iI (q 0)), .int (iI (q 1)), .int (iI (q 2)), .int (iI (q 3))]) := (fr_54 (μ 0) (hμ.ne (i := 0) (j := 1) (by decide) (by decide) (by decide))).trans hM_42
      refine g_iconst X (z := 1) dX6_asks_223 rfl ?_
      exact g_iret X hret ⟨Nat.le_of_ble_eq_true rfl, Nat.le_of_ble_eq_true rfl⟩ dX6_asks_224 ⟨by rw [asksR, if_neg (by omega)], rfl, (hM_53).trans (by rw [hg_56, hg_41, hg_34, hg_26, hg_19, hg_12, hg_6, asksG, if_neg (by omega), if_pos (by omega)]), fun b hb => ((fr_54 b hb).trans ((fr_39 b hb).trans ((fr_32 b hb).trans ((fr_24 b hb).trans ((fr_17 b hb).trans ((fr_10 b hb).trans (fr_4 b hb)))))))⟩
  · refine g_aload_n X 2 rfl dX6_asks_38 rfl ?_
    refine g_get X cl_X6 0 (by decide) wf_X6_7 rfl (hμ.mem 0 (by decide)) hMo rfl dX6_asks_39 rfl ?_
    refine g_iload_n X 1 rfl dX6_asks_42 rfl ?_
    refine g_bipush X (z := 6) (by decide +kernel) dX6_asks_43 rfl ?_
    refine g_iadd X dX6_asks_45 rfl ?_
    refine g_dup2 X rfl rfl dX6_asks_46 rfl ?_
    refine g_iald X (hμ.mem 1 (by decide)) hMs ⟨by omega, by omega⟩ (by decide) dX6_asks_47 rfl ?_
    refine g_iconst X (z := 1) dX6_asks_48 rfl ?_
    refine g_iadd X dX6_asks_49 rfl ?_
    refine g_iast X (hμ.mem 1 (by decide)) hMs ⟨by omega, by omega⟩ (by decide) dX6_asks_50 rfl (fun M_58 hM_59 fr_60 => ?_)
    obtain ⟨g_61, hg_62⟩ : ∃ x : Int → Int, x = up g ((70 + 10 * i) + 6) (g ((70 + 10 * i) + 6) + 1) := ⟨_, rfl⟩
    rw [← hg_62] at hM_59
    have hM_63 : M_58 (μ 0) = .inr (6, [.ref (μ 1), .ref (μ 2), .ref (μ 3), .ref (μ 4), .ref (μ 5), .ref (μ 6), .ref (μ 7), .ref (μ 8), .int (iI (q 0)), .int (iI (q 1)), .int (iI (q 2)), .int (iI (q 3))]) := (fr_60 (μ 0) (hμ.ne (i := 0) (j := 1) (by decide) (by decide) (by decide))).trans hMo
    refine g_aload_n X 2 rfl dX6_asks_51 rfl ?_
    refine g_get X cl_X6 0 (by decide) wf_X6_7 rfl (hμ.mem 0 (by decide)) hM_63 rfl dX6_asks_52 rfl ?_
    refine g_iload_n X 1 rfl dX6_asks_55 rfl ?_
    refine g_bipush X (z := 7) (by decide +kernel) dX6_asks_56 rfl ?_
    refine g_iadd X dX6_asks_58 rfl ?_
    refine g_dup2 X rfl rfl dX6_asks_59 rfl ?_
    refine g_iald X (hμ.mem 1 (by decide)) hM_59 ⟨by omega, by omega⟩ (by decide) dX6_asks_60 rfl ?_
    have hr_64 : g_61 ((70 + 10 * i) + 7) = g ((70 + 10 * i) + 7) := by rw [hg_62, up_ne _ _ (by omega)]
    refine g_st (st' := [.int (iI (g ((70 + 10 * i) + 7))), .int (iI ((70 + 10 * i) + 7)), .ref (μ 1)]) (by rw [hr_64]) ?_
    refine g_aload_n X 2 rfl dX6_asks_61 rfl ?_
    refine g_get X cl_X6 0 (by decide) wf_X6_7 rfl (hμ.mem 0 (by decide)) hM_63 rfl dX6_asks_62 rfl ?_
    refine g_iload_n X 0 rfl dX6_asks_65 rfl ?_
    refine g_iconst X (z := 1) dX6_asks_66 rfl ?_
    refine g_iadd X dX6_asks_67 rfl ?_
    refine g_iald X (hμ.mem 1 (by decide)) hM_59 ⟨by omega, by omega⟩ (by decide) dX6_asks_68 rfl ?_
    have hr_65 : g_61 ((6 + 4 * bkG g (g ((70 + 10 * i) + 4))) + 1) = g ((6 + 4 * bkG g (g ((70 + 10 * i) + 4))) + 1) := by rw [hg_62, up_ne _ _ (by omega)]
    refine g_st (st' := [.int (iI (g ((6 + 4 * bkG g (g ((70 + 10 * i) + 4))) + 1))), .int (iI (g ((70 + 10 * i) + 7))), .int (iI ((70 + 10 * i) + 7)), .ref (μ 1)]) (by rw [hr_65]) ?_
    refine g_iload_n X 3 rfl dX6_asks_69 rfl ?_
    refine g_icmp_ne X ⟨by omega, by omega⟩ ⟨by omega, by omega⟩ (tgt := 77) dX6_asks_70 (by decide) rfl (fun h_66 => ?_) (fun h_66 => ?_)
    · refine g_iconst X (z := 1) dX6_asks_77 rfl ?_
      refine g_iadd X dX6_asks_78 rfl ?_
      refine g_iast X (hμ.mem 1 (by decide)) hM_59 ⟨by omega, by omega⟩ (by decide) dX6_asks_79 rfl (fun M_67 hM_68 fr_69 => ?_)
      obtain ⟨g_70, hg_71⟩ : ∃ x : Int → Int, x = up g_61 ((70 + 10 * i) + 7) (g ((70 + 10 * i) + 7) + 1) := ⟨_, rfl⟩
      rw [← hg_71] at hM_68
      have hM_72 : M_67 (μ 0) = .inr (6, [.ref (μ 1), .ref (μ 2), .ref (μ 3), .ref (μ 4), .ref (μ 5), .ref (μ 6), .ref (μ 7), .ref (μ 8), .int (iI (q 0)), .int (iI (q 1)), .int (iI (q 2)), .int (iI (q 3))]) := (fr_69 (μ 0) (hμ.ne (i := 0) (j := 1) (by decide) (by decide) (by decide))).trans hM_63
      refine g_aload_n X 2 rfl dX6_asks_80 rfl ?_
      refine g_get X cl_X6 0 (by decide) wf_X6_7 rfl (hμ.mem 0 (by decide)) hM_72 rfl dX6_asks_81 rfl ?_
      refine g_iload_n X 0 rfl dX6_asks_84 rfl ?_
      refine g_iconst X (z := 3) dX6_asks_85 rfl ?_
      refine g_iadd X dX6_asks_86 rfl ?_
      refine g_dup2 X rfl rfl dX6_asks_87 rfl ?_
      refine g_iald X (hμ.mem 1 (by decide)) hM_68 ⟨by omega, by omega⟩ (by decide) dX6_asks_88 rfl ?_
      have hr_73 : g_70 ((6 + 4 * bkG g (g ((70 + 10 * i) + 4))) + 3) = g ((6 + 4 * bkG g (g ((70 + 10 * i) + 4))) + 3) := by rw [hg_71, up_ne _ _ (by omega), hg_62, up_ne _ _ (by omega)]
      refine g_st (st' := [.int (iI (g ((6 + 4 * bkG g (g ((70 + 10 * i) + 4))) + 3))), .int (iI ((6 + 4 * bkG g (g ((70 + 10 * i) + 4))) + 3)), .ref (μ 1)]) (by rw [hr_73]) ?_
      refine g_iconst X (z := 1) dX6_asks_89 rfl ?_
      refine g_iadd X dX6_asks_90 rfl ?_
      refine g_iast X (hμ.mem 1 (by decide)) hM_68 ⟨by omega, by omega⟩ (by decide) dX6_asks_91 rfl (fun M_74 hM_75 fr_76 => ?_)
      obtain ⟨g_77, hg_78⟩ : ∃ x : Int → Int, x = up g_70 ((6 + 4 * bkG g (g ((70 + 10 * i) + 4))) + 3) (g ((6 + 4 * bkG g (g ((70 + 10 * i) + 4))) + 3) + 1) := ⟨_, rfl⟩
      rw [← hg_78] at hM_75
      have hM_79 : M_74 (μ 0) = .inr (6, [.ref (μ 1), .ref (μ 2), .ref (μ 3), .ref (μ 4), .ref (μ 5), .ref (μ 6), .ref (μ 7), .ref (μ 8), .int (iI (q 0)), .int (iI (q 1)), .int (iI (q 2)), .int (iI (q 3))]) := (fr_76 (μ 0) (hμ.ne (i := 0) (j := 1) (by decide) (by decide) (by decide))).trans hM_72
      refine g_iconst X (z := 0) dX6_asks_92 rfl ?_
      exact g_iret X hret ⟨Nat.le_of_ble_eq_true rfl, Nat.le_of_ble_eq_true rfl⟩ dX6_asks_93 ⟨by rw [asksR, if_pos (by omega)], rfl, (hM_75).trans (by rw [hg_78, hg_71, hg_62, asksG, if_pos (by omega), if_neg (by omega)]), fun b hb => ((fr_76 b hb).trans ((fr_69 b hb).trans (fr_60 b hb)))⟩
    · refine g_iconst X (z := 0) dX6_asks_73 rfl ?_
      refine g_goto X (n := 78) dX6_asks_74 (by decide) ?_
      refine g_iadd X dX6_asks_78 rfl ?_
      refine g_st (st' := [.int (iI (g ((70 + 10 * i) + 7))), .int (iI ((70 + 10 * i) + 7)), .ref (μ 1)]) (by rw [Int.add_zero]) ?_
      refine g_iast X (hμ.mem 1 (by decide)) hM_59 ⟨by omega, by omega⟩ (by decide) dX6_asks_79 rfl (fun M_80 hM_81 fr_82 => ?_)
      obtain ⟨g_83, hg_84⟩ : ∃ x : Int → Int, x = up g_61 ((70 + 10 * i) + 7) (g ((70 + 10 * i) + 7)) := ⟨_, rfl⟩
      rw [← hg_84] at hM_81
      have hM_85 : M_80 (μ 0) = .inr (6, [.ref (μ 1), .ref (μ 2), .ref (μ 3), .ref (μ 4), .ref (μ 5), .ref (μ 6), .ref (μ 7), .ref (μ 8), .int (iI (q 0)), .int (iI (q 1)), .int (iI (q 2)), .int (iI (q 3))]) := (fr_82 (μ 0) (hμ.ne (i := 0) (j := 1) (by decide) (by decide) (by decide))).trans hM_63
      refine g_aload_n X 2 rfl dX6_asks_80 rfl ?_
      refine g_get X cl_X6 0 (by decide) wf_X6_7 rfl (hμ.mem 0 (by decide)) hM_85 rfl dX6_asks_81 rfl ?_
      refine g_iload_n X 0 rfl dX6_asks_84 rfl ?_
      refine g_iconst X (z := 3) dX6_asks_85 rfl ?_
      refine g_iadd X dX6_asks_86 rfl ?_
      refine g_dup2 X rfl rfl dX6_asks_87 rfl ?_
      refine g_iald X (hμ.mem 1 (by decide)) hM_81 ⟨by omega, by omega⟩ (by decide) dX6_asks_88 rfl ?_
      have hr_86 : g_83 ((6 + 4 * bkG g (g ((70 + 10 * i) + 4))) + 3) = g ((6 + 4 * bkG g (g ((70 + 10 * i) + 4))) + 3) := by rw [hg_84, up_ne _ _ (by omega), hg_62, up_ne _ _ (by omega)]
      refine g_st (st' := [.int (iI (g ((6 + 4 * bkG g (g ((70 + 10 * i) + 4))) + 3))), .int (iI ((6 + 4 * bkG g (g ((70 + 10 * i) + 4))) + 3)), .ref (μ 1)]) (by rw [hr_86]) ?_
      refine g_iconst X (z := 1) dX6_asks_89 rfl ?_
      refine g_iadd X dX6_asks_90 rfl ?_
      refine g_iast X (hμ.mem 1 (by decide)) hM_81 ⟨by omega, by omega⟩ (by decide) dX6_asks_91 rfl (fun M_87 hM_88 fr_89 => ?_)
      obtain ⟨g_90, hg_91⟩ : ∃ x : Int → Int, x = up g_83 ((6 + 4 * bkG g (g ((70 + 10 * i) + 4))) + 3) (g ((6 + 4 * bkG g (g ((70 + 10 * i) + 4))) + 3) + 1) := ⟨_, rfl⟩
      rw [← hg_91] at hM_88
      have hM_92 : M_87 (μ 0) = .inr (6, [.ref (μ 1), .ref (μ 2), .ref (μ 3), .ref (μ 4), .ref (μ 5), .ref (μ 6), .ref (μ 7), .ref (μ 8), .int (iI (q 0)), .int (iI (q 1)), .int (iI (q 2)), .int (iI (q 3))]) := (fr_89 (μ 0) (hμ.ne (i := 0) (j := 1) (by decide) (by decide) (by decide))).trans hM_85
      refine g_iconst X (z := 0) dX6_asks_92 rfl ?_
      exact g_iret X hret ⟨Nat.le_of_ble_eq_true rfl, Nat.le_of_ble_eq_true rfl⟩ dX6_asks_93 ⟨by rw [asksR, if_pos (by omega)], rfl, (hM_88).trans (by rw [hg_91, hg_84, hg_62, asksG, if_pos (by omega), if_pos (by omega), Int.add_zero]), fun b hb => ((fr_89 b hb).trans ((fr_82 b hb).trans (fr_60 b hb)))⟩
end
section
/-! ===== the reference's numbers: what a request and a cycle do ===== -/
theorem asks_low {g : Int → Int} (hS : InvS g) {i k : Int} (hi : 0 ≤ i) (hk : k < 6) : asksG g i k = g k := by
  have hb := bkG_rng hS (g (70 + 10 * i + 4))
  unfold asksG
  split <;> simp only [up]
  · rw [if_neg (by omega), if_neg (by omega), if_neg (by omega)]
  · rw [if_neg (by omega), if_neg (by omega), if_neg (by omega), if_neg (by omega), if_neg (by omega), if_neg (by omega), if_neg (by omega)]
theorem asks_free {g : Int → Int} (hS : InvS g) {i b : Int} (hi : 0 ≤ i) (hb0 : 0 ≤ b) (hb1 : b < 16) : asksG g i (6 + 4 * b) = if b = bkG g (g (70 + 10 * i + 4)) ∧ ¬ g (6 + 4 * bkG g (g (70 + 10 * i + 4))) > g 4 then g 4 + g 1 else g (6 + 4 * b) := by
  have hb := bkG_rng hS (g (70 + 10 * i + 4))
  unfold asksG
  by_cases hc : g (6 + 4 * bkG g (g (70 + 10 * i + 4))) > g 4
  · rw [if_pos hc, if_neg (show ¬ (b = bkG g (g (70 + 10 * i + 4)) ∧ ¬ g (6 + 4 * bkG g (g (70 + 10 * i + 4))) > g 4) from fun h => h.2 hc)]
    simp only [up]
    rw [if_neg (by omega), if_neg (by omega), if_neg (by omega)]
  · rw [if_neg hc]
    simp only [up]
    rw [if_neg (by omega), if_neg (by omega), if_neg (by omega), if_neg (by omega), if_neg (by omega), if_neg (by omega)]
    by_cases he : b = bkG g (g (70 + 10 * i + 4))
    · rw [if_pos (by omega), if_pos ⟨he, hc⟩]
    · rw [if_neg (by omega), if_neg (fun h => he h.1)]
theorem asks_owner {g : Int → Int} (hS : InvS g) {i b : Int} (hi : 0 ≤ i) (hb0 : 0 ≤ b) (hb1 : b < 16) : asksG g i (6 + 4 * b + 1) = if b = bkG g (g (70 + 10 * i + 4)) ∧ ¬ g (6 + 4 * bkG g (g (70 + 10 * i + 4))) > g 4 then i else g (6 + 4 * b + 1) := by
  have hb := bkG_rng hS (g (70 + 10 * i + 4))
  unfold asksG
  by_cases hc : g (6 + 4 * bkG g (g (70 + 10 * i + 4))) > g 4
  · rw [if_pos hc, if_neg (show ¬ (b = bkG g (g (70 + 10 * i + 4)) ∧ ¬ g (6 + 4 * bkG g (g (70 + 10 * i + 4))) > g 4) from fun h => h.2 hc)]
    simp only [up]
    rw [if_neg (by omega), if_neg (by omega), if_neg (by omega)]
  · rw [if_neg hc]
    simp only [up]
    rw [if_neg (by omega), if_neg (by omega), if_neg (by omega), if_neg (by omega), if_neg (by omega)]
    by_cases he : b = bkG g (g (70 + 10 * i + 4))
    · rw [if_pos (by omega), if_pos ⟨he, hc⟩]
    · rw [if_neg (by omega), if_neg (by omega), if_neg (fun h => he h.1)]
/-- another stream's numbers stay -/
theorem asks_other {g : Int → Int} (hS : InvS g) {i j k : Int} (hi : 0 ≤ i) (hj : 0 ≤ j) (hij : j ≠ i) (hk0 : 0 ≤ k) (hk : k < 10) : asksG g i (70 + 10 * j + k) = g (70 + 10 * j + k) := by
  have hb := bkG_rng hS (g (70 + 10 * i + 4))
  unfold asksG
  split <;> simp only [up]
  · rw [if_neg (by omega), if_neg (by omega), if_neg (by omega)]
  · rw [if_neg (by omega), if_neg (by omega), if_neg (by omega), if_neg (by omega), if_neg (by omega), if_neg (by omega), if_neg (by omega)]
theorem asks_stall {g : Int → Int} (hS : InvS g) {i k : Int} (hi : 0 ≤ i) (hc : g (6 + 4 * bkG g (g (70 + 10 * i + 4))) > g 4) (hk0 : 0 ≤ k) (hk : k < 6 ∨ k = 8 ∨ k = 9) : asksG g i (70 + 10 * i + k) = g (70 + 10 * i + k) := by
  have hb := bkG_rng hS (g (70 + 10 * i + 4))
  unfold asksG
  rw [if_pos hc]
  simp only [up]
  rw [if_neg (by omega), if_neg (by omega), if_neg (by omega)]
theorem asks_done {g : Int → Int} (hS : InvS g) {i : Int} (hi : 0 ≤ i) (hc : ¬ g (6 + 4 * bkG g (g (70 + 10 * i + 4))) > g 4) :
    asksG g i (70 + 10 * i) = g (70 + 10 * i) ∧ asksG g i (70 + 10 * i + 1) = g (70 + 10 * i + 1) ∧ asksG g i (70 + 10 * i + 2) = g (70 + 10 * i + 2) ∧ asksG g i (70 + 10 * i + 3) = g (70 + 10 * i + 3) - 1 ∧ asksG g i (70 + 10 * i + 4) = (g (70 + 10 * i + 4) + g (70 + 10 * i + 1)) % 4096 ∧ asksG g i (70 + 10 * i + 5) = g (70 + 10 * i + 4) ∧ asksG g i (70 + 10 * i + 6) = g (70 + 10 * i + 6) ∧ asksG g i (70 + 10 * i + 7) = g (70 + 10 * i + 7) ∧ asksG g i (70 + 10 * i + 8) = if g (70 + 10 * i + 3) - 1 = 0 then g 4 else -1 := by
  have hb := bkG_rng hS (g (70 + 10 * i + 4))
  unfold asksG
  rw [if_neg hc]
  simp only [up]
  refine ⟨?_, ?_, ?_, ?_, ?_, ?_, ?_, ?_, ?_⟩
  · rw [if_neg (by omega), if_neg (by omega), if_neg (by omega), if_neg (by omega), if_neg (by omega), if_neg (by omega), if_neg (by omega)]
  · rw [if_neg (by omega), if_neg (by omega), if_neg (by omega), if_neg (by omega), if_neg (by omega), if_neg (by omega), if_neg (by omega)]
  · rw [if_neg (by omega), if_neg (by omega), if_neg (by omega), if_neg (by omega), if_neg (by omega), if_neg (by omega), if_neg (by omega)]
  · rw [if_neg (by omega), if_pos trivial]
  · rw [if_neg (by omega), if_neg (by omega), if_pos trivial]
  · rw [if_neg (by omega), if_neg (by omega), if_neg (by omega), if_pos trivial]
  · rw [if_neg (by omega), if_neg (by omega), if_neg (by omega), if_neg (by omega), if_neg (by omega), if_neg (by omega), if_neg (by omega)]
  · rw [if_neg (by omega), if_neg (by omega), if_neg (by omega), if_neg (by omega), if_neg (by omega), if_neg (by omega), if_neg (by omega)]
  · rw [if_pos trivial]
theorem asksR_rng (g : Int → Int) (i : Int) : asksR g i = 0 ∨ asksR g i = 1 := by
  unfold asksR; split <;> simp
theorem asks_left {g : Int → Int} (hS : InvS g) {i : Int} (hi : 0 ≤ i) : asksG g i (70 + 10 * i + 3) = g (70 + 10 * i + 3) - asksR g i := by
  by_cases hc : g (6 + 4 * bkG g (g (70 + 10 * i + 4))) > g 4
  · rw [asks_stall hS hi hc (by omega) (by omega), asksR, if_pos hc]; omega
  · rw [(asks_done hS hi hc).2.2.2.1, asksR, if_neg hc]
theorem asks_inv {g : Int → Int} (hI : Inv g) {i : Int} (hi : 0 ≤ i) (hi5 : i < g 5) (hl : 0 < g (70 + 10 * i + 3)) : Inv (asksG g i) := by
  obtain ⟨hS, hB, hR⟩ := hI
  have e0 := asks_low hS hi (k := 0) (by omega)
  have e1 := asks_low hS hi (k := 1) (by omega)
  have e2 := asks_low hS hi (k := 2) (by omega)
  have e3 := asks_low hS hi (k := 3) (by omega)
  have e4 := asks_low hS hi (k := 4) (by omega)
  have e5 := asks_low hS hi (k := 5) (by omega)
  have hS0 := hS
  obtain ⟨s0, s1, s2, s3, s4, s5⟩ := hS0
  refine ⟨?_, ?_, ?_⟩
  · unfold InvS; rw [e0, e1, e2, e3, e4, e5]; exact hS
  · intro b hb0 hb1
    have h := hB b hb0 hb1
    rw [asks_free hS hi hb0 hb1, asks_owner hS hi hb0 hb1, e4]
    split <;> omega
  · intro j hj0 hj5
    rw [e5] at hj5
    have h := hR j hj0 hj5
    by_cases hij : j = i
    · subst hij
      by_cases hc : g (6 + 4 * bkG g (g (70 + 10 * j + 4))) > g 4
      · have q := fun k h0 h1 => asks_stall hS hj0 hc (k := k) h0 h1
        have q0 := q 0 (by omega) (by omega)
        rw [Int.add_zero] at q0
        unfold rowI
        rw [q0, q 1 (by omega) (by omega), q 2 (by omega) (by omega), q 3 (by omega) (by omega), q 4 (by omega) (by omega), q 5 (by omega) (by omega)]
        exact h
      · obtain ⟨d0, d1, d2, d3, d4, d5, -⟩ := asks_done hS hj0 hc
        unfold rowI at h ⊢
        rw [d0, d1, d2, d3, d4, d5]
        have m1 := Int.emod_nonneg (g (70 + 10 * j + 4) + g (70 + 10 * j + 1)) (by decide : (4096 : Int) ≠ 0)
        have m2 := Int.emod_lt_of_pos (g (70 + 10 * j + 4) + g (70 + 10 * j + 1)) (by decide : (0 : Int) < 4096)
        refine ⟨by omega, by omega, by omega, by omega, by omega, Or.inr ⟨by omega, by omega, by omega, rfl⟩⟩
    · have q := fun k h0 h1 => asks_other hS hi hj0 hij (k := k) h0 h1
      have q0 := q 0 (by omega) (by omega)
      rw [Int.add_zero] at q0
      unfold rowI
      rw [q0, q 1 (by omega) (by omega), q 2 (by omega) (by omega), q 3 (by omega) (by omega), q 4 (by omega) (by omega), q 5 (by omega) (by omega)]
      exact h
/-- a stream that may ask or not -/
def askC (g : Int → Int) (i : Int) : Int → Int := if g (70 + 10 * i + 3) > 0 then asksG g i else g
def askR (g : Int → Int) (i : Int) : Int := if g (70 + 10 * i + 3) > 0 then asksR g i else 0
theorem askR_rng (g : Int → Int) (i : Int) : askR g i = 0 ∨ askR g i = 1 := by
  unfold askR; split
  · exact asksR_rng g i
  · exact Or.inl rfl
theorem askC_inv {g : Int → Int} (hI : Inv g) {i : Int} (hi : 0 ≤ i) (hi5 : i < g 5) : Inv (askC g i) := by
  unfold askC; split
  · exact asks_inv hI hi hi5 (by omega)
  · exact hI
theorem askC_low {g : Int → Int} (hS : InvS g) {i k : Int} (hi : 0 ≤ i) (hk : k < 6) : askC g i k = g k := by
  unfold askC; split
  · exact asks_low hS hi hk
  · rfl
theorem askC_left {g : Int → Int} (hS : InvS g) {i j : Int} (hi : 0 ≤ i) (hj : 0 ≤ j) : askC g i (70 + 10 * j + 3) = g (70 + 10 * j + 3) - if j = i then askR g i else 0 := by
  unfold askC askR
  by_cases hc : g (70 + 10 * i + 3) > 0
  · rw [if_pos hc, if_pos hc]
    by_cases hij : j = i
    · subst hij; rw [if_pos rfl]; exact asks_left hS hi
    · rw [if_neg hij, asks_other hS hi hj hij (by omega) (by omega)]; omega
  · rw [if_neg hc, if_neg hc]; split <;> omega
/-- words left of the first k streams -/
def wlS (g : Int → Int) : Nat → Int
  | 0 => 0
  | k + 1 => wlS g k + g (70 + 10 * (k : Int) + 3)
def wlG (g : Int → Int) : Int := wlS g (g 5).toNat
theorem wlS_ask {g : Int → Int} (hS : InvS g) {i : Int} (hi : 0 ≤ i) : ∀ k : Nat, wlS (askC g i) k = wlS g k - if i < k then askR g i else 0
  | 0 => by simp only [wlS]; rw [if_neg (by omega)]; omega
  | k + 1 => by
    simp only [wlS]
    rw [wlS_ask hS hi k, askC_left hS hi (by omega)]
    by_cases h1 : i < k
    · rw [if_pos h1, if_neg (by omega), if_pos (by omega)]; omega
    · by_cases h2 : (k : Int) = i
      · rw [if_neg h1, if_pos h2, if_pos (by omega)]; omega
      · rw [if_neg h1, if_neg h2, if_neg (by omega)]; omega
theorem wlG_ask {g : Int → Int} (hS : InvS g) {i : Int} (hi : 0 ≤ i) (hi5 : i < g 5) : wlG (askC g i) = wlG g - askR g i := by
  unfold wlG
  rw [askC_low hS hi (by omega), wlS_ask hS hi, if_pos (by omega)]
/-- a cycle: the first k of its turns -/
def cycF (g : Int → Int) (first n : Int) : Nat → (Int → Int) × Int
  | 0 => (g, 0)
  | k + 1 => (askC (cycF g first n k).1 ((first + k) % n), (cycF g first n k).2 + askR (cycF g first n k).1 ((first + k) % n))
def fstG (g : Int → Int) : Int := if g 3 = 1 ∧ g 5 > 0 then g 4 % g 5 else 0
def cycG (g : Int → Int) : Int → Int := up (cycF g (fstG g) (g 5) (g 5).toNat).1 4 (g 4 + 1)
def cycR (g : Int → Int) : Int := (cycF g (fstG g) (g 5) (g 5).toNat).2
theorem cycF_ok {g : Int → Int} (hI : Inv g) {first : Int} (hf : 0 ≤ first) : ∀ k : Nat, (k = 0 ∨ 0 < g 5) → Inv (cycF g first (g 5) k).1 ∧ (∀ j, j < 6 → (cycF g first (g 5) k).1 j = g j) ∧ 0 ≤ (cycF g first (g 5) k).2 ∧ (cycF g first (g 5) k).2 ≤ k ∧ wlG (cycF g first (g 5) k).1 = wlG g - (cycF g first (g 5) k).2
  | 0, _ => ⟨hI, fun _ _ => rfl, by simp only [cycF]; omega, by simp only [cycF]; omega, by simp only [cycF]; omega⟩
  | k + 1, h => by
    have h5 : 0 < g 5 := h.elim (fun q => by omega) id
    obtain ⟨a, b, c, d, e⟩ := cycF_ok hI hf k (Or.inr h5)
    have m1 := Int.emod_nonneg (first + (k : Int)) (by omega : g 5 ≠ 0)
    have m2 := Int.emod_lt_of_pos (first + (k : Int)) h5
    have b5 := b 5 (by omega)
    have hr := askR_rng (cycF g first (g 5) k).1 ((first + k) % g 5)
    simp only [cycF]
    refine ⟨askC_inv a m1 (by rw [b5]; exact m2), fun j hj => by rw [askC_low a.1 m1 hj]; exact b j hj, by omega, by omega, ?_⟩
    rw [wlG_ask a.1 m1 (by rw [b5]; exact m2), e]; omega
theorem fstG_rng {g : Int → Int} (hS : InvS g) : 0 ≤ fstG g ∧ (fstG g < g 5 ∨ fstG g = 0) ∧ fstG g ≤ 4 := by
  obtain ⟨-, -, -, -, s4, s5⟩ := hS
  unfold fstG
  split
  · rename_i h
    have m1 := Int.emod_nonneg (g 4) (by omega : g 5 ≠ 0)
    have m2 := Int.emod_lt_of_pos (g 4) h.2
    omega
  · omega
theorem cyc_ok {g : Int → Int} (hI : Inv g) (h4 : g 4 < 1000000) : Inv (cycG g) ∧ (cycG g 0 = g 0 ∧ cycG g 1 = g 1 ∧ cycG g 2 = g 2 ∧ cycG g 3 = g 3 ∧ cycG g 4 = g 4 + 1 ∧ cycG g 5 = g 5) ∧ (0 ≤ cycR g ∧ cycR g ≤ 4) ∧ wlG (cycG g) = wlG g - cycR g := by
  obtain ⟨hS, -⟩ := id hI
  obtain ⟨s0, s1, s2, s3, s4, s5⟩ := id hS
  obtain ⟨a, b, c, d, e⟩ := cycF_ok hI (fstG_rng hS).1 (g 5).toNat (by omega)
  obtain ⟨aS, aB, aR⟩ := a
  have u : ∀ j, j ≠ 4 → cycG g j = (cycF g (fstG g) (g 5) (g 5).toNat).1 j := fun j hj => up_ne _ _ hj
  have u4 : cycG g 4 = g 4 + 1 := up_eq _ _ _
  have v : ∀ j, j < 6 → j ≠ 4 → cycG g j = g j := fun j h1 h2 => (u j h2).trans (b j h1)
  have v5 := v 5 (by omega) (by omega)
  refine ⟨⟨?_, ?_, ?_⟩, ⟨v 0 (by omega) (by omega), v 1 (by omega) (by omega), v 2 (by omega) (by omega), v 3 (by omega) (by omega), u4, v5⟩, ⟨c, by unfold cycR; omega⟩, ?_⟩
  · unfold InvS
    rw [v 0 (by omega) (by omega), v 1 (by omega) (by omega), v 2 (by omega) (by omega), v 3 (by omega) (by omega), u4, v5]
    omega
  · intro k hk0 hk1
    have h := aB k hk0 hk1
    have b4 := b 4 (by omega)
    rw [u (6 + 4 * k) (by omega), u4, u (6 + 4 * k + 1) (by omega)]
    omega
  · intro j hj0 hj5
    rw [v5] at hj5
    have h := aR j hj0 (by rw [b 5 (by omega)]; exact hj5)
    unfold rowI at h ⊢
    rw [u _ (by omega), u _ (by omega), u _ (by omega), u _ (by omega), u _ (by omega), u _ (by omega)]
    exact h
  · have w : ∀ k : Nat, wlS (cycG g) k = wlS (cycF g (fstG g) (g 5) (g 5).toNat).1 k := by
      intro k
      induction k with
      | zero => rfl
      | succ k ih => simp only [wlS]; rw [ih, u _ (by omega)]
    unfold wlG at e
    rw [b 5 (by omega)] at e
    unfold wlG cycR
    rw [w, v5]
    exact e
theorem wlS_pos {g : Int → Int} : ∀ k : Nat, 0 < wlS g k → ∃ i : Int, 0 ≤ i ∧ i < k ∧ 0 < g (70 + 10 * i + 3)
  | 0, h => by simp only [wlS] at h; omega
  | k + 1, h => by
    by_cases hk : 0 < g (70 + 10 * (k : Int) + 3)
    · exact ⟨k, by omega, by omega, hk⟩
    · simp only [wlS] at h
      obtain ⟨i, h1, h2, h3⟩ := wlS_pos (g := g) k (by omega)
      exact ⟨i, h1, by omega, h3⟩
theorem wlS_nn {g : Int → Int} (hR : InvR g) : ∀ k : Nat, (k : Int) ≤ g 5 → 0 ≤ wlS g k ∧ wlS g k ≤ 200 * k
  | 0, _ => by simp only [wlS]; omega
  | k + 1, h => by
    have h1 := wlS_nn hR k (by omega)
    obtain ⟨-, -, h2, h3, -⟩ := hR k (by omega) (by omega)
    simp only [wlS]; omega
theorem wlG_nn {g : Int → Int} (hI : Inv g) : 0 ≤ wlG g ∧ wlG g ≤ 800 := by
  obtain ⟨-, -, -, -, -, s5⟩ := hI.1
  have h := wlS_nn hI.2.2 (g 5).toNat (by omega)
  unfold wlG; omega
/-- turns without a request change no bank's end and no words left -/
theorem cycF_idle {g : Int → Int} (hI : Inv g) {first : Int} (hf : 0 ≤ first) (h5 : 0 < g 5) : ∀ k : Nat, (cycF g first (g 5) k).2 = 0 →
    (∀ b, 0 ≤ b → b < 16 → (cycF g first (g 5) k).1 (6 + 4 * b) = g (6 + 4 * b)) ∧ (∀ j, 0 ≤ j → (cycF g first (g 5) k).1 (70 + 10 * j + 3) = g (70 + 10 * j + 3)) ∧
    (∀ j : Nat, j < k → 0 < g (70 + 10 * ((first + j) % g 5) + 3) → ∃ b, 0 ≤ b ∧ b < 16 ∧ g (6 + 4 * b) > g 4)
  | 0, _ => ⟨fun _ _ _ => rfl, fun _ _ => rfl, fun j hj => absurd hj (Nat.not_lt_zero j)⟩
  | k + 1, h => by
    obtain ⟨a, b, c, d, e⟩ := cycF_ok hI hf k (Or.inr h5)
    have m1 := Int.emod_nonneg (first + (k : Int)) (by omega : g 5 ≠ 0)
    have m2 := Int.emod_lt_of_pos (first + (k : Int)) h5
    have hr := askR_rng (cycF g first (g 5) k).1 ((first + k) % g 5)
    simp only [cycF] at h ⊢
    obtain ⟨i1, i2, i3⟩ := cycF_idle hI hf h5 k (by omega)
    have hr0 : askR (cycF g first (g 5) k).1 ((first + k) % g 5) = 0 := by omega
    refine ⟨fun b' hb0 hb1 => ?_, fun j hj => ?_, fun j hj hl => ?_⟩
    · rw [← i1 b' hb0 hb1]
      unfold askC
      split
      · rename_i hc
        rw [asks_free a.1 m1 hb0 hb1, if_neg]
        intro hq
        unfold askR asksR at hr0
        rw [if_pos hc, if_neg hq.2] at hr0
        omega
      · rfl
    · rw [askC_left a.1 m1 hj, i2 j hj, hr0]; split <;> omega
    · by_cases hjk : j < k
      · exact i3 j hjk hl
      · have hjk2 : j = k := by omega
        subst hjk2
        rw [← i2 _ m1] at hl
        unfold askR asksR at hr0
        rw [if_pos hl] at hr0
        by_cases hc : (cycF g first (g 5) j).1 (6 + 4 * bkG (cycF g first (g 5) j).1 ((cycF g first (g 5) j).1 (70 + 10 * ((first + j) % g 5) + 4))) > (cycF g first (g 5) j).1 4
        · have hb := bkG_rng a.1 ((cycF g first (g 5) j).1 (70 + 10 * ((first + j) % g 5) + 4))
          rw [i1 _ hb.1 hb.2.2, b 4 (by omega)] at hc
          exact ⟨_, hb.1, hb.2.2, hc⟩
        · rw [if_neg hc] at hr0; omega
theorem cyc_pot {g : Int → Int} {w : Int} (hI : Inv g) (h4 : g 4 < 1000000) (hw : 0 ≤ w) (hB : ∀ b, 0 ≤ b → b < 16 → g (6 + 4 * b) - g 4 ≤ w) (hl : 0 < wlG g) :
    ∃ w', 0 ≤ w' ∧ (∀ b, 0 ≤ b → b < 16 → cycG g (6 + 4 * b) - cycG g 4 ≤ w') ∧ 13 * wlG (cycG g) + w' < 13 * wlG g + w := by
  obtain ⟨c1, c2, c3, c4⟩ := cyc_ok hI h4
  by_cases hr : 0 < cycR g
  · refine ⟨12, by omega, fun b h0 h1 => ?_, by omega⟩
    have := c1.2.1 b h0 h1
    omega
  · have hf := fstG_rng hI.1
    obtain ⟨-, -, -, -, -, s5⟩ := id hI.1
    obtain ⟨i, hi0, hi1, hi2⟩ := wlS_pos (g 5).toNat hl
    have h5 : 0 < g 5 := by omega
    obtain ⟨i1, i2, i3⟩ := cycF_idle hI hf.1 h5 (g 5).toNat (by unfold cycR at hr c3; omega)
    have hj : ∃ j : Nat, j < (g 5).toNat ∧ (fstG g + j) % g 5 = i := by
      refine ⟨((i - fstG g) % g 5).toNat, ?_, ?_⟩
      · have := Int.emod_nonneg (i - fstG g) (by omega : g 5 ≠ 0)
        have := Int.emod_lt_of_pos (i - fstG g) h5
        omega
      · rcases (by omega : g 5 = 1 ∨ g 5 = 2 ∨ g 5 = 3 ∨ g 5 = 4) with h | h | h | h <;> rw [h] at hi1 hf ⊢ <;> omega
    obtain ⟨j, hj1, hj2⟩ := hj
    obtain ⟨b, hb0, hb1, hb2⟩ := i3 j hj1 (by rw [hj2]; exact hi2)
    have := hB b hb0 hb1
    refine ⟨w - 1, by omega, fun b' h0 h1 => ?_, by omega⟩
    have hq := hB b' h0 h1
    have e1 : cycG g (6 + 4 * b') = (cycF g (fstG g) (g 5) (g 5).toNat).1 (6 + 4 * b') := up_ne _ _ (by omega)
    rw [e1, i1 b' h0 h1, c2.2.2.2.2.1]
    omega
/-- until all streams are done -/
def roC : Nat → (Int → Int) → Int
  | 0, _ => 0
  | n + 1, g => if wlG g > 0 then 1 + roC n (cycG g) else 0
def roS : Nat → (Int → Int) → (Int → Int)
  | 0, g => g
  | n + 1, g => if wlG g > 0 then roS n (cycG g) else g
theorem cycF_next {g f : Int → Int} {F z y : Int} {k : Nat} (hf : f = (cycF g F (g 5) k).1) (hz : z = (cycF g F (g 5) k).2) (hy : y = k) (h5 : f 5 = g 5) :
    (0 < f (70 + 10 * ((F + y) % f 5) + 3) → asksG f ((F + y) % f 5) = (cycF g F (g 5) (k + 1)).1 ∧ z + asksR f ((F + y) % f 5) = (cycF g F (g 5) (k + 1)).2) ∧
    (¬ 0 < f (70 + 10 * ((F + y) % f 5) + 3) → f = (cycF g F (g 5) (k + 1)).1 ∧ z = (cycF g F (g 5) (k + 1)).2) := by
  simp only [cycF]
  rw [← hf, ← hz, ← h5, ← hy]
  refine ⟨fun h => ⟨?_, ?_⟩, fun h => ⟨?_, ?_⟩⟩
  · rw [askC, if_pos h]
  · rw [askR, if_pos h]
  · rw [askC, if_neg h]
  · rw [askR, if_neg h]; omega
/-- begins -/
def bgnG (g : Int → Int) (i : Int) : Int → Int := up (up (up (up (up (up g (70 + 10 * i + 3) (g (70 + 10 * i + 2))) (70 + 10 * i + 4) (g (70 + 10 * i))) (70 + 10 * i + 5) (-1)) (70 + 10 * i + 6) 0) (70 + 10 * i + 7) 0) (70 + 10 * i + 8) (-1)
def clr (n : Int) (g : Int → Int) : Int → Int := fun k => if 6 ≤ k ∧ k < 6 + n then 0 else g k
theorem clr_0 (g : Int → Int) : clr 0 g = g := funext fun k => if_neg (by omega)
theorem clr_up (g : Int → Int) {n : Int} (hn : 0 ≤ n) : up (clr n g) (6 + n) 0 = clr (n + 1) g := by
  funext j
  simp only [up, clr]
  by_cases h1 : j = 6 + n
  · subst h1; rw [if_pos rfl, if_pos (by omega)]
  · rw [if_neg h1]
    by_cases h2 : 6 ≤ j ∧ j < 6 + n
    · rw [if_pos h2, if_pos (by omega)]
    · rw [if_neg h2, if_neg (by omega)]
def bgaS (g : Int → Int) : Nat → (Int → Int)
  | 0 => g
  | k + 1 => bgnG (bgaS g k) k
def bgaG (g : Int → Int) : Int → Int := bgaS (clr 64 (up g 4 0)) (g 5).toNat
theorem bgn_out (g : Int → Int) {i k : Int} (h : k < 70 + 10 * i + 3 ∨ 70 + 10 * i + 9 ≤ k) : bgnG g i k = g k := by
  simp only [bgnG, up]
  rw [if_neg (by omega), if_neg (by omega), if_neg (by omega), if_neg (by omega), if_neg (by omega), if_neg (by omega)]
theorem bgn_in (g : Int → Int) (i : Int) : bgnG g i (70 + 10 * i + 3) = g (70 + 10 * i + 2) ∧ bgnG g i (70 + 10 * i + 4) = g (70 + 10 * i) ∧ bgnG g i (70 + 10 * i + 5) = -1 ∧ bgnG g i (70 + 10 * i + 6) = 0 ∧ bgnG g i (70 + 10 * i + 7) = 0 ∧ bgnG g i (70 + 10 * i + 8) = -1 := by
  simp only [bgnG, up]
  refine ⟨?_, ?_, ?_, ?_, ?_, ?_⟩
  · rw [if_neg (by omega), if_neg (by omega), if_neg (by omega), if_neg (by omega), if_neg (by omega), if_pos trivial]
  · rw [if_neg (by omega), if_neg (by omega), if_neg (by omega), if_neg (by omega), if_pos trivial]
  · rw [if_neg (by omega), if_neg (by omega), if_neg (by omega), if_pos trivial]
  · rw [if_neg (by omega), if_neg (by omega), if_pos trivial]
  · rw [if_neg (by omega), if_pos trivial]
  · rw [if_pos trivial]
theorem bgaS_low (g : Int → Int) : ∀ (k : Nat) (j : Int), j < 70 → bgaS g k j = g j
  | 0, _, _ => rfl
  | k + 1, j, h => by simp only [bgaS]; rw [bgn_out _ (by omega), bgaS_low g k j h]
end
section
/-! the reference: begins, words left, a cycle, until all are done -/
set_option maxRecDepth 100000 in
set_option maxHeartbeats 4000000 in
theorem ct_X6_begins (l : Launch) (μ : Nat → Nat) (q g : Int → Int) (i : Int) : Ct l yX6_begins cX6_begins 3 none 1 0 0 (fun ca av L M => av = [.ref (μ 0), .int (iI i)] ∧ MuOk μ L ∧ M (μ 0) = oMd μ q ∧ M (μ 1) = cI ca 110 g ∧ 0 ≤ i ∧ i < 4) (fun ca av L M r L1 M1 => r = none ∧ L = L1 ∧ M1 (μ 1) = cI ca 110 (bgnG g i) ∧ ∀ b, b ≠ μ 1 → M1 b = M b) := by
  refine Ct_of (own := RX6) (by decide) rfl (by rintro _ _ _ _ ⟨rfl, _⟩; exact Nat.le_of_ble_eq_true rfl) ?_
  rintro p e s m args below meth c D ca A av L M ⟨rfl, hμ, hMo, hMs, hi0, hi1⟩ X hret hname
  refine g_lv (lv' := [(0, .ref (μ 0)), (1, .int (iI i))]) [0, 1] rfl ?_
  refine g_iload_n X 1 rfl dX6_begins_0 rfl ?_
  refine g_callS X (ct_X6_m l i) (As := [.int (iI i)]) (rest := []) rfl ca_X6_m rfl wm_X6_52 wt_X6_m wc_X6_m w0_X6 ⟨by decide, by decide⟩ (by decide) ⟨by decide, by decide⟩ rfl dX6_begins_1 rfl ⟨rfl, trivial⟩ (fun r1 L1 M1 hq => ?_)
  obtain ⟨rfl, rfl, rfl⟩ := hq
  refine g_st (st' := [.int (iI (70 + 10 * i))]) rfl ?_
  refine g_istore_n X (lv' := [(2, .int (iI (70 + 10 * i))), (0, .ref (μ 0)), (1, .int (iI i))]) (by decide) rfl dX6_begins_4 rfl ?_
  refine g_aload_n X 1 rfl dX6_begins_5 rfl ?_
  refine g_get X cl_X6 0 (by decide) wf_X6_7 rfl (hμ.mem 0 (by decide)) hMo rfl dX6_begins_6 rfl ?_
  refine g_iload_n X 0 rfl dX6_begins_9 rfl ?_
  refine g_iconst X (z := 3) dX6_begins_10 rfl ?_
  refine g_iadd X dX6_begins_11 rfl ?_
  refine g_aload_n X 1 rfl dX6_begins_12 rfl ?_
  refine g_get X cl_X6 0 (by decide) wf_X6_7 rfl (hμ.mem 0 (by decide)) hMo rfl dX6_begins_13 rfl ?_
  refine g_iload_n X 0 rfl dX6_begins_16 rfl ?_
  refine g_iconst X (z := 2) dX6_begins_17 rfl ?_
  refine g_iadd X dX6_begins_18 rfl ?_
  refine g_iald X (hμ.mem 1 (by decide)) hMs ⟨by omega, by omega⟩ (by decide) dX6_begins_19 rfl ?_
  refine g_iast X (hμ.mem 1 (by decide)) hMs ⟨by omega, by omega⟩ (by decide) dX6_begins_20 rfl (fun M_1 hM_2 fr_3 => ?_)
  obtain ⟨g_4, hg_5⟩ : ∃ x : Int → Int, x = up g ((70 + 10 * i) + 3) (g ((70 + 10 * i) + 2)) := ⟨_, rfl⟩
  rw [← hg_5] at hM_2
  have hM_6 : M_1 (μ 0) = .inr (6, [.ref (μ 1), .ref (μ 2), .ref (μ 3), .ref (μ 4), .ref (μ 5), .ref (μ 6), .ref (μ 7), .ref (μ 8), .int (iI (q 0)), .int (iI (q 1)), .int (iI (q 2)), .int (iI (q 3))]) := (fr_3 (μ 0) (hμ.ne (i := 0) (j := 1) (by decide) (by decide) (by decide))).trans hMo
  refine g_aload_n X 1 rfl dX6_begins_21 rfl ?_
  refine g_get X cl_X6 0 (by decide) wf_X6_7 rfl (hμ.mem 0 (by decide)) hM_6 rfl dX6_begins_22 rfl ?_
  refine g_iload_n X 0 rfl dX6_begins_25 rfl ?_
  refine g_iconst X (z := 4) dX6_begins_26 rfl ?_
  refine g_iadd X dX6_begins_27 rfl ?_
  refine g_aload_n X 1 rfl dX6_begins_28 rfl ?_
  refine g_get X cl_X6 0 (by decide) wf_X6_7 rfl (hμ.mem 0 (by decide)) hM_6 rfl dX6_begins_29 rfl ?_
  refine g_iload_n X 0 rfl dX6_begins_32 rfl ?_
  refine g_iconst X (z := 0) dX6_begins_33 rfl ?_
  refine g_iadd X dX6_begins_34 rfl ?_
  refine g_st (st' := [.int (iI (70 + 10 * i)), .ref (μ 1), .int (iI ((70 + 10 * i) + 4)), .ref (μ 1)]) (by rw [Int.add_zero]) ?_
  refine g_iald X (hμ.mem 1 (by decide)) hM_2 ⟨by omega, by omega⟩ (by decide) dX6_begins_35 rfl ?_
  have hr_7 : g_4 (70 + 10 * i) = g (70 + 10 * i) := by rw [hg_5, up_ne _ _ (by omega)]
  refine g_st (st' := [.int (iI (g (70 + 10 * i))), .int (iI ((70 + 10 * i) + 4)), .ref (μ 1)]) (by rw [hr_7]) ?_
  refine g_iast X (hμ.mem 1 (by decide)) hM_2 ⟨by omega, by omega⟩ (by decide) dX6_begins_36 rfl (fun M_8 hM_9 fr_10 => ?_)
  obtain ⟨g_11, hg_12⟩ : ∃ x : Int → Int, x = up g_4 ((70 + 10 * i) + 4) (g (70 + 10 * i)) := ⟨_, rfl⟩
  rw [← hg_12] at hM_9
  have hM_13 : M_8 (μ 0) = .inr (6, [.ref (μ 1), .ref (μ 2), .ref (μ 3), .ref (μ 4), .ref (μ 5), .ref (μ 6), .ref (μ 7), .ref (μ 8), .int (iI (q 0)), .int (iI (q 1)), .int (iI (q 2)), .int (iI (q 3))]) := (fr_10 (μ 0) (hμ.ne (i := 0) (j := 1) (by decide) (by decide) (by decide))).trans hM_6
  refine g_aload_n X 1 rfl dX6_begins_37 rfl ?_
  refine g_get X cl_X6 0 (by decide) wf_X6_7 rfl (hμ.mem 0 (by decide)) hM_13 rfl dX6_begins_38 rfl ?_
  refine g_iload_n X 0 rfl dX6_begins_41 rfl ?_
  refine g_iconst X (z := 5) dX6_begins_42 rfl ?_
  refine g_iadd X dX6_begins_43 rfl ?_
  refine g_iconst X (z := -1) dX6_begins_44 rfl ?_
  refine g_iast X (hμ.mem 1 (by decide)) hM_9 ⟨by omega, by omega⟩ (by decide) dX6_begins_45 rfl (fun M_14 hM_15 fr_16 => ?_)
  obtain ⟨g_17, hg_18⟩ : ∃ x : Int → Int, x = up g_11 ((70 + 10 * i) + 5) (-1) := ⟨_, rfl⟩
  rw [← hg_18] at hM_15
  have hM_19 : M_14 (μ 0) = .inr (6, [.ref (μ 1), .ref (μ 2), .ref (μ 3), .ref (μ 4), .ref (μ 5), .ref (μ 6), .ref (μ 7), .ref (μ 8), .int (iI (q 0)), .int (iI (q 1)), .int (iI (q 2)), .int (iI (q 3))]) := (fr_16 (μ 0) (hμ.ne (i := 0) (j := 1) (by decide) (by decide) (by decide))).trans hM_13
  refine g_aload_n X 1 rfl dX6_begins_46 rfl ?_
  refine g_get X cl_X6 0 (by decide) wf_X6_7 rfl (hμ.mem 0 (by decide)) hM_19 rfl dX6_begins_47 rfl ?_
  refine g_iload_n X 0 rfl dX6_begins_50 rfl ?_
  refine g_bipush X (z := 6) (by decide +kernel) dX6_begins_51 rfl ?_
  refine g_iadd X dX6_begins_53 rfl ?_
  refine g_iconst X (z := 0) dX6_begins_54 rfl ?_
  refine g_iast X (hμ.mem 1 (by decide)) hM_15 ⟨by omega, by omega⟩ (by decide) dX6_begins_55 rfl (fun M_20 hM_21 fr_22 => ?_)
  obtain ⟨g_23, hg_24⟩ : ∃ x : Int → Int, x = up g_17 ((70 + 10 * i) + 6) 0 := ⟨_, rfl⟩
  rw [← hg_24] at hM_21
  have hM_25 : M_20 (μ 0) = .inr (6, [.ref (μ 1), .ref (μ 2), .ref (μ 3), .ref (μ 4), .ref (μ 5), .ref (μ 6), .ref (μ 7), .ref (μ 8), .int (iI (q 0)), .int (iI (q 1)), .int (iI (q 2)), .int (iI (q 3))]) := (fr_22 (μ 0) (hμ.ne (i := 0) (j := 1) (by decide) (by decide) (by decide))).trans hM_19
  refine g_aload_n X 1 rfl dX6_begins_56 rfl ?_
  refine g_get X cl_X6 0 (by decide) wf_X6_7 rfl (hμ.mem 0 (by decide)) hM_25 rfl dX6_begins_57 rfl ?_
  refine g_iload_n X 0 rfl dX6_begins_60 rfl ?_
  refine g_bipush X (z := 7) (by decide +kernel) dX6_begins_61 rfl ?_
  refine g_iadd X dX6_begins_63 rfl ?_
  refine g_iconst X (z := 0) dX6_begins_64 rfl ?_
  refine g_iast X (hμ.mem 1 (by decide)) hM_21 ⟨by omega, by omega⟩ (by decide) dX6_begins_65 rfl (fun M_26 hM_27 fr_28 => ?_)
  obtain ⟨g_29, hg_30⟩ : ∃ x : Int → Int, x = up g_23 ((70 + 10 * i) + 7) 0 := ⟨_, rfl⟩
  rw [← hg_30] at hM_27
  have hM_31 : M_26 (μ 0) = .inr (6, [.ref (μ 1), .ref (μ 2), .ref (μ 3), .ref (μ 4), .ref (μ 5), .ref (μ 6), .ref (μ 7), .ref (μ 8), .int (iI (q 0)), .int (iI (q 1)), .int (iI (q 2)), .int (iI (q 3))]) := (fr_28 (μ 0) (hμ.ne (i := 0) (j := 1) (by decide) (by decide) (by decide))).trans hM_25
  refine g_aload_n X 1 rfl dX6_begins_66 rfl ?_
  refine g_get X cl_X6 0 (by decide) wf_X6_7 rfl (hμ.mem 0 (by decide)) hM_31 rfl dX6_begins_67 rfl ?_
  refine g_iload_n X 0 rfl dX6_begins_70 rfl ?_
  refine g_bipush X (z := 8) (by decide +kernel) dX6_begins_71 rfl ?_
  refine g_iadd X dX6_begins_73 rfl ?_
  refine g_iconst X (z := -1) dX6_begins_74 rfl ?_
  refine g_iast X (hμ.mem 1 (by decide)) hM_27 ⟨by omega, by omega⟩ (by decide) dX6_begins_75 rfl (fun M_32 hM_33 fr_34 => ?_)
  obtain ⟨g_35, hg_36⟩ : ∃ x : Int → Int, x = up g_29 ((70 + 10 * i) + 8) (-1) := ⟨_, rfl⟩
  rw [← hg_36] at hM_33
  have hM_37 : M_32 (μ 0) = .inr (6, [.ref (μ 1), .ref (μ 2), .ref (μ 3), .ref (μ 4), .ref (μ 5), .ref (μ 6), .ref (μ 7), .ref (μ 8), .int (iI (q 0)), .int (iI (q 1)), .int (iI (q 2)), .int (iI (q 3))]) := (fr_34 (μ 0) (hμ.ne (i := 0) (j := 1) (by decide) (by decide) (by decide))).trans hM_31
  exact g_vret X hret ⟨Nat.le_of_ble_eq_true rfl, Nat.le_of_ble_eq_true rfl⟩ dX6_begins_76 ⟨rfl, rfl, (hM_33).trans (by rw [hg_36, hg_30, hg_24, hg_18, hg_12, hg_5, bgnG]), fun b hb => ((fr_34 b hb).trans ((fr_28 b hb).trans ((fr_22 b hb).trans ((fr_16 b hb).trans ((fr_10 b hb).trans (fr_3 b hb))))))⟩
set_option maxRecDepth 100000 in
set_option maxHeartbeats 4000000 in
theorem ct_X6_wordsLeft (l : Launch) (μ : Nat → Nat) (q g : Int → Int) : Ct l yX6_wordsLeft cX6_wordsLeft 3 (some .int) 1 0 0 (fun ca av L M => av = [.ref (μ 0)] ∧ MuOk μ L ∧ M (μ 0) = oMd μ q ∧ M (μ 1) = cI ca 110 g ∧ 0 ≤ g 5 ∧ g 5 ≤ 4) (fun ca av L M r L1 M1 => r = some (.int (iI (wlG g))) ∧ L = L1 ∧ M = M1) := by
  refine Ct_of (own := RX6) (by decide) rfl (by rintro _ _ _ _ ⟨rfl, _⟩; exact Nat.le_of_ble_eq_true rfl) ?_
  rintro p e s m args below meth c D ca A av L M ⟨rfl, hμ, hMo, hMs, h50, h51⟩ X hret hname
  refine g_lv (lv' := [(0, .ref (μ 0))]) [0] rfl ?_
  generalize hQ : MQ below _ args s _ _ A = Q
  have lp : ∀ (n : Nat) (k : Nat) (z y : Int) (hy : y = k) (hk : y ≤ g 5) (hz : z = wlS g k) (hm : g 5 - y < (n : Int)), G p l e (Rm 1 0 0) s m args below meth c D A 3 Q 0 0 L M 4 [(0, .ref (μ 0)), (1, .int (iI z)), (2, .int (iI y))] [] := by
    intro n
    induction n with
    | zero =>
      intro k z y hy hk hz hm
      exfalso; omega
    | succ n ih =>
      intro k z y hy hk hz hm
      refine g_iload_n X 2 rfl dX6_wordsLeft_4 rfl ?_
      refine g_aload_n X 0 rfl dX6_wordsLeft_5 rfl ?_
      refine g_get X cl_X6 0 (by decide) wf_X6_7 rfl (hμ.mem 0 (by decide)) hMo rfl dX6_wordsLeft_6 rfl ?_
      refine g_iconst X (z := 5) dX6_wordsLeft_9 rfl ?_
      refine g_iald X (hμ.mem 1 (by decide)) hMs ⟨by decide, by decide⟩ (by decide) dX6_wordsLeft_10 rfl ?_
      refine g_icmp_ge X ⟨by omega, by omega⟩ ⟨by omega, by omega⟩ (tgt := 34) dX6_wordsLeft_11 (by decide) rfl (fun h_1 => ?_) (fun h_1 => ?_)
      · refine g_iload_n X 1 rfl dX6_wordsLeft_34 rfl ?_
        subst hQ
        exact g_iret X hret ⟨Nat.le_of_ble_eq_true rfl, Nat.le_of_ble_eq_true rfl⟩ dX6_wordsLeft_35 ⟨by rw [hz, wlG, show (g 5).toNat = k from by omega], rfl, rfl⟩
      · refine g_iload_n X 1 rfl dX6_wordsLeft_14 rfl ?_
        refine g_aload_n X 0 rfl dX6_wordsLeft_15 rfl ?_
        refine g_get X cl_X6 0 (by decide) wf_X6_7 rfl (hμ.mem 0 (by decide)) hMo rfl dX6_wordsLeft_16 rfl ?_
        refine g_iload_n X 2 rfl dX6_wordsLeft_19 rfl ?_
        refine g_callS X (ct_X6_m l y) (As := [.int (iI y)]) (rest := [.ref (μ 1), .int (iI z)]) rfl ca_X6_m rfl wm_X6_52 wt_X6_m wc_X6_m w0_X6 ⟨by decide, by decide⟩ (Nat.le_of_ble_eq_true rfl) ⟨by decide, by decide⟩ rfl dX6_wordsLeft_20 rfl ⟨rfl, trivial⟩ (fun r1 L1 M1 hq => ?_)
        obtain ⟨rfl, rfl, rfl⟩ := hq
        refine g_st (st' := [.int (iI (70 + 10 * y)), .ref (μ 1), .int (iI z)]) rfl ?_
        refine g_iconst X (z := 3) dX6_wordsLeft_23 rfl ?_
        refine g_iadd X dX6_wordsLeft_24 rfl ?_
        refine g_iald X (hμ.mem 1 (by decide)) hMs ⟨by omega, by omega⟩ (by decide) dX6_wordsLeft_25 rfl ?_
        refine g_iadd X dX6_wordsLeft_26 rfl ?_
        refine g_istore_n X (lv' := [(1, .int (iI (z + g ((70 + 10 * y) + 3)))), (0, .ref (μ 0)), (2, .int (iI y))]) (by decide) rfl dX6_wordsLeft_27 rfl ?_
        refine g_iinc X (lv' := [(2, .int (iI (y + 1))), (1, .int (iI (z + g ((70 + 10 * y) + 3)))), (0, .ref (μ 0))]) 2 rfl (by decide) rfl dX6_wordsLeft_28 rfl ?_
        refine g_goto X (n := 4) dX6_wordsLeft_31 (by decide) ?_
        refine g_lv (lv' := [(0, .ref (μ 0)), (1, .int (iI (z + g ((70 + 10 * y) + 3)))), (2, .int (iI (y + 1)))]) [2, 1, 0] rfl ?_
        exact ih (k + 1) _ _ (by omega) (by omega) (by simp only [wlS]; rw [hz, hy]) (by omega)
  refine g_iconst X (z := 0) dX6_wordsLeft_0 rfl ?_
  refine g_istore_n X (lv' := [(1, .int (iI 0)), (0, .ref (μ 0))]) (by decide) rfl dX6_wordsLeft_1 rfl ?_
  refine g_iconst X (z := 0) dX6_wordsLeft_2 rfl ?_
  refine g_istore_n X (lv' := [(2, .int (iI 0)), (1, .int (iI 0)), (0, .ref (μ 0))]) (by decide) rfl dX6_wordsLeft_3 rfl ?_
  refine g_lv (lv' := [(0, .ref (μ 0)), (1, .int (iI 0)), (2, .int (iI 0))]) [2, 1, 0] rfl ?_
  exact lp 9 0 _ _ rfl (by omega) rfl (by omega)
set_option maxRecDepth 100000 in
set_option maxHeartbeats 4000000 in
theorem ct_X6_beginsAnew (l : Launch) (μ : Nat → Nat) (q g : Int → Int) : Ct l yX6_beginsAnew cX6_beginsAnew 2 none 2 0 0 (fun ca av L M => av = [.ref (μ 0)] ∧ MuOk μ L ∧ M (μ 0) = oMd μ q ∧ M (μ 1) = cI ca 110 g ∧ 0 ≤ g 5 ∧ g 5 ≤ 4) (fun ca av L M r L1 M1 => r = none ∧ L = L1 ∧ M1 (μ 1) = cI ca 110 (bgaG g) ∧ ∀ b, b ≠ μ 1 → M1 b = M b) := by
  refine Ct_of (own := RX6) (by decide) rfl (by rintro _ _ _ _ ⟨rfl, _⟩; exact Nat.le_of_ble_eq_true rfl) ?_
  rintro p e s m args below meth c D ca A av L M ⟨rfl, hμ, hMo, hMs, h50, h51⟩ X hret hname
  refine g_lv (lv' := [(0, .ref (μ 0))]) [0] rfl ?_
  generalize hQ : MQ below _ args s _ _ A = Q
  have lp2 : ∀ (n : Nat) (k : Nat) (y : Int) (M1 : Mem) (f : Int → Int) (hy : y = k) (hk : y ≤ g 5) (hf : f = bgaS (clr 64 (up g 4 0)) k) (hMo1 : M1 (μ 0) = oMd μ q) (hMs1 : M1 (μ 1) = cI ca 110 f) (hfr : ∀ b, b ≠ μ 1 → M1 b = M b) (hm : g 5 - y < (n : Int)), G p l e (Rm 2 0 0) s m args below meth c D A 2 Q 0 0 L M1 33 [(0, .ref (μ 0)), (1, .int (iI y))] [] := by
    intro n
    induction n with
    | zero =>
      intro k y M1 f hy hk hf hMo1 hMs1 hfr hm
      exfalso; omega
    | succ n ih =>
      intro k y M1 f hy hk hf hMo1 hMs1 hfr hm
      have f5 : f 5 = g 5 := by rw [hf, bgaS_low _ _ _ (by decide)]; rfl
      refine g_iload_n X 1 rfl dX6_beginsAnew_33 rfl ?_
      refine g_aload_n X 0 rfl dX6_beginsAnew_34 rfl ?_
      refine g_get X cl_X6 0 (by decide) wf_X6_7 rfl (hμ.mem 0 (by decide)) hMo1 rfl dX6_beginsAnew_35 rfl ?_
      refine g_iconst X (z := 5) dX6_beginsAnew_38 rfl ?_
      refine g_iald X (hμ.mem 1 (by decide)) hMs1 ⟨by decide, by decide⟩ (by decide) dX6_beginsAnew_39 rfl ?_
      refine g_icmp_ge X ⟨by omega, by omega⟩ ⟨by omega, by omega⟩ (tgt := 54) dX6_beginsAnew_40 (by decide) rfl (fun h_1 => ?_) (fun h_1 => ?_)
      · subst hQ
        exact g_vret X hret ⟨Nat.le_of_ble_eq_true rfl, Nat.le_of_ble_eq_true rfl⟩ dX6_beginsAnew_54 ⟨rfl, rfl, by rw [hMs1, hf, bgaG, show (g 5).toNat = k from by omega], fun b hb => (hfr b hb)⟩
      · refine g_aload_n X 0 rfl dX6_beginsAnew_43 rfl ?_
        refine g_iload_n X 1 rfl dX6_beginsAnew_44 rfl ?_
        refine g_callV X (ct_X6_begins l μ q f y) (As := [.int (iI y)]) (rest := []) cl_X6 rfl ca_X6_begins rfl wm_X6_65 wi_X6_begins ws_X6_begins wc_X6_begins w0_X6 ⟨by decide, by decide⟩ (hμ.mem 0 (by decide)) hMo1 (by decide) ⟨by decide, by decide⟩ rfl dX6_beginsAnew_45 rfl ⟨rfl, hμ, hMo1, hMs1, by omega, by omega⟩ (fun r1 L1 M_2 hq => ?_)
        obtain ⟨rfl, rfl, hM_3, fr_4⟩ := hq
        have hM_5 : M_2 (μ 0) = .inr (6, [.ref (μ 1), .ref (μ 2), .ref (μ 3), .ref (μ 4), .ref (μ 5), .ref (μ 6), .ref (μ 7), .ref (μ 8), .int (iI (q 0)), .int (iI (q 1)), .int (iI (q 2)), .int (iI (q 3))]) := (fr_4 (μ 0) (hμ.ne (i := 0) (j := 1) (by decide) (by decide) (by decide))).trans hMo1
        refine g_st (st' := []) rfl ?_
        refine g_iinc X (lv' := [(1, .int (iI (y + 1))), (0, .ref (μ 0))]) 1 rfl (by decide) rfl dX6_beginsAnew_48 rfl ?_
        refine g_goto X (n := 33) dX6_beginsAnew_51 (by decide) ?_
        refine g_lv (lv' := [(0, .ref (μ 0)), (1, .int (iI (y + 1)))]) [1, 0] rfl ?_
        exact ih (k + 1) _ _ _ (by omega) (by omega) (by simp only [bgaS]; rw [hf, hy]) hM_5 hM_3 (fun b hb => ((fr_4 b hb).trans (hfr b hb))) (by omega)
  have lp1 : ∀ (n : Nat) (y : Int) (M1 : Mem) (f : Int → Int) (hy0 : 0 ≤ y) (hy1 : y ≤ 64) (hf : f = clr y (up g 4 0)) (hMo1 : M1 (μ 0) = oMd μ q) (hMs1 : M1 (μ 1) = cI ca 110 f) (hfr : ∀ b, b ≠ μ 1 → M1 b = M b) (hm : 64 - y < (n : Int)), G p l e (Rm 2 0 0) s m args below meth c D A 2 Q 0 0 L M1 9 [(0, .ref (μ 0)), (1, .int (iI y))] [] := by
    intro n
    induction n with
    | zero =>
      intro y M1 f hy0 hy1 hf hMo1 hMs1 hfr hm
      exfalso; omega
    | succ n ih =>
      intro y M1 f hy0 hy1 hf hMo1 hMs1 hfr hm
      refine g_iload_n X 1 rfl dX6_beginsAnew_9 rfl ?_
      refine g_bipush X (z := 64) (by decide +kernel) dX6_beginsAnew_10 rfl ?_
      refine g_icmp_ge X ⟨by omega, by omega⟩ ⟨by decide, by decide⟩ (tgt := 31) dX6_beginsAnew_12 (by decide) rfl (fun h_6 => ?_) (fun h_6 => ?_)
      · refine g_iconst X (z := 0) dX6_beginsAnew_31 rfl ?_
        refine g_istore_n X (lv' := [(1, .int (iI 0)), (0, .ref (μ 0))]) (by decide) rfl dX6_beginsAnew_32 rfl ?_
        refine g_lv (lv' := [(0, .ref (μ 0)), (1, .int (iI 0))]) [1, 0] rfl ?_
        exact lp2 9 0 _ _ _ rfl (by omega) (by rw [hf, show y = 64 from by omega]; rfl) hMo1 hMs1 (fun b hb => (hfr b hb)) (by omega)
      · refine g_aload_n X 0 rfl dX6_beginsAnew_15 rfl ?_
        refine g_get X cl_X6 0 (by decide) wf_X6_7 rfl (hμ.mem 0 (by decide)) hMo1 rfl dX6_beginsAnew_16 rfl ?_
        refine g_bipush X (z := 6) (by decide +kernel) dX6_beginsAnew_19 rfl ?_
        refine g_iload_n X 1 rfl dX6_beginsAnew_21 rfl ?_
        refine g_iadd X dX6_beginsAnew_22 rfl ?_
        refine g_iconst X (z := 0) dX6_beginsAnew_23 rfl ?_
        refine g_iast X (hμ.mem 1 (by decide)) hMs1 ⟨by omega, by omega⟩ (by decide) dX6_beginsAnew_24 rfl (fun M_7 hM_8 fr_9 => ?_)
        obtain ⟨g_10, hg_11⟩ : ∃ x : Int → Int, x = up f (6 + y) 0 := ⟨_, rfl⟩
        rw [← hg_11] at hM_8
        have hM_12 : M_7 (μ 0) = .inr (6, [.ref (μ 1), .ref (μ 2), .ref (μ 3), .ref (μ 4), .ref (μ 5), .ref (μ 6), .ref (μ 7), .ref (μ 8), .int (iI (q 0)), .int (iI (q 1)), .int (iI (q 2)), .int (iI (q 3))]) := (fr_9 (μ 0) (hμ.ne (i := 0) (j := 1) (by decide) (by decide) (by decide))).trans hMo1
        refine g_iinc X (lv' := [(1, .int (iI (y + 1))), (0, .ref (μ 0))]) 1 rfl (by decide) rfl dX6_beginsAnew_25 rfl ?_
        refine g_goto X (n := 9) dX6_beginsAnew_28 (by decide) ?_
        refine g_lv (lv' := [(0, .ref (μ 0)), (1, .int (iI (y + 1)))]) [1, 0] rfl ?_
        exact ih _ _ _ (by omega) (by omega) (by rw [hg_11, hf, clr_up _ hy0]) hM_12 hM_8 (fun b hb => ((fr_9 b hb).trans (hfr b hb))) (by omega)
  refine g_aload_n X 0 rfl dX6_beginsAnew_0 rfl ?_
  refine g_get X cl_X6 0 (by decide) wf_X6_7 rfl (hμ.mem 0 (by decide)) hMo rfl dX6_beginsAnew_1 rfl ?_
  refine g_iconst X (z := 4) dX6_beginsAnew_4 rfl ?_
  refine g_iconst X (z := 0) dX6_beginsAnew_5 rfl ?_
  refine g_iast X (hμ.mem 1 (by decide)) hMs ⟨by decide, by decide⟩ (by decide) dX6_beginsAnew_6 rfl (fun M_13 hM_14 fr_15 => ?_)
  obtain ⟨g_16, hg_17⟩ : ∃ x : Int → Int, x = up g 4 0 := ⟨_, rfl⟩
  rw [← hg_17] at hM_14
  have hM_18 : M_13 (μ 0) = .inr (6, [.ref (μ 1), .ref (μ 2), .ref (μ 3), .ref (μ 4), .ref (μ 5), .ref (μ 6), .ref (μ 7), .ref (μ 8), .int (iI (q 0)), .int (iI (q 1)), .int (iI (q 2)), .int (iI (q 3))]) := (fr_15 (μ 0) (hμ.ne (i := 0) (j := 1) (by decide) (by decide) (by decide))).trans hMo
  refine g_iconst X (z := 0) dX6_beginsAnew_7 rfl ?_
  refine g_istore_n X (lv' := [(1, .int (iI 0)), (0, .ref (μ 0))]) (by decide) rfl dX6_beginsAnew_8 rfl ?_
  refine g_lv (lv' := [(0, .ref (μ 0)), (1, .int (iI 0))]) [1, 0] rfl ?_
  exact lp1 70 _ _ _ (by decide) (by decide) (by rw [hg_17, clr_0]) hM_18 hM_14 (fun b hb => (fr_15 b hb)) (by decide)
set_option maxRecDepth 100000 in
set_option maxHeartbeats 4000000 in
theorem ct_X6_cycle (l : Launch) (μ : Nat → Nat) (q g : Int → Int) : Ct l yX6_cycle cX6_cycle 5 (some .int) 4 0 0 (fun ca av L M => av = [.ref (μ 0)] ∧ MuOk μ L ∧ M (μ 0) = oMd μ q ∧ M (μ 1) = cI ca 110 g ∧ Inv g ∧ g 4 < 1000000) (fun ca av L M r L1 M1 => r = some (.int (iI (cycR g))) ∧ L = L1 ∧ M1 (μ 1) = cI ca 110 (cycG g) ∧ ∀ b, b ≠ μ 1 → M1 b = M b) := by
  refine Ct_of (own := RX6) (by decide) rfl (by rintro _ _ _ _ ⟨rfl, _⟩; exact Nat.le_of_ble_eq_true rfl) ?_
  rintro p e s m args below meth c D ca A av L M ⟨rfl, hμ, hMo, hMs, hI, h4⟩ X hret hname
  refine g_lv (lv' := [(0, .ref (μ 0))]) [0] rfl ?_
  generalize hQ : MQ below _ args s _ _ A = Q
  obtain ⟨⟨i00, i01⟩, ⟨i10, i11⟩, ⟨i20, i21⟩, ⟨i30, i31⟩, ⟨i40, i41⟩, i50, i51⟩ := id hI.1
  have hF0 := fstG_rng hI.1
  have lp : ∀ (n : Nat) (k : Nat) (z F y : Int) (M1 : Mem) (f : Int → Int) (hF : F = fstG g) (hy : y = k) (hk : y ≤ g 5) (hf : f = (cycF g F (g 5) k).1) (hz : z = (cycF g F (g 5) k).2) (hMo1 : M1 (μ 0) = oMd μ q) (hMs1 : M1 (μ 1) = cI ca 110 f) (hfr : ∀ b, b ≠ μ 1 → M1 b = M b) (hm : g 5 - y < (n : Int)), G p l e (Rm 4 0 0) s m args below meth c D A 5 Q 0 0 L M1 41 [(0, .ref (μ 0)), (1, .int (iI z)), (2, .int (iI F)), (3, .int (iI y))] [] := by
    intro n
    induction n with
    | zero =>
      intro k z F y M1 f hF hy hk hf hz hMo1 hMs1 hfr hm
      exfalso; omega
    | succ n ih =>
      intro k z F y M1 f hF hy hk hf hz hMo1 hMs1 hfr hm
      obtain ⟨a1, a2, a3, a4, a5⟩ := cycF_ok hI (first := F) (by omega) k (by omega)
      have hfI : Inv f := by rw [hf]; exact a1
      have f5 : f 5 = g 5 := by rw [hf]; exact a2 5 (by decide)
      have f4 : f 4 = g 4 := by rw [hf]; exact a2 4 (by decide)
      refine g_iload_n X 3 rfl dX6_cycle_41 rfl ?_
      refine g_aload_n X 0 rfl dX6_cycle_42 rfl ?_
      refine g_get X cl_X6 0 (by decide) wf_X6_7 rfl (hμ.mem 0 (by decide)) hMo1 rfl dX6_cycle_43 rfl ?_
      refine g_iconst X (z := 5) dX6_cycle_46 rfl ?_
      refine g_iald X (hμ.mem 1 (by decide)) hMs1 ⟨by decide, by decide⟩ (by decide) dX6_cycle_47 rfl ?_
      refine g_icmp_ge X ⟨by omega, by omega⟩ ⟨by omega, by omega⟩ (tgt := 97) dX6_cycle_48 (by decide) rfl (fun h_1 => ?_) (fun h_1 => ?_)
      · refine g_aload_n X 0 rfl dX6_cycle_97 rfl ?_
        refine g_get X cl_X6 0 (by decide) wf_X6_7 rfl (hμ.mem 0 (by decide)) hMo1 rfl dX6_cycle_98 rfl ?_
        refine g_iconst X (z := 4) dX6_cycle_101 rfl ?_
        refine g_dup2 X rfl rfl dX6_cycle_102 rfl ?_
        refine g_iald X (hμ.mem 1 (by decide)) hMs1 ⟨by decide, by decide⟩ (by decide) dX6_cycle_103 rfl ?_
        refine g_iconst X (z := 1) dX6_cycle_104 rfl ?_
        refine g_iadd X dX6_cycle_105 rfl ?_
        refine g_iast X (hμ.mem 1 (by decide)) hMs1 ⟨by decide, by decide⟩ (by decide) dX6_cycle_106 rfl (fun M_2 hM_3 fr_4 => ?_)
        obtain ⟨g_5, hg_6⟩ : ∃ x : Int → Int, x = up f 4 (f 4 + 1) := ⟨_, rfl⟩
        rw [← hg_6] at hM_3
        have hM_7 : M_2 (μ 0) = .inr (6, [.ref (μ 1), .ref (μ 2), .ref (μ 3), .ref (μ 4), .ref (μ 5), .ref (μ 6), .ref (μ 7), .ref (μ 8), .int (iI (q 0)), .int (iI (q 1)), .int (iI (q 2)), .int (iI (q 3))]) := (fr_4 (μ 0) (hμ.ne (i := 0) (j := 1) (by decide) (by decide) (by decide))).trans hMo1
        refine g_iload_n X 1 rfl dX6_cycle_107 rfl ?_
        subst hQ
        exact g_iret X hret ⟨Nat.le_of_ble_eq_true rfl, Nat.le_of_ble_eq_true rfl⟩ dX6_cycle_108 ⟨by rw [hz, cycR, hF, show (g 5).toNat = k from by omega], rfl, by rw [hM_3, hg_6, f4, hf, hF, cycG, show (g 5).toNat = k from by omega], fun b hb => ((fr_4 b hb).trans (hfr b hb))⟩
      · refine g_iload_n X 2 rfl dX6_cycle_51 rfl ?_
        refine g_iload_n X 3 rfl dX6_cycle_52 rfl ?_
        refine g_iadd X dX6_cycle_53 rfl ?_
        refine g_aload_n X 0 rfl dX6_cycle_54 rfl ?_
        refine g_get X cl_X6 0 (by decide) wf_X6_7 rfl (hμ.mem 0 (by decide)) hMo1 rfl dX6_cycle_55 rfl ?_
        refine g_iconst X (z := 5) dX6_cycle_58 rfl ?_
        refine g_iald X (hμ.mem 1 (by decide)) hMs1 ⟨by decide, by decide⟩ (by decide) dX6_cycle_59 rfl ?_
        have m1 := Int.emod_nonneg (F + y) (by omega : f 5 ≠ 0)
        have m2 := Int.emod_lt_of_pos (F + y) (by omega : 0 < f 5)
        have m3 := (hfI.2.2 _ m1 m2).2.2.1
        have m4 := (hfI.2.2 _ m1 m2).2.2.2.1
        refine g_irem X ⟨⟨by omega, by omega⟩, by omega, by omega⟩ dX6_cycle_60 rfl ?_
        refine g_istore X (lv' := [(4, .int (iI ((F + y) % f 5))), (0, .ref (μ 0)), (1, .int (iI z)), (2, .int (iI F)), (3, .int (iI y))]) (by decide) rfl dX6_cycle_61 rfl ?_
        refine g_iload_n X 2 rfl dX6_cycle_63 rfl ?_
        refine g_aload_n X 1 rfl dX6_cycle_64 rfl ?_
        refine g_get X cl_X6 0 (by decide) wf_X6_7 rfl (hμ.mem 0 (by decide)) hMo1 rfl dX6_cycle_65 rfl ?_
        refine g_iload X 0 rfl dX6_cycle_68 rfl ?_
        refine g_callS X (ct_X6_m l ((F + y) % f 5)) (As := [.int (iI ((F + y) % f 5))]) (rest := [.ref (μ 1), .int (iI z)]) rfl ca_X6_m rfl wm_X6_52 wt_X6_m wc_X6_m w0_X6 ⟨by decide, by decide⟩ (Nat.le_of_ble_eq_true rfl) ⟨by decide, by decide⟩ rfl dX6_cycle_70 rfl ⟨rfl, trivial⟩ (fun r1 L1 M1 hq => ?_)
        obtain ⟨rfl, rfl, rfl⟩ := hq
        refine g_st (st' := [.int (iI (70 + 10 * ((F + y) % f 5))), .ref (μ 1), .int (iI z)]) rfl ?_
        refine g_iconst X (z := 3) dX6_cycle_73 rfl ?_
        refine g_iadd X dX6_cycle_74 rfl ?_
        refine g_iald X (hμ.mem 1 (by decide)) hMs1 ⟨by omega, by omega⟩ (by decide) dX6_cycle_75 rfl ?_
        refine g_if_le X ⟨by omega, by omega⟩ (tgt := 88) dX6_cycle_76 (by decide) rfl (fun h_8 => ?_) (fun h_8 => ?_)
        · refine g_iconst X (z := 0) dX6_cycle_88 rfl ?_
          refine g_iadd X dX6_cycle_89 rfl ?_
          refine g_st (st' := [.int (iI z)]) (by rw [Int.add_zero]) ?_
          refine g_istore_n X (lv' := [(1, .int (iI z)), (4, .int (iI ((F + y) % f 5))), (0, .ref (μ 0)), (2, .int (iI F)), (3, .int (iI y))]) (by decide) rfl dX6_cycle_90 rfl ?_
          refine g_iinc X (lv' := [(3, .int (iI (y + 1))), (1, .int (iI z)), (4, .int (iI ((F + y) % f 5))), (0, .ref (μ 0)), (2, .int (iI F))]) 4 rfl (by decide) rfl dX6_cycle_91 rfl ?_
          refine g_goto X (n := 41) dX6_cycle_94 (by decide) ?_
          refine g_lv (lv' := [(0, .ref (μ 0)), (1, .int (iI z)), (2, .int (iI F)), (3, .int (iI (y + 1)))]) [3, 1, 4, 0] rfl ?_
          exact ih (k + 1) _ _ _ _ _ hF (by omega) (by omega) ((cycF_next hf hz hy f5).2 (by omega)).1 ((cycF_next hf hz hy f5).2 (by omega)).2 hMo1 hMs1 (fun b hb => (hfr b hb)) (by omega)
        · refine g_aload_n X 1 rfl dX6_cycle_79 rfl ?_
          refine g_iload X 0 rfl dX6_cycle_80 rfl ?_
          refine g_callV X (ct_X6_asks l μ q f ((F + y) % f 5)) (As := [.int (iI ((F + y) % f 5))]) (rest := [.int (iI z)]) cl_X6 rfl ca_X6_asks rfl wm_X6_62 wi_X6_asks ws_X6_asks wc_X6_asks w0_X6 ⟨by decide, by decide⟩ (hμ.mem 0 (by decide)) hMo1 (Nat.le_of_ble_eq_true rfl) ⟨by decide, by decide⟩ rfl dX6_cycle_82 rfl ⟨rfl, hμ, hMo1, hMs1, hfI, m1, m2, by omega⟩ (fun r1 L1 M_9 hq => ?_)
          obtain ⟨rfl, rfl, hM_10, fr_11⟩ := hq
          have hM_12 : M_9 (μ 0) = .inr (6, [.ref (μ 1), .ref (μ 2), .ref (μ 3), .ref (μ 4), .ref (μ 5), .ref (μ 6), .ref (μ 7), .ref (μ 8), .int (iI (q 0)), .int (iI (q 1)), .int (iI (q 2)), .int (iI (q 3))]) := (fr_11 (μ 0) (hμ.ne (i := 0) (j := 1) (by decide) (by decide) (by decide))).trans hMo1
          refine g_st (st' := [.int (iI (asksR f ((F + y) % f 5))), .int (iI z)]) rfl ?_
          refine g_goto X (n := 89) dX6_cycle_85 (by decide) ?_
          refine g_iadd X dX6_cycle_89 rfl ?_
          refine g_istore_n X (lv' := [(1, .int (iI (z + asksR f ((F + y) % f 5)))), (4, .int (iI ((F + y) % f 5))), (0, .ref (μ 0)), (2, .int (iI F)), (3, .int (iI y))]) (by decide) rfl dX6_cycle_90 rfl ?_
          refine g_iinc X (lv' := [(3, .int (iI (y + 1))), (1, .int (iI (z + asksR f ((F + y) % f 5)))), (4, .int (iI ((F + y) % f 5))), (0, .ref (μ 0)), (2, .int (iI F))]) 4 rfl (by decide) rfl dX6_cycle_91 rfl ?_
          refine g_goto X (n := 41) dX6_cycle_94 (by decide) ?_
          refine g_lv (lv' := [(0, .ref (μ 0)), (1, .int (iI (z + asksR f ((F + y) % f 5)))), (2, .int (iI F)), (3, .int (iI (y + 1)))]) [3, 1, 4, 0] rfl ?_
          exact ih (k + 1) _ _ _ _ _ hF (by omega) (by omega) ((cycF_next hf hz hy f5).1 (by omega)).1 ((cycF_next hf hz hy f5).1 (by omega)).2 hM_12 hM_10 (fun b hb => ((fr_11 b hb).trans (hfr b hb))) (by omega)
  refine g_iconst X (z := 0) dX6_cycle_0 rfl ?_
  refine g_istore_n X (lv' := [(1, .int (iI 0)), (0, .ref (μ 0))]) (by decide) rfl dX6_cycle_1 rfl ?_
  refine g_aload_n X 1 rfl dX6_cycle_2 rfl ?_
  refine g_get X cl_X6 0 (by decide) wf_X6_7 rfl (hμ.mem 0 (by decide)) hMo rfl dX6_cycle_3 rfl ?_
  refine g_iconst X (z := 3) dX6_cycle_6 rfl ?_
  refine g_iald X (hμ.mem 1 (by decide)) hMs ⟨by decide, by decide⟩ (by decide) dX6_cycle_7 rfl ?_
  refine g_iconst X (z := 1) dX6_cycle_8 rfl ?_
  refine g_icmp_ne X ⟨by omega, by omega⟩ ⟨by decide, by decide⟩ (tgt := 37) dX6_cycle_9 (by decide) rfl (fun h_13 => ?_) (fun h_13 => ?_)
  · refine g_iconst X (z := 0) dX6_cycle_37 rfl ?_
    refine g_istore_n X (lv' := [(2, .int (iI 0)), (1, .int (iI 0)), (0, .ref (μ 0))]) (by decide) rfl dX6_cycle_38 rfl ?_
    refine g_iconst X (z := 0) dX6_cycle_39 rfl ?_
    refine g_istore_n X (lv' := [(3, .int (iI 0)), (2, .int (iI 0)), (1, .int (iI 0)), (0, .ref (μ 0))]) (by decide) rfl dX6_cycle_40 rfl ?_
    refine g_lv (lv' := [(0, .ref (μ 0)), (1, .int (iI 0)), (2, .int (iI 0)), (3, .int (iI 0))]) [3, 2, 1, 0] rfl ?_
    exact lp 9 0 _ _ _ _ _ (by rw [fstG, if_neg (by omega)]) rfl (by omega) rfl rfl hMo hMs (fun _ _ => rfl) (by omega)
  · refine g_aload_n X 1 rfl dX6_cycle_12 rfl ?_
    refine g_get X cl_X6 0 (by decide) wf_X6_7 rfl (hμ.mem 0 (by decide)) hMo rfl dX6_cycle_13 rfl ?_
    refine g_iconst X (z := 5) dX6_cycle_16 rfl ?_
    refine g_iald X (hμ.mem 1 (by decide)) hMs ⟨by decide, by decide⟩ (by decide) dX6_cycle_17 rfl ?_
    refine g_if_le X ⟨by omega, by omega⟩ (tgt := 37) dX6_cycle_18 (by decide) rfl (fun h_14 => ?_) (fun h_14 => ?_)
    · refine g_iconst X (z := 0) dX6_cycle_37 rfl ?_
      refine g_istore_n X (lv' := [(2, .int (iI 0)), (1, .int (iI 0)), (0, .ref (μ 0))]) (by decide) rfl dX6_cycle_38 rfl ?_
      refine g_iconst X (z := 0) dX6_cycle_39 rfl ?_
      refine g_istore_n X (lv' := [(3, .int (iI 0)), (2, .int (iI 0)), (1, .int (iI 0)), (0, .ref (μ 0))]) (by decide) rfl dX6_cycle_40 rfl ?_
      refine g_lv (lv' := [(0, .ref (μ 0)), (1, .int (iI 0)), (2, .int (iI 0)), (3, .int (iI 0))]) [3, 2, 1, 0] rfl ?_
      exact lp 9 0 _ _ _ _ _ (by rw [fstG, if_neg (by omega)]) rfl (by omega) rfl rfl hMo hMs (fun _ _ => rfl) (by omega)
    · refine g_aload_n X 1 rfl dX6_cycle_21 rfl ?_
      refine g_get X cl_X6 0 (by decide) wf_X6_7 rfl (hμ.mem 0 (by decide)) hMo rfl dX6_cycle_22 rfl ?_
      refine g_iconst X (z := 4) dX6_cycle_25 rfl ?_
      refine g_iald X (hμ.mem 1 (by decide)) hMs ⟨by decide, by decide⟩ (by decide) dX6_cycle_26 rfl ?_
      refine g_aload_n X 1 rfl dX6_cycle_27 rfl ?_
      refine g_get X cl_X6 0 (by decide) wf_X6_7 rfl (hμ.mem 0 (by decide)) hMo rfl dX6_cycle_28 rfl ?_
      refine g_iconst X (z := 5) dX6_cycle_31 rfl ?_
      refine g_iald X (hμ.mem 1 (by decide)) hMs ⟨by decide, by decide⟩ (by decide) dX6_cycle_32 rfl ?_
      refine g_irem X ⟨⟨by omega, by omega⟩, by omega, by omega⟩ dX6_cycle_33 rfl ?_
      refine g_goto X (n := 38) dX6_cycle_34 (by decide) ?_
      refine g_istore_n X (lv' := [(2, .int (iI (g 4 % g 5))), (1, .int (iI 0)), (0, .ref (μ 0))]) (by decide) rfl dX6_cycle_38 rfl ?_
      refine g_iconst X (z := 0) dX6_cycle_39 rfl ?_
      refine g_istore_n X (lv' := [(3, .int (iI 0)), (2, .int (iI (g 4 % g 5))), (1, .int (iI 0)), (0, .ref (μ 0))]) (by decide) rfl dX6_cycle_40 rfl ?_
      refine g_lv (lv' := [(0, .ref (μ 0)), (1, .int (iI 0)), (2, .int (iI (g 4 % g 5))), (3, .int (iI 0))]) [3, 2, 1, 0] rfl ?_
      exact lp 9 0 _ _ _ _ _ (by rw [fstG, if_pos ⟨by omega, by omega⟩]) rfl (by omega) rfl rfl hMo hMs (fun _ _ => rfl) (by omega)
set_option maxRecDepth 100000 in
set_option maxHeartbeats 4000000 in
theorem ct_X6_runsOut (l : Launch) (μ : Nat → Nat) (q g : Int → Int) : Ct l yX6_runsOut cX6_runsOut 3 (some .int) 5 0 0 (fun ca av L M => av = [.ref (μ 0)] ∧ MuOk μ L ∧ M (μ 0) = oMd μ q ∧ M (μ 1) = cI ca 110 g ∧ Inv g ∧ g 4 ≤ 900000) (fun ca av L M r L1 M1 => r = some (.int (iI (roC 20000 g))) ∧ L = L1 ∧ M1 (μ 1) = cI ca 110 (roS 20000 g) ∧ ∀ b, b ≠ μ 1 → M1 b = M b) := by
  refine Ct_of (own := RX6) (by decide) rfl (by rintro _ _ _ _ ⟨rfl, _⟩; exact Nat.le_of_ble_eq_true rfl) ?_
  rintro p e s m args below meth c D ca A av L M ⟨rfl, hμ, hMo, hMs, hI, h4⟩ X hret hname
  refine g_lv (lv' := [(0, .ref (μ 0))]) [0] rfl ?_
  generalize hQ : MQ below _ args s _ _ A = Q
  have lp : ∀ (n : Nat) (z w : Int) (M1 : Mem) (f : Int → Int) (hfI : Inv f) (hf4 : f 4 + n ≤ 1000000) (hw : 0 ≤ w) (hB : ∀ b, 0 ≤ b → b < 16 → f (6 + 4 * b) - f 4 ≤ w) (hC : z + roC n f = roC 20000 g) (hT : roS n f = roS 20000 g) (hMo1 : M1 (μ 0) = oMd μ q) (hMs1 : M1 (μ 1) = cI ca 110 f) (hfr : ∀ b, b ≠ μ 1 → M1 b = M b) (hm : 13 * wlG f + w < (n : Int)), G p l e (Rm 5 0 0) s m args below meth c D A 3 Q 0 0 L M1 2 [(0, .ref (μ 0)), (1, .int (iI z))] [] := by
    intro n
    induction n with
    | zero =>
      intro z w M1 f hfI hf4 hw hB hC hT hMo1 hMs1 hfr hm
      exfalso; have := wlG_nn hfI; omega
    | succ n ih =>
      intro z w M1 f hfI hf4 hw hB hC hT hMo1 hMs1 hfr hm
      have hwn := wlG_nn hfI
      obtain ⟨⟨i00, i01⟩, ⟨i10, i11⟩, ⟨i20, i21⟩, ⟨i30, i31⟩, ⟨i40, i41⟩, i50, i51⟩ := id hfI.1
      refine g_aload_n X 0 rfl dX6_runsOut_2 rfl ?_
      refine g_callV X (ct_X6_wordsLeft l μ q f) (As := []) (rest := []) cl_X6 rfl ca_X6_wordsLeft rfl wm_X6_69 wi_X6_wordsLeft ws_X6_wordsLeft wc_X6_wordsLeft w0_X6 ⟨by decide, by decide⟩ (hμ.mem 0 (by decide)) hMo1 (by decide) ⟨by decide, by decide⟩ rfl dX6_runsOut_3 rfl ⟨rfl, hμ, hMo1, hMs1, by omega, by omega⟩ (fun r1 L1 M1 hq => ?_)
      obtain ⟨rfl, rfl, rfl⟩ := hq
      refine g_st (st' := [.int (iI (wlG f))]) rfl ?_
      refine g_if_le X ⟨by omega, by omega⟩ (tgt := 20) dX6_runsOut_6 (by decide) rfl (fun h_1 => ?_) (fun h_1 => ?_)
      · refine g_iload_n X 1 rfl dX6_runsOut_20 rfl ?_
        subst hQ
        exact g_iret X hret ⟨Nat.le_of_ble_eq_true rfl, Nat.le_of_ble_eq_true rfl⟩ dX6_runsOut_21 ⟨by rw [← hC, roC, if_neg (by omega), Int.add_zero], rfl, by rw [hMs1, ← hT, roS, if_neg (by omega)], fun b hb => (hfr b hb)⟩
      · refine g_aload_n X 0 rfl dX6_runsOut_9 rfl ?_
        refine g_callV X (ct_X6_cycle l μ q f) (As := []) (rest := []) cl_X6 rfl ca_X6_cycle rfl wm_X6_72 wi_X6_cycle ws_X6_cycle wc_X6_cycle w0_X6 ⟨by decide, by decide⟩ (hμ.mem 0 (by decide)) hMo1 (by decide) ⟨by decide, by decide⟩ rfl dX6_runsOut_10 rfl ⟨rfl, hμ, hMo1, hMs1, hfI, by omega⟩ (fun r1 L1 M_2 hq => ?_)
        obtain ⟨rfl, rfl, hM_3, fr_4⟩ := hq
        have hM_5 : M_2 (μ 0) = .inr (6, [.ref (μ 1), .ref (μ 2), .ref (μ 3), .ref (μ 4), .ref (μ 5), .ref (μ 6), .ref (μ 7), .ref (μ 8), .int (iI (q 0)), .int (iI (q 1)), .int (iI (q 2)), .int (iI (q 3))]) := (fr_4 (μ 0) (hμ.ne (i := 0) (j := 1) (by decide) (by decide) (by decide))).trans hMo1
        refine g_st (st' := [.int (iI (cycR f))]) rfl ?_
        refine g_istore_n X (lv' := [(2, .int (iI (cycR f))), (0, .ref (μ 0)), (1, .int (iI z))]) (by decide) rfl dX6_runsOut_13 rfl ?_
        refine g_iinc X (lv' := [(1, .int (iI (z + 1))), (2, .int (iI (cycR f))), (0, .ref (μ 0))]) 2 rfl (by decide) rfl dX6_runsOut_14 rfl ?_
        refine g_goto X (n := 2) dX6_runsOut_17 (by decide) ?_
        have hwl : wlG f > 0 := by omega
        obtain ⟨w', p1, p2, p3⟩ := cyc_pot hfI (by omega) hw hB hwl
        have co := cyc_ok hfI (by omega)
        refine g_lv (lv' := [(0, .ref (μ 0)), (1, .int (iI (z + 1)))]) [2, 0] rfl ?_
        exact ih _ w' _ _ co.1 (by omega) p1 p2 (by rw [← hC, roC, if_pos hwl]; omega) (by rw [← hT, roS, if_pos hwl]) hM_5 hM_3 (fun b hb => ((fr_4 b hb).trans (hfr b hb))) (by omega)
  refine g_iconst X (z := 0) dX6_runsOut_0 rfl ?_
  refine g_istore_n X (lv' := [(1, .int (iI 0)), (0, .ref (μ 0))]) (by decide) rfl dX6_runsOut_1 rfl ?_
  have hwn := wlG_nn hI
  refine g_lv (lv' := [(0, .ref (μ 0)), (1, .int (iI 0))]) [1, 0] rfl ?_
  exact lp 20000 _ 12 _ _ hI (by omega) (by decide) (fun b h0 h1 => by have := hI.2.1 b h0 h1; omega) (by omega) rfl hMo hMs (fun _ _ => rfl) (by omega)
end
section
/-! ===== blocks of rows ===== -/
def shf (n : Int) (be : Int → Int) : Int → Int := fun k => if 0 ≤ k ∧ k < n then be (110 + k) else be k
theorem shf_0 (f : Int → Int) : shf 0 f = f := funext fun k => if_neg (by omega)
theorem shf_up (f : Int → Int) {n : Int} (hn : 0 ≤ n) : up (shf n f) n (f (110 + n)) = shf (n + 1) f := by
  funext j
  simp only [up, shf]
  by_cases h1 : j = n
  · subst h1; rw [if_pos rfl, if_pos (by omega)]
  · rw [if_neg h1]
    by_cases h2 : 0 ≤ j ∧ j < n
    · rw [if_pos h2, if_pos (by omega)]
    · rw [if_neg h2, if_neg (by omega)]
theorem shf_hi (f : Int → Int) {n k : Int} (h : n ≤ k) : shf n f k = f k := if_neg (by omega)
def pbl (n o : Int) (be sp : Int → Int) : Int → Int := fun k => if o ≤ k ∧ k < o + n then sp (k - o) else be k
theorem pbl_0 (o : Int) (f h : Int → Int) : pbl 0 o f h = f := funext fun k => if_neg (by omega)
theorem pbl_up (f h : Int → Int) {n o : Int} (hn : 0 ≤ n) : up (pbl n o f h) (o + n) (h n) = pbl (n + 1) o f h := by
  funext j
  simp only [up, pbl]
  by_cases h1 : j = o + n
  · subst h1; rw [if_pos rfl, if_pos (by omega), show o + n - o = n by omega]
  · rw [if_neg h1]
    by_cases h2 : o ≤ j ∧ j < o + n
    · rw [if_pos h2, if_pos (by omega)]
    · rw [if_neg h2, if_neg (by omega)]
def recT (st : Int) : Int := if st = 6 then st - 1 else st
def recE (st : Int) (be : Int → Int) : Int → Int := if st = 6 then shf 550 be else be
def recB (st : Int) (be sp : Int → Int) : Int → Int := pbl 110 (110 * recT st) (recE st be) sp
def recN (st : Int) : Int := recT st + 1
theorem oMd_up0 (μ : Nat → Nat) (q : Int → Int) (v : Int) : oMd μ (up q 0 v) = .inr (6, [.ref (μ 1), .ref (μ 2), .ref (μ 3), .ref (μ 4), .ref (μ 5), .ref (μ 6), .ref (μ 7), .ref (μ 8), .int (iI v), .int (iI (q 1)), .int (iI (q 2)), .int (iI (q 3))]) := rfl
theorem oMd_up1 (μ : Nat → Nat) (q : Int → Int) (v : Int) : oMd μ (up q 1 v) = .inr (6, [.ref (μ 1), .ref (μ 2), .ref (μ 3), .ref (μ 4), .ref (μ 5), .ref (μ 6), .ref (μ 7), .ref (μ 8), .int (iI (q 0)), .int (iI v), .int (iI (q 2)), .int (iI (q 3))]) := rfl
theorem oMd_up2 (μ : Nat → Nat) (q : Int → Int) (v : Int) : oMd μ (up q 2 v) = .inr (6, [.ref (μ 1), .ref (μ 2), .ref (μ 3), .ref (μ 4), .ref (μ 5), .ref (μ 6), .ref (μ 7), .ref (μ 8), .int (iI (q 0)), .int (iI (q 1)), .int (iI v), .int (iI (q 3))]) := rfl
theorem oMd_up3 (μ : Nat → Nat) (q : Int → Int) (v : Int) : oMd μ (up q 3 v) = .inr (6, [.ref (μ 1), .ref (μ 2), .ref (μ 3), .ref (μ 4), .ref (μ 5), .ref (μ 6), .ref (μ 7), .ref (μ 8), .int (iI (q 0)), .int (iI (q 1)), .int (iI (q 2)), .int (iI v)]) := rfl
abbrev isSet (k v : Int) : Prop := (k = 0 ∧ 2 ≤ v ∧ v ≤ 16) ∨ (k = 1 ∧ 1 ≤ v ∧ v ≤ 12) ∨ (k = 2 ∧ 0 ≤ v ∧ v ≤ 2) ∨ (k = 3 ∧ 0 ≤ v ∧ v ≤ 1)
/-! ===== the state that a run of calls sees: numbers, history, slots, whether they are used, the pad, its length, the history's length ===== -/
abbrev AS : Type := (Int → Int) × (Int → Int) × (Int → Int) × (Int → Int) × (Int → Int) × Int × Int
def Md (ca : Nat → ClassId) (M : Mem) (μ : Nat → Nat) (S : AS) : Prop := ∃ q sp tr rd : Int → Int, q 0 = S.2.2.2.2.2.1 ∧ q 1 = S.2.2.2.2.2.2 ∧ M (μ 0) = oMd μ q ∧ M (μ 1) = cI ca 110 S.1 ∧ M (μ 2) = cI ca 110 sp ∧ M (μ 3) = cI ca 110 tr ∧ M (μ 4) = cI ca 660 S.2.1 ∧ M (μ 5) = cI ca 220 S.2.2.1 ∧ M (μ 6) = cZ ca 2 S.2.2.2.1 ∧ M (μ 7) = cI ca 33 rd ∧ M (μ 8) = cC ca 60 S.2.2.2.2.1
def chg (S : AS) (g : Int → Int) : AS := (g, recB S.2.2.2.2.2.2 S.2.1 S.1, S.2.2.1, S.2.2.2.1, S.2.2.2.2.1, S.2.2.2.2.2.1, recN S.2.2.2.2.2.2)
def anSet (S : AS) (k v : Int) : Int := if isSet k v then S.1 k else -2
def opSet (S : AS) (k v : Int) : AS := if isSet k v then chg S (bgaG (up S.1 k v)) else S
abbrev okAdd (a b c : Int) : Prop := (0 ≤ a ∧ a ≤ 4095) ∧ (0 ≤ b ∧ b ≤ 1023) ∧ (1 ≤ c ∧ c ≤ 200)
def putsG (g : Int → Int) (a b c : Int) : Int → Int := up (bgnG (up (up (up g (70 + 10 * g 5) a) (70 + 10 * g 5 + 1) b) (70 + 10 * g 5 + 2) c) (g 5)) 5 (g 5 + 1)
def anAdd (S : AS) (a b c : Int) : Int := if okAdd a b c then (if S.1 5 = 4 then -4 else S.1 5) else -2
def opAdd (S : AS) (a b c : Int) : AS := if okAdd a b c ∧ S.1 5 ≠ 4 then chg S (putsG S.1 a b c) else S
def anReset (S : AS) : Int := wlG (bgaG S.1)
def opReset (S : AS) : AS := chg S (bgaG S.1)
abbrev isStr (g : Int → Int) (i : Int) : Prop := 0 ≤ i ∧ i ≤ g 5 - 1
def strG (g : Int → Int) (i v : Int) : Int → Int := up (up g (70 + 10 * i + 1) v) (70 + 10 * i + 4) (if g (70 + 10 * i + 5) < 0 then g (70 + 10 * i) else (g (70 + 10 * i + 5) + v) % 4096)
def anStride (S : AS) (i v : Int) : Int := if isStr S.1 i then (if 0 ≤ v ∧ v ≤ 1023 then S.1 (70 + 10 * i + 1) else -2) else -1
def opStride (S : AS) (i v : Int) : AS := if isStr S.1 i ∧ 0 ≤ v ∧ v ≤ 1023 then chg S (strG S.1 i v) else S
def anBankOf (S : AS) (a : Int) : Int := if 0 ≤ a ∧ a ≤ 4095 then bkG S.1 a else -2
theorem bga_low {g : Int → Int} {k : Int} (h : k < 6) (h4 : k ≠ 4) : bgaG g k = g k := by
  unfold bgaG
  rw [bgaS_low _ _ _ (by omega), clr, if_neg (by omega), up_ne _ _ h4]
end
section
/-! the reference: blocks are copied -/
set_option maxRecDepth 100000 in
set_option maxHeartbeats 4000000 in
theorem ct_X6_hold (l : Launch) (μ : Nat → Nat) (q g : Int → Int) (sp : Int → Int) : Ct l yX6_hold cX6_hold 2 none 0 0 0 (fun ca av L M => av = [.ref (μ 0)] ∧ MuOk μ L ∧ M (μ 0) = oMd μ q ∧ M (μ 1) = cI ca 110 g ∧ M (μ 2) = cI ca 110 sp) (fun ca av L M r L1 M1 => r = none ∧ L = L1 ∧ M1 (μ 2) = cI ca 110 g ∧ ∀ b, b ≠ μ 2 → M1 b = M b) := by
  refine Ct_of (own := RX6) (by decide) rfl (by rintro _ _ _ _ ⟨rfl, _⟩; exact Nat.le_of_ble_eq_true rfl) ?_
  rintro p e s m args below meth c D ca A av L M ⟨rfl, hμ, hMo, hMs, hM2⟩ X hret hname
  refine g_lv (lv' := [(0, .ref (μ 0))]) [0] rfl ?_
  generalize hQ : MQ below _ args s _ _ A = Q
  have lp : ∀ (n : Nat) (y : Int) (M1 : Mem) (f : Int → Int) (hy0 : 0 ≤ y) (hy1 : y ≤ 110) (hf : f = cpy y g sp) (hMo1 : M1 (μ 0) = oMd μ q) (hMr : M1 (μ 1) = cI ca 110 g) (hMd : M1 (μ 2) = cI ca 110 f) (hfr : ∀ b, b ≠ μ 2 → M1 b = M b) (hm : 110 - y < (n : Int)), G p l e (Rm 0 0 0) s m args below meth c D A 2 Q 0 0 L M1 2 [(0, .ref (μ 0)), (1, .int (iI y))] [] := by
    intro n
    induction n with
    | zero =>
      intro y M1 f hy0 hy1 hf hMo1 hMr hMd hfr hm
      exfalso; omega
    | succ n ih =>
      intro y M1 f hy0 hy1 hf hMo1 hMr hMd hfr hm
      refine g_iload_n X 1 rfl dX6_hold_2 rfl ?_
      refine g_bipush X (z := 110) (by decide +kernel) dX6_hold_3 rfl ?_
      refine g_icmp_ge X ⟨by omega, by omega⟩ ⟨by decide, by decide⟩ (tgt := 26) dX6_hold_5 (by decide) rfl (fun h_1 => ?_) (fun h_1 => ?_)
      · subst hQ
        exact g_vret X hret ⟨Nat.le_of_ble_eq_true rfl, Nat.le_of_ble_eq_true rfl⟩ dX6_hold_26 ⟨rfl, rfl, (hMd).trans (cI_ext (fun k h0 h1 => by rw [hf, cpy_in (by omega) (by omega)])), fun b hb => (hfr b hb)⟩
      · refine g_aload_n X 0 rfl dX6_hold_8 rfl ?_
        refine g_get X cl_X6 1 (by decide) wf_X6_13 rfl (hμ.mem 0 (by decide)) hMo1 rfl dX6_hold_9 rfl ?_
        refine g_iload_n X 1 rfl dX6_hold_12 rfl ?_
        refine g_aload_n X 0 rfl dX6_hold_13 rfl ?_
        refine g_get X cl_X6 0 (by decide) wf_X6_7 rfl (hμ.mem 0 (by decide)) hMo1 rfl dX6_hold_14 rfl ?_
        refine g_iload_n X 1 rfl dX6_hold_17 rfl ?_
        refine g_iald X (hμ.mem 1 (by decide)) hMr ⟨by omega, by omega⟩ (by decide) dX6_hold_18 rfl ?_
        refine g_iast X (hμ.mem 2 (by decide)) hMd ⟨by omega, by omega⟩ (by decide) dX6_hold_19 rfl (fun M_2 hM_3 fr_4 => ?_)
        obtain ⟨g_5, hg_6⟩ : ∃ x : Int → Int, x = up f y (g y) := ⟨_, rfl⟩
        rw [← hg_6] at hM_3
        have hM_7 : M_2 (μ 0) = .inr (6, [.ref (μ 1), .ref (μ 2), .ref (μ 3), .ref (μ 4), .ref (μ 5), .ref (μ 6), .ref (μ 7), .ref (μ 8), .int (iI (q 0)), .int (iI (q 1)), .int (iI (q 2)), .int (iI (q 3))]) := (fr_4 (μ 0) (hμ.ne (i := 0) (j := 2) (by decide) (by decide) (by decide))).trans hMo1
        have hM_8 : M_2 (μ 1) = cI ca 110 g := (fr_4 (μ 1) (hμ.ne (i := 1) (j := 2) (by decide) (by decide) (by decide))).trans hMr
        refine g_iinc X (lv' := [(1, .int (iI (y + 1))), (0, .ref (μ 0))]) 1 rfl (by decide) rfl dX6_hold_20 rfl ?_
        refine g_goto X (n := 2) dX6_hold_23 (by decide) ?_
        refine g_lv (lv' := [(0, .ref (μ 0)), (1, .int (iI (y + 1)))]) [1, 0] rfl ?_
        exact ih _ _ _ (by omega) (by omega) (by rw [hg_6, hf, cpy_up _ _ hy0]) hM_7 hM_8 hM_3 (fun b hb => ((fr_4 b hb).trans (hfr b hb))) (by omega)
  refine g_iconst X (z := 0) dX6_hold_0 rfl ?_
  refine g_istore_n X (lv' := [(1, .int (iI 0)), (0, .ref (μ 0))]) (by decide) rfl dX6_hold_1 rfl ?_
  refine g_lv (lv' := [(0, .ref (μ 0)), (1, .int (iI 0))]) [1, 0] rfl ?_
  exact lp 120 _ _ _ (by decide) (by decide) (by rw [cpy_0]) hMo hMs hM2 (fun _ _ => rfl) (by decide)
set_option maxRecDepth 100000 in
set_option maxHeartbeats 4000000 in
theorem ct_X6_keepTrial (l : Launch) (μ : Nat → Nat) (q g : Int → Int) (tr : Int → Int) : Ct l yX6_keepTrial cX6_keepTrial 2 none 0 0 0 (fun ca av L M => av = [.ref (μ 0)] ∧ MuOk μ L ∧ M (μ 0) = oMd μ q ∧ M (μ 1) = cI ca 110 g ∧ M (μ 3) = cI ca 110 tr) (fun ca av L M r L1 M1 => r = none ∧ L = L1 ∧ M1 (μ 3) = cI ca 110 g ∧ ∀ b, b ≠ μ 3 → M1 b = M b) := by
  refine Ct_of (own := RX6) (by decide) rfl (by rintro _ _ _ _ ⟨rfl, _⟩; exact Nat.le_of_ble_eq_true rfl) ?_
  rintro p e s m args below meth c D ca A av L M ⟨rfl, hμ, hMo, hMs, hM3⟩ X hret hname
  refine g_lv (lv' := [(0, .ref (μ 0))]) [0] rfl ?_
  generalize hQ : MQ below _ args s _ _ A = Q
  have lp : ∀ (n : Nat) (y : Int) (M1 : Mem) (f : Int → Int) (hy0 : 0 ≤ y) (hy1 : y ≤ 110) (hf : f = cpy y g tr) (hMo1 : M1 (μ 0) = oMd μ q) (hMr : M1 (μ 1) = cI ca 110 g) (hMd : M1 (μ 3) = cI ca 110 f) (hfr : ∀ b, b ≠ μ 3 → M1 b = M b) (hm : 110 - y < (n : Int)), G p l e (Rm 0 0 0) s m args below meth c D A 2 Q 0 0 L M1 2 [(0, .ref (μ 0)), (1, .int (iI y))] [] := by
    intro n
    induction n with
    | zero =>
      intro y M1 f hy0 hy1 hf hMo1 hMr hMd hfr hm
      exfalso; omega
    | succ n ih =>
      intro y M1 f hy0 hy1 hf hMo1 hMr hMd hfr hm
      refine g_iload_n X 1 rfl dX6_keepTrial_2 rfl ?_
      refine g_bipush X (z := 110) (by decide +kernel) dX6_keepTrial_3 rfl ?_
      refine g_icmp_ge X ⟨by omega, by omega⟩ ⟨by decide, by decide⟩ (tgt := 26) dX6_keepTrial_5 (by decide) rfl (fun h_1 => ?_) (fun h_1 => ?_)
      · subst hQ
        exact g_vret X hret ⟨Nat.le_of_ble_eq_true rfl, Nat.le_of_ble_eq_true rfl⟩ dX6_keepTrial_26 ⟨rfl, rfl, (hMd).trans (cI_ext (fun k h0 h1 => by rw [hf, cpy_in (by omega) (by omega)])), fun b hb => (hfr b hb)⟩
      · refine g_aload_n X 0 rfl dX6_keepTrial_8 rfl ?_
        refine g_get X cl_X6 2 (by decide) wf_X6_16 rfl (hμ.mem 0 (by decide)) hMo1 rfl dX6_keepTrial_9 rfl ?_
        refine g_iload_n X 1 rfl dX6_keepTrial_12 rfl ?_
        refine g_aload_n X 0 rfl dX6_keepTrial_13 rfl ?_
        refine g_get X cl_X6 0 (by decide) wf_X6_7 rfl (hμ.mem 0 (by decide)) hMo1 rfl dX6_keepTrial_14 rfl ?_
        refine g_iload_n X 1 rfl dX6_keepTrial_17 rfl ?_
        refine g_iald X (hμ.mem 1 (by decide)) hMr ⟨by omega, by omega⟩ (by decide) dX6_keepTrial_18 rfl ?_
        refine g_iast X (hμ.mem 3 (by decide)) hMd ⟨by omega, by omega⟩ (by decide) dX6_keepTrial_19 rfl (fun M_2 hM_3 fr_4 => ?_)
        obtain ⟨g_5, hg_6⟩ : ∃ x : Int → Int, x = up f y (g y) := ⟨_, rfl⟩
        rw [← hg_6] at hM_3
        have hM_7 : M_2 (μ 0) = .inr (6, [.ref (μ 1), .ref (μ 2), .ref (μ 3), .ref (μ 4), .ref (μ 5), .ref (μ 6), .ref (μ 7), .ref (μ 8), .int (iI (q 0)), .int (iI (q 1)), .int (iI (q 2)), .int (iI (q 3))]) := (fr_4 (μ 0) (hμ.ne (i := 0) (j := 3) (by decide) (by decide) (by decide))).trans hMo1
        have hM_8 : M_2 (μ 1) = cI ca 110 g := (fr_4 (μ 1) (hμ.ne (i := 1) (j := 3) (by decide) (by decide) (by decide))).trans hMr
        refine g_iinc X (lv' := [(1, .int (iI (y + 1))), (0, .ref (μ 0))]) 1 rfl (by decide) rfl dX6_keepTrial_20 rfl ?_
        refine g_goto X (n := 2) dX6_keepTrial_23 (by decide) ?_
        refine g_lv (lv' := [(0, .ref (μ 0)), (1, .int (iI (y + 1)))]) [1, 0] rfl ?_
        exact ih _ _ _ (by omega) (by omega) (by rw [hg_6, hf, cpy_up _ _ hy0]) hM_7 hM_8 hM_3 (fun b hb => ((fr_4 b hb).trans (hfr b hb))) (by omega)
  refine g_iconst X (z := 0) dX6_keepTrial_0 rfl ?_
  refine g_istore_n X (lv' := [(1, .int (iI 0)), (0, .ref (μ 0))]) (by decide) rfl dX6_keepTrial_1 rfl ?_
  refine g_lv (lv' := [(0, .ref (μ 0)), (1, .int (iI 0))]) [1, 0] rfl ?_
  exact lp 120 _ _ _ (by decide) (by decide) (by rw [cpy_0]) hMo hMs hM3 (fun _ _ => rfl) (by decide)
set_option maxRecDepth 100000 in
set_option maxHeartbeats 4000000 in
theorem ct_X6_putBack (l : Launch) (μ : Nat → Nat) (q g : Int → Int) (tr : Int → Int) : Ct l yX6_putBack cX6_putBack 2 none 0 0 0 (fun ca av L M => av = [.ref (μ 0)] ∧ MuOk μ L ∧ M (μ 0) = oMd μ q ∧ M (μ 1) = cI ca 110 g ∧ M (μ 3) = cI ca 110 tr) (fun ca av L M r L1 M1 => r = none ∧ L = L1 ∧ M1 (μ 1) = cI ca 110 tr ∧ ∀ b, b ≠ μ 1 → M1 b = M b) := by
  refine Ct_of (own := RX6) (by decide) rfl (by rintro _ _ _ _ ⟨rfl, _⟩; exact Nat.le_of_ble_eq_true rfl) ?_
  rintro p e s m args below meth c D ca A av L M ⟨rfl, hμ, hMo, hMs, hM3⟩ X hret hname
  refine g_lv (lv' := [(0, .ref (μ 0))]) [0] rfl ?_
  generalize hQ : MQ below _ args s _ _ A = Q
  have lp : ∀ (n : Nat) (y : Int) (M1 : Mem) (f : Int → Int) (hy0 : 0 ≤ y) (hy1 : y ≤ 110) (hf : f = cpy y tr g) (hMo1 : M1 (μ 0) = oMd μ q) (hMr : M1 (μ 3) = cI ca 110 tr) (hMd : M1 (μ 1) = cI ca 110 f) (hfr : ∀ b, b ≠ μ 1 → M1 b = M b) (hm : 110 - y < (n : Int)), G p l e (Rm 0 0 0) s m args below meth c D A 2 Q 0 0 L M1 2 [(0, .ref (μ 0)), (1, .int (iI y))] [] := by
    intro n
    induction n with
    | zero =>
      intro y M1 f hy0 hy1 hf hMo1 hMr hMd hfr hm
      exfalso; omega
    | succ n ih =>
      intro y M1 f hy0 hy1 hf hMo1 hMr hMd hfr hm
      refine g_iload_n X 1 rfl dX6_putBack_2 rfl ?_
      refine g_bipush X (z := 110) (by decide +kernel) dX6_putBack_3 rfl ?_
      refine g_icmp_ge X ⟨by omega, by omega⟩ ⟨by decide, by decide⟩ (tgt := 26) dX6_putBack_5 (by decide) rfl (fun h_1 => ?_) (fun h_1 => ?_)
      · subst hQ
        exact g_vret X hret ⟨Nat.le_of_ble_eq_true rfl, Nat.le_of_ble_eq_true rfl⟩ dX6_putBack_26 ⟨rfl, rfl, (hMd).trans (cI_ext (fun k h0 h1 => by rw [hf, cpy_in (by omega) (by omega)])), fun b hb => (hfr b hb)⟩
      · refine g_aload_n X 0 rfl dX6_putBack_8 rfl ?_
        refine g_get X cl_X6 0 (by decide) wf_X6_7 rfl (hμ.mem 0 (by decide)) hMo1 rfl dX6_putBack_9 rfl ?_
        refine g_iload_n X 1 rfl dX6_putBack_12 rfl ?_
        refine g_aload_n X 0 rfl dX6_putBack_13 rfl ?_
        refine g_get X cl_X6 2 (by decide) wf_X6_16 rfl (hμ.mem 0 (by decide)) hMo1 rfl dX6_putBack_14 rfl ?_
        refine g_iload_n X 1 rfl dX6_putBack_17 rfl ?_
        refine g_iald X (hμ.mem 3 (by decide)) hMr ⟨by omega, by omega⟩ (by decide) dX6_putBack_18 rfl ?_
        refine g_iast X (hμ.mem 1 (by decide)) hMd ⟨by omega, by omega⟩ (by decide) dX6_putBack_19 rfl (fun M_2 hM_3 fr_4 => ?_)
        obtain ⟨g_5, hg_6⟩ : ∃ x : Int → Int, x = up f y (tr y) := ⟨_, rfl⟩
        rw [← hg_6] at hM_3
        have hM_7 : M_2 (μ 0) = .inr (6, [.ref (μ 1), .ref (μ 2), .ref (μ 3), .ref (μ 4), .ref (μ 5), .ref (μ 6), .ref (μ 7), .ref (μ 8), .int (iI (q 0)), .int (iI (q 1)), .int (iI (q 2)), .int (iI (q 3))]) := (fr_4 (μ 0) (hμ.ne (i := 0) (j := 1) (by decide) (by decide) (by decide))).trans hMo1
        have hM_8 : M_2 (μ 3) = cI ca 110 tr := (fr_4 (μ 3) (hμ.ne (i := 3) (j := 1) (by decide) (by decide) (by decide))).trans hMr
        refine g_iinc X (lv' := [(1, .int (iI (y + 1))), (0, .ref (μ 0))]) 1 rfl (by decide) rfl dX6_putBack_20 rfl ?_
        refine g_goto X (n := 2) dX6_putBack_23 (by decide) ?_
        refine g_lv (lv' := [(0, .ref (μ 0)), (1, .int (iI (y + 1)))]) [1, 0] rfl ?_
        exact ih _ _ _ (by omega) (by omega) (by rw [hg_6, hf, cpy_up _ _ hy0]) hM_7 hM_8 hM_3 (fun b hb => ((fr_4 b hb).trans (hfr b hb))) (by omega)
  refine g_iconst X (z := 0) dX6_putBack_0 rfl ?_
  refine g_istore_n X (lv' := [(1, .int (iI 0)), (0, .ref (μ 0))]) (by decide) rfl dX6_putBack_1 rfl ?_
  refine g_lv (lv' := [(0, .ref (μ 0)), (1, .int (iI 0))]) [1, 0] rfl ?_
  exact lp 120 _ _ _ (by decide) (by decide) (by rw [cpy_0]) hMo hM3 hMs (fun _ _ => rfl) (by decide)
set_option maxRecDepth 100000 in
set_option maxHeartbeats 4000000 in
theorem ct_X6_recorded (l : Launch) (μ : Nat → Nat) (q g : Int → Int) (sp be : Int → Int) (v : Int) : Ct l yX6_recorded cX6_recorded 3 (some .int) 0 0 0 (fun ca av L M => av = [.ref (μ 0), .int (iI v)] ∧ MuOk μ L ∧ M (μ 0) = oMd μ q ∧ M (μ 1) = cI ca 110 g ∧ M (μ 2) = cI ca 110 sp ∧ M (μ 4) = cI ca 660 be ∧ 0 ≤ q 1 ∧ q 1 ≤ 6) (fun ca av L M r L1 M1 => r = some (.int (iI v)) ∧ L = L1 ∧ M1 (μ 0) = oMd μ (up q 1 (recN (q 1))) ∧ M1 (μ 4) = cI ca 660 (recB (q 1) be sp) ∧ ∀ b, b ≠ μ 0 → b ≠ μ 4 → M1 b = M b) := by
  refine Ct_of (own := RX6) (by decide) rfl (by rintro _ _ _ _ ⟨rfl, _⟩; exact Nat.le_of_ble_eq_true rfl) ?_
  rintro p e s m args below meth c D ca A av L M ⟨rfl, hμ, hMo, hMs, hM2, hM4, hs0, hs1⟩ X hret hname
  refine g_lv (lv' := [(0, .ref (μ 0)), (1, .int (iI v))]) [0, 1] rfl ?_
  generalize hQ : MQ below _ args s _ _ A = Q
  have lp2 : ∀ (n : Nat) (t y : Int) (M1 : Mem) (f : Int → Int) (ht : t = recT (q 1)) (hy0 : 0 ≤ y) (hy1 : y ≤ 110) (hf : f = pbl y (110 * t) (recE (q 1) be) sp) (hMo1 : M1 (μ 0) = .inr (6, [.ref (μ 1), .ref (μ 2), .ref (μ 3), .ref (μ 4), .ref (μ 5), .ref (μ 6), .ref (μ 7), .ref (μ 8), .int (iI (q 0)), .int (iI t), .int (iI (q 2)), .int (iI (q 3))])) (hMr : M1 (μ 2) = cI ca 110 sp) (hMd : M1 (μ 4) = cI ca 660 f) (hfr : ∀ b, b ≠ μ 0 → b ≠ μ 4 → M1 b = M b) (hm : 110 - y < (n : Int)), G p l e (Rm 0 0 0) s m args below meth c D A 3 Q 0 0 L M1 51 [(0, .ref (μ 0)), (1, .int (iI v)), (2, .int (iI y))] [] := by
    intro n
    induction n with
    | zero =>
      intro t y M1 f ht hy0 hy1 hf hMo1 hMr hMd hfr hm
      exfalso; omega
    | succ n ih =>
      intro t y M1 f ht hy0 hy1 hf hMo1 hMr hMd hfr hm
      have ht0 : 0 ≤ t ∧ t ≤ 5 := by rw [ht]; unfold recT; split <;> omega
      refine g_iload_n X 2 rfl dX6_recorded_51 rfl ?_
      refine g_bipush X (z := 110) (by decide +kernel) dX6_recorded_52 rfl ?_
      refine g_icmp_ge X ⟨by omega, by omega⟩ ⟨by decide, by decide⟩ (tgt := 83) dX6_recorded_54 (by decide) rfl (fun h_1 => ?_) (fun h_1 => ?_)
      · refine g_aload_n X 0 rfl dX6_recorded_83 rfl ?_
        refine g_dup X rfl dX6_recorded_84 rfl ?_
        refine g_get X cl_X6 9 (by decide) wf_X6_40 rfl (hμ.mem 0 (by decide)) hMo1 rfl dX6_recorded_85 rfl ?_
        refine g_iconst X (z := 1) dX6_recorded_88 rfl ?_
        refine g_iadd X dX6_recorded_89 rfl ?_
        refine g_put X cl_X6 9 (by decide) wf_X6_40 rfl (hμ.mem 0 (by decide)) hMo1 rfl rfl rfl (Nat.le_of_ble_eq_true rfl) (fs' := [.ref (μ 1), .ref (μ 2), .ref (μ 3), .ref (μ 4), .ref (μ 5), .ref (μ 6), .ref (μ 7), .ref (μ 8), .int (iI (q 0)), .int (iI (t + 1)), .int (iI (q 2)), .int (iI (q 3))]) rfl dX6_recorded_90 rfl (fun M_2 hM_3 fr_4 => ?_)
        have hM_5 : M_2 (μ 2) = cI ca 110 sp := (fr_4 (μ 2) (hμ.ne (i := 2) (j := 0) (by decide) (by decide) (by decide))).trans hMr
        have hM_6 : M_2 (μ 4) = cI ca 660 f := (fr_4 (μ 4) (hμ.ne (i := 4) (j := 0) (by decide) (by decide) (by decide))).trans hMd
        refine g_iload_n X 1 rfl dX6_recorded_93 rfl ?_
        subst hQ
        exact g_iret X hret ⟨Nat.le_of_ble_eq_true rfl, Nat.le_of_ble_eq_true rfl⟩ dX6_recorded_94 ⟨rfl, rfl, (hM_3).trans (by rw [oMd_up1, recN, ht]), (hM_6).trans (by rw [hf, show y = 110 from by omega, recB, ht]), fun b hb hb4 => ((fr_4 b hb).trans (hfr b hb hb4))⟩
      · refine g_aload_n X 0 rfl dX6_recorded_57 rfl ?_
        refine g_get X cl_X6 3 (by decide) wf_X6_19 rfl (hμ.mem 0 (by decide)) hMo1 rfl dX6_recorded_58 rfl ?_
        refine g_bipush X (z := 110) (by decide +kernel) dX6_recorded_61 rfl ?_
        refine g_aload_n X 0 rfl dX6_recorded_63 rfl ?_
        refine g_get X cl_X6 9 (by decide) wf_X6_40 rfl (hμ.mem 0 (by decide)) hMo1 rfl dX6_recorded_64 rfl ?_
        refine g_imul X dX6_recorded_67 rfl ?_
        refine g_iload_n X 2 rfl dX6_recorded_68 rfl ?_
        refine g_iadd X dX6_recorded_69 rfl ?_
        refine g_aload_n X 0 rfl dX6_recorded_70 rfl ?_
        refine g_get X cl_X6 1 (by decide) wf_X6_13 rfl (hμ.mem 0 (by decide)) hMo1 rfl dX6_recorded_71 rfl ?_
        refine g_iload_n X 2 rfl dX6_recorded_74 rfl ?_
        refine g_iald X (hμ.mem 2 (by decide)) hMr ⟨by omega, by omega⟩ (by decide) dX6_recorded_75 rfl ?_
        refine g_iast X (hμ.mem 4 (by decide)) hMd ⟨by omega, by omega⟩ (by decide) dX6_recorded_76 rfl (fun M_7 hM_8 fr_9 => ?_)
        obtain ⟨g_10, hg_11⟩ : ∃ x : Int → Int, x = up f ((110 * t) + y) (sp y) := ⟨_, rfl⟩
        rw [← hg_11] at hM_8
        have hM_12 : M_7 (μ 0) = .inr (6, [.ref (μ 1), .ref (μ 2), .ref (μ 3), .ref (μ 4), .ref (μ 5), .ref (μ 6), .ref (μ 7), .ref (μ 8), .int (iI (q 0)), .int (iI t), .int (iI (q 2)), .int (iI (q 3))]) := (fr_9 (μ 0) (hμ.ne (i := 0) (j := 4) (by decide) (by decide) (by decide))).trans hMo1
        have hM_13 : M_7 (μ 2) = cI ca 110 sp := (fr_9 (μ 2) (hμ.ne (i := 2) (j := 4) (by decide) (by decide) (by decide))).trans hMr
        refine g_iinc X (lv' := [(2, .int (iI (y + 1))), (0, .ref (μ 0)), (1, .int (iI v))]) 2 rfl (by decide) rfl dX6_recorded_77 rfl ?_
        refine g_goto X (n := 51) dX6_recorded_80 (by decide) ?_
        refine g_lv (lv' := [(0, .ref (μ 0)), (1, .int (iI v)), (2, .int (iI (y + 1)))]) [1, 2, 0] rfl ?_
        exact ih _ _ _ _ ht (by omega) (by omega) (by rw [hg_11, hf, pbl_up _ _ hy0]) hM_12 hM_13 hM_8 (fun b hb hb4 => ((fr_9 b hb4).trans (hfr b hb hb4))) (by omega)
  have lp1 : ∀ (n : Nat) (y : Int) (M1 : Mem) (f : Int → Int) (hy0 : 0 ≤ y) (hy1 : y ≤ 550) (hf : f = shf y be) (hMo1 : M1 (μ 0) = oMd μ q) (hMr : M1 (μ 2) = cI ca 110 sp) (hMd : M1 (μ 4) = cI ca 660 f) (hfr : ∀ b, b ≠ μ 4 → M1 b = M b) (hq6 : q 1 = 6) (hm : 550 - y < (n : Int)), G p l e (Rm 0 0 0) s m args below meth c D A 3 Q 0 0 L M1 11 [(0, .ref (μ 0)), (1, .int (iI v)), (2, .int (iI y))] [] := by
    intro n
    induction n with
    | zero =>
      intro y M1 f hy0 hy1 hf hMo1 hMr hMd hfr hq6 hm
      exfalso; omega
    | succ n ih =>
      intro y M1 f hy0 hy1 hf hMo1 hMr hMd hfr hq6 hm
      refine g_iload_n X 2 rfl dX6_recorded_11 rfl ?_
      refine g_sipush X (z := 550) (by decide +kernel) dX6_recorded_12 rfl ?_
      refine g_icmp_ge X ⟨by omega, by omega⟩ ⟨by decide, by decide⟩ (tgt := 39) dX6_recorded_15 (by decide) rfl (fun h_14 => ?_) (fun h_14 => ?_)
      · refine g_aload_n X 0 rfl dX6_recorded_39 rfl ?_
        refine g_dup X rfl dX6_recorded_40 rfl ?_
        refine g_get X cl_X6 9 (by decide) wf_X6_40 rfl (hμ.mem 0 (by decide)) hMo1 rfl dX6_recorded_41 rfl ?_
        refine g_iconst X (z := 1) dX6_recorded_44 rfl ?_
        refine g_isub X dX6_recorded_45 rfl ?_
        refine g_put X cl_X6 9 (by decide) wf_X6_40 rfl (hμ.mem 0 (by decide)) hMo1 rfl rfl rfl (Nat.le_of_ble_eq_true rfl) (fs' := [.ref (μ 1), .ref (μ 2), .ref (μ 3), .ref (μ 4), .ref (μ 5), .ref (μ 6), .ref (μ 7), .ref (μ 8), .int (iI (q 0)), .int (iI (q 1 - 1)), .int (iI (q 2)), .int (iI (q 3))]) rfl dX6_recorded_46 rfl (fun M_15 hM_16 fr_17 => ?_)
        have hM_18 : M_15 (μ 2) = cI ca 110 sp := (fr_17 (μ 2) (hμ.ne (i := 2) (j := 0) (by decide) (by decide) (by decide))).trans hMr
        have hM_19 : M_15 (μ 4) = cI ca 660 f := (fr_17 (μ 4) (hμ.ne (i := 4) (j := 0) (by decide) (by decide) (by decide))).trans hMd
        refine g_iconst X (z := 0) dX6_recorded_49 rfl ?_
        refine g_istore_n X (lv' := [(2, .int (iI 0)), (0, .ref (μ 0)), (1, .int (iI v))]) (by decide) rfl dX6_recorded_50 rfl ?_
        refine g_lv (lv' := [(0, .ref (μ 0)), (1, .int (iI v)), (2, .int (iI 0))]) [1, 2, 0] rfl ?_
        exact lp2 120 _ _ _ _ (by rw [recT, if_pos (by omega)]) (by decide) (by decide) (by rw [pbl_0, recE, if_pos (by omega), hf, show y = 550 from by omega]) hM_16 hM_18 hM_19 (fun b hb hb4 => ((fr_17 b hb).trans (hfr b hb4))) (by decide)
      · refine g_aload_n X 0 rfl dX6_recorded_18 rfl ?_
        refine g_get X cl_X6 3 (by decide) wf_X6_19 rfl (hμ.mem 0 (by decide)) hMo1 rfl dX6_recorded_19 rfl ?_
        refine g_iload_n X 2 rfl dX6_recorded_22 rfl ?_
        refine g_aload_n X 0 rfl dX6_recorded_23 rfl ?_
        refine g_get X cl_X6 3 (by decide) wf_X6_19 rfl (hμ.mem 0 (by decide)) hMo1 rfl dX6_recorded_24 rfl ?_
        refine g_bipush X (z := 110) (by decide +kernel) dX6_recorded_27 rfl ?_
        refine g_iload_n X 2 rfl dX6_recorded_29 rfl ?_
        refine g_iadd X dX6_recorded_30 rfl ?_
        refine g_iald X (hμ.mem 4 (by decide)) hMd ⟨by omega, by omega⟩ (by decide) dX6_recorded_31 rfl ?_
        refine g_iast X (hμ.mem 4 (by decide)) hMd ⟨by omega, by omega⟩ (by decide) dX6_recorded_32 rfl (fun M_20 hM_21 fr_22 => ?_)
        obtain ⟨g_23, hg_24⟩ : ∃ x : Int → Int, x = up f y (f (110 + y)) := ⟨_, rfl⟩
        rw [← hg_24] at hM_21
        have hM_25 : M_20 (μ 0) = .inr (6, [.ref (μ 1), .ref (μ 2), .ref (μ 3), .ref (μ 4), .ref (μ 5), .ref (μ 6), .ref (μ 7), .ref (μ 8), .int (iI (q 0)), .int (iI (q 1)), .int (iI (q 2)), .int (iI (q 3))]) := (fr_22 (μ 0) (hμ.ne (i := 0) (j := 4) (by decide) (by decide) (by decide))).trans hMo1
        have hM_26 : M_20 (μ 2) = cI ca 110 sp := (fr_22 (μ 2) (hμ.ne (i := 2) (j := 4) (by decide) (by decide) (by decide))).trans hMr
        refine g_iinc X (lv' := [(2, .int (iI (y + 1))), (0, .ref (μ 0)), (1, .int (iI v))]) 2 rfl (by decide) rfl dX6_recorded_33 rfl ?_
        refine g_goto X (n := 11) dX6_recorded_36 (by decide) ?_
        refine g_lv (lv' := [(0, .ref (μ 0)), (1, .int (iI v)), (2, .int (iI (y + 1)))]) [1, 2, 0] rfl ?_
        exact ih _ _ _ (by omega) (by omega) (by rw [hg_24, hf, shf_hi _ (by omega), shf_up _ hy0]) hM_25 hM_26 hM_21 (fun b hb4 => ((fr_22 b hb4).trans (hfr b hb4))) hq6 (by omega)
  refine g_aload_n X 0 rfl dX6_recorded_0 rfl ?_
  refine g_get X cl_X6 9 (by decide) wf_X6_40 rfl (hμ.mem 0 (by decide)) hMo rfl dX6_recorded_1 rfl ?_
  refine g_bipush X (z := 6) (by decide +kernel) dX6_recorded_4 rfl ?_
  refine g_icmp_ne X ⟨by omega, by omega⟩ ⟨by decide, by decide⟩ (tgt := 49) dX6_recorded_6 (by decide) rfl (fun h_27 => ?_) (fun h_27 => ?_)
  · refine g_iconst X (z := 0) dX6_recorded_49 rfl ?_
    refine g_istore_n X (lv' := [(2, .int (iI 0)), (0, .ref (μ 0)), (1, .int (iI v))]) (by decide) rfl dX6_recorded_50 rfl ?_
    refine g_lv (lv' := [(0, .ref (μ 0)), (1, .int (iI v)), (2, .int (iI 0))]) [1, 2, 0] rfl ?_
    exact lp2 120 _ _ _ _ (by rw [recT, if_neg (by omega)]) (by decide) (by decide) (by rw [pbl_0, recE, if_neg (by omega)]) hMo hM2 hM4 (fun _ _ _ => rfl) (by decide)
  · refine g_iconst X (z := 0) dX6_recorded_9 rfl ?_
    refine g_istore_n X (lv' := [(2, .int (iI 0)), (0, .ref (μ 0)), (1, .int (iI v))]) (by decide) rfl dX6_recorded_10 rfl ?_
    refine g_lv (lv' := [(0, .ref (μ 0)), (1, .int (iI v)), (2, .int (iI 0))]) [1, 2, 0] rfl ?_
    exact lp1 560 _ _ _ (by decide) (by decide) (by rw [shf_0]) hMo hM2 hM4 (fun _ _ => rfl) (by omega) (by decide)
theorem ite_iff {c d : Prop} [Decidable c] [Decidable d] (h : c ↔ d) : (if c then (1 : Int) else 0) = if d then 1 else 0 := by
  by_cases hc : c
  · rw [if_pos hc, if_pos (h.mp hc)]
  · rw [if_neg hc, if_neg (fun q => hc (h.mpr q))]
set_option maxRecDepth 100000 in
set_option maxHeartbeats 4000000 in
theorem ct_X6_isSetting (l : Launch) (k v : Int) : Ct l yX6_isSetting cX6_isSetting 2 (some .boolean) 1 0 0 (fun ca av L M => av = [.int (iI k), .int (iI v)] ∧ R32 k ∧ R32 v) (fun ca av L M r L1 M1 => r = some (.int (iI (if isSet k v then 1 else 0))) ∧ L = L1 ∧ M = M1) := by
  refine Ct_of (own := RX6) (by decide) rfl (by rintro _ _ _ _ ⟨rfl, _⟩; exact Nat.le_of_ble_eq_true rfl) ?_
  rintro p e s m args below meth c D ca A av L M ⟨rfl, hk, hv⟩ X hret hname
  refine g_lv (lv' := [(0, .int (iI k)), (1, .int (iI v))]) [0, 1] rfl ?_
  refine g_iload_n X 0 rfl dX6_isSetting_0 rfl ?_
  by_cases h_1 : 0 ≤ k ∧ k ≤ 3
  · have h_1a : k = 0 ∨ k = 1 ∨ k = 2 ∨ k = 3 := by omega
    rcases h_1a with h_1a | h_1a | h_1a | h_1a
    · refine g_tsIn X dX6_isSetting_1 hk 0 h_1a (by decide) (by decide) rfl (by decide : _ = ((32 : Nat) : Int)) ?_
      refine g_iload_n X 1 rfl dX6_isSetting_32 rfl ?_
      refine g_iconst X (z := 2) dX6_isSetting_33 rfl ?_
      refine g_bipush X (z := 16) (by decide +kernel) dX6_isSetting_34 rfl ?_
      refine g_callS X (ct_X6_in l v 2 16) (As := [.int (iI v), .int (iI 2), .int (iI 16)]) (rest := []) rfl ca_X6_in rfl wm_X6_36 wt_X6_in wc_X6_in w0_X6 ⟨by decide, by decide⟩ (by decide) ⟨by decide, by decide⟩ rfl dX6_isSetting_36 rfl ⟨rfl, hv, ⟨by decide, by decide⟩, ⟨by decide, by decide⟩⟩ (fun r1 L1 M1 hq => ?_)
      obtain ⟨rfl, rfl, rfl⟩ := hq
      refine g_st (st' := [.int (iI (if 2 ≤ v ∧ v ≤ 16 then 1 else 0))]) rfl ?_
      exact g_zret X hret nar_ite ⟨Nat.le_of_ble_eq_true rfl, Nat.le_of_ble_eq_true rfl⟩ dX6_isSetting_39 ⟨by rw [show (if 2 ≤ v ∧ v ≤ 16 then (1 : Int) else 0) = if isSet k v then 1 else 0 from ite_iff (by unfold isSet; omega)], rfl, rfl⟩
    · refine g_tsIn X dX6_isSetting_1 hk 1 h_1a (by decide) (by decide) rfl (by decide : _ = ((40 : Nat) : Int)) ?_
      refine g_iload_n X 1 rfl dX6_isSetting_40 rfl ?_
      refine g_iconst X (z := 1) dX6_isSetting_41 rfl ?_
      refine g_bipush X (z := 12) (by decide +kernel) dX6_isSetting_42 rfl ?_
      refine g_callS X (ct_X6_in l v 1 12) (As := [.int (iI v), .int (iI 1), .int (iI 12)]) (rest := []) rfl ca_X6_in rfl wm_X6_36 wt_X6_in wc_X6_in w0_X6 ⟨by decide, by decide⟩ (by decide) ⟨by decide, by decide⟩ rfl dX6_isSetting_44 rfl ⟨rfl, hv, ⟨by decide, by decide⟩, ⟨by decide, by decide⟩⟩ (fun r1 L1 M1 hq => ?_)
      obtain ⟨rfl, rfl, rfl⟩ := hq
      refine g_st (st' := [.int (iI (if 1 ≤ v ∧ v ≤ 12 then 1 else 0))]) rfl ?_
      exact g_zret X hret nar_ite ⟨Nat.le_of_ble_eq_true rfl, Nat.le_of_ble_eq_true rfl⟩ dX6_isSetting_47 ⟨by rw [show (if 1 ≤ v ∧ v ≤ 12 then (1 : Int) else 0) = if isSet k v then 1 else 0 from ite_iff (by unfold isSet; omega)], rfl, rfl⟩
    · refine g_tsIn X dX6_isSetting_1 hk 2 h_1a (by decide) (by decide) rfl (by decide : _ = ((48 : Nat) : Int)) ?_
      refine g_iload_n X 1 rfl dX6_isSetting_48 rfl ?_
      refine g_iconst X (z := 0) dX6_isSetting_49 rfl ?_
      refine g_iconst X (z := 2) dX6_isSetting_50 rfl ?_
      refine g_callS X (ct_X6_in l v 0 2) (As := [.int (iI v), .int (iI 0), .int (iI 2)]) (rest := []) rfl ca_X6_in rfl wm_X6_36 wt_X6_in wc_X6_in w0_X6 ⟨by decide, by decide⟩ (by decide) ⟨by decide, by decide⟩ rfl dX6_isSetting_51 rfl ⟨rfl, hv, ⟨by decide, by decide⟩, ⟨by decide, by decide⟩⟩ (fun r1 L1 M1 hq => ?_)
      obtain ⟨rfl, rfl, rfl⟩ := hq
      refine g_st (st' := [.int (iI (if 0 ≤ v ∧ v ≤ 2 then 1 else 0))]) rfl ?_
      exact g_zret X hret nar_ite ⟨Nat.le_of_ble_eq_true rfl, Nat.le_of_ble_eq_true rfl⟩ dX6_isSetting_54 ⟨by rw [show (if 0 ≤ v ∧ v ≤ 2 then (1 : Int) else 0) = if isSet k v then 1 else 0 from ite_iff (by unfold isSet; omega)], rfl, rfl⟩
    · refine g_tsIn X dX6_isSetting_1 hk 3 h_1a (by decide) (by decide) rfl (by decide : _ = ((55 : Nat) : Int)) ?_
      refine g_iload_n X 1 rfl dX6_isSetting_55 rfl ?_
      refine g_iconst X (z := 0) dX6_isSetting_56 rfl ?_
      refine g_iconst X (z := 1) dX6_isSetting_57 rfl ?_
      refine g_callS X (ct_X6_in l v 0 1) (As := [.int (iI v), .int (iI 0), .int (iI 1)]) (rest := []) rfl ca_X6_in rfl wm_X6_36 wt_X6_in wc_X6_in w0_X6 ⟨by decide, by decide⟩ (by decide) ⟨by decide, by decide⟩ rfl dX6_isSetting_58 rfl ⟨rfl, hv, ⟨by decide, by decide⟩, ⟨by decide, by decide⟩⟩ (fun r1 L1 M1 hq => ?_)
      obtain ⟨rfl, rfl, rfl⟩ := hq
      refine g_st (st' := [.int (iI (if 0 ≤ v ∧ v ≤ 1 then 1 else 0))]) rfl ?_
      exact g_zret X hret nar_ite ⟨Nat.le_of_ble_eq_true rfl, Nat.le_of_ble_eq_true rfl⟩ dX6_isSetting_61 ⟨by rw [show (if 0 ≤ v ∧ v ≤ 1 then (1 : Int) else 0) = if isSet k v then 1 else 0 from ite_iff (by unfold isSet; omega)], rfl, rfl⟩
  · refine g_tsOut X dX6_isSetting_1 hk (by omega) (by decide : _ = ((62 : Nat) : Int)) ?_
    refine g_iconst X (z := 0) dX6_isSetting_62 rfl ?_
    exact g_zret X hret (by rfl) ⟨Nat.le_of_ble_eq_true rfl, Nat.le_of_ble_eq_true rfl⟩ dX6_isSetting_63 ⟨by rw [if_neg (by unfold isSet; omega)], rfl, rfl⟩
end
section
/-! the reference: changes -/
set_option maxRecDepth 100000 in
set_option maxHeartbeats 4000000 in
theorem ct_X6_puts (l : Launch) (μ : Nat → Nat) (q g : Int → Int) (a b c0 : Int) : Ct l yX6_puts cX6_puts 5 (some .int) 2 0 0 (fun ca av L M => av = [.ref (μ 0), .int (iI a), .int (iI b), .int (iI c0)] ∧ MuOk μ L ∧ M (μ 0) = oMd μ q ∧ M (μ 1) = cI ca 110 g ∧ 0 ≤ g 5 ∧ g 5 < 4) (fun ca av L M r L1 M1 => r = some (.int (iI (g 5))) ∧ L = L1 ∧ M1 (μ 1) = cI ca 110 (putsG g a b c0) ∧ ∀ b, b ≠ μ 1 → M1 b = M b) := by
  refine Ct_of (own := RX6) (by decide) rfl (by rintro _ _ _ _ ⟨rfl, _⟩; exact Nat.le_of_ble_eq_true rfl) ?_
  rintro p e s m args below meth c D ca A av L M ⟨rfl, hμ, hMo, hMs, h50, h51⟩ X hret hname
  refine g_lv (lv' := [(0, .ref (μ 0)), (1, .int (iI a)), (2, .int (iI b)), (3, .int (iI c0))]) [0, 1, 2, 3] rfl ?_
  refine g_aload_n X 0 rfl dX6_puts_0 rfl ?_
  refine g_get X cl_X6 0 (by decide) wf_X6_7 rfl (hμ.mem 0 (by decide)) hMo rfl dX6_puts_1 rfl ?_
  refine g_iconst X (z := 5) dX6_puts_4 rfl ?_
  refine g_iald X (hμ.mem 1 (by decide)) hMs ⟨by decide, by decide⟩ (by decide) dX6_puts_5 rfl ?_
  refine g_istore X (lv' := [(4, .int (iI (g 5))), (0, .ref (μ 0)), (1, .int (iI a)), (2, .int (iI b)), (3, .int (iI c0))]) (by decide) rfl dX6_puts_6 rfl ?_
  refine g_aload_n X 1 rfl dX6_puts_8 rfl ?_
  refine g_get X cl_X6 0 (by decide) wf_X6_7 rfl (hμ.mem 0 (by decide)) hMo rfl dX6_puts_9 rfl ?_
  refine g_iload X 0 rfl dX6_puts_12 rfl ?_
  refine g_callS X (ct_X6_m l (g 5)) (As := [.int (iI (g 5))]) (rest := [.ref (μ 1)]) rfl ca_X6_m rfl wm_X6_52 wt_X6_m wc_X6_m w0_X6 ⟨by decide, by decide⟩ (Nat.le_of_ble_eq_true rfl) ⟨by decide, by decide⟩ rfl dX6_puts_14 rfl ⟨rfl, trivial⟩ (fun r1 L1 M1 hq => ?_)
  obtain ⟨rfl, rfl, rfl⟩ := hq
  refine g_st (st' := [.int (iI (70 + 10 * g 5)), .ref (μ 1)]) rfl ?_
  refine g_iconst X (z := 0) dX6_puts_17 rfl ?_
  refine g_iadd X dX6_puts_18 rfl ?_
  refine g_st (st' := [.int (iI (70 + 10 * g 5)), .ref (μ 1)]) (by rw [Int.add_zero]) ?_
  refine g_iload_n X 2 rfl dX6_puts_19 rfl ?_
  refine g_iast X (hμ.mem 1 (by decide)) hMs ⟨by omega, by omega⟩ (by decide) dX6_puts_20 rfl (fun M_1 hM_2 fr_3 => ?_)
  obtain ⟨g_4, hg_5⟩ : ∃ x : Int → Int, x = up g (70 + 10 * g 5) a := ⟨_, rfl⟩
  rw [← hg_5] at hM_2
  have hM_6 : M_1 (μ 0) = .inr (6, [.ref (μ 1), .ref (μ 2), .ref (μ 3), .ref (μ 4), .ref (μ 5), .ref (μ 6), .ref (μ 7), .ref (μ 8), .int (iI (q 0)), .int (iI (q 1)), .int (iI (q 2)), .int (iI (q 3))]) := (fr_3 (μ 0) (hμ.ne (i := 0) (j := 1) (by decide) (by decide) (by decide))).trans hMo
  refine g_aload_n X 1 rfl dX6_puts_21 rfl ?_
  refine g_get X cl_X6 0 (by decide) wf_X6_7 rfl (hμ.mem 0 (by decide)) hM_6 rfl dX6_puts_22 rfl ?_
  refine g_iload X 0 rfl dX6_puts_25 rfl ?_
  refine g_callS X (ct_X6_m l (g 5)) (As := [.int (iI (g 5))]) (rest := [.ref (μ 1)]) rfl ca_X6_m rfl wm_X6_52 wt_X6_m wc_X6_m w0_X6 ⟨by decide, by decide⟩ (Nat.le_of_ble_eq_true rfl) ⟨by decide, by decide⟩ rfl dX6_puts_27 rfl ⟨rfl, trivial⟩ (fun r1 L1 M1 hq => ?_)
  obtain ⟨rfl, rfl, rfl⟩ := hq
  refine g_st (st' := [.int (iI (70 + 10 * g 5)), .ref (μ 1)]) rfl ?_
  refine g_iconst X (z := 1) dX6_puts_30 rfl ?_
  refine g_iadd X dX6_puts_31 rfl ?_
  refine g_iload_n X 3 rfl dX6_puts_32 rfl ?_
  refine g_iast X (hμ.mem 1 (by decide)) hM_2 ⟨by omega, by omega⟩ (by decide) dX6_puts_33 rfl (fun M_7 hM_8 fr_9 => ?_)
  obtain ⟨g_10, hg_11⟩ : ∃ x : Int → Int, x = up g_4 ((70 + 10 * g 5) + 1) b := ⟨_, rfl⟩
  rw [← hg_11] at hM_8
  have hM_12 : M_7 (μ 0) = .inr (6, [.ref (μ 1), .ref (μ 2), .ref (μ 3), .ref (μ 4), .ref (μ 5), .ref (μ 6), .ref (μ 7), .ref (μ 8), .int (iI (q 0)), .int (iI (q 1)), .int (iI (q 2)), .int (iI (q 3))]) := (fr_9 (μ 0) (hμ.ne (i := 0) (j := 1) (by decide) (by decide) (by decide))).trans hM_6
  refine g_aload_n X 1 rfl dX6_puts_34 rfl ?_
  refine g_get X cl_X6 0 (by decide) wf_X6_7 rfl (hμ.mem 0 (by decide)) hM_12 rfl dX6_puts_35 rfl ?_
  refine g_iload X 0 rfl dX6_puts_38 rfl ?_
  refine g_callS X (ct_X6_m l (g 5)) (As := [.int (iI (g 5))]) (rest := [.ref (μ 1)]) rfl ca_X6_m rfl wm_X6_52 wt_X6_m wc_X6_m w0_X6 ⟨by decide, by decide⟩ (Nat.le_of_ble_eq_true rfl) ⟨by decide, by decide⟩ rfl dX6_puts_40 rfl ⟨rfl, trivial⟩ (fun r1 L1 M1 hq => ?_)
  obtain ⟨rfl, rfl, rfl⟩ := hq
  refine g_st (st' := [.int (iI (70 + 10 * g 5)), .ref (μ 1)]) rfl ?_
  refine g_iconst X (z := 2) dX6_puts_43 rfl ?_
  refine g_iadd X dX6_puts_44 rfl ?_
  refine g_iload_n X 4 rfl dX6_puts_45 rfl ?_
  refine g_iast X (hμ.mem 1 (by decide)) hM_8 ⟨by omega, by omega⟩ (by decide) dX6_puts_46 rfl (fun M_13 hM_14 fr_15 => ?_)
  obtain ⟨g_16, hg_17⟩ : ∃ x : Int → Int, x = up g_10 ((70 + 10 * g 5) + 2) c0 := ⟨_, rfl⟩
  rw [← hg_17] at hM_14
  have hM_18 : M_13 (μ 0) = .inr (6, [.ref (μ 1), .ref (μ 2), .ref (μ 3), .ref (μ 4), .ref (μ 5), .ref (μ 6), .ref (μ 7), .ref (μ 8), .int (iI (q 0)), .int (iI (q 1)), .int (iI (q 2)), .int (iI (q 3))]) := (fr_15 (μ 0) (hμ.ne (i := 0) (j := 1) (by decide) (by decide) (by decide))).trans hM_12
  refine g_aload_n X 1 rfl dX6_puts_47 rfl ?_
  refine g_iload X 0 rfl dX6_puts_48 rfl ?_
  refine g_callV X (ct_X6_begins l μ q g_16 (g 5)) (As := [.int (iI (g 5))]) (rest := []) cl_X6 rfl ca_X6_begins rfl wm_X6_65 wi_X6_begins ws_X6_begins wc_X6_begins w0_X6 ⟨by decide, by decide⟩ (hμ.mem 0 (by decide)) hM_18 (by decide) ⟨by decide, by decide⟩ rfl dX6_puts_50 rfl ⟨rfl, hμ, hM_18, hM_14, by omega, by omega⟩ (fun r1 L1 M_19 hq => ?_)
  obtain ⟨rfl, rfl, hM_20, fr_21⟩ := hq
  obtain ⟨g_22, hg_23⟩ : ∃ x : Int → Int, x = bgnG g_16 (g 5) := ⟨_, rfl⟩
  rw [← hg_23] at hM_20
  have hM_24 : M_19 (μ 0) = .inr (6, [.ref (μ 1), .ref (μ 2), .ref (μ 3), .ref (μ 4), .ref (μ 5), .ref (μ 6), .ref (μ 7), .ref (μ 8), .int (iI (q 0)), .int (iI (q 1)), .int (iI (q 2)), .int (iI (q 3))]) := (fr_21 (μ 0) (hμ.ne (i := 0) (j := 1) (by decide) (by decide) (by decide))).trans hM_18
  refine g_st (st' := []) rfl ?_
  refine g_aload_n X 1 rfl dX6_puts_53 rfl ?_
  refine g_get X cl_X6 0 (by decide) wf_X6_7 rfl (hμ.mem 0 (by decide)) hM_24 rfl dX6_puts_54 rfl ?_
  refine g_iconst X (z := 5) dX6_puts_57 rfl ?_
  refine g_dup2 X rfl rfl dX6_puts_58 rfl ?_
  refine g_iald X (hμ.mem 1 (by decide)) hM_20 ⟨by decide, by decide⟩ (by decide) dX6_puts_59 rfl ?_
  have hr_25 : g_22 5 = g 5 := by rw [hg_23, bgn_out _ (by omega), hg_17, up_ne _ _ (by omega), hg_11, up_ne _ _ (by omega), hg_5, up_ne _ _ (by omega)]
  refine g_st (st' := [.int (iI (g 5)), .int (iI 5), .ref (μ 1)]) (by rw [hr_25]) ?_
  refine g_iconst X (z := 1) dX6_puts_60 rfl ?_
  refine g_iadd X dX6_puts_61 rfl ?_
  refine g_iast X (hμ.mem 1 (by decide)) hM_20 ⟨by decide, by decide⟩ (by decide) dX6_puts_62 rfl (fun M_26 hM_27 fr_28 => ?_)
  obtain ⟨g_29, hg_30⟩ : ∃ x : Int → Int, x = up g_22 5 (g 5 + 1) := ⟨_, rfl⟩
  rw [← hg_30] at hM_27
  have hM_31 : M_26 (μ 0) = .inr (6, [.ref (μ 1), .ref (μ 2), .ref (μ 3), .ref (μ 4), .ref (μ 5), .ref (μ 6), .ref (μ 7), .ref (μ 8), .int (iI (q 0)), .int (iI (q 1)), .int (iI (q 2)), .int (iI (q 3))]) := (fr_28 (μ 0) (hμ.ne (i := 0) (j := 1) (by decide) (by decide) (by decide))).trans hM_24
  refine g_iload X 0 rfl dX6_puts_63 rfl ?_
  exact g_iret X hret ⟨Nat.le_of_ble_eq_true rfl, Nat.le_of_ble_eq_true rfl⟩ dX6_puts_65 ⟨rfl, rfl, (hM_27).trans (by rw [hg_30, hg_23, hg_17, hg_11, hg_5, putsG]), fun b hb => ((fr_28 b hb).trans ((fr_21 b hb).trans ((fr_15 b hb).trans ((fr_9 b hb).trans (fr_3 b hb)))))⟩
set_option maxRecDepth 100000 in
set_option maxHeartbeats 4000000 in
theorem ct_X6_set (l : Launch) (μ : Nat → Nat) (q g : Int → Int) (sp tr be sa iz rd pa : Int → Int) (k v : Int) : Ct l yX6_set cX6_set 4 (some .int) 3 0 0 (fun ca av L M => av = [.ref (μ 0), .int (iI k), .int (iI v)] ∧ MuOk μ L ∧ M (μ 0) = oMd μ q ∧ M (μ 1) = cI ca 110 g ∧ M (μ 2) = cI ca 110 sp ∧ M (μ 3) = cI ca 110 tr ∧ M (μ 4) = cI ca 660 be ∧ M (μ 5) = cI ca 220 sa ∧ M (μ 6) = cZ ca 2 iz ∧ M (μ 7) = cI ca 33 rd ∧ M (μ 8) = cC ca 60 pa ∧ Inv g ∧ (0 ≤ q 0 ∧ q 0 ≤ 60) ∧ (0 ≤ q 1 ∧ q 1 ≤ 6) ∧ R32 k ∧ R32 v) (fun ca av L M r L1 M1 => r = some (.int (iI (anSet (g, be, sa, iz, pa, q 0, q 1) k v))) ∧ L = L1 ∧ Md ca M1 μ (opSet (g, be, sa, iz, pa, q 0, q 1) k v) ∧ ∀ b, (∀ i, i < 9 → b ≠ μ i) → M1 b = M b) := by
  refine Ct_of (own := RX6) (by decide) rfl (by rintro _ _ _ _ ⟨rfl, _⟩; exact Nat.le_of_ble_eq_true rfl) ?_
  rintro p e s m args below meth c D ca A av L M ⟨rfl, hμ, hMo, hMs, hM2, hM3, hM4, hM5, hM6, hM7, hM8, hI, hq0, hq1, hk, hv⟩ X hret hname
  refine g_lv (lv' := [(0, .ref (μ 0)), (1, .int (iI k)), (2, .int (iI v))]) [0, 1, 2] rfl ?_
  obtain ⟨⟨i00, i01⟩, ⟨i10, i11⟩, ⟨i20, i21⟩, ⟨i30, i31⟩, ⟨i40, i41⟩, i50, i51⟩ := id hI.1
  refine g_iload_n X 1 rfl dX6_set_0 rfl ?_
  refine g_iload_n X 2 rfl dX6_set_1 rfl ?_
  refine g_callS X (ct_X6_isSetting l k v) (As := [.int (iI k), .int (iI v)]) (rest := []) rfl ca_X6_isSetting rfl wm_X6_75 wt_X6_isSetting wc_X6_isSetting w0_X6 ⟨by decide, by decide⟩ (by decide) ⟨by decide, by decide⟩ rfl dX6_set_2 rfl ⟨rfl, hk, hv⟩ (fun r1 L1 M1 hq => ?_)
  obtain ⟨rfl, rfl, rfl⟩ := hq
  refine g_st (st' := [.int (iI (if isSet k v then 1 else 0))]) rfl ?_
  refine g_if_neb X (tgt := 11) dX6_set_5 (by decide) rfl (fun h_1 => ?_) (fun h_1 => ?_)
  · refine g_aload_n X 0 rfl dX6_set_11 rfl ?_
    refine g_callV X (ct_X6_hold l μ q g sp) (As := []) (rest := []) cl_X6 rfl ca_X6_hold rfl wm_X6_79 wi_X6_hold ws_X6_hold wc_X6_hold w0_X6 ⟨by decide, by decide⟩ (hμ.mem 0 (by decide)) hMo (by decide) ⟨by decide, by decide⟩ rfl dX6_set_12 rfl ⟨rfl, hμ, hMo, hMs, hM2⟩ (fun r1 L1 M_2 hq => ?_)
    obtain ⟨rfl, rfl, hM_3, fr_4⟩ := hq
    have hM_5 : M_2 (μ 0) = .inr (6, [.ref (μ 1), .ref (μ 2), .ref (μ 3), .ref (μ 4), .ref (μ 5), .ref (μ 6), .ref (μ 7), .ref (μ 8), .int (iI (q 0)), .int (iI (q 1)), .int (iI (q 2)), .int (iI (q 3))]) := (fr_4 (μ 0) (hμ.ne (i := 0) (j := 2) (by decide) (by decide) (by decide))).trans hMo
    have hM_6 : M_2 (μ 1) = cI ca 110 g := (fr_4 (μ 1) (hμ.ne (i := 1) (j := 2) (by decide) (by decide) (by decide))).trans hMs
    have hM_7 : M_2 (μ 3) = cI ca 110 tr := (fr_4 (μ 3) (hμ.ne (i := 3) (j := 2) (by decide) (by decide) (by decide))).trans hM3
    have hM_8 : M_2 (μ 4) = cI ca 660 be := (fr_4 (μ 4) (hμ.ne (i := 4) (j := 2) (by decide) (by decide) (by decide))).trans hM4
    have hM_9 : M_2 (μ 5) = cI ca 220 sa := (fr_4 (μ 5) (hμ.ne (i := 5) (j := 2) (by decide) (by decide) (by decide))).trans hM5
    have hM_10 : M_2 (μ 6) = cZ ca 2 iz := (fr_4 (μ 6) (hμ.ne (i := 6) (j := 2) (by decide) (by decide) (by decide))).trans hM6
    have hM_11 : M_2 (μ 7) = cI ca 33 rd := (fr_4 (μ 7) (hμ.ne (i := 7) (j := 2) (by decide) (by decide) (by decide))).trans hM7
    have hM_12 : M_2 (μ 8) = cC ca 60 pa := (fr_4 (μ 8) (hμ.ne (i := 8) (j := 2) (by decide) (by decide) (by decide))).trans hM8
    refine g_st (st' := []) rfl ?_
    refine g_aload_n X 0 rfl dX6_set_15 rfl ?_
    refine g_get X cl_X6 0 (by decide) wf_X6_7 rfl (hμ.mem 0 (by decide)) hM_5 rfl dX6_set_16 rfl ?_
    refine g_iload_n X 1 rfl dX6_set_19 rfl ?_
    refine g_iald X (hμ.mem 1 (by decide)) hM_6 ⟨by omega, by omega⟩ (by decide) dX6_set_20 rfl ?_
    refine g_istore_n X (lv' := [(3, .int (iI (g k))), (0, .ref (μ 0)), (1, .int (iI k)), (2, .int (iI v))]) (by decide) rfl dX6_set_21 rfl ?_
    refine g_aload_n X 1 rfl dX6_set_22 rfl ?_
    refine g_get X cl_X6 0 (by decide) wf_X6_7 rfl (hμ.mem 0 (by decide)) hM_5 rfl dX6_set_23 rfl ?_
    refine g_iload_n X 2 rfl dX6_set_26 rfl ?_
    refine g_iload_n X 3 rfl dX6_set_27 rfl ?_
    refine g_iast X (hμ.mem 1 (by decide)) hM_6 ⟨by omega, by omega⟩ (by decide) dX6_set_28 rfl (fun M_13 hM_14 fr_15 => ?_)
    obtain ⟨g_16, hg_17⟩ : ∃ x : Int → Int, x = up g k v := ⟨_, rfl⟩
    rw [← hg_17] at hM_14
    have hM_18 : M_13 (μ 0) = .inr (6, [.ref (μ 1), .ref (μ 2), .ref (μ 3), .ref (μ 4), .ref (μ 5), .ref (μ 6), .ref (μ 7), .ref (μ 8), .int (iI (q 0)), .int (iI (q 1)), .int (iI (q 2)), .int (iI (q 3))]) := (fr_15 (μ 0) (hμ.ne (i := 0) (j := 1) (by decide) (by decide) (by decide))).trans hM_5
    have hM_19 : M_13 (μ 3) = cI ca 110 tr := (fr_15 (μ 3) (hμ.ne (i := 3) (j := 1) (by decide) (by decide) (by decide))).trans hM_7
    have hM_20 : M_13 (μ 4) = cI ca 660 be := (fr_15 (μ 4) (hμ.ne (i := 4) (j := 1) (by decide) (by decide) (by decide))).trans hM_8
    have hM_21 : M_13 (μ 5) = cI ca 220 sa := (fr_15 (μ 5) (hμ.ne (i := 5) (j := 1) (by decide) (by decide) (by decide))).trans hM_9
    have hM_22 : M_13 (μ 6) = cZ ca 2 iz := (fr_15 (μ 6) (hμ.ne (i := 6) (j := 1) (by decide) (by decide) (by decide))).trans hM_10
    have hM_23 : M_13 (μ 7) = cI ca 33 rd := (fr_15 (μ 7) (hμ.ne (i := 7) (j := 1) (by decide) (by decide) (by decide))).trans hM_11
    have hM_24 : M_13 (μ 8) = cC ca 60 pa := (fr_15 (μ 8) (hμ.ne (i := 8) (j := 1) (by decide) (by decide) (by decide))).trans hM_12
    have hM_25 : M_13 (μ 2) = cI ca 110 g := (fr_15 (μ 2) (hμ.ne (i := 2) (j := 1) (by decide) (by decide) (by decide))).trans hM_3
    refine g_aload_n X 1 rfl dX6_set_29 rfl ?_
    refine g_callV X (ct_X6_beginsAnew l μ q g_16) (As := []) (rest := []) cl_X6 rfl ca_X6_beginsAnew rfl wm_X6_82 wi_X6_beginsAnew ws_X6_beginsAnew wc_X6_beginsAnew w0_X6 ⟨by decide, by decide⟩ (hμ.mem 0 (by decide)) hM_18 (by decide) ⟨by decide, by decide⟩ rfl dX6_set_30 rfl ⟨rfl, hμ, hM_18, hM_14, by rw [hg_17, up_ne _ _ (by omega)]; omega, by rw [hg_17, up_ne _ _ (by omega)]; omega⟩ (fun r1 L1 M_26 hq => ?_)
    obtain ⟨rfl, rfl, hM_27, fr_28⟩ := hq
    have hM_29 : M_26 (μ 0) = .inr (6, [.ref (μ 1), .ref (μ 2), .ref (μ 3), .ref (μ 4), .ref (μ 5), .ref (μ 6), .ref (μ 7), .ref (μ 8), .int (iI (q 0)), .int (iI (q 1)), .int (iI (q 2)), .int (iI (q 3))]) := (fr_28 (μ 0) (hμ.ne (i := 0) (j := 1) (by decide) (by decide) (by decide))).trans hM_18
    have hM_30 : M_26 (μ 3) = cI ca 110 tr := (fr_28 (μ 3) (hμ.ne (i := 3) (j := 1) (by decide) (by decide) (by decide))).trans hM_19
    have hM_31 : M_26 (μ 4) = cI ca 660 be := (fr_28 (μ 4) (hμ.ne (i := 4) (j := 1) (by decide) (by decide) (by decide))).trans hM_20
    have hM_32 : M_26 (μ 5) = cI ca 220 sa := (fr_28 (μ 5) (hμ.ne (i := 5) (j := 1) (by decide) (by decide) (by decide))).trans hM_21
    have hM_33 : M_26 (μ 6) = cZ ca 2 iz := (fr_28 (μ 6) (hμ.ne (i := 6) (j := 1) (by decide) (by decide) (by decide))).trans hM_22
    have hM_34 : M_26 (μ 7) = cI ca 33 rd := (fr_28 (μ 7) (hμ.ne (i := 7) (j := 1) (by decide) (by decide) (by decide))).trans hM_23
    have hM_35 : M_26 (μ 8) = cC ca 60 pa := (fr_28 (μ 8) (hμ.ne (i := 8) (j := 1) (by decide) (by decide) (by decide))).trans hM_24
    have hM_36 : M_26 (μ 2) = cI ca 110 g := (fr_28 (μ 2) (hμ.ne (i := 2) (j := 1) (by decide) (by decide) (by decide))).trans hM_25
    refine g_st (st' := []) rfl ?_
    refine g_aload_n X 1 rfl dX6_set_33 rfl ?_
    refine g_iload_n X 0 rfl dX6_set_34 rfl ?_
    refine g_callV X (ct_X6_recorded l μ q (bgaG g_16) g be (g k)) (As := [.int (iI (g k))]) (rest := []) cl_X6 rfl ca_X6_recorded rfl wm_X6_85 wi_X6_recorded ws_X6_recorded wc_X6_recorded w0_X6 ⟨by decide, by decide⟩ (hμ.mem 0 (by decide)) hM_29 (by decide) ⟨by decide, by decide⟩ rfl dX6_set_35 rfl ⟨rfl, hμ, hM_29, hM_27, hM_36, hM_31, hq1.1, hq1.2⟩ (fun r1 L1 M_37 hq => ?_)
    obtain ⟨rfl, rfl, hM_38, hM_39, fr_40⟩ := hq
    have hM_41 : M_37 (μ 3) = cI ca 110 tr := (fr_40 _ (hμ.ne (i := 3) (j := 0) (by decide) (by decide) (by decide)) (hμ.ne (i := 3) (j := 4) (by decide) (by decide) (by decide))).trans hM_30
    have hM_42 : M_37 (μ 5) = cI ca 220 sa := (fr_40 _ (hμ.ne (i := 5) (j := 0) (by decide) (by decide) (by decide)) (hμ.ne (i := 5) (j := 4) (by decide) (by decide) (by decide))).trans hM_32
    have hM_43 : M_37 (μ 6) = cZ ca 2 iz := (fr_40 _ (hμ.ne (i := 6) (j := 0) (by decide) (by decide) (by decide)) (hμ.ne (i := 6) (j := 4) (by decide) (by decide) (by decide))).trans hM_33
    have hM_44 : M_37 (μ 7) = cI ca 33 rd := (fr_40 _ (hμ.ne (i := 7) (j := 0) (by decide) (by decide) (by decide)) (hμ.ne (i := 7) (j := 4) (by decide) (by decide) (by decide))).trans hM_34
    have hM_45 : M_37 (μ 8) = cC ca 60 pa := (fr_40 _ (hμ.ne (i := 8) (j := 0) (by decide) (by decide) (by decide)) (hμ.ne (i := 8) (j := 4) (by decide) (by decide) (by decide))).trans hM_35
    have hM_46 : M_37 (μ 2) = cI ca 110 g := (fr_40 _ (hμ.ne (i := 2) (j := 0) (by decide) (by decide) (by decide)) (hμ.ne (i := 2) (j := 4) (by decide) (by decide) (by decide))).trans hM_36
    have hM_47 : M_37 (μ 1) = cI ca 110 (bgaG g_16) := (fr_40 _ (hμ.ne (i := 1) (j := 0) (by decide) (by decide) (by decide)) (hμ.ne (i := 1) (j := 4) (by decide) (by decide) (by decide))).trans hM_27
    refine g_st (st' := [.int (iI (g k))]) rfl ?_
    subst hg_17
    exact g_iret X hret ⟨Nat.le_of_ble_eq_true rfl, Nat.le_of_ble_eq_true rfl⟩ dX6_set_38 ⟨by rw [anSet, if_pos h_1], rfl, by rw [opSet, if_pos h_1]; exact ⟨(up q 1 (recN (q 1))), _, _, _, rfl, rfl, hM_38, hM_47, hM_46, hM_41, hM_39, hM_42, hM_43, hM_44, hM_45⟩, (fun b hb => ((fr_40 b (hb 0 (by decide)) (hb 4 (by decide))).trans ((fr_28 b (hb 1 (by decide))).trans ((fr_15 b (hb 1 (by decide))).trans (fr_4 b (hb 2 (by decide)))))))⟩
  · refine g_bipush X (z := -2) (by decide +kernel) dX6_set_8 rfl ?_
    exact g_iret X hret ⟨Nat.le_of_ble_eq_true rfl, Nat.le_of_ble_eq_true rfl⟩ dX6_set_10 ⟨by rw [anSet, if_neg h_1], rfl, by rw [opSet, if_neg h_1]; exact ⟨q, _, _, _, rfl, rfl, hMo, hMs, hM2, hM3, hM4, hM5, hM6, hM7, hM8⟩, (fun b hb => rfl)⟩
set_option maxRecDepth 100000 in
set_option maxHeartbeats 4000000 in
theorem ct_X6_add (l : Launch) (μ : Nat → Nat) (q g : Int → Int) (sp tr be sa iz rd pa : Int → Int) (a b c0 : Int) : Ct l yX6_add cX6_add 4 (some .int) 3 0 0 (fun ca av L M => av = [.ref (μ 0), .int (iI a), .int (iI b), .int (iI c0)] ∧ MuOk μ L ∧ M (μ 0) = oMd μ q ∧ M (μ 1) = cI ca 110 g ∧ M (μ 2) = cI ca 110 sp ∧ M (μ 3) = cI ca 110 tr ∧ M (μ 4) = cI ca 660 be ∧ M (μ 5) = cI ca 220 sa ∧ M (μ 6) = cZ ca 2 iz ∧ M (μ 7) = cI ca 33 rd ∧ M (μ 8) = cC ca 60 pa ∧ Inv g ∧ (0 ≤ q 0 ∧ q 0 ≤ 60) ∧ (0 ≤ q 1 ∧ q 1 ≤ 6) ∧ R32 a ∧ R32 b ∧ R32 c0) (fun ca av L M r L1 M1 => r = some (.int (iI (anAdd (g, be, sa, iz, pa, q 0, q 1) a b c0))) ∧ L = L1 ∧ Md ca M1 μ (opAdd (g, be, sa, iz, pa, q 0, q 1) a b c0) ∧ ∀ b, (∀ i, i < 9 → b ≠ μ i) → M1 b = M b) := by
  refine Ct_of (own := RX6) (by decide) rfl (by rintro _ _ _ _ ⟨rfl, _⟩; exact Nat.le_of_ble_eq_true rfl) ?_
  rintro p e s m args below meth c D ca A av L M ⟨rfl, hμ, hMo, hMs, hM2, hM3, hM4, hM5, hM6, hM7, hM8, hI, hq0, hq1, ha, hb0, hc⟩ X hret hname
  refine g_lv (lv' := [(0, .ref (μ 0)), (1, .int (iI a)), (2, .int (iI b)), (3, .int (iI c0))]) [0, 1, 2, 3] rfl ?_
  obtain ⟨⟨i00, i01⟩, ⟨i10, i11⟩, ⟨i20, i21⟩, ⟨i30, i31⟩, ⟨i40, i41⟩, i50, i51⟩ := id hI.1
  refine g_iload_n X 1 rfl dX6_add_0 rfl ?_
  refine g_iconst X (z := 0) dX6_add_1 rfl ?_
  refine g_sipush X (z := 4095) (by decide +kernel) dX6_add_2 rfl ?_
  refine g_callS X (ct_X6_in l a 0 4095) (As := [.int (iI a), .int (iI 0), .int (iI 4095)]) (rest := []) rfl ca_X6_in rfl wm_X6_36 wt_X6_in wc_X6_in w0_X6 ⟨by decide, by decide⟩ (by decide) ⟨by decide, by decide⟩ rfl dX6_add_5 rfl ⟨rfl, ha, ⟨by decide, by decide⟩, ⟨by decide, by decide⟩⟩ (fun r1 L1 M1 hq => ?_)
  obtain ⟨rfl, rfl, rfl⟩ := hq
  refine g_st (st' := [.int (iI (if 0 ≤ a ∧ a ≤ 4095 then 1 else 0))]) rfl ?_
  refine g_if_eqb X (tgt := 33) dX6_add_8 (by decide) rfl (fun h_1 => ?_) (fun h_1 => ?_)
  · refine g_bipush X (z := -2) (by decide +kernel) dX6_add_33 rfl ?_
    exact g_iret X hret ⟨Nat.le_of_ble_eq_true rfl, Nat.le_of_ble_eq_true rfl⟩ dX6_add_35 ⟨by rw [anAdd, if_neg (by first | omega | (dsimp only; omega))], rfl, by rw [opAdd, if_neg (by first | omega | (dsimp only; omega))]; exact ⟨q, _, _, _, rfl, rfl, hMo, hMs, hM2, hM3, hM4, hM5, hM6, hM7, hM8⟩, (fun b hb => rfl)⟩
  · refine g_iload_n X 2 rfl dX6_add_11 rfl ?_
    refine g_iconst X (z := 0) dX6_add_12 rfl ?_
    refine g_sipush X (z := 1023) (by decide +kernel) dX6_add_13 rfl ?_
    refine g_callS X (ct_X6_in l b 0 1023) (As := [.int (iI b), .int (iI 0), .int (iI 1023)]) (rest := []) rfl ca_X6_in rfl wm_X6_36 wt_X6_in wc_X6_in w0_X6 ⟨by decide, by decide⟩ (by decide) ⟨by decide, by decide⟩ rfl dX6_add_16 rfl ⟨rfl, hb0, ⟨by decide, by decide⟩, ⟨by decide, by decide⟩⟩ (fun r1 L1 M1 hq => ?_)
    obtain ⟨rfl, rfl, rfl⟩ := hq
    refine g_st (st' := [.int (iI (if 0 ≤ b ∧ b ≤ 1023 then 1 else 0))]) rfl ?_
    refine g_if_eqb X (tgt := 33) dX6_add_19 (by decide) rfl (fun h_2 => ?_) (fun h_2 => ?_)
    · refine g_bipush X (z := -2) (by decide +kernel) dX6_add_33 rfl ?_
      exact g_iret X hret ⟨Nat.le_of_ble_eq_true rfl, Nat.le_of_ble_eq_true rfl⟩ dX6_add_35 ⟨by rw [anAdd, if_neg (by first | omega | (dsimp only; omega))], rfl, by rw [opAdd, if_neg (by first | omega | (dsimp only; omega))]; exact ⟨q, _, _, _, rfl, rfl, hMo, hMs, hM2, hM3, hM4, hM5, hM6, hM7, hM8⟩, (fun b hb => rfl)⟩
    · refine g_iload_n X 3 rfl dX6_add_22 rfl ?_
      refine g_iconst X (z := 1) dX6_add_23 rfl ?_
      refine g_sipush X (z := 200) (by decide +kernel) dX6_add_24 rfl ?_
      refine g_callS X (ct_X6_in l c0 1 200) (As := [.int (iI c0), .int (iI 1), .int (iI 200)]) (rest := []) rfl ca_X6_in rfl wm_X6_36 wt_X6_in wc_X6_in w0_X6 ⟨by decide, by decide⟩ (by decide) ⟨by decide, by decide⟩ rfl dX6_add_27 rfl ⟨rfl, hc, ⟨by decide, by decide⟩, ⟨by decide, by decide⟩⟩ (fun r1 L1 M1 hq => ?_)
      obtain ⟨rfl, rfl, rfl⟩ := hq
      refine g_st (st' := [.int (iI (if 1 ≤ c0 ∧ c0 ≤ 200 then 1 else 0))]) rfl ?_
      refine g_if_neb X (tgt := 36) dX6_add_30 (by decide) rfl (fun h_3 => ?_) (fun h_3 => ?_)
      · refine g_aload_n X 0 rfl dX6_add_36 rfl ?_
        refine g_get X cl_X6 0 (by decide) wf_X6_7 rfl (hμ.mem 0 (by decide)) hMo rfl dX6_add_37 rfl ?_
        refine g_iconst X (z := 5) dX6_add_40 rfl ?_
        refine g_iald X (hμ.mem 1 (by decide)) hMs ⟨by decide, by decide⟩ (by decide) dX6_add_41 rfl ?_
        refine g_iconst X (z := 4) dX6_add_42 rfl ?_
        refine g_icmp_ne X ⟨by omega, by omega⟩ ⟨by decide, by decide⟩ (tgt := 49) dX6_add_43 (by decide) rfl (fun h_4 => ?_) (fun h_4 => ?_)
        · refine g_aload_n X 0 rfl dX6_add_49 rfl ?_
          refine g_callV X (ct_X6_hold l μ q g sp) (As := []) (rest := []) cl_X6 rfl ca_X6_hold rfl wm_X6_79 wi_X6_hold ws_X6_hold wc_X6_hold w0_X6 ⟨by decide, by decide⟩ (hμ.mem 0 (by decide)) hMo (by decide) ⟨by decide, by decide⟩ rfl dX6_add_50 rfl ⟨rfl, hμ, hMo, hMs, hM2⟩ (fun r1 L1 M_5 hq => ?_)
          obtain ⟨rfl, rfl, hM_6, fr_7⟩ := hq
          have hM_8 : M_5 (μ 0) = .inr (6, [.ref (μ 1), .ref (μ 2), .ref (μ 3), .ref (μ 4), .ref (μ 5), .ref (μ 6), .ref (μ 7), .ref (μ 8), .int (iI (q 0)), .int (iI (q 1)), .int (iI (q 2)), .int (iI (q 3))]) := (fr_7 (μ 0) (hμ.ne (i := 0) (j := 2) (by decide) (by decide) (by decide))).trans hMo
          have hM_9 : M_5 (μ 1) = cI ca 110 g := (fr_7 (μ 1) (hμ.ne (i := 1) (j := 2) (by decide) (by decide) (by decide))).trans hMs
          have hM_10 : M_5 (μ 3) = cI ca 110 tr := (fr_7 (μ 3) (hμ.ne (i := 3) (j := 2) (by decide) (by decide) (by decide))).trans hM3
          have hM_11 : M_5 (μ 4) = cI ca 660 be := (fr_7 (μ 4) (hμ.ne (i := 4) (j := 2) (by decide) (by decide) (by decide))).trans hM4
          have hM_12 : M_5 (μ 5) = cI ca 220 sa := (fr_7 (μ 5) (hμ.ne (i := 5) (j := 2) (by decide) (by decide) (by decide))).trans hM5
          have hM_13 : M_5 (μ 6) = cZ ca 2 iz := (fr_7 (μ 6) (hμ.ne (i := 6) (j := 2) (by decide) (by decide) (by decide))).trans hM6
          have hM_14 : M_5 (μ 7) = cI ca 33 rd := (fr_7 (μ 7) (hμ.ne (i := 7) (j := 2) (by decide) (by decide) (by decide))).trans hM7
          have hM_15 : M_5 (μ 8) = cC ca 60 pa := (fr_7 (μ 8) (hμ.ne (i := 8) (j := 2) (by decide) (by decide) (by decide))).trans hM8
          refine g_st (st' := []) rfl ?_
          refine g_aload_n X 0 rfl dX6_add_53 rfl ?_
          refine g_aload_n X 0 rfl dX6_add_54 rfl ?_
          refine g_iload_n X 1 rfl dX6_add_55 rfl ?_
          refine g_iload_n X 2 rfl dX6_add_56 rfl ?_
          refine g_iload_n X 3 rfl dX6_add_57 rfl ?_
          refine g_callV X (ct_X6_puts l μ q g a b c0) (As := [.int (iI a), .int (iI b), .int (iI c0)]) (rest := [.ref (μ 0)]) cl_X6 rfl ca_X6_puts rfl wm_X6_88 wi_X6_puts ws_X6_puts wc_X6_puts w0_X6 ⟨by decide, by decide⟩ (hμ.mem 0 (by decide)) hM_8 (Nat.le_of_ble_eq_true rfl) ⟨by decide, by decide⟩ rfl dX6_add_58 rfl ⟨rfl, hμ, hM_8, hM_9, by omega, by omega⟩ (fun r1 L1 M_16 hq => ?_)
          obtain ⟨rfl, rfl, hM_17, fr_18⟩ := hq
          have hM_19 : M_16 (μ 0) = .inr (6, [.ref (μ 1), .ref (μ 2), .ref (μ 3), .ref (μ 4), .ref (μ 5), .ref (μ 6), .ref (μ 7), .ref (μ 8), .int (iI (q 0)), .int (iI (q 1)), .int (iI (q 2)), .int (iI (q 3))]) := (fr_18 (μ 0) (hμ.ne (i := 0) (j := 1) (by decide) (by decide) (by decide))).trans hM_8
          have hM_20 : M_16 (μ 3) = cI ca 110 tr := (fr_18 (μ 3) (hμ.ne (i := 3) (j := 1) (by decide) (by decide) (by decide))).trans hM_10
          have hM_21 : M_16 (μ 4) = cI ca 660 be := (fr_18 (μ 4) (hμ.ne (i := 4) (j := 1) (by decide) (by decide) (by decide))).trans hM_11
          have hM_22 : M_16 (μ 5) = cI ca 220 sa := (fr_18 (μ 5) (hμ.ne (i := 5) (j := 1) (by decide) (by decide) (by decide))).trans hM_12
          have hM_23 : M_16 (μ 6) = cZ ca 2 iz := (fr_18 (μ 6) (hμ.ne (i := 6) (j := 1) (by decide) (by decide) (by decide))).trans hM_13
          have hM_24 : M_16 (μ 7) = cI ca 33 rd := (fr_18 (μ 7) (hμ.ne (i := 7) (j := 1) (by decide) (by decide) (by decide))).trans hM_14
          have hM_25 : M_16 (μ 8) = cC ca 60 pa := (fr_18 (μ 8) (hμ.ne (i := 8) (j := 1) (by decide) (by decide) (by decide))).trans hM_15
          have hM_26 : M_16 (μ 2) = cI ca 110 g := (fr_18 (μ 2) (hμ.ne (i := 2) (j := 1) (by decide) (by decide) (by decide))).trans hM_6
          refine g_st (st' := [.int (iI (g 5)), .ref (μ 0)]) rfl ?_
          refine g_callV X (ct_X6_recorded l μ q (putsG g a b c0) g be (g 5)) (As := [.int (iI (g 5))]) (rest := []) cl_X6 rfl ca_X6_recorded rfl wm_X6_85 wi_X6_recorded ws_X6_recorded wc_X6_recorded w0_X6 ⟨by decide, by decide⟩ (hμ.mem 0 (by decide)) hM_19 (by decide) ⟨by decide, by decide⟩ rfl dX6_add_61 rfl ⟨rfl, hμ, hM_19, hM_17, hM_26, hM_21, hq1.1, hq1.2⟩ (fun r1 L1 M_27 hq => ?_)
          obtain ⟨rfl, rfl, hM_28, hM_29, fr_30⟩ := hq
          have hM_31 : M_27 (μ 3) = cI ca 110 tr := (fr_30 _ (hμ.ne (i := 3) (j := 0) (by decide) (by decide) (by decide)) (hμ.ne (i := 3) (j := 4) (by decide) (by decide) (by decide))).trans hM_20
          have hM_32 : M_27 (μ 5) = cI ca 220 sa := (fr_30 _ (hμ.ne (i := 5) (j := 0) (by decide) (by decide) (by decide)) (hμ.ne (i := 5) (j := 4) (by decide) (by decide) (by decide))).trans hM_22
          have hM_33 : M_27 (μ 6) = cZ ca 2 iz := (fr_30 _ (hμ.ne (i := 6) (j := 0) (by decide) (by decide) (by decide)) (hμ.ne (i := 6) (j := 4) (by decide) (by decide) (by decide))).trans hM_23
          have hM_34 : M_27 (μ 7) = cI ca 33 rd := (fr_30 _ (hμ.ne (i := 7) (j := 0) (by decide) (by decide) (by decide)) (hμ.ne (i := 7) (j := 4) (by decide) (by decide) (by decide))).trans hM_24
          have hM_35 : M_27 (μ 8) = cC ca 60 pa := (fr_30 _ (hμ.ne (i := 8) (j := 0) (by decide) (by decide) (by decide)) (hμ.ne (i := 8) (j := 4) (by decide) (by decide) (by decide))).trans hM_25
          have hM_36 : M_27 (μ 2) = cI ca 110 g := (fr_30 _ (hμ.ne (i := 2) (j := 0) (by decide) (by decide) (by decide)) (hμ.ne (i := 2) (j := 4) (by decide) (by decide) (by decide))).trans hM_26
          have hM_37 : M_27 (μ 1) = cI ca 110 (putsG g a b c0) := (fr_30 _ (hμ.ne (i := 1) (j := 0) (by decide) (by decide) (by decide)) (hμ.ne (i := 1) (j := 4) (by decide) (by decide) (by decide))).trans hM_17
          refine g_st (st' := [.int (iI (g 5))]) rfl ?_
          exact g_iret X hret ⟨Nat.le_of_ble_eq_true rfl, Nat.le_of_ble_eq_true rfl⟩ dX6_add_64 ⟨by rw [anAdd, if_pos (by first | omega | (dsimp only; omega)), if_neg (by first | omega | (dsimp only; omega))], rfl, by rw [opAdd, if_pos (by first | omega | (dsimp only; omega))]; exact ⟨(up q 1 (recN (q 1))), _, _, _, rfl, rfl, hM_28, hM_37, hM_36, hM_31, hM_29, hM_32, hM_33, hM_34, hM_35⟩, (fun b hb => ((fr_30 b (hb 0 (by decide)) (hb 4 (by decide))).trans ((fr_18 b (hb 1 (by decide))).trans (fr_7 b (hb 2 (by decide))))))⟩
        · refine g_bipush X (z := -4) (by decide +kernel) dX6_add_46 rfl ?_
          exact g_iret X hret ⟨Nat.le_of_ble_eq_true rfl, Nat.le_of_ble_eq_true rfl⟩ dX6_add_48 ⟨by rw [anAdd, if_pos (by first | omega | (dsimp only; omega)), if_pos (by first | omega | (dsimp only; omega))], rfl, by rw [opAdd, if_neg (by first | omega | (dsimp only; omega))]; exact ⟨q, _, _, _, rfl, rfl, hMo, hMs, hM2, hM3, hM4, hM5, hM6, hM7, hM8⟩, (fun b hb => rfl)⟩
      · refine g_bipush X (z := -2) (by decide +kernel) dX6_add_33 rfl ?_
        exact g_iret X hret ⟨Nat.le_of_ble_eq_true rfl, Nat.le_of_ble_eq_true rfl⟩ dX6_add_35 ⟨by rw [anAdd, if_neg (by first | omega | (dsimp only; omega))], rfl, by rw [opAdd, if_neg (by first | omega | (dsimp only; omega))]; exact ⟨q, _, _, _, rfl, rfl, hMo, hMs, hM2, hM3, hM4, hM5, hM6, hM7, hM8⟩, (fun b hb => rfl)⟩
set_option maxRecDepth 100000 in
set_option maxHeartbeats 4000000 in
theorem ct_X6_reset (l : Launch) (μ : Nat → Nat) (q g : Int → Int) (sp tr be sa iz rd pa : Int → Int) : Ct l yX6_reset cX6_reset 1 (some .int) 3 0 0 (fun ca av L M => av = [.ref (μ 0)] ∧ MuOk μ L ∧ M (μ 0) = oMd μ q ∧ M (μ 1) = cI ca 110 g ∧ M (μ 2) = cI ca 110 sp ∧ M (μ 3) = cI ca 110 tr ∧ M (μ 4) = cI ca 660 be ∧ M (μ 5) = cI ca 220 sa ∧ M (μ 6) = cZ ca 2 iz ∧ M (μ 7) = cI ca 33 rd ∧ M (μ 8) = cC ca 60 pa ∧ Inv g ∧ (0 ≤ q 0 ∧ q 0 ≤ 60) ∧ (0 ≤ q 1 ∧ q 1 ≤ 6)) (fun ca av L M r L1 M1 => r = some (.int (iI (anReset (g, be, sa, iz, pa, q 0, q 1)))) ∧ L = L1 ∧ Md ca M1 μ (opReset (g, be, sa, iz, pa, q 0, q 1)) ∧ ∀ b, (∀ i, i < 9 → b ≠ μ i) → M1 b = M b) := by
  refine Ct_of (own := RX6) (by decide) rfl (by rintro _ _ _ _ ⟨rfl, _⟩; exact Nat.le_of_ble_eq_true rfl) ?_
  rintro p e s m args below meth c D ca A av L M ⟨rfl, hμ, hMo, hMs, hM2, hM3, hM4, hM5, hM6, hM7, hM8, hI, hq0, hq1⟩ X hret hname
  refine g_lv (lv' := [(0, .ref (μ 0))]) [0] rfl ?_
  obtain ⟨⟨i00, i01⟩, ⟨i10, i11⟩, ⟨i20, i21⟩, ⟨i30, i31⟩, ⟨i40, i41⟩, i50, i51⟩ := id hI.1
  refine g_aload_n X 0 rfl dX6_reset_0 rfl ?_
  refine g_callV X (ct_X6_hold l μ q g sp) (As := []) (rest := []) cl_X6 rfl ca_X6_hold rfl wm_X6_79 wi_X6_hold ws_X6_hold wc_X6_hold w0_X6 ⟨by decide, by decide⟩ (hμ.mem 0 (by decide)) hMo (by decide) ⟨by decide, by decide⟩ rfl dX6_reset_1 rfl ⟨rfl, hμ, hMo, hMs, hM2⟩ (fun r1 L1 M_1 hq => ?_)
  obtain ⟨rfl, rfl, hM_2, fr_3⟩ := hq
  have hM_4 : M_1 (μ 0) = .inr (6, [.ref (μ 1), .ref (μ 2), .ref (μ 3), .ref (μ 4), .ref (μ 5), .ref (μ 6), .ref (μ 7), .ref (μ 8), .int (iI (q 0)), .int (iI (q 1)), .int (iI (q 2)), .int (iI (q 3))]) := (fr_3 (μ 0) (hμ.ne (i := 0) (j := 2) (by decide) (by decide) (by decide))).trans hMo
  have hM_5 : M_1 (μ 1) = cI ca 110 g := (fr_3 (μ 1) (hμ.ne (i := 1) (j := 2) (by decide) (by decide) (by decide))).trans hMs
  have hM_6 : M_1 (μ 3) = cI ca 110 tr := (fr_3 (μ 3) (hμ.ne (i := 3) (j := 2) (by decide) (by decide) (by decide))).trans hM3
  have hM_7 : M_1 (μ 4) = cI ca 660 be := (fr_3 (μ 4) (hμ.ne (i := 4) (j := 2) (by decide) (by decide) (by decide))).trans hM4
  have hM_8 : M_1 (μ 5) = cI ca 220 sa := (fr_3 (μ 5) (hμ.ne (i := 5) (j := 2) (by decide) (by decide) (by decide))).trans hM5
  have hM_9 : M_1 (μ 6) = cZ ca 2 iz := (fr_3 (μ 6) (hμ.ne (i := 6) (j := 2) (by decide) (by decide) (by decide))).trans hM6
  have hM_10 : M_1 (μ 7) = cI ca 33 rd := (fr_3 (μ 7) (hμ.ne (i := 7) (j := 2) (by decide) (by decide) (by decide))).trans hM7
  have hM_11 : M_1 (μ 8) = cC ca 60 pa := (fr_3 (μ 8) (hμ.ne (i := 8) (j := 2) (by decide) (by decide) (by decide))).trans hM8
  refine g_st (st' := []) rfl ?_
  refine g_aload_n X 0 rfl dX6_reset_4 rfl ?_
  refine g_callV X (ct_X6_beginsAnew l μ q g) (As := []) (rest := []) cl_X6 rfl ca_X6_beginsAnew rfl wm_X6_82 wi_X6_beginsAnew ws_X6_beginsAnew wc_X6_beginsAnew w0_X6 ⟨by decide, by decide⟩ (hμ.mem 0 (by decide)) hM_4 (by decide) ⟨by decide, by decide⟩ rfl dX6_reset_5 rfl ⟨rfl, hμ, hM_4, hM_5, by omega, by omega⟩ (fun r1 L1 M_12 hq => ?_)
  obtain ⟨rfl, rfl, hM_13, fr_14⟩ := hq
  have hM_15 : M_12 (μ 0) = .inr (6, [.ref (μ 1), .ref (μ 2), .ref (μ 3), .ref (μ 4), .ref (μ 5), .ref (μ 6), .ref (μ 7), .ref (μ 8), .int (iI (q 0)), .int (iI (q 1)), .int (iI (q 2)), .int (iI (q 3))]) := (fr_14 (μ 0) (hμ.ne (i := 0) (j := 1) (by decide) (by decide) (by decide))).trans hM_4
  have hM_16 : M_12 (μ 3) = cI ca 110 tr := (fr_14 (μ 3) (hμ.ne (i := 3) (j := 1) (by decide) (by decide) (by decide))).trans hM_6
  have hM_17 : M_12 (μ 4) = cI ca 660 be := (fr_14 (μ 4) (hμ.ne (i := 4) (j := 1) (by decide) (by decide) (by decide))).trans hM_7
  have hM_18 : M_12 (μ 5) = cI ca 220 sa := (fr_14 (μ 5) (hμ.ne (i := 5) (j := 1) (by decide) (by decide) (by decide))).trans hM_8
  have hM_19 : M_12 (μ 6) = cZ ca 2 iz := (fr_14 (μ 6) (hμ.ne (i := 6) (j := 1) (by decide) (by decide) (by decide))).trans hM_9
  have hM_20 : M_12 (μ 7) = cI ca 33 rd := (fr_14 (μ 7) (hμ.ne (i := 7) (j := 1) (by decide) (by decide) (by decide))).trans hM_10
  have hM_21 : M_12 (μ 8) = cC ca 60 pa := (fr_14 (μ 8) (hμ.ne (i := 8) (j := 1) (by decide) (by decide) (by decide))).trans hM_11
  have hM_22 : M_12 (μ 2) = cI ca 110 g := (fr_14 (μ 2) (hμ.ne (i := 2) (j := 1) (by decide) (by decide) (by decide))).trans hM_2
  refine g_st (st' := []) rfl ?_
  refine g_aload_n X 0 rfl dX6_reset_8 rfl ?_
  refine g_aload_n X 0 rfl dX6_reset_9 rfl ?_
  refine g_callV X (ct_X6_wordsLeft l μ q (bgaG g)) (As := []) (rest := [.ref (μ 0)]) cl_X6 rfl ca_X6_wordsLeft rfl wm_X6_69 wi_X6_wordsLeft ws_X6_wordsLeft wc_X6_wordsLeft w0_X6 ⟨by decide, by decide⟩ (hμ.mem 0 (by decide)) hM_15 (Nat.le_of_ble_eq_true rfl) ⟨by decide, by decide⟩ rfl dX6_reset_10 rfl ⟨rfl, hμ, hM_15, hM_13, by rw [bga_low (by decide) (by decide)]; omega, by rw [bga_low (by decide) (by decide)]; omega⟩ (fun r1 L1 M1 hq => ?_)
  obtain ⟨rfl, rfl, rfl⟩ := hq
  refine g_st (st' := [.int (iI (wlG (bgaG g))), .ref (μ 0)]) rfl ?_
  refine g_callV X (ct_X6_recorded l μ q (bgaG g) g be (wlG (bgaG g))) (As := [.int (iI (wlG (bgaG g)))]) (rest := []) cl_X6 rfl ca_X6_recorded rfl wm_X6_85 wi_X6_recorded ws_X6_recorded wc_X6_recorded w0_X6 ⟨by decide, by decide⟩ (hμ.mem 0 (by decide)) hM_15 (by decide) ⟨by decide, by decide⟩ rfl dX6_reset_13 rfl ⟨rfl, hμ, hM_15, hM_13, hM_22, hM_17, hq1.1, hq1.2⟩ (fun r1 L1 M_23 hq => ?_)
  obtain ⟨rfl, rfl, hM_24, hM_25, fr_26⟩ := hq
  have hM_27 : M_23 (μ 3) = cI ca 110 tr := (fr_26 _ (hμ.ne (i := 3) (j := 0) (by decide) (by decide) (by decide)) (hμ.ne (i := 3) (j := 4) (by decide) (by decide) (by decide))).trans hM_16
  have hM_28 : M_23 (μ 5) = cI ca 220 sa := (fr_26 _ (hμ.ne (i := 5) (j := 0) (by decide) (by decide) (by decide)) (hμ.ne (i := 5) (j := 4) (by decide) (by decide) (by decide))).trans hM_18
  have hM_29 : M_23 (μ 6) = cZ ca 2 iz := (fr_26 _ (hμ.ne (i := 6) (j := 0) (by decide) (by decide) (by decide)) (hμ.ne (i := 6) (j := 4) (by decide) (by decide) (by decide))).trans hM_19
  have hM_30 : M_23 (μ 7) = cI ca 33 rd := (fr_26 _ (hμ.ne (i := 7) (j := 0) (by decide) (by decide) (by decide)) (hμ.ne (i := 7) (j := 4) (by decide) (by decide) (by decide))).trans hM_20
  have hM_31 : M_23 (μ 8) = cC ca 60 pa := (fr_26 _ (hμ.ne (i := 8) (j := 0) (by decide) (by decide) (by decide)) (hμ.ne (i := 8) (j := 4) (by decide) (by decide) (by decide))).trans hM_21
  have hM_32 : M_23 (μ 2) = cI ca 110 g := (fr_26 _ (hμ.ne (i := 2) (j := 0) (by decide) (by decide) (by decide)) (hμ.ne (i := 2) (j := 4) (by decide) (by decide) (by decide))).trans hM_22
  have hM_33 : M_23 (μ 1) = cI ca 110 (bgaG g) := (fr_26 _ (hμ.ne (i := 1) (j := 0) (by decide) (by decide) (by decide)) (hμ.ne (i := 1) (j := 4) (by decide) (by decide) (by decide))).trans hM_13
  refine g_st (st' := [.int (iI (wlG (bgaG g)))]) rfl ?_
  exact g_iret X hret ⟨Nat.le_of_ble_eq_true rfl, Nat.le_of_ble_eq_true rfl⟩ dX6_reset_16 ⟨by rw [anReset], rfl, by rw [opReset]; exact ⟨(up q 1 (recN (q 1))), _, _, _, rfl, rfl, hM_24, hM_33, hM_32, hM_27, hM_25, hM_28, hM_29, hM_30, hM_31⟩, (fun b hb => ((fr_26 b (hb 0 (by decide)) (hb 4 (by decide))).trans ((fr_14 b (hb 1 (by decide))).trans (fr_3 b (hb 2 (by decide))))))⟩
set_option maxRecDepth 100000 in
set_option maxHeartbeats 4000000 in
theorem ct_X6_stride (l : Launch) (μ : Nat → Nat) (q g : Int → Int) (sp tr be sa iz rd pa : Int → Int) (i v : Int) : Ct l yX6_stride cX6_stride 5 (some .int) 2 0 0 (fun ca av L M => av = [.ref (μ 0), .int (iI i), .int (iI v)] ∧ MuOk μ L ∧ M (μ 0) = oMd μ q ∧ M (μ 1) = cI ca 110 g ∧ M (μ 2) = cI ca 110 sp ∧ M (μ 3) = cI ca 110 tr ∧ M (μ 4) = cI ca 660 be ∧ M (μ 5) = cI ca 220 sa ∧ M (μ 6) = cZ ca 2 iz ∧ M (μ 7) = cI ca 33 rd ∧ M (μ 8) = cC ca 60 pa ∧ Inv g ∧ (0 ≤ q 0 ∧ q 0 ≤ 60) ∧ (0 ≤ q 1 ∧ q 1 ≤ 6) ∧ R32 i ∧ R32 v) (fun ca av L M r L1 M1 => r = some (.int (iI (anStride (g, be, sa, iz, pa, q 0, q 1) i v))) ∧ L = L1 ∧ Md ca M1 μ (opStride (g, be, sa, iz, pa, q 0, q 1) i v) ∧ ∀ b, (∀ i, i < 9 → b ≠ μ i) → M1 b = M b) := by
  refine Ct_of (own := RX6) (by decide) rfl (by rintro _ _ _ _ ⟨rfl, _⟩; exact Nat.le_of_ble_eq_true rfl) ?_
  rintro p e s m args below meth c D ca A av L M ⟨rfl, hμ, hMo, hMs, hM2, hM3, hM4, hM5, hM6, hM7, hM8, hI, hq0, hq1, hi, hv⟩ X hret hname
  refine g_lv (lv' := [(0, .ref (μ 0)), (1, .int (iI i)), (2, .int (iI v))]) [0, 1, 2] rfl ?_
  obtain ⟨⟨i00, i01⟩, ⟨i10, i11⟩, ⟨i20, i21⟩, ⟨i30, i31⟩, ⟨i40, i41⟩, i50, i51⟩ := id hI.1
  refine g_aload_n X 0 rfl dX6_stride_0 rfl ?_
  refine g_iload_n X 1 rfl dX6_stride_1 rfl ?_
  refine g_callV X (ct_X6_isStream l μ q g i) (As := [.int (iI i)]) (rest := []) cl_X6 rfl ca_X6_isStream rfl wm_X6_92 wi_X6_isStream ws_X6_isStream wc_X6_isStream w0_X6 ⟨by decide, by decide⟩ (hμ.mem 0 (by decide)) hMo (by decide) ⟨by decide, by decide⟩ rfl dX6_stride_2 rfl ⟨rfl, hμ, hMo, hMs, hi, by omega, by omega⟩ (fun r1 L1 M1 hq => ?_)
  obtain ⟨rfl, rfl, rfl⟩ := hq
  refine g_st (st' := [.int (iI (if 0 ≤ i ∧ i ≤ g 5 - 1 then 1 else 0))]) rfl ?_
  refine g_if_neb X (tgt := 10) dX6_stride_5 (by decide) rfl (fun h_1 => ?_) (fun h_1 => ?_)
  · refine g_iload_n X 2 rfl dX6_stride_10 rfl ?_
    refine g_iconst X (z := 0) dX6_stride_11 rfl ?_
    refine g_sipush X (z := 1023) (by decide +kernel) dX6_stride_12 rfl ?_
    refine g_callS X (ct_X6_in l v 0 1023) (As := [.int (iI v), .int (iI 0), .int (iI 1023)]) (rest := []) rfl ca_X6_in rfl wm_X6_36 wt_X6_in wc_X6_in w0_X6 ⟨by decide, by decide⟩ (by decide) ⟨by decide, by decide⟩ rfl dX6_stride_15 rfl ⟨rfl, hv, ⟨by decide, by decide⟩, ⟨by decide, by decide⟩⟩ (fun r1 L1 M1 hq => ?_)
    obtain ⟨rfl, rfl, rfl⟩ := hq
    refine g_st (st' := [.int (iI (if 0 ≤ v ∧ v ≤ 1023 then 1 else 0))]) rfl ?_
    refine g_if_neb X (tgt := 24) dX6_stride_18 (by decide) rfl (fun h_2 => ?_) (fun h_2 => ?_)
    · refine g_aload_n X 0 rfl dX6_stride_24 rfl ?_
      obtain ⟨⟨r00, r01⟩, ⟨r10, r11⟩, ⟨r20, r21⟩, ⟨r30, r31⟩, ⟨r40, r41⟩, r5⟩ := hI.2.2 i (by omega) (by omega)
      refine g_callV X (ct_X6_hold l μ q g sp) (As := []) (rest := []) cl_X6 rfl ca_X6_hold rfl wm_X6_79 wi_X6_hold ws_X6_hold wc_X6_hold w0_X6 ⟨by decide, by decide⟩ (hμ.mem 0 (by decide)) hMo (by decide) ⟨by decide, by decide⟩ rfl dX6_stride_25 rfl ⟨rfl, hμ, hMo, hMs, hM2⟩ (fun r1 L1 M_3 hq => ?_)
      obtain ⟨rfl, rfl, hM_4, fr_5⟩ := hq
      have hM_6 : M_3 (μ 0) = .inr (6, [.ref (μ 1), .ref (μ 2), .ref (μ 3), .ref (μ 4), .ref (μ 5), .ref (μ 6), .ref (μ 7), .ref (μ 8), .int (iI (q 0)), .int (iI (q 1)), .int (iI (q 2)), .int (iI (q 3))]) := (fr_5 (μ 0) (hμ.ne (i := 0) (j := 2) (by decide) (by decide) (by decide))).trans hMo
      have hM_7 : M_3 (μ 1) = cI ca 110 g := (fr_5 (μ 1) (hμ.ne (i := 1) (j := 2) (by decide) (by decide) (by decide))).trans hMs
      have hM_8 : M_3 (μ 3) = cI ca 110 tr := (fr_5 (μ 3) (hμ.ne (i := 3) (j := 2) (by decide) (by decide) (by decide))).trans hM3
      have hM_9 : M_3 (μ 4) = cI ca 660 be := (fr_5 (μ 4) (hμ.ne (i := 4) (j := 2) (by decide) (by decide) (by decide))).trans hM4
      have hM_10 : M_3 (μ 5) = cI ca 220 sa := (fr_5 (μ 5) (hμ.ne (i := 5) (j := 2) (by decide) (by decide) (by decide))).trans hM5
      have hM_11 : M_3 (μ 6) = cZ ca 2 iz := (fr_5 (μ 6) (hμ.ne (i := 6) (j := 2) (by decide) (by decide) (by decide))).trans hM6
      have hM_12 : M_3 (μ 7) = cI ca 33 rd := (fr_5 (μ 7) (hμ.ne (i := 7) (j := 2) (by decide) (by decide) (by decide))).trans hM7
      have hM_13 : M_3 (μ 8) = cC ca 60 pa := (fr_5 (μ 8) (hμ.ne (i := 8) (j := 2) (by decide) (by decide) (by decide))).trans hM8
      refine g_st (st' := []) rfl ?_
      refine g_iload_n X 1 rfl dX6_stride_28 rfl ?_
      refine g_callS X (ct_X6_m l i) (As := [.int (iI i)]) (rest := []) rfl ca_X6_m rfl wm_X6_52 wt_X6_m wc_X6_m w0_X6 ⟨by decide, by decide⟩ (by decide) ⟨by decide, by decide⟩ rfl dX6_stride_29 rfl ⟨rfl, trivial⟩ (fun r1 L1 M1 hq => ?_)
      obtain ⟨rfl, rfl, rfl⟩ := hq
      refine g_st (st' := [.int (iI (70 + 10 * i))]) rfl ?_
      refine g_istore_n X (lv' := [(3, .int (iI (70 + 10 * i))), (0, .ref (μ 0)), (1, .int (iI i)), (2, .int (iI v))]) (by decide) rfl dX6_stride_32 rfl ?_
      refine g_aload_n X 1 rfl dX6_stride_33 rfl ?_
      refine g_get X cl_X6 0 (by decide) wf_X6_7 rfl (hμ.mem 0 (by decide)) hM_6 rfl dX6_stride_34 rfl ?_
      refine g_iload_n X 0 rfl dX6_stride_37 rfl ?_
      refine g_iconst X (z := 1) dX6_stride_38 rfl ?_
      refine g_iadd X dX6_stride_39 rfl ?_
      refine g_iald X (hμ.mem 1 (by decide)) hM_7 ⟨by omega, by omega⟩ (by decide) dX6_stride_40 rfl ?_
      refine g_istore X (lv' := [(4, .int (iI (g ((70 + 10 * i) + 1)))), (3, .int (iI (70 + 10 * i))), (0, .ref (μ 0)), (1, .int (iI i)), (2, .int (iI v))]) (by decide) rfl dX6_stride_41 rfl ?_
      refine g_aload_n X 2 rfl dX6_stride_43 rfl ?_
      refine g_get X cl_X6 0 (by decide) wf_X6_7 rfl (hμ.mem 0 (by decide)) hM_6 rfl dX6_stride_44 rfl ?_
      refine g_iload_n X 1 rfl dX6_stride_47 rfl ?_
      refine g_iconst X (z := 1) dX6_stride_48 rfl ?_
      refine g_iadd X dX6_stride_49 rfl ?_
      refine g_iload_n X 4 rfl dX6_stride_50 rfl ?_
      refine g_iast X (hμ.mem 1 (by decide)) hM_7 ⟨by omega, by omega⟩ (by decide) dX6_stride_51 rfl (fun M_14 hM_15 fr_16 => ?_)
      obtain ⟨g_17, hg_18⟩ : ∃ x : Int → Int, x = up g ((70 + 10 * i) + 1) v := ⟨_, rfl⟩
      rw [← hg_18] at hM_15
      have hM_19 : M_14 (μ 0) = .inr (6, [.ref (μ 1), .ref (μ 2), .ref (μ 3), .ref (μ 4), .ref (μ 5), .ref (μ 6), .ref (μ 7), .ref (μ 8), .int (iI (q 0)), .int (iI (q 1)), .int (iI (q 2)), .int (iI (q 3))]) := (fr_16 (μ 0) (hμ.ne (i := 0) (j := 1) (by decide) (by decide) (by decide))).trans hM_6
      have hM_20 : M_14 (μ 3) = cI ca 110 tr := (fr_16 (μ 3) (hμ.ne (i := 3) (j := 1) (by decide) (by decide) (by decide))).trans hM_8
      have hM_21 : M_14 (μ 4) = cI ca 660 be := (fr_16 (μ 4) (hμ.ne (i := 4) (j := 1) (by decide) (by decide) (by decide))).trans hM_9
      have hM_22 : M_14 (μ 5) = cI ca 220 sa := (fr_16 (μ 5) (hμ.ne (i := 5) (j := 1) (by decide) (by decide) (by decide))).trans hM_10
      have hM_23 : M_14 (μ 6) = cZ ca 2 iz := (fr_16 (μ 6) (hμ.ne (i := 6) (j := 1) (by decide) (by decide) (by decide))).trans hM_11
      have hM_24 : M_14 (μ 7) = cI ca 33 rd := (fr_16 (μ 7) (hμ.ne (i := 7) (j := 1) (by decide) (by decide) (by decide))).trans hM_12
      have hM_25 : M_14 (μ 8) = cC ca 60 pa := (fr_16 (μ 8) (hμ.ne (i := 8) (j := 1) (by decide) (by decide) (by decide))).trans hM_13
      have hM_26 : M_14 (μ 2) = cI ca 110 g := (fr_16 (μ 2) (hμ.ne (i := 2) (j := 1) (by decide) (by decide) (by decide))).trans hM_4
      refine g_aload_n X 2 rfl dX6_stride_52 rfl ?_
      refine g_get X cl_X6 0 (by decide) wf_X6_7 rfl (hμ.mem 0 (by decide)) hM_19 rfl dX6_stride_53 rfl ?_
      refine g_iload_n X 1 rfl dX6_stride_56 rfl ?_
      refine g_iconst X (z := 4) dX6_stride_57 rfl ?_
      refine g_iadd X dX6_stride_58 rfl ?_
      refine g_aload_n X 2 rfl dX6_stride_59 rfl ?_
      refine g_get X cl_X6 0 (by decide) wf_X6_7 rfl (hμ.mem 0 (by decide)) hM_19 rfl dX6_stride_60 rfl ?_
      refine g_iload_n X 1 rfl dX6_stride_63 rfl ?_
      refine g_iconst X (z := 5) dX6_stride_64 rfl ?_
      refine g_iadd X dX6_stride_65 rfl ?_
      refine g_iald X (hμ.mem 1 (by decide)) hM_15 ⟨by omega, by omega⟩ (by decide) dX6_stride_66 rfl ?_
      have hr_27 : g_17 ((70 + 10 * i) + 5) = g ((70 + 10 * i) + 5) := by rw [hg_18, up_ne _ _ (by omega)]
      refine g_st (st' := [.int (iI (g ((70 + 10 * i) + 5))), .int (iI ((70 + 10 * i) + 4)), .ref (μ 1)]) (by rw [hr_27]) ?_
      refine g_if_ge X ⟨by omega, by omega⟩ (tgt := 81) dX6_stride_67 (by decide) rfl (fun h_28 => ?_) (fun h_28 => ?_)
      · refine g_aload_n X 2 rfl dX6_stride_81 rfl ?_
        refine g_get X cl_X6 0 (by decide) wf_X6_7 rfl (hμ.mem 0 (by decide)) hM_19 rfl dX6_stride_82 rfl ?_
        refine g_iload_n X 1 rfl dX6_stride_85 rfl ?_
        refine g_iconst X (z := 5) dX6_stride_86 rfl ?_
        refine g_iadd X dX6_stride_87 rfl ?_
        refine g_iald X (hμ.mem 1 (by decide)) hM_15 ⟨by omega, by omega⟩ (by decide) dX6_stride_88 rfl ?_
        have hr_29 : g_17 ((70 + 10 * i) + 5) = g ((70 + 10 * i) + 5) := by rw [hg_18, up_ne _ _ (by omega)]
        refine g_st (st' := [.int (iI (g ((70 + 10 * i) + 5))), .int (iI ((70 + 10 * i) + 4)), .ref (μ 1)]) (by rw [hr_29]) ?_
        refine g_iload_n X 4 rfl dX6_stride_89 rfl ?_
        refine g_iadd X dX6_stride_90 rfl ?_
        refine g_sipush X (z := 4096) (by decide +kernel) dX6_stride_91 rfl ?_
        refine g_irem X ⟨⟨by omega, by omega⟩, by omega, by omega⟩ dX6_stride_94 rfl ?_
        refine g_iast X (hμ.mem 1 (by decide)) hM_15 ⟨by omega, by omega⟩ (by decide) dX6_stride_95 rfl (fun M_30 hM_31 fr_32 => ?_)
        obtain ⟨g_33, hg_34⟩ : ∃ x : Int → Int, x = up g_17 ((70 + 10 * i) + 4) ((g ((70 + 10 * i) + 5) + v) % 4096) := ⟨_, rfl⟩
        rw [← hg_34] at hM_31
        have hM_35 : M_30 (μ 0) = .inr (6, [.ref (μ 1), .ref (μ 2), .ref (μ 3), .ref (μ 4), .ref (μ 5), .ref (μ 6), .ref (μ 7), .ref (μ 8), .int (iI (q 0)), .int (iI (q 1)), .int (iI (q 2)), .int (iI (q 3))]) := (fr_32 (μ 0) (hμ.ne (i := 0) (j := 1) (by decide) (by decide) (by decide))).trans hM_19
        have hM_36 : M_30 (μ 3) = cI ca 110 tr := (fr_32 (μ 3) (hμ.ne (i := 3) (j := 1) (by decide) (by decide) (by decide))).trans hM_20
        have hM_37 : M_30 (μ 4) = cI ca 660 be := (fr_32 (μ 4) (hμ.ne (i := 4) (j := 1) (by decide) (by decide) (by decide))).trans hM_21
        have hM_38 : M_30 (μ 5) = cI ca 220 sa := (fr_32 (μ 5) (hμ.ne (i := 5) (j := 1) (by decide) (by decide) (by decide))).trans hM_22
        have hM_39 : M_30 (μ 6) = cZ ca 2 iz := (fr_32 (μ 6) (hμ.ne (i := 6) (j := 1) (by decide) (by decide) (by decide))).trans hM_23
        have hM_40 : M_30 (μ 7) = cI ca 33 rd := (fr_32 (μ 7) (hμ.ne (i := 7) (j := 1) (by decide) (by decide) (by decide))).trans hM_24
        have hM_41 : M_30 (μ 8) = cC ca 60 pa := (fr_32 (μ 8) (hμ.ne (i := 8) (j := 1) (by decide) (by decide) (by decide))).trans hM_25
        have hM_42 : M_30 (μ 2) = cI ca 110 g := (fr_32 (μ 2) (hμ.ne (i := 2) (j := 1) (by decide) (by decide) (by decide))).trans hM_26
        refine g_aload_n X 2 rfl dX6_stride_96 rfl ?_
        refine g_iload X 0 rfl dX6_stride_97 rfl ?_
        refine g_callV X (ct_X6_recorded l μ q g_33 g be (g ((70 + 10 * i) + 1))) (As := [.int (iI (g ((70 + 10 * i) + 1)))]) (rest := []) cl_X6 rfl ca_X6_recorded rfl wm_X6_85 wi_X6_recorded ws_X6_recorded wc_X6_recorded w0_X6 ⟨by decide, by decide⟩ (hμ.mem 0 (by decide)) hM_35 (by decide) ⟨by decide, by decide⟩ rfl dX6_stride_99 rfl ⟨rfl, hμ, hM_35, hM_31, hM_42, hM_37, hq1.1, hq1.2⟩ (fun r1 L1 M_43 hq => ?_)
        obtain ⟨rfl, rfl, hM_44, hM_45, fr_46⟩ := hq
        have hM_47 : M_43 (μ 3) = cI ca 110 tr := (fr_46 _ (hμ.ne (i := 3) (j := 0) (by decide) (by decide) (by decide)) (hμ.ne (i := 3) (j := 4) (by decide) (by decide) (by decide))).trans hM_36
        have hM_48 : M_43 (μ 5) = cI ca 220 sa := (fr_46 _ (hμ.ne (i := 5) (j := 0) (by decide) (by decide) (by decide)) (hμ.ne (i := 5) (j := 4) (by decide) (by decide) (by decide))).trans hM_38
        have hM_49 : M_43 (μ 6) = cZ ca 2 iz := (fr_46 _ (hμ.ne (i := 6) (j := 0) (by decide) (by decide) (by decide)) (hμ.ne (i := 6) (j := 4) (by decide) (by decide) (by decide))).trans hM_39
        have hM_50 : M_43 (μ 7) = cI ca 33 rd := (fr_46 _ (hμ.ne (i := 7) (j := 0) (by decide) (by decide) (by decide)) (hμ.ne (i := 7) (j := 4) (by decide) (by decide) (by decide))).trans hM_40
        have hM_51 : M_43 (μ 8) = cC ca 60 pa := (fr_46 _ (hμ.ne (i := 8) (j := 0) (by decide) (by decide) (by decide)) (hμ.ne (i := 8) (j := 4) (by decide) (by decide) (by decide))).trans hM_41
        have hM_52 : M_43 (μ 2) = cI ca 110 g := (fr_46 _ (hμ.ne (i := 2) (j := 0) (by decide) (by decide) (by decide)) (hμ.ne (i := 2) (j := 4) (by decide) (by decide) (by decide))).trans hM_42
        have hM_53 : M_43 (μ 1) = cI ca 110 g_33 := (fr_46 _ (hμ.ne (i := 1) (j := 0) (by decide) (by decide) (by decide)) (hμ.ne (i := 1) (j := 4) (by decide) (by decide) (by decide))).trans hM_31
        refine g_st (st' := [.int (iI (g ((70 + 10 * i) + 1)))]) rfl ?_
        subst hg_34 hg_18
        exact g_iret X hret ⟨Nat.le_of_ble_eq_true rfl, Nat.le_of_ble_eq_true rfl⟩ dX6_stride_102 ⟨by rw [anStride, if_pos h_1, if_pos h_2], rfl, by rw [opStride, if_pos ⟨h_1, h_2⟩, strG, if_neg (by first | omega | (dsimp only; omega))]; exact ⟨(up q 1 (recN (q 1))), _, _, _, rfl, rfl, hM_44, hM_53, hM_52, hM_47, hM_45, hM_48, hM_49, hM_50, hM_51⟩, (fun b hb => ((fr_46 b (hb 0 (by decide)) (hb 4 (by decide))).trans ((fr_32 b (hb 1 (by decide))).trans ((fr_16 b (hb 1 (by decide))).trans (fr_5 b (hb 2 (by decide)))))))⟩
      · refine g_aload_n X 2 rfl dX6_stride_70 rfl ?_
        refine g_get X cl_X6 0 (by decide) wf_X6_7 rfl (hμ.mem 0 (by decide)) hM_19 rfl dX6_stride_71 rfl ?_
        refine g_iload_n X 1 rfl dX6_stride_74 rfl ?_
        refine g_iconst X (z := 0) dX6_stride_75 rfl ?_
        refine g_iadd X dX6_stride_76 rfl ?_
        refine g_st (st' := [.int (iI (70 + 10 * i)), .ref (μ 1), .int (iI ((70 + 10 * i) + 4)), .ref (μ 1)]) (by rw [Int.add_zero]) ?_
        refine g_iald X (hμ.mem 1 (by decide)) hM_15 ⟨by omega, by omega⟩ (by decide) dX6_stride_77 rfl ?_
        have hr_54 : g_17 (70 + 10 * i) = g (70 + 10 * i) := by rw [hg_18, up_ne _ _ (by omega)]
        refine g_st (st' := [.int (iI (g (70 + 10 * i))), .int (iI ((70 + 10 * i) + 4)), .ref (μ 1)]) (by rw [hr_54]) ?_
        refine g_goto X (n := 95) dX6_stride_78 (by decide) ?_
        refine g_iast X (hμ.mem 1 (by decide)) hM_15 ⟨by omega, by omega⟩ (by decide) dX6_stride_95 rfl (fun M_55 hM_56 fr_57 => ?_)
        obtain ⟨g_58, hg_59⟩ : ∃ x : Int → Int, x = up g_17 ((70 + 10 * i) + 4) (g (70 + 10 * i)) := ⟨_, rfl⟩
        rw [← hg_59] at hM_56
        have hM_60 : M_55 (μ 0) = .inr (6, [.ref (μ 1), .ref (μ 2), .ref (μ 3), .ref (μ 4), .ref (μ 5), .ref (μ 6), .ref (μ 7), .ref (μ 8), .int (iI (q 0)), .int (iI (q 1)), .int (iI (q 2)), .int (iI (q 3))]) := (fr_57 (μ 0) (hμ.ne (i := 0) (j := 1) (by decide) (by decide) (by decide))).trans hM_19
        have hM_61 : M_55 (μ 3) = cI ca 110 tr := (fr_57 (μ 3) (hμ.ne (i := 3) (j := 1) (by decide) (by decide) (by decide))).trans hM_20
        have hM_62 : M_55 (μ 4) = cI ca 660 be := (fr_57 (μ 4) (hμ.ne (i := 4) (j := 1) (by decide) (by decide) (by decide))).trans hM_21
        have hM_63 : M_55 (μ 5) = cI ca 220 sa := (fr_57 (μ 5) (hμ.ne (i := 5) (j := 1) (by decide) (by decide) (by decide))).trans hM_22
        have hM_64 : M_55 (μ 6) = cZ ca 2 iz := (fr_57 (μ 6) (hμ.ne (i := 6) (j := 1) (by decide) (by decide) (by decide))).trans hM_23
        have hM_65 : M_55 (μ 7) = cI ca 33 rd := (fr_57 (μ 7) (hμ.ne (i := 7) (j := 1) (by decide) (by decide) (by decide))).trans hM_24
        have hM_66 : M_55 (μ 8) = cC ca 60 pa := (fr_57 (μ 8) (hμ.ne (i := 8) (j := 1) (by decide) (by decide) (by decide))).trans hM_25
        have hM_67 : M_55 (μ 2) = cI ca 110 g := (fr_57 (μ 2) (hμ.ne (i := 2) (j := 1) (by decide) (by decide) (by decide))).trans hM_26
        refine g_aload_n X 2 rfl dX6_stride_96 rfl ?_
        refine g_iload X 0 rfl dX6_stride_97 rfl ?_
        refine g_callV X (ct_X6_recorded l μ q g_58 g be (g ((70 + 10 * i) + 1))) (As := [.int (iI (g ((70 + 10 * i) + 1)))]) (rest := []) cl_X6 rfl ca_X6_recorded rfl wm_X6_85 wi_X6_recorded ws_X6_recorded wc_X6_recorded w0_X6 ⟨by decide, by decide⟩ (hμ.mem 0 (by decide)) hM_60 (by decide) ⟨by decide, by decide⟩ rfl dX6_stride_99 rfl ⟨rfl, hμ, hM_60, hM_56, hM_67, hM_62, hq1.1, hq1.2⟩ (fun r1 L1 M_68 hq => ?_)
        obtain ⟨rfl, rfl, hM_69, hM_70, fr_71⟩ := hq
        have hM_72 : M_68 (μ 3) = cI ca 110 tr := (fr_71 _ (hμ.ne (i := 3) (j := 0) (by decide) (by decide) (by decide)) (hμ.ne (i := 3) (j := 4) (by decide) (by decide) (by decide))).trans hM_61
        have hM_73 : M_68 (μ 5) = cI ca 220 sa := (fr_71 _ (hμ.ne (i := 5) (j := 0) (by decide) (by decide) (by decide)) (hμ.ne (i := 5) (j := 4) (by decide) (by decide) (by decide))).trans hM_63
        have hM_74 : M_68 (μ 6) = cZ ca 2 iz := (fr_71 _ (hμ.ne (i := 6) (j := 0) (by decide) (by decide) (by decide)) (hμ.ne (i := 6) (j := 4) (by decide) (by decide) (by decide))).trans hM_64
        have hM_75 : M_68 (μ 7) = cI ca 33 rd := (fr_71 _ (hμ.ne (i := 7) (j := 0) (by decide) (by decide) (by decide)) (hμ.ne (i := 7) (j := 4) (by decide) (by decide) (by decide))).trans hM_65
        have hM_76 : M_68 (μ 8) = cC ca 60 pa := (fr_71 _ (hμ.ne (i := 8) (j := 0) (by decide) (by decide) (by decide)) (hμ.ne (i := 8) (j := 4) (by decide) (by decide) (by decide))).trans hM_66
        have hM_77 : M_68 (μ 2) = cI ca 110 g := (fr_71 _ (hμ.ne (i := 2) (j := 0) (by decide) (by decide) (by decide)) (hμ.ne (i := 2) (j := 4) (by decide) (by decide) (by decide))).trans hM_67
        have hM_78 : M_68 (μ 1) = cI ca 110 g_58 := (fr_71 _ (hμ.ne (i := 1) (j := 0) (by decide) (by decide) (by decide)) (hμ.ne (i := 1) (j := 4) (by decide) (by decide) (by decide))).trans hM_56
        refine g_st (st' := [.int (iI (g ((70 + 10 * i) + 1)))]) rfl ?_
        subst hg_59 hg_18
        exact g_iret X hret ⟨Nat.le_of_ble_eq_true rfl, Nat.le_of_ble_eq_true rfl⟩ dX6_stride_102 ⟨by rw [anStride, if_pos h_1, if_pos h_2], rfl, by rw [opStride, if_pos ⟨h_1, h_2⟩, strG, if_pos (by first | omega | (dsimp only; omega))]; exact ⟨(up q 1 (recN (q 1))), _, _, _, rfl, rfl, hM_69, hM_78, hM_77, hM_72, hM_70, hM_73, hM_74, hM_75, hM_76⟩, (fun b hb => ((fr_71 b (hb 0 (by decide)) (hb 4 (by decide))).trans ((fr_57 b (hb 1 (by decide))).trans ((fr_16 b (hb 1 (by decide))).trans (fr_5 b (hb 2 (by decide)))))))⟩
    · refine g_bipush X (z := -2) (by decide +kernel) dX6_stride_21 rfl ?_
      exact g_iret X hret ⟨Nat.le_of_ble_eq_true rfl, Nat.le_of_ble_eq_true rfl⟩ dX6_stride_23 ⟨by rw [anStride, if_pos h_1, if_neg h_2], rfl, by rw [opStride, if_neg (fun q => h_2 q.2)]; exact ⟨q, _, _, _, rfl, rfl, hMo, hMs, hM2, hM3, hM4, hM5, hM6, hM7, hM8⟩, (fun b hb => rfl)⟩
  · refine g_iconst X (z := -1) dX6_stride_8 rfl ?_
    exact g_iret X hret ⟨Nat.le_of_ble_eq_true rfl, Nat.le_of_ble_eq_true rfl⟩ dX6_stride_9 ⟨by rw [anStride, if_neg h_1], rfl, by rw [opStride, if_neg (fun q => h_1 q.1)]; exact ⟨q, _, _, _, rfl, rfl, hMo, hMs, hM2, hM3, hM4, hM5, hM6, hM7, hM8⟩, (fun b hb => rfl)⟩
end
section
/-! ===== drops, runs, what-ifs: the reference's numbers ===== -/
def shr (a b : Int) (g : Int → Int) : Int → Int := fun k => if a ≤ k ∧ k < b then g (k + 10) else g k
theorem shr_0 (a : Int) (g : Int → Int) : shr a a g = g := funext fun k => if_neg (by omega)
theorem shr_up {a b : Int} (g : Int → Int) (h : a ≤ b) : up (shr a b g) b (g (b + 10)) = shr a (b + 1) g := by
  funext j
  simp only [up, shr]
  by_cases h1 : j = b
  · subst h1; rw [if_pos rfl, if_pos (by omega)]
  · rw [if_neg h1]
    by_cases h2 : a ≤ j ∧ j < b
    · rw [if_pos h2, if_pos (by omega)]
    · rw [if_neg h2, if_neg (by omega)]
theorem shr_out {a b k : Int} (g : Int → Int) (h : ¬ (a ≤ k ∧ k < b)) : shr a b g k = g k := if_neg h
def ownV (i v : Int) : Int := if v = i then -1 else if v > i then v - 1 else v
def own (n i : Int) (g : Int → Int) : Int → Int := fun k => if 7 ≤ k ∧ k < 7 + 4 * n ∧ (k - 7) % 4 = 0 then ownV i (g k) else g k
theorem own_0 (i : Int) (g : Int → Int) : own 0 i g = g := funext fun k => if_neg (by omega)
theorem own_up {n i : Int} (g : Int → Int) (h : 0 ≤ n) : up (own n i g) (6 + 4 * n + 1) (ownV i (g (6 + 4 * n + 1))) = own (n + 1) i g := by
  funext j
  simp only [up, own]
  by_cases h1 : j = 6 + 4 * n + 1
  · subst h1; rw [if_pos rfl, if_pos (by omega)]
  · rw [if_neg h1]
    by_cases h2 : 7 ≤ j ∧ j < 7 + 4 * n ∧ (j - 7) % 4 = 0
    · rw [if_pos h2, if_pos (by omega)]
    · rw [if_neg h2, if_neg (by omega)]
theorem own_out {n i k : Int} (g : Int → Int) (h : ¬ (7 ≤ k ∧ k < 7 + 4 * n ∧ (k - 7) % 4 = 0)) : own n i g k = g k := if_neg h
def dropG (g : Int → Int) (i : Int) : Int → Int := up (own 16 i (shr (70 + 10 * i) (70 + 10 * (g 5 - 1)) g)) 5 (g 5 - 1)
def anDrop (S : AS) (i : Int) : Int := if isStr S.1 i then S.1 (70 + 10 * i + 3) else -1
def opDrop (S : AS) (i : Int) : AS := if isStr S.1 i then chg S (dropG S.1 i) else S
def itG (g : Int → Int) : Nat → (Int → Int)
  | 0 => g
  | k + 1 => cycG (itG g k)
def itR (g : Int → Int) : Nat → Int
  | 0 => 0
  | k + 1 => itR g k + cycR (itG g k)
theorem itG_ok {g : Int → Int} (hI : Inv g) : ∀ k : Nat, g 4 + k ≤ 1000000 → Inv (itG g k) ∧ itG g k 4 = g 4 + k ∧ itG g k 5 = g 5
  | 0, _ => ⟨hI, by simp only [itG]; omega, rfl⟩
  | k + 1, h => by
    obtain ⟨a, b, c⟩ := itG_ok hI k (by omega)
    obtain ⟨d, e, -⟩ := cyc_ok a (by omega)
    simp only [itG]
    exact ⟨d, by omega, by omega⟩
def anRun (S : AS) (c : Int) : Int := if 1 ≤ c ∧ c ≤ 500 then (if S.1 4 > 99999 - c then -4 else itR S.1 c.toNat) else -2
def opRun (S : AS) (c : Int) : AS := if (1 ≤ c ∧ c ≤ 500) ∧ ¬ S.1 4 > 99999 - c then chg S (itG S.1 c.toNat) else S
/-- a stream of the trial comes to a place -/
def cmG (n p i : Int) (tr g : Int → Int) : Int → Int := fun k => if 70 + 10 * p ≤ k ∧ k < 70 + 10 * p + n then tr (70 + 10 * i + (k - (70 + 10 * p))) else g k
theorem cmG_0 (p i : Int) (tr g : Int → Int) : cmG 0 p i tr g = g := funext fun k => if_neg (by omega)
theorem cmG_up {n : Int} (p i : Int) (tr g : Int → Int) (h : 0 ≤ n) : up (cmG n p i tr g) (70 + 10 * p + n) (tr (70 + 10 * i + n)) = cmG (n + 1) p i tr g := by
  funext j
  simp only [up, cmG]
  by_cases h1 : j = 70 + 10 * p + n
  · subst h1; rw [if_pos rfl, if_pos (by omega), show 70 + 10 * p + n - (70 + 10 * p) = n by omega]
  · rw [if_neg h1]
    by_cases h2 : 70 + 10 * p ≤ j ∧ j < 70 + 10 * p + n
    · rw [if_pos h2, if_pos (by omega)]
    · rw [if_neg h2, if_neg (by omega)]
/-- what beginning anew needs -/
def InvL (g : Int → Int) : Prop := ∀ i, 0 ≤ i → i < g 5 → (0 ≤ g (70 + 10 * i) ∧ g (70 + 10 * i) < 4096) ∧ (0 ≤ g (70 + 10 * i + 1) ∧ g (70 + 10 * i + 1) < 1024) ∧ (1 ≤ g (70 + 10 * i + 2) ∧ g (70 + 10 * i + 2) ≤ 200)
theorem Inv.L {g : Int → Int} (h : Inv g) : InvL g := fun i h0 h1 => by
  obtain ⟨a, b, c, -⟩ := h.2.2 i h0 h1
  exact ⟨a, b, c⟩
theorem bgaS_row (g : Int → Int) : ∀ (k : Nat) (j : Int), 0 ≤ j →
    bgaS g k (70 + 10 * j) = g (70 + 10 * j) ∧ bgaS g k (70 + 10 * j + 1) = g (70 + 10 * j + 1) ∧ bgaS g k (70 + 10 * j + 2) = g (70 + 10 * j + 2) ∧
    (j < k → bgaS g k (70 + 10 * j + 3) = g (70 + 10 * j + 2) ∧ bgaS g k (70 + 10 * j + 4) = g (70 + 10 * j) ∧ bgaS g k (70 + 10 * j + 5) = -1 ∧ bgaS g k (70 + 10 * j + 6) = 0 ∧ bgaS g k (70 + 10 * j + 7) = 0 ∧ bgaS g k (70 + 10 * j + 8) = -1)
  | 0, j, _ => ⟨rfl, rfl, rfl, fun h => by omega⟩
  | k + 1, j, h => by
    obtain ⟨a, b, c, d⟩ := bgaS_row g k j h
    simp only [bgaS]
    by_cases hj : (k : Int) = j
    · subst hj
      obtain ⟨b3, b4, b5, b6, b7, b8⟩ := bgn_in (bgaS g k) k
      refine ⟨by rw [bgn_out _ (by omega), a], by rw [bgn_out _ (by omega), b], by rw [bgn_out _ (by omega), c], fun _ => ⟨by rw [b3, c], by rw [b4, a], b5, b6, b7, b8⟩⟩
    · refine ⟨by rw [bgn_out _ (by omega), a], by rw [bgn_out _ (by omega), b], by rw [bgn_out _ (by omega), c], fun hk => ?_⟩
      obtain ⟨d3, d4, d5, d6, d7, d8⟩ := d (by omega)
      exact ⟨by rw [bgn_out _ (by omega), d3], by rw [bgn_out _ (by omega), d4], by rw [bgn_out _ (by omega), d5], by rw [bgn_out _ (by omega), d6], by rw [bgn_out _ (by omega), d7], by rw [bgn_out _ (by omega), d8]⟩
theorem bga_base (g : Int → Int) {k : Int} (h : 70 ≤ k) : clr 64 (up g 4 0) k = g k := by
  rw [clr, if_neg (by omega), up_ne _ _ (by omega)]
theorem bga_row (g : Int → Int) {j : Int} (hj : 0 ≤ j) :
    bgaG g (70 + 10 * j) = g (70 + 10 * j) ∧ bgaG g (70 + 10 * j + 1) = g (70 + 10 * j + 1) ∧ bgaG g (70 + 10 * j + 2) = g (70 + 10 * j + 2) ∧
    (j < g 5 → bgaG g (70 + 10 * j + 3) = g (70 + 10 * j + 2) ∧ bgaG g (70 + 10 * j + 4) = g (70 + 10 * j) ∧ bgaG g (70 + 10 * j + 5) = -1 ∧ bgaG g (70 + 10 * j + 6) = 0 ∧ bgaG g (70 + 10 * j + 7) = 0 ∧ bgaG g (70 + 10 * j + 8) = -1) := by
  obtain ⟨a, b, c, d⟩ := bgaS_row (clr 64 (up g 4 0)) (g 5).toNat j hj
  rw [bga_base g (by omega)] at a b c
  refine ⟨a, b, c, fun h => ?_⟩
  obtain ⟨d3, d4, d5, d6, d7, d8⟩ := d (by omega)
  rw [bga_base g (by omega)] at d3 d4
  exact ⟨d3, d4, d5, d6, d7, d8⟩
theorem bga_bank (g : Int → Int) {k : Int} (h0 : 6 ≤ k) (h1 : k < 70) : bgaG g k = 0 := by
  unfold bgaG
  rw [bgaS_low _ _ _ h1, clr, if_pos (by omega)]
theorem bga_cyc (g : Int → Int) : bgaG g 4 = 0 := by
  unfold bgaG
  rw [bgaS_low _ _ _ (by decide), clr, if_neg (by decide), up_eq]
theorem bga_inv {g : Int → Int} (hS : InvS g) (hL : InvL g) : Inv (bgaG g) := by
  obtain ⟨s0, s1, s2, s3, s4, s5⟩ := id hS
  have l := fun (k : Int) (h : k < 6) (h4 : k ≠ 4) => bga_low (g := g) h h4
  refine ⟨?_, ?_, ?_⟩
  · unfold InvS
    rw [l 0 (by decide) (by decide), l 1 (by decide) (by decide), l 2 (by decide) (by decide), l 3 (by decide) (by decide), l 5 (by decide) (by decide), bga_cyc]
    omega
  · intro b h0 h1
    rw [bga_bank g (k := 6 + 4 * b) (by omega) (by omega), bga_cyc, bga_bank g (k := 6 + 4 * b + 1) (by omega) (by omega)]
    omega
  · intro i h0 h1
    rw [l 5 (by decide) (by decide)] at h1
    obtain ⟨a, b, c, d⟩ := bga_row g h0
    obtain ⟨d3, d4, d5, d6, d7, d8⟩ := d h1
    have := hL i h0 h1
    unfold rowI
    rw [a, b, c, d3, d4, d5]
    omega
def cwG (g : Int → Int) (i v : Int) : Int → Int := up (up (cmG 10 0 i g g) (70 + 10 * 0 + 1) v) 5 1
def cwC (g : Int → Int) (i v : Int) : Int := roC 20000 (bgaG (cwG g i v))
theorem cw_ok {g : Int → Int} (hI : Inv g) {i v : Int} (h0 : 0 ≤ i) (h1 : i < g 5) (hv : 0 ≤ v ∧ v < 1024) : InvS (cwG g i v) ∧ InvL (cwG g i v) ∧ cwG g i v 5 = 1 := by
  obtain ⟨s0, s1, s2, s3, s4, s5⟩ := id hI.1
  have c : ∀ k, k < 70 → k ≠ 5 → cwG g i v k = g k := fun k hk h5 => by
    rw [cwG, up_ne _ _ h5, up_ne _ _ (by omega), cmG, if_neg (by omega)]
  have c5 : cwG g i v 5 = 1 := up_eq _ _ _
  refine ⟨?_, ?_, c5⟩
  · unfold InvS
    rw [c 0 (by decide) (by decide), c 1 (by decide) (by decide), c 2 (by decide) (by decide), c 3 (by decide) (by decide), c 4 (by decide) (by decide), c5]
    omega
  · intro j hj0 hj1
    rw [c5] at hj1
    have hj : j = 0 := by omega
    subst hj
    obtain ⟨a, b, d⟩ := hI.L i h0 h1
    have e0 : cwG g i v (70 + 10 * 0) = g (70 + 10 * i) := by
      rw [cwG, up_ne _ _ (by omega), up_ne _ _ (by omega), cmG, if_pos (by omega), Int.sub_self, Int.add_zero]
    have e1 : cwG g i v (70 + 10 * 0 + 1) = v := by rw [cwG, up_ne _ _ (by omega), up_eq]
    have e2 : cwG g i v (70 + 10 * 0 + 2) = g (70 + 10 * i + 2) := by
      rw [cwG, up_ne _ _ (by omega), up_ne _ _ (by omega), cmG, if_pos (by omega), show (70 + 10 * 0 + 2 : Int) - (70 + 10 * 0) = 2 by omega]
    rw [e0, e1, e2]
    omega
def anAlone (S : AS) (i v : Int) : Int := if isStr S.1 i then (if 0 ≤ v ∧ v ≤ 1023 then cwC S.1 i v else -2) else -1
def bsF (g : Int → Int) (i a : Int) : Nat → Int × Int
  | 0 => (a, 1000000)
  | k + 1 => (if cwC g i (a + k) < (bsF g i a k).2 then a + k else (bsF g i a k).1, if cwC g i (a + k) < (bsF g i a k).2 then cwC g i (a + k) else (bsF g i a k).2)
def anBest (S : AS) (i a b : Int) : Int := if isStr S.1 i then (if (0 ≤ a ∧ a ≤ 1023) ∧ (a ≤ b ∧ b ≤ 1023) ∧ b ≤ a + 63 then (bsF S.1 i a (b + 1 - a).toNat).1 else -2) else -1
def mpC (g : Int → Int) (m : Int) : Int := roC 20000 (bgaG (up g 2 m))
def bmF (g : Int → Int) : Nat → Int × Int
  | 0 => (0, 1000000)
  | k + 1 => (if mpC g k < (bmF g k).2 then (k : Int) else (bmF g k).1, if mpC g k < (bmF g k).2 then mpC g k else (bmF g k).2)
def anMap (S : AS) (w : Int) : Int := if 0 ≤ w ∧ w ≤ 1 then (if w = 0 then (bmF S.1 3).1 else (bmF S.1 3).2) else -2
theorem mp_ok {g : Int → Int} (hI : Inv g) {m : Int} (hm : 0 ≤ m ∧ m ≤ 2) : InvS (up g 2 m) ∧ InvL (up g 2 m) ∧ up g 2 m 5 = g 5 := by
  obtain ⟨s0, s1, s2, s3, s4, s5⟩ := id hI.1
  have c : ∀ k, k ≠ 2 → up g 2 m k = g k := fun k hk => up_ne _ _ hk
  refine ⟨?_, ?_, c 5 (by decide)⟩
  · unfold InvS
    rw [c 0 (by decide), c 1 (by decide), up_eq, c 3 (by decide), c 4 (by decide), c 5 (by decide)]
    omega
  · intro j hj0 hj1
    rw [c 5 (by decide)] at hj1
    rw [c _ (by omega), c _ (by omega), c _ (by omega)]
    exact hI.L j hj0 hj1
theorem ro_rng {g : Int → Int} : ∀ n : Nat, 0 ≤ roC n g ∧ roC n g ≤ n := by
  intro n
  induction n generalizing g with
  | zero => simp only [roC]; omega
  | succ n ih =>
    simp only [roC]
    split
    · have := ih (g := cycG g); omega
    · omega
/-- of all streams: 7 done, 8 stalls, 9 clashes -/
def ofV (g : Int → Int) (w q : Int) : Int := if w = 7 then g (q + 2) - g (q + 3) else if w = 8 then g (q + 6) else g (q + 7)
def ofS (g : Int → Int) (w : Int) : Nat → Int
  | 0 => 0
  | k + 1 => ofS g w k + ofV g w (70 + 10 * (k : Int))
def ofG (g : Int → Int) (w : Int) : Int := ofS g w (g 5).toNat
def clG (g : Int → Int) (a b : Int) : Int → Int := up (cmG 10 1 (if a < b then b else a) g (cmG 10 0 (if a < b then a else b) g g)) 5 2
def clC (g : Int → Int) (a b : Int) : Int := ofG (roS 20000 (bgaG (clG g a b))) 9
def anClash (S : AS) (a b : Int) : Int := if isStr S.1 a ∧ isStr S.1 b then (if a = b then -2 else clC S.1 a b) else -1
theorem cl_ok {g : Int → Int} (hI : Inv g) {a b : Int} (ha : 0 ≤ a ∧ a < g 5) (hb : 0 ≤ b ∧ b < g 5) : InvS (clG g a b) ∧ InvL (clG g a b) ∧ clG g a b 5 = 2 := by
  obtain ⟨s0, s1, s2, s3, s4, s5⟩ := id hI.1
  have c : ∀ k, k < 70 → k ≠ 5 → clG g a b k = g k := fun k hk h5 => by
    rw [clG, up_ne _ _ h5, cmG, if_neg (by omega), cmG, if_neg (by omega)]
  have c5 : clG g a b 5 = 2 := up_eq _ _ _
  refine ⟨?_, ?_, c5⟩
  · unfold InvS
    rw [c 0 (by decide) (by decide), c 1 (by decide) (by decide), c 2 (by decide) (by decide), c 3 (by decide) (by decide), c 4 (by decide) (by decide), c5]
    omega
  · intro j hj0 hj1
    rw [c5] at hj1
    have key : ∀ k, 0 ≤ k → k < 10 → clG g a b (70 + 10 * j + k) = g (70 + 10 * (if j = 0 then (if a < b then a else b) else (if a < b then b else a)) + k) := by
      intro k h0 h1
      rw [clG, up_ne _ _ (by omega)]
      rcases (by omega : j = 0 ∨ j = 1) with h | h
      · subst h
        rw [cmG, if_neg (by omega), cmG, if_pos (by omega), if_pos rfl]
        congr 1; omega
      · subst h
        rw [cmG, if_pos (by omega), if_neg (show ¬ (1 : Int) = 0 by decide)]
        congr 1; omega
    have k0 := key 0 (by omega) (by omega)
    rw [Int.add_zero, Int.add_zero] at k0
    rw [k0, key 1 (by omega) (by omega), key 2 (by omega) (by omega)]
    refine hI.L _ ?_ ?_ <;> split <;> split <;> omega
theorem ro_inv {g : Int → Int} : ∀ n : Nat, Inv g → g 4 + n ≤ 1000000 → Inv (roS n g) ∧ roS n g 5 = g 5 := by
  intro n
  induction n generalizing g with
  | zero => exact fun h _ => ⟨h, rfl⟩
  | succ n ih =>
    intro h h4
    simp only [roS]
    split
    · obtain ⟨d, e, -⟩ := cyc_ok h (by omega)
      have := ih d (by omega)
      exact ⟨this.1, by rw [this.2]; exact e.2.2.2.2.2⟩
    · exact ⟨h, rfl⟩
def bsyG (g : Int → Int) (b : Int) : Int := if g (6 + 4 * b) - g 4 > 0 then g (6 + 4 * b) - g 4 else 0
def bbS (g : Int → Int) : Nat → Int
  | 0 => 0
  | k + 1 => bbS g k + if bsyG g k > 0 then 1 else 0
def bbG (g : Int → Int) : Int := bbS g (g 0).toNat
def wiR (g : Int → Int) (i b : Int) : Nat → Int
  | 0 => 0
  | k + 1 => wiR g i b k + if bkG g ((g (70 + 10 * i + 4) + (k : Int) * g (70 + 10 * i + 1)) % 4096) = b then 1 else 0
def wiS (g : Int → Int) (b : Int) : Nat → Int
  | 0 => 0
  | k + 1 => wiS g b k + wiR g k b (g (70 + 10 * (k : Int) + 3)).toNat
def wiG (g : Int → Int) (b : Int) : Int := wiS g b (g 5).toNat
def anBank (S : AS) (b w : Int) : Int := if 0 ≤ b ∧ b ≤ S.1 0 - 1 then (if w = 0 then bsyG S.1 b else if w = 1 then S.1 (6 + 4 * b + 2) else if w = 2 then S.1 (6 + 4 * b + 3) else if w = 3 then wiG S.1 b else -2) else -1
def anCount (S : AS) (w : Int) : Int := if 0 ≤ w ∧ w ≤ 5 then S.1 w else if w = 6 then wlG S.1 else if 7 ≤ w ∧ w ≤ 9 then ofG S.1 w else if w = 10 then bbG S.1 else if w = 11 then tGP (S.1 0) else if w = 12 then S.2.2.2.2.2.1 else if w = 13 then S.2.2.2.2.2.2 else -2
def anWipe (S : AS) : Int := S.2.2.2.2.2.1
def opWipe (S : AS) : AS := (S.1, S.2.1, S.2.2.1, S.2.2.2.1, S.2.2.2.2.1, 0, S.2.2.2.2.2.2)
def anUndo (S : AS) : Int := if S.2.2.2.2.2.2 = 0 then -5 else S.2.2.2.2.2.2 - 1
def blk (o : Int) (be : Int → Int) : Int → Int := fun k => be (o + k)
def opUndo (S : AS) : AS := if S.2.2.2.2.2.2 = 0 then S else (blk (110 * (S.2.2.2.2.2.2 - 1)) S.2.1, S.2.1, S.2.2.1, S.2.2.2.1, S.2.2.2.2.1, S.2.2.2.2.2.1, S.2.2.2.2.2.2 - 1)
def anSave (S : AS) (k : Int) : Int := if 0 ≤ k ∧ k ≤ 1 then S.1 4 else -2
def opSave (S : AS) (k : Int) : AS := if 0 ≤ k ∧ k ≤ 1 then (S.1, S.2.1, pbl 110 (110 * k) S.2.2.1 S.1, up S.2.2.2.1 k 1, S.2.2.2.2.1, S.2.2.2.2.2.1, S.2.2.2.2.2.2) else S
def anRestore (S : AS) (k : Int) : Int := if 0 ≤ k ∧ k ≤ 1 then (if S.2.2.2.1 k = 0 then -5 else S.2.2.1 (110 * k + 4)) else -2
def opRestore (S : AS) (k : Int) : AS := if (0 ≤ k ∧ k ≤ 1) ∧ S.2.2.2.1 k ≠ 0 then chg S (blk (110 * k) S.2.2.1) else S
end
section
/-! the reference: drops, runs, what-ifs -/
set_option maxRecDepth 100000 in
set_option maxHeartbeats 4000000 in
theorem ct_X6_drop (l : Launch) (μ : Nat → Nat) (q g : Int → Int) (sp tr be sa iz rd pa : Int → Int) (i : Int) : Ct l yX6_drop cX6_drop 5 (some .int) 2 0 0 (fun ca av L M => av = [.ref (μ 0), .int (iI i)] ∧ MuOk μ L ∧ M (μ 0) = oMd μ q ∧ M (μ 1) = cI ca 110 g ∧ M (μ 2) = cI ca 110 sp ∧ M (μ 3) = cI ca 110 tr ∧ M (μ 4) = cI ca 660 be ∧ M (μ 5) = cI ca 220 sa ∧ M (μ 6) = cZ ca 2 iz ∧ M (μ 7) = cI ca 33 rd ∧ M (μ 8) = cC ca 60 pa ∧ Inv g ∧ (0 ≤ q 0 ∧ q 0 ≤ 60) ∧ (0 ≤ q 1 ∧ q 1 ≤ 6) ∧ R32 i) (fun ca av L M r L1 M1 => r = some (.int (iI (anDrop (g, be, sa, iz, pa, q 0, q 1) i))) ∧ L = L1 ∧ Md ca M1 μ (opDrop (g, be, sa, iz, pa, q 0, q 1) i) ∧ ∀ b, (∀ i, i < 9 → b ≠ μ i) → M1 b = M b) := by
  refine Ct_of (own := RX6) (by decide) rfl (by rintro _ _ _ _ ⟨rfl, _⟩; exact Nat.le_of_ble_eq_true rfl) ?_
  rintro p e s m args below meth c D ca A av L M ⟨rfl, hμ, hMo, hMs, hM2, hM3, hM4, hM5, hM6, hM7, hM8, hI, hq0, hq1, hi⟩ X hret hname
  refine g_lv (lv' := [(0, .ref (μ 0)), (1, .int (iI i))]) [0, 1] rfl ?_
  generalize hQ : MQ below _ args s _ _ A = Q
  obtain ⟨⟨i00, i01⟩, ⟨i10, i11⟩, ⟨i20, i21⟩, ⟨i30, i31⟩, ⟨i40, i41⟩, i50, i51⟩ := id hI.1
  have lp2 : ∀ (n : Nat) (v y : Int) (M1 : Mem) (f : Int → Int) (hin : isStr g i) (hv : v = g (70 + 10 * i + 3)) (hy0 : 0 ≤ y) (hy1 : y ≤ 16) (hf : f = own y i (shr (70 + 10 * i) (70 + 10 * (g 5 - 1)) g)) (n0 : M1 (μ 0) = .inr (6, [.ref (μ 1), .ref (μ 2), .ref (μ 3), .ref (μ 4), .ref (μ 5), .ref (μ 6), .ref (μ 7), .ref (μ 8), .int (iI (q 0)), .int (iI (q 1)), .int (iI (q 2)), .int (iI (q 3))])) (n1 : M1 (μ 1) = cI ca 110 f) (n2 : M1 (μ 2) = cI ca 110 g) (n3 : M1 (μ 3) = cI ca 110 tr) (n4 : M1 (μ 4) = cI ca 660 be) (n5 : M1 (μ 5) = cI ca 220 sa) (n6 : M1 (μ 6) = cZ ca 2 iz) (n7 : M1 (μ 7) = cI ca 33 rd) (n8 : M1 (μ 8) = cC ca 60 pa) (hfr : ∀ b, b ≠ μ 1 → b ≠ μ 2 → M1 b = M b) (hm : 16 - y < (n : Int)), G p l e (Rm 2 0 0) s m args below meth c D A 5 Q 0 0 L M1 69 [(0, .ref (μ 0)), (1, .int (iI i)), (2, .int (iI v)), (3, .int (iI y))] [] := by
    intro n
    induction n with
    | zero =>
      intro v y M1 f hin hv hy0 hy1 hf n0 n1 n2 n3 n4 n5 n6 n7 n8 hfr hm
      exfalso; omega
    | succ n ih =>
      intro v y M1 f hin hv hy0 hy1 hf n0 n1 n2 n3 n4 n5 n6 n7 n8 hfr hm
      have fo : y < 16 → f (6 + 4 * y + 1) = g (6 + 4 * y + 1) := fun h => by rw [hf, own_out _ (by omega), shr_out _ (by omega)]
      have f5 : f 5 = g 5 := by rw [hf, own_out _ (by omega), shr_out _ (by omega)]
      refine g_iload_n X 3 rfl dX6_drop_69 rfl ?_
      refine g_bipush X (z := 16) (by decide +kernel) dX6_drop_70 rfl ?_
      refine g_icmp_ge X ⟨by omega, by omega⟩ ⟨by decide, by decide⟩ (tgt := 130) dX6_drop_72 (by decide) rfl (fun h_1 => ?_) (fun h_1 => ?_)
      · refine g_aload_n X 0 rfl dX6_drop_130 rfl ?_
        refine g_get X cl_X6 0 (by decide) wf_X6_7 rfl (hμ.mem 0 (by decide)) n0 rfl dX6_drop_131 rfl ?_
        refine g_iconst X (z := 5) dX6_drop_134 rfl ?_
        refine g_dup2 X rfl rfl dX6_drop_135 rfl ?_
        refine g_iald X (hμ.mem 1 (by decide)) n1 ⟨by decide, by decide⟩ (by decide) dX6_drop_136 rfl ?_
        refine g_iconst X (z := 1) dX6_drop_137 rfl ?_
        refine g_isub X dX6_drop_138 rfl ?_
        refine g_iast X (hμ.mem 1 (by decide)) n1 ⟨by decide, by decide⟩ (by decide) dX6_drop_139 rfl (fun M_2 hM_3 fr_4 => ?_)
        obtain ⟨g_5, hg_6⟩ : ∃ x : Int → Int, x = up f 5 (f 5 - 1) := ⟨_, rfl⟩
        rw [← hg_6] at hM_3
        have hM_7 : M_2 (μ 0) = .inr (6, [.ref (μ 1), .ref (μ 2), .ref (μ 3), .ref (μ 4), .ref (μ 5), .ref (μ 6), .ref (μ 7), .ref (μ 8), .int (iI (q 0)), .int (iI (q 1)), .int (iI (q 2)), .int (iI (q 3))]) := (fr_4 (μ 0) (hμ.ne (i := 0) (j := 1) (by decide) (by decide) (by decide))).trans n0
        have hM_8 : M_2 (μ 2) = cI ca 110 g := (fr_4 (μ 2) (hμ.ne (i := 2) (j := 1) (by decide) (by decide) (by decide))).trans n2
        have hM_9 : M_2 (μ 3) = cI ca 110 tr := (fr_4 (μ 3) (hμ.ne (i := 3) (j := 1) (by decide) (by decide) (by decide))).trans n3
        have hM_10 : M_2 (μ 4) = cI ca 660 be := (fr_4 (μ 4) (hμ.ne (i := 4) (j := 1) (by decide) (by decide) (by decide))).trans n4
        have hM_11 : M_2 (μ 5) = cI ca 220 sa := (fr_4 (μ 5) (hμ.ne (i := 5) (j := 1) (by decide) (by decide) (by decide))).trans n5
        have hM_12 : M_2 (μ 6) = cZ ca 2 iz := (fr_4 (μ 6) (hμ.ne (i := 6) (j := 1) (by decide) (by decide) (by decide))).trans n6
        have hM_13 : M_2 (μ 7) = cI ca 33 rd := (fr_4 (μ 7) (hμ.ne (i := 7) (j := 1) (by decide) (by decide) (by decide))).trans n7
        have hM_14 : M_2 (μ 8) = cC ca 60 pa := (fr_4 (μ 8) (hμ.ne (i := 8) (j := 1) (by decide) (by decide) (by decide))).trans n8
        refine g_aload_n X 0 rfl dX6_drop_140 rfl ?_
        refine g_iload_n X 2 rfl dX6_drop_141 rfl ?_
        refine g_callV X (ct_X6_recorded l μ q g_5 g be v) (As := [.int (iI v)]) (rest := []) cl_X6 rfl ca_X6_recorded rfl wm_X6_85 wi_X6_recorded ws_X6_recorded wc_X6_recorded w0_X6 ⟨by decide, by decide⟩ (hμ.mem 0 (by decide)) hM_7 (by decide) ⟨by decide, by decide⟩ rfl dX6_drop_142 rfl ⟨rfl, hμ, hM_7, hM_3, hM_8, hM_10, hq1.1, hq1.2⟩ (fun r1 L1 M_15 hq => ?_)
        obtain ⟨rfl, rfl, hM_16, hM_17, fr_18⟩ := hq
        have hM_19 : M_15 (μ 2) = cI ca 110 g := (fr_18 _ (hμ.ne (i := 2) (j := 0) (by decide) (by decide) (by decide)) (hμ.ne (i := 2) (j := 4) (by decide) (by decide) (by decide))).trans hM_8
        have hM_20 : M_15 (μ 3) = cI ca 110 tr := (fr_18 _ (hμ.ne (i := 3) (j := 0) (by decide) (by decide) (by decide)) (hμ.ne (i := 3) (j := 4) (by decide) (by decide) (by decide))).trans hM_9
        have hM_21 : M_15 (μ 5) = cI ca 220 sa := (fr_18 _ (hμ.ne (i := 5) (j := 0) (by decide) (by decide) (by decide)) (hμ.ne (i := 5) (j := 4) (by decide) (by decide) (by decide))).trans hM_11
        have hM_22 : M_15 (μ 6) = cZ ca 2 iz := (fr_18 _ (hμ.ne (i := 6) (j := 0) (by decide) (by decide) (by decide)) (hμ.ne (i := 6) (j := 4) (by decide) (by decide) (by decide))).trans hM_12
        have hM_23 : M_15 (μ 7) = cI ca 33 rd := (fr_18 _ (hμ.ne (i := 7) (j := 0) (by decide) (by decide) (by decide)) (hμ.ne (i := 7) (j := 4) (by decide) (by decide) (by decide))).trans hM_13
        have hM_24 : M_15 (μ 8) = cC ca 60 pa := (fr_18 _ (hμ.ne (i := 8) (j := 0) (by decide) (by decide) (by decide)) (hμ.ne (i := 8) (j := 4) (by decide) (by decide) (by decide))).trans hM_14
        have hM_25 : M_15 (μ 1) = cI ca 110 g_5 := (fr_18 _ (hμ.ne (i := 1) (j := 0) (by decide) (by decide) (by decide)) (hμ.ne (i := 1) (j := 4) (by decide) (by decide) (by decide))).trans hM_3
        refine g_st (st' := [.int (iI v)]) rfl ?_
        subst hQ
        have hyy : y = 16 := by omega
        rw [hg_6, f5, hf, hyy] at hM_25
        exact g_iret X hret ⟨Nat.le_of_ble_eq_true rfl, Nat.le_of_ble_eq_true rfl⟩ dX6_drop_145 ⟨by rw [anDrop, if_pos hin, hv], rfl, by rw [opDrop, if_pos hin, dropG]; exact ⟨(up q 1 (recN (q 1))), _, _, _, rfl, rfl, hM_16, hM_25, hM_19, hM_20, hM_17, hM_21, hM_22, hM_23, hM_24⟩, (fun b hb => ((fr_18 b (hb 0 (by decide)) (hb 4 (by decide))).trans ((fr_4 b (hb 1 (by decide))).trans (hfr b (hb 1 (by decide)) (hb 2 (by decide))))))⟩
      · refine g_aload_n X 0 rfl dX6_drop_75 rfl ?_
        refine g_get X cl_X6 0 (by decide) wf_X6_7 rfl (hμ.mem 0 (by decide)) n0 rfl dX6_drop_76 rfl ?_
        refine g_iload_n X 3 rfl dX6_drop_79 rfl ?_
        have fo2 := fo (by omega)
        have hb2 := hI.2.1 y hy0 (by omega)
        refine g_callS X (ct_X6_b l y) (As := [.int (iI y)]) (rest := [.ref (μ 1)]) rfl ca_X6_b rfl wm_X6_59 wt_X6_b wc_X6_b w0_X6 ⟨by decide, by decide⟩ (Nat.le_of_ble_eq_true rfl) ⟨by decide, by decide⟩ rfl dX6_drop_80 rfl ⟨rfl, trivial⟩ (fun r1 L1 M1 hq => ?_)
        obtain ⟨rfl, rfl, rfl⟩ := hq
        refine g_st (st' := [.int (iI (6 + 4 * y)), .ref (μ 1)]) rfl ?_
        refine g_iconst X (z := 1) dX6_drop_83 rfl ?_
        refine g_iadd X dX6_drop_84 rfl ?_
        refine g_iald X (hμ.mem 1 (by decide)) n1 ⟨by omega, by omega⟩ (by decide) dX6_drop_85 rfl ?_
        refine g_istore X (lv' := [(4, .int (iI (f ((6 + 4 * y) + 1)))), (0, .ref (μ 0)), (1, .int (iI i)), (2, .int (iI v)), (3, .int (iI y))]) (by decide) rfl dX6_drop_86 rfl ?_
        refine g_aload_n X 1 rfl dX6_drop_88 rfl ?_
        refine g_get X cl_X6 0 (by decide) wf_X6_7 rfl (hμ.mem 0 (by decide)) n0 rfl dX6_drop_89 rfl ?_
        refine g_iload_n X 4 rfl dX6_drop_92 rfl ?_
        have fo2 := fo (by omega)
        have hb2 := hI.2.1 y hy0 (by omega)
        refine g_callS X (ct_X6_b l y) (As := [.int (iI y)]) (rest := [.ref (μ 1)]) rfl ca_X6_b rfl wm_X6_59 wt_X6_b wc_X6_b w0_X6 ⟨by decide, by decide⟩ (Nat.le_of_ble_eq_true rfl) ⟨by decide, by decide⟩ rfl dX6_drop_93 rfl ⟨rfl, trivial⟩ (fun r1 L1 M1 hq => ?_)
        obtain ⟨rfl, rfl, rfl⟩ := hq
        refine g_st (st' := [.int (iI (6 + 4 * y)), .ref (μ 1)]) rfl ?_
        refine g_iconst X (z := 1) dX6_drop_96 rfl ?_
        refine g_iadd X dX6_drop_97 rfl ?_
        refine g_iload X 0 rfl dX6_drop_98 rfl ?_
        refine g_iload_n X 2 rfl dX6_drop_100 rfl ?_
        refine g_icmp_ne X ⟨by omega, by omega⟩ hi (tgt := 108) dX6_drop_101 (by decide) rfl (fun h_26 => ?_) (fun h_26 => ?_)
        · refine g_iload X 0 rfl dX6_drop_108 rfl ?_
          refine g_iload_n X 2 rfl dX6_drop_110 rfl ?_
          refine g_icmp_le X ⟨by omega, by omega⟩ hi (tgt := 121) dX6_drop_111 (by decide) rfl (fun h_27 => ?_) (fun h_27 => ?_)
          · refine g_iload X 0 rfl dX6_drop_121 rfl ?_
            refine g_iast X (hμ.mem 1 (by decide)) n1 ⟨by omega, by omega⟩ (by decide) dX6_drop_123 rfl (fun M_28 hM_29 fr_30 => ?_)
            obtain ⟨g_31, hg_32⟩ : ∃ x : Int → Int, x = up f ((6 + 4 * y) + 1) (f ((6 + 4 * y) + 1)) := ⟨_, rfl⟩
            rw [← hg_32] at hM_29
            have hM_33 : M_28 (μ 0) = .inr (6, [.ref (μ 1), .ref (μ 2), .ref (μ 3), .ref (μ 4), .ref (μ 5), .ref (μ 6), .ref (μ 7), .ref (μ 8), .int (iI (q 0)), .int (iI (q 1)), .int (iI (q 2)), .int (iI (q 3))]) := (fr_30 (μ 0) (hμ.ne (i := 0) (j := 1) (by decide) (by decide) (by decide))).trans n0
            have hM_34 : M_28 (μ 2) = cI ca 110 g := (fr_30 (μ 2) (hμ.ne (i := 2) (j := 1) (by decide) (by decide) (by decide))).trans n2
            have hM_35 : M_28 (μ 3) = cI ca 110 tr := (fr_30 (μ 3) (hμ.ne (i := 3) (j := 1) (by decide) (by decide) (by decide))).trans n3
            have hM_36 : M_28 (μ 4) = cI ca 660 be := (fr_30 (μ 4) (hμ.ne (i := 4) (j := 1) (by decide) (by decide) (by decide))).trans n4
            have hM_37 : M_28 (μ 5) = cI ca 220 sa := (fr_30 (μ 5) (hμ.ne (i := 5) (j := 1) (by decide) (by decide) (by decide))).trans n5
            have hM_38 : M_28 (μ 6) = cZ ca 2 iz := (fr_30 (μ 6) (hμ.ne (i := 6) (j := 1) (by decide) (by decide) (by decide))).trans n6
            have hM_39 : M_28 (μ 7) = cI ca 33 rd := (fr_30 (μ 7) (hμ.ne (i := 7) (j := 1) (by decide) (by decide) (by decide))).trans n7
            have hM_40 : M_28 (μ 8) = cC ca 60 pa := (fr_30 (μ 8) (hμ.ne (i := 8) (j := 1) (by decide) (by decide) (by decide))).trans n8
            refine g_iinc X (lv' := [(3, .int (iI (y + 1))), (4, .int (iI (f ((6 + 4 * y) + 1)))), (0, .ref (μ 0)), (1, .int (iI i)), (2, .int (iI v))]) 4 rfl (by decide) rfl dX6_drop_124 rfl ?_
            refine g_goto X (n := 69) dX6_drop_127 (by decide) ?_
            refine g_lv (lv' := [(0, .ref (μ 0)), (1, .int (iI i)), (2, .int (iI v)), (3, .int (iI (y + 1)))]) [2, 3, 4, 0] rfl ?_
            exact ih _ _ _ _ hin hv (by omega) (by omega) (by rw [hg_32, ← own_up _ hy0, ← hf, show ownV i ((shr (70 + 10 * i) (70 + 10 * (g 5 - 1)) g) (6 + 4 * y + 1)) = f ((6 + 4 * y) + 1) from by rw [shr_out _ (by omega)]; (first | rw [fo2] | skip); rw [ownV, if_neg (by omega), if_neg (by omega)]]) hM_33 hM_29 hM_34 hM_35 hM_36 hM_37 hM_38 hM_39 hM_40 (fun b hb1 hb2 => ((fr_30 b hb1).trans (hfr b hb1 hb2))) (by omega)
          · refine g_iload X 0 rfl dX6_drop_114 rfl ?_
            refine g_iconst X (z := 1) dX6_drop_116 rfl ?_
            refine g_isub X dX6_drop_117 rfl ?_
            refine g_goto X (n := 123) dX6_drop_118 (by decide) ?_
            refine g_iast X (hμ.mem 1 (by decide)) n1 ⟨by omega, by omega⟩ (by decide) dX6_drop_123 rfl (fun M_41 hM_42 fr_43 => ?_)
            obtain ⟨g_44, hg_45⟩ : ∃ x : Int → Int, x = up f ((6 + 4 * y) + 1) (f ((6 + 4 * y) + 1) - 1) := ⟨_, rfl⟩
            rw [← hg_45] at hM_42
            have hM_46 : M_41 (μ 0) = .inr (6, [.ref (μ 1), .ref (μ 2), .ref (μ 3), .ref (μ 4), .ref (μ 5), .ref (μ 6), .ref (μ 7), .ref (μ 8), .int (iI (q 0)), .int (iI (q 1)), .int (iI (q 2)), .int (iI (q 3))]) := (fr_43 (μ 0) (hμ.ne (i := 0) (j := 1) (by decide) (by decide) (by decide))).trans n0
            have hM_47 : M_41 (μ 2) = cI ca 110 g := (fr_43 (μ 2) (hμ.ne (i := 2) (j := 1) (by decide) (by decide) (by decide))).trans n2
            have hM_48 : M_41 (μ 3) = cI ca 110 tr := (fr_43 (μ 3) (hμ.ne (i := 3) (j := 1) (by decide) (by decide) (by decide))).trans n3
            have hM_49 : M_41 (μ 4) = cI ca 660 be := (fr_43 (μ 4) (hμ.ne (i := 4) (j := 1) (by decide) (by decide) (by decide))).trans n4
            have hM_50 : M_41 (μ 5) = cI ca 220 sa := (fr_43 (μ 5) (hμ.ne (i := 5) (j := 1) (by decide) (by decide) (by decide))).trans n5
            have hM_51 : M_41 (μ 6) = cZ ca 2 iz := (fr_43 (μ 6) (hμ.ne (i := 6) (j := 1) (by decide) (by decide) (by decide))).trans n6
            have hM_52 : M_41 (μ 7) = cI ca 33 rd := (fr_43 (μ 7) (hμ.ne (i := 7) (j := 1) (by decide) (by decide) (by decide))).trans n7
            have hM_53 : M_41 (μ 8) = cC ca 60 pa := (fr_43 (μ 8) (hμ.ne (i := 8) (j := 1) (by decide) (by decide) (by decide))).trans n8
            refine g_iinc X (lv' := [(3, .int (iI (y + 1))), (4, .int (iI (f ((6 + 4 * y) + 1)))), (0, .ref (μ 0)), (1, .int (iI i)), (2, .int (iI v))]) 4 rfl (by decide) rfl dX6_drop_124 rfl ?_
            refine g_goto X (n := 69) dX6_drop_127 (by decide) ?_
            refine g_lv (lv' := [(0, .ref (μ 0)), (1, .int (iI i)), (2, .int (iI v)), (3, .int (iI (y + 1)))]) [2, 3, 4, 0] rfl ?_
            exact ih _ _ _ _ hin hv (by omega) (by omega) (by rw [hg_45, ← own_up _ hy0, ← hf, show ownV i ((shr (70 + 10 * i) (70 + 10 * (g 5 - 1)) g) (6 + 4 * y + 1)) = f ((6 + 4 * y) + 1) - 1 from by rw [shr_out _ (by omega)]; (first | rw [fo2] | skip); rw [ownV, if_neg (by omega), if_pos (by omega)]]) hM_46 hM_42 hM_47 hM_48 hM_49 hM_50 hM_51 hM_52 hM_53 (fun b hb1 hb2 => ((fr_43 b hb1).trans (hfr b hb1 hb2))) (by omega)
        · refine g_iconst X (z := -1) dX6_drop_104 rfl ?_
          refine g_goto X (n := 123) dX6_drop_105 (by decide) ?_
          refine g_iast X (hμ.mem 1 (by decide)) n1 ⟨by omega, by omega⟩ (by decide) dX6_drop_123 rfl (fun M_54 hM_55 fr_56 => ?_)
          obtain ⟨g_57, hg_58⟩ : ∃ x : Int → Int, x = up f ((6 + 4 * y) + 1) (-1) := ⟨_, rfl⟩
          rw [← hg_58] at hM_55
          have hM_59 : M_54 (μ 0) = .inr (6, [.ref (μ 1), .ref (μ 2), .ref (μ 3), .ref (μ 4), .ref (μ 5), .ref (μ 6), .ref (μ 7), .ref (μ 8), .int (iI (q 0)), .int (iI (q 1)), .int (iI (q 2)), .int (iI (q 3))]) := (fr_56 (μ 0) (hμ.ne (i := 0) (j := 1) (by decide) (by decide) (by decide))).trans n0
          have hM_60 : M_54 (μ 2) = cI ca 110 g := (fr_56 (μ 2) (hμ.ne (i := 2) (j := 1) (by decide) (by decide) (by decide))).trans n2
          have hM_61 : M_54 (μ 3) = cI ca 110 tr := (fr_56 (μ 3) (hμ.ne (i := 3) (j := 1) (by decide) (by decide) (by decide))).trans n3
          have hM_62 : M_54 (μ 4) = cI ca 660 be := (fr_56 (μ 4) (hμ.ne (i := 4) (j := 1) (by decide) (by decide) (by decide))).trans n4
          have hM_63 : M_54 (μ 5) = cI ca 220 sa := (fr_56 (μ 5) (hμ.ne (i := 5) (j := 1) (by decide) (by decide) (by decide))).trans n5
          have hM_64 : M_54 (μ 6) = cZ ca 2 iz := (fr_56 (μ 6) (hμ.ne (i := 6) (j := 1) (by decide) (by decide) (by decide))).trans n6
          have hM_65 : M_54 (μ 7) = cI ca 33 rd := (fr_56 (μ 7) (hμ.ne (i := 7) (j := 1) (by decide) (by decide) (by decide))).trans n7
          have hM_66 : M_54 (μ 8) = cC ca 60 pa := (fr_56 (μ 8) (hμ.ne (i := 8) (j := 1) (by decide) (by decide) (by decide))).trans n8
          refine g_iinc X (lv' := [(3, .int (iI (y + 1))), (4, .int (iI (f ((6 + 4 * y) + 1)))), (0, .ref (μ 0)), (1, .int (iI i)), (2, .int (iI v))]) 4 rfl (by decide) rfl dX6_drop_124 rfl ?_
          refine g_goto X (n := 69) dX6_drop_127 (by decide) ?_
          refine g_lv (lv' := [(0, .ref (μ 0)), (1, .int (iI i)), (2, .int (iI v)), (3, .int (iI (y + 1)))]) [2, 3, 4, 0] rfl ?_
          exact ih _ _ _ _ hin hv (by omega) (by omega) (by rw [hg_58, ← own_up _ hy0, ← hf, show ownV i ((shr (70 + 10 * i) (70 + 10 * (g 5 - 1)) g) (6 + 4 * y + 1)) = (-1) from by rw [shr_out _ (by omega)]; (first | rw [fo2] | skip); rw [ownV, if_pos (by omega)]]) hM_59 hM_55 hM_60 hM_61 hM_62 hM_63 hM_64 hM_65 hM_66 (fun b hb1 hb2 => ((fr_56 b hb1).trans (hfr b hb1 hb2))) (by omega)
  have lp1 : ∀ (n : Nat) (v y : Int) (M1 : Mem) (f : Int → Int) (hin : isStr g i) (hv : v = g (70 + 10 * i + 3)) (hy0 : 70 + 10 * i ≤ y) (hy1 : y ≤ 70 + 10 * (g 5 - 1)) (hf : f = shr (70 + 10 * i) y g) (n0 : M1 (μ 0) = .inr (6, [.ref (μ 1), .ref (μ 2), .ref (μ 3), .ref (μ 4), .ref (μ 5), .ref (μ 6), .ref (μ 7), .ref (μ 8), .int (iI (q 0)), .int (iI (q 1)), .int (iI (q 2)), .int (iI (q 3))])) (n1 : M1 (μ 1) = cI ca 110 f) (n2 : M1 (μ 2) = cI ca 110 g) (n3 : M1 (μ 3) = cI ca 110 tr) (n4 : M1 (μ 4) = cI ca 660 be) (n5 : M1 (μ 5) = cI ca 220 sa) (n6 : M1 (μ 6) = cZ ca 2 iz) (n7 : M1 (μ 7) = cI ca 33 rd) (n8 : M1 (μ 8) = cC ca 60 pa) (hfr : ∀ b, b ≠ μ 1 → b ≠ μ 2 → M1 b = M b) (hm : 70 + 10 * (g 5 - 1) - y < (n : Int)), G p l e (Rm 2 0 0) s m args below meth c D A 5 Q 0 0 L M1 31 [(0, .ref (μ 0)), (1, .int (iI i)), (2, .int (iI v)), (3, .int (iI y))] [] := by
    intro n
    induction n with
    | zero =>
      intro v y M1 f hin hv hy0 hy1 hf n0 n1 n2 n3 n4 n5 n6 n7 n8 hfr hm
      exfalso; omega
    | succ n ih =>
      intro v y M1 f hin hv hy0 hy1 hf n0 n1 n2 n3 n4 n5 n6 n7 n8 hfr hm
      have f5 : f 5 = g 5 := by rw [hf, shr_out _ (by omega)]
      refine g_iload_n X 3 rfl dX6_drop_31 rfl ?_
      refine g_aload_n X 0 rfl dX6_drop_32 rfl ?_
      refine g_get X cl_X6 0 (by decide) wf_X6_7 rfl (hμ.mem 0 (by decide)) n0 rfl dX6_drop_33 rfl ?_
      refine g_iconst X (z := 5) dX6_drop_36 rfl ?_
      refine g_iald X (hμ.mem 1 (by decide)) n1 ⟨by decide, by decide⟩ (by decide) dX6_drop_37 rfl ?_
      refine g_iconst X (z := 1) dX6_drop_38 rfl ?_
      refine g_isub X dX6_drop_39 rfl ?_
      refine g_callS X (ct_X6_m l (f 5 - 1)) (As := [.int (iI (f 5 - 1))]) (rest := [.int (iI y)]) rfl ca_X6_m rfl wm_X6_52 wt_X6_m wc_X6_m w0_X6 ⟨by decide, by decide⟩ (Nat.le_of_ble_eq_true rfl) ⟨by decide, by decide⟩ rfl dX6_drop_40 rfl ⟨rfl, trivial⟩ (fun r1 L1 M1 hq => ?_)
      obtain ⟨rfl, rfl, rfl⟩ := hq
      refine g_st (st' := [.int (iI (70 + 10 * (f 5 - 1))), .int (iI y)]) rfl ?_
      refine g_icmp_ge X ⟨by omega, by omega⟩ ⟨by omega, by omega⟩ (tgt := 67) dX6_drop_43 (by decide) rfl (fun h_67 => ?_) (fun h_67 => ?_)
      · refine g_iconst X (z := 0) dX6_drop_67 rfl ?_
        refine g_istore_n X (lv' := [(3, .int (iI 0)), (0, .ref (μ 0)), (1, .int (iI i)), (2, .int (iI v))]) (by decide) rfl dX6_drop_68 rfl ?_
        refine g_lv (lv' := [(0, .ref (μ 0)), (1, .int (iI i)), (2, .int (iI v)), (3, .int (iI 0))]) [1, 2, 3, 0] rfl ?_
        exact lp2 20 _ _ _ _ hin hv (by decide) (by decide) (by rw [own_0, hf, show y = 70 + 10 * (g 5 - 1) from by omega]) n0 n1 n2 n3 n4 n5 n6 n7 n8 (fun b hb1 hb2 => (hfr b hb1 hb2)) (by decide)
      · refine g_aload_n X 0 rfl dX6_drop_46 rfl ?_
        refine g_get X cl_X6 0 (by decide) wf_X6_7 rfl (hμ.mem 0 (by decide)) n0 rfl dX6_drop_47 rfl ?_
        refine g_iload_n X 3 rfl dX6_drop_50 rfl ?_
        refine g_aload_n X 0 rfl dX6_drop_51 rfl ?_
        refine g_get X cl_X6 0 (by decide) wf_X6_7 rfl (hμ.mem 0 (by decide)) n0 rfl dX6_drop_52 rfl ?_
        refine g_iload_n X 3 rfl dX6_drop_55 rfl ?_
        refine g_bipush X (z := 10) (by decide +kernel) dX6_drop_56 rfl ?_
        refine g_iadd X dX6_drop_58 rfl ?_
        refine g_iald X (hμ.mem 1 (by decide)) n1 ⟨by omega, by omega⟩ (by decide) dX6_drop_59 rfl ?_
        refine g_iast X (hμ.mem 1 (by decide)) n1 ⟨by omega, by omega⟩ (by decide) dX6_drop_60 rfl (fun M_68 hM_69 fr_70 => ?_)
        obtain ⟨g_71, hg_72⟩ : ∃ x : Int → Int, x = up f y (f (y + 10)) := ⟨_, rfl⟩
        rw [← hg_72] at hM_69
        have hM_73 : M_68 (μ 0) = .inr (6, [.ref (μ 1), .ref (μ 2), .ref (μ 3), .ref (μ 4), .ref (μ 5), .ref (μ 6), .ref (μ 7), .ref (μ 8), .int (iI (q 0)), .int (iI (q 1)), .int (iI (q 2)), .int (iI (q 3))]) := (fr_70 (μ 0) (hμ.ne (i := 0) (j := 1) (by decide) (by decide) (by decide))).trans n0
        have hM_74 : M_68 (μ 2) = cI ca 110 g := (fr_70 (μ 2) (hμ.ne (i := 2) (j := 1) (by decide) (by decide) (by decide))).trans n2
        have hM_75 : M_68 (μ 3) = cI ca 110 tr := (fr_70 (μ 3) (hμ.ne (i := 3) (j := 1) (by decide) (by decide) (by decide))).trans n3
        have hM_76 : M_68 (μ 4) = cI ca 660 be := (fr_70 (μ 4) (hμ.ne (i := 4) (j := 1) (by decide) (by decide) (by decide))).trans n4
        have hM_77 : M_68 (μ 5) = cI ca 220 sa := (fr_70 (μ 5) (hμ.ne (i := 5) (j := 1) (by decide) (by decide) (by decide))).trans n5
        have hM_78 : M_68 (μ 6) = cZ ca 2 iz := (fr_70 (μ 6) (hμ.ne (i := 6) (j := 1) (by decide) (by decide) (by decide))).trans n6
        have hM_79 : M_68 (μ 7) = cI ca 33 rd := (fr_70 (μ 7) (hμ.ne (i := 7) (j := 1) (by decide) (by decide) (by decide))).trans n7
        have hM_80 : M_68 (μ 8) = cC ca 60 pa := (fr_70 (μ 8) (hμ.ne (i := 8) (j := 1) (by decide) (by decide) (by decide))).trans n8
        refine g_iinc X (lv' := [(3, .int (iI (y + 1))), (0, .ref (μ 0)), (1, .int (iI i)), (2, .int (iI v))]) 3 rfl (by decide) rfl dX6_drop_61 rfl ?_
        refine g_goto X (n := 31) dX6_drop_64 (by decide) ?_
        refine g_lv (lv' := [(0, .ref (μ 0)), (1, .int (iI i)), (2, .int (iI v)), (3, .int (iI (y + 1)))]) [1, 2, 3, 0] rfl ?_
        exact ih _ _ _ _ hin hv (by omega) (by omega) (by rw [hg_72, hf, shr_out _ (by omega), shr_up _ (by omega)]) hM_73 hM_69 hM_74 hM_75 hM_76 hM_77 hM_78 hM_79 hM_80 (fun b hb1 hb2 => ((fr_70 b hb1).trans (hfr b hb1 hb2))) (by omega)
  refine g_aload_n X 0 rfl dX6_drop_0 rfl ?_
  refine g_iload_n X 1 rfl dX6_drop_1 rfl ?_
  refine g_callV X (ct_X6_isStream l μ q g i) (As := [.int (iI i)]) (rest := []) cl_X6 rfl ca_X6_isStream rfl wm_X6_92 wi_X6_isStream ws_X6_isStream wc_X6_isStream w0_X6 ⟨by decide, by decide⟩ (hμ.mem 0 (by decide)) hMo (by decide) ⟨by decide, by decide⟩ rfl dX6_drop_2 rfl ⟨rfl, hμ, hMo, hMs, hi, by omega, by omega⟩ (fun r1 L1 M1 hq => ?_)
  obtain ⟨rfl, rfl, rfl⟩ := hq
  refine g_st (st' := [.int (iI (if 0 ≤ i ∧ i ≤ g 5 - 1 then 1 else 0))]) rfl ?_
  refine g_if_neb X (tgt := 10) dX6_drop_5 (by decide) rfl (fun h_81 => ?_) (fun h_81 => ?_)
  · refine g_aload_n X 0 rfl dX6_drop_10 rfl ?_
    refine g_callV X (ct_X6_hold l μ q g sp) (As := []) (rest := []) cl_X6 rfl ca_X6_hold rfl wm_X6_79 wi_X6_hold ws_X6_hold wc_X6_hold w0_X6 ⟨by decide, by decide⟩ (hμ.mem 0 (by decide)) hMo (by decide) ⟨by decide, by decide⟩ rfl dX6_drop_11 rfl ⟨rfl, hμ, hMo, hMs, hM2⟩ (fun r1 L1 M_82 hq => ?_)
    obtain ⟨rfl, rfl, hM_83, fr_84⟩ := hq
    have hM_85 : M_82 (μ 0) = .inr (6, [.ref (μ 1), .ref (μ 2), .ref (μ 3), .ref (μ 4), .ref (μ 5), .ref (μ 6), .ref (μ 7), .ref (μ 8), .int (iI (q 0)), .int (iI (q 1)), .int (iI (q 2)), .int (iI (q 3))]) := (fr_84 (μ 0) (hμ.ne (i := 0) (j := 2) (by decide) (by decide) (by decide))).trans hMo
    have hM_86 : M_82 (μ 1) = cI ca 110 g := (fr_84 (μ 1) (hμ.ne (i := 1) (j := 2) (by decide) (by decide) (by decide))).trans hMs
    have hM_87 : M_82 (μ 3) = cI ca 110 tr := (fr_84 (μ 3) (hμ.ne (i := 3) (j := 2) (by decide) (by decide) (by decide))).trans hM3
    have hM_88 : M_82 (μ 4) = cI ca 660 be := (fr_84 (μ 4) (hμ.ne (i := 4) (j := 2) (by decide) (by decide) (by decide))).trans hM4
    have hM_89 : M_82 (μ 5) = cI ca 220 sa := (fr_84 (μ 5) (hμ.ne (i := 5) (j := 2) (by decide) (by decide) (by decide))).trans hM5
    have hM_90 : M_82 (μ 6) = cZ ca 2 iz := (fr_84 (μ 6) (hμ.ne (i := 6) (j := 2) (by decide) (by decide) (by decide))).trans hM6
    have hM_91 : M_82 (μ 7) = cI ca 33 rd := (fr_84 (μ 7) (hμ.ne (i := 7) (j := 2) (by decide) (by decide) (by decide))).trans hM7
    have hM_92 : M_82 (μ 8) = cC ca 60 pa := (fr_84 (μ 8) (hμ.ne (i := 8) (j := 2) (by decide) (by decide) (by decide))).trans hM8
    refine g_st (st' := []) rfl ?_
    refine g_aload_n X 0 rfl dX6_drop_14 rfl ?_
    refine g_get X cl_X6 0 (by decide) wf_X6_7 rfl (hμ.mem 0 (by decide)) hM_85 rfl dX6_drop_15 rfl ?_
    refine g_iload_n X 1 rfl dX6_drop_18 rfl ?_
    refine g_callS X (ct_X6_m l i) (As := [.int (iI i)]) (rest := [.ref (μ 1)]) rfl ca_X6_m rfl wm_X6_52 wt_X6_m wc_X6_m w0_X6 ⟨by decide, by decide⟩ (Nat.le_of_ble_eq_true rfl) ⟨by decide, by decide⟩ rfl dX6_drop_19 rfl ⟨rfl, trivial⟩ (fun r1 L1 M1 hq => ?_)
    obtain ⟨rfl, rfl, rfl⟩ := hq
    refine g_st (st' := [.int (iI (70 + 10 * i)), .ref (μ 1)]) rfl ?_
    refine g_iconst X (z := 3) dX6_drop_22 rfl ?_
    refine g_iadd X dX6_drop_23 rfl ?_
    refine g_iald X (hμ.mem 1 (by decide)) hM_86 ⟨by omega, by omega⟩ (by decide) dX6_drop_24 rfl ?_
    refine g_istore_n X (lv' := [(2, .int (iI (g ((70 + 10 * i) + 3)))), (0, .ref (μ 0)), (1, .int (iI i))]) (by decide) rfl dX6_drop_25 rfl ?_
    refine g_iload_n X 2 rfl dX6_drop_26 rfl ?_
    refine g_callS X (ct_X6_m l i) (As := [.int (iI i)]) (rest := []) rfl ca_X6_m rfl wm_X6_52 wt_X6_m wc_X6_m w0_X6 ⟨by decide, by decide⟩ (by decide) ⟨by decide, by decide⟩ rfl dX6_drop_27 rfl ⟨rfl, trivial⟩ (fun r1 L1 M1 hq => ?_)
    obtain ⟨rfl, rfl, rfl⟩ := hq
    refine g_st (st' := [.int (iI (70 + 10 * i))]) rfl ?_
    refine g_istore_n X (lv' := [(3, .int (iI (70 + 10 * i))), (2, .int (iI (g ((70 + 10 * i) + 3)))), (0, .ref (μ 0)), (1, .int (iI i))]) (by decide) rfl dX6_drop_30 rfl ?_
    have hin : isStr g i := h_81
    refine g_lv (lv' := [(0, .ref (μ 0)), (1, .int (iI i)), (2, .int (iI (g ((70 + 10 * i) + 3)))), (3, .int (iI (70 + 10 * i)))]) [2, 3, 1, 0] rfl ?_
    exact lp1 50 _ _ _ _ hin rfl (by omega) (by omega) (by rw [shr_0]) hM_85 hM_86 hM_83 hM_87 hM_88 hM_89 hM_90 hM_91 hM_92 (fun b hb1 hb2 => (fr_84 b hb2)) (by omega)
  · refine g_iconst X (z := -1) dX6_drop_8 rfl ?_
    subst hQ
    exact g_iret X hret ⟨Nat.le_of_ble_eq_true rfl, Nat.le_of_ble_eq_true rfl⟩ dX6_drop_9 ⟨by rw [anDrop, if_neg h_81], rfl, by rw [opDrop, if_neg h_81]; exact ⟨q, _, _, _, rfl, rfl, hMo, hMs, hM2, hM3, hM4, hM5, hM6, hM7, hM8⟩, (fun b hb => rfl)⟩
set_option maxRecDepth 100000 in
set_option maxHeartbeats 4000000 in
theorem ct_X6_run (l : Launch) (μ : Nat → Nat) (q g : Int → Int) (sp tr be sa iz rd pa : Int → Int) (v : Int) : Ct l yX6_run cX6_run 4 (some .int) 5 0 0 (fun ca av L M => av = [.ref (μ 0), .int (iI v)] ∧ MuOk μ L ∧ M (μ 0) = oMd μ q ∧ M (μ 1) = cI ca 110 g ∧ M (μ 2) = cI ca 110 sp ∧ M (μ 3) = cI ca 110 tr ∧ M (μ 4) = cI ca 660 be ∧ M (μ 5) = cI ca 220 sa ∧ M (μ 6) = cZ ca 2 iz ∧ M (μ 7) = cI ca 33 rd ∧ M (μ 8) = cC ca 60 pa ∧ Inv g ∧ (0 ≤ q 0 ∧ q 0 ≤ 60) ∧ (0 ≤ q 1 ∧ q 1 ≤ 6) ∧ R32 v ∧ g 4 ≤ 99999) (fun ca av L M r L1 M1 => r = some (.int (iI (anRun (g, be, sa, iz, pa, q 0, q 1) v))) ∧ L = L1 ∧ Md ca M1 μ (opRun (g, be, sa, iz, pa, q 0, q 1) v) ∧ ∀ b, (∀ i, i < 9 → b ≠ μ i) → M1 b = M b) := by
  refine Ct_of (own := RX6) (by decide) rfl (by rintro _ _ _ _ ⟨rfl, _⟩; exact Nat.le_of_ble_eq_true rfl) ?_
  rintro p e s m args below meth c D ca A av L M ⟨rfl, hμ, hMo, hMs, hM2, hM3, hM4, hM5, hM6, hM7, hM8, hI, hq0, hq1, hv, hc4⟩ X hret hname
  refine g_lv (lv' := [(0, .ref (μ 0)), (1, .int (iI v))]) [0, 1] rfl ?_
  generalize hQ : MQ below _ args s _ _ A = Q
  obtain ⟨⟨i00, i01⟩, ⟨i10, i11⟩, ⟨i20, i21⟩, ⟨i30, i31⟩, ⟨i40, i41⟩, i50, i51⟩ := id hI.1
  have lp : ∀ (n : Nat) (k : Nat) (z y : Int) (M1 : Mem) (f : Int → Int) (hv1 : 1 ≤ v ∧ v ≤ 500) (hv2 : ¬ g 4 > 99999 - v) (hy : y = k) (hyv : y ≤ v) (hf : f = itG g k) (hz : z = itR g k) (n0 : M1 (μ 0) = .inr (6, [.ref (μ 1), .ref (μ 2), .ref (μ 3), .ref (μ 4), .ref (μ 5), .ref (μ 6), .ref (μ 7), .ref (μ 8), .int (iI (q 0)), .int (iI (q 1)), .int (iI (q 2)), .int (iI (q 3))])) (n1 : M1 (μ 1) = cI ca 110 f) (n2 : M1 (μ 2) = cI ca 110 g) (n3 : M1 (μ 3) = cI ca 110 tr) (n4 : M1 (μ 4) = cI ca 660 be) (n5 : M1 (μ 5) = cI ca 220 sa) (n6 : M1 (μ 6) = cZ ca 2 iz) (n7 : M1 (μ 7) = cI ca 33 rd) (n8 : M1 (μ 8) = cC ca 60 pa) (hfr : ∀ b, b ≠ μ 1 → b ≠ μ 2 → M1 b = M b) (hm : v - y < (n : Int)), G p l e (Rm 5 0 0) s m args below meth c D A 4 Q 0 0 L M1 38 [(0, .ref (μ 0)), (1, .int (iI v)), (2, .int (iI z)), (3, .int (iI y))] [] := by
    intro n
    induction n with
    | zero =>
      intro k z y M1 f hv1 hv2 hy hyv hf hz n0 n1 n2 n3 n4 n5 n6 n7 n8 hfr hm
      exfalso; omega
    | succ n ih =>
      intro k z y M1 f hv1 hv2 hy hyv hf hz n0 n1 n2 n3 n4 n5 n6 n7 n8 hfr hm
      have ok := itG_ok hI k (by omega)
      have hfI : Inv f := by rw [hf]; exact ok.1
      have f4 : f 4 = g 4 + k := by rw [hf]; exact ok.2.1
      refine g_iload_n X 3 rfl dX6_run_38 rfl ?_
      refine g_iload_n X 1 rfl dX6_run_39 rfl ?_
      refine g_icmp_ge X ⟨by omega, by omega⟩ hv (tgt := 56) dX6_run_40 (by decide) rfl (fun h_1 => ?_) (fun h_1 => ?_)
      · refine g_aload_n X 0 rfl dX6_run_56 rfl ?_
        refine g_iload_n X 2 rfl dX6_run_57 rfl ?_
        refine g_callV X (ct_X6_recorded l μ q f g be z) (As := [.int (iI z)]) (rest := []) cl_X6 rfl ca_X6_recorded rfl wm_X6_85 wi_X6_recorded ws_X6_recorded wc_X6_recorded w0_X6 ⟨by decide, by decide⟩ (hμ.mem 0 (by decide)) n0 (by decide) ⟨by decide, by decide⟩ rfl dX6_run_58 rfl ⟨rfl, hμ, n0, n1, n2, n4, hq1.1, hq1.2⟩ (fun r1 L1 M_2 hq => ?_)
        obtain ⟨rfl, rfl, hM_3, hM_4, fr_5⟩ := hq
        have hM_6 : M_2 (μ 1) = cI ca 110 f := (fr_5 _ (hμ.ne (i := 1) (j := 0) (by decide) (by decide) (by decide)) (hμ.ne (i := 1) (j := 4) (by decide) (by decide) (by decide))).trans n1
        have hM_7 : M_2 (μ 2) = cI ca 110 g := (fr_5 _ (hμ.ne (i := 2) (j := 0) (by decide) (by decide) (by decide)) (hμ.ne (i := 2) (j := 4) (by decide) (by decide) (by decide))).trans n2
        have hM_8 : M_2 (μ 3) = cI ca 110 tr := (fr_5 _ (hμ.ne (i := 3) (j := 0) (by decide) (by decide) (by decide)) (hμ.ne (i := 3) (j := 4) (by decide) (by decide) (by decide))).trans n3
        have hM_9 : M_2 (μ 5) = cI ca 220 sa := (fr_5 _ (hμ.ne (i := 5) (j := 0) (by decide) (by decide) (by decide)) (hμ.ne (i := 5) (j := 4) (by decide) (by decide) (by decide))).trans n5
        have hM_10 : M_2 (μ 6) = cZ ca 2 iz := (fr_5 _ (hμ.ne (i := 6) (j := 0) (by decide) (by decide) (by decide)) (hμ.ne (i := 6) (j := 4) (by decide) (by decide) (by decide))).trans n6
        have hM_11 : M_2 (μ 7) = cI ca 33 rd := (fr_5 _ (hμ.ne (i := 7) (j := 0) (by decide) (by decide) (by decide)) (hμ.ne (i := 7) (j := 4) (by decide) (by decide) (by decide))).trans n7
        have hM_12 : M_2 (μ 8) = cC ca 60 pa := (fr_5 _ (hμ.ne (i := 8) (j := 0) (by decide) (by decide) (by decide)) (hμ.ne (i := 8) (j := 4) (by decide) (by decide) (by decide))).trans n8
        refine g_st (st' := [.int (iI z)]) rfl ?_
        subst hQ
        have hk2 : v.toNat = k := by omega
        exact g_iret X hret ⟨Nat.le_of_ble_eq_true rfl, Nat.le_of_ble_eq_true rfl⟩ dX6_run_61 ⟨by rw [anRun, if_pos (by first | omega | (dsimp only; omega)), if_neg (by first | omega | (dsimp only; omega)), hz, hk2], rfl, by rw [opRun, if_pos (by first | omega | (dsimp only; omega)), hk2, ← hf]; exact ⟨(up q 1 (recN (q 1))), _, _, _, rfl, rfl, hM_3, hM_6, hM_7, hM_8, hM_4, hM_9, hM_10, hM_11, hM_12⟩, (fun b hb => ((fr_5 b (hb 0 (by decide)) (hb 4 (by decide))).trans (hfr b (hb 1 (by decide)) (hb 2 (by decide)))))⟩
      · refine g_iload_n X 2 rfl dX6_run_43 rfl ?_
        refine g_aload_n X 0 rfl dX6_run_44 rfl ?_
        refine g_callV X (ct_X6_cycle l μ q f) (As := []) (rest := [.int (iI z)]) cl_X6 rfl ca_X6_cycle rfl wm_X6_72 wi_X6_cycle ws_X6_cycle wc_X6_cycle w0_X6 ⟨by decide, by decide⟩ (hμ.mem 0 (by decide)) n0 (Nat.le_of_ble_eq_true rfl) ⟨by decide, by decide⟩ rfl dX6_run_45 rfl ⟨rfl, hμ, n0, n1, hfI, by omega⟩ (fun r1 L1 M_13 hq => ?_)
        obtain ⟨rfl, rfl, hM_14, fr_15⟩ := hq
        have hM_16 : M_13 (μ 0) = .inr (6, [.ref (μ 1), .ref (μ 2), .ref (μ 3), .ref (μ 4), .ref (μ 5), .ref (μ 6), .ref (μ 7), .ref (μ 8), .int (iI (q 0)), .int (iI (q 1)), .int (iI (q 2)), .int (iI (q 3))]) := (fr_15 (μ 0) (hμ.ne (i := 0) (j := 1) (by decide) (by decide) (by decide))).trans n0
        have hM_17 : M_13 (μ 2) = cI ca 110 g := (fr_15 (μ 2) (hμ.ne (i := 2) (j := 1) (by decide) (by decide) (by decide))).trans n2
        have hM_18 : M_13 (μ 3) = cI ca 110 tr := (fr_15 (μ 3) (hμ.ne (i := 3) (j := 1) (by decide) (by decide) (by decide))).trans n3
        have hM_19 : M_13 (μ 4) = cI ca 660 be := (fr_15 (μ 4) (hμ.ne (i := 4) (j := 1) (by decide) (by decide) (by decide))).trans n4
        have hM_20 : M_13 (μ 5) = cI ca 220 sa := (fr_15 (μ 5) (hμ.ne (i := 5) (j := 1) (by decide) (by decide) (by decide))).trans n5
        have hM_21 : M_13 (μ 6) = cZ ca 2 iz := (fr_15 (μ 6) (hμ.ne (i := 6) (j := 1) (by decide) (by decide) (by decide))).trans n6
        have hM_22 : M_13 (μ 7) = cI ca 33 rd := (fr_15 (μ 7) (hμ.ne (i := 7) (j := 1) (by decide) (by decide) (by decide))).trans n7
        have hM_23 : M_13 (μ 8) = cC ca 60 pa := (fr_15 (μ 8) (hμ.ne (i := 8) (j := 1) (by decide) (by decide) (by decide))).trans n8
        refine g_st (st' := [.int (iI (cycR f)), .int (iI z)]) rfl ?_
        refine g_iadd X dX6_run_48 rfl ?_
        refine g_istore_n X (lv' := [(2, .int (iI (z + cycR f))), (0, .ref (μ 0)), (1, .int (iI v)), (3, .int (iI y))]) (by decide) rfl dX6_run_49 rfl ?_
        refine g_iinc X (lv' := [(3, .int (iI (y + 1))), (2, .int (iI (z + cycR f))), (0, .ref (μ 0)), (1, .int (iI v))]) 3 rfl (by decide) rfl dX6_run_50 rfl ?_
        refine g_goto X (n := 38) dX6_run_53 (by decide) ?_
        refine g_lv (lv' := [(0, .ref (μ 0)), (1, .int (iI v)), (2, .int (iI (z + cycR f))), (3, .int (iI (y + 1)))]) [2, 3, 1, 0] rfl ?_
        exact ih (k + 1) _ _ _ _ hv1 hv2 (by omega) (by omega) (by simp only [itG]; rw [hf]) (by simp only [itR]; rw [hz, hf]) hM_16 hM_14 hM_17 hM_18 hM_19 hM_20 hM_21 hM_22 hM_23 (fun b hb1 hb2 => ((fr_15 b hb1).trans (hfr b hb1 hb2))) (by omega)
  refine g_iload_n X 1 rfl dX6_run_0 rfl ?_
  refine g_iconst X (z := 1) dX6_run_1 rfl ?_
  refine g_sipush X (z := 500) (by decide +kernel) dX6_run_2 rfl ?_
  refine g_callS X (ct_X6_in l v 1 500) (As := [.int (iI v), .int (iI 1), .int (iI 500)]) (rest := []) rfl ca_X6_in rfl wm_X6_36 wt_X6_in wc_X6_in w0_X6 ⟨by decide, by decide⟩ (by decide) ⟨by decide, by decide⟩ rfl dX6_run_5 rfl ⟨rfl, hv, ⟨by decide, by decide⟩, ⟨by decide, by decide⟩⟩ (fun r1 L1 M1 hq => ?_)
  obtain ⟨rfl, rfl, rfl⟩ := hq
  refine g_st (st' := [.int (iI (if 1 ≤ v ∧ v ≤ 500 then 1 else 0))]) rfl ?_
  refine g_if_neb X (tgt := 14) dX6_run_8 (by decide) rfl (fun h_24 => ?_) (fun h_24 => ?_)
  · refine g_aload_n X 0 rfl dX6_run_14 rfl ?_
    refine g_get X cl_X6 0 (by decide) wf_X6_7 rfl (hμ.mem 0 (by decide)) hMo rfl dX6_run_15 rfl ?_
    refine g_iconst X (z := 4) dX6_run_18 rfl ?_
    refine g_iald X (hμ.mem 1 (by decide)) hMs ⟨by decide, by decide⟩ (by decide) dX6_run_19 rfl ?_
    refine g_ldc X (z := 99999) wv_X6_95 (by decide +kernel) dX6_run_20 rfl ?_
    refine g_iload_n X 1 rfl dX6_run_22 rfl ?_
    refine g_isub X dX6_run_23 rfl ?_
    refine g_icmp_le X ⟨by omega, by omega⟩ ⟨by omega, by omega⟩ (tgt := 30) dX6_run_24 (by decide) rfl (fun h_25 => ?_) (fun h_25 => ?_)
    · refine g_aload_n X 0 rfl dX6_run_30 rfl ?_
      refine g_callV X (ct_X6_hold l μ q g sp) (As := []) (rest := []) cl_X6 rfl ca_X6_hold rfl wm_X6_79 wi_X6_hold ws_X6_hold wc_X6_hold w0_X6 ⟨by decide, by decide⟩ (hμ.mem 0 (by decide)) hMo (by decide) ⟨by decide, by decide⟩ rfl dX6_run_31 rfl ⟨rfl, hμ, hMo, hMs, hM2⟩ (fun r1 L1 M_26 hq => ?_)
      obtain ⟨rfl, rfl, hM_27, fr_28⟩ := hq
      have hM_29 : M_26 (μ 0) = .inr (6, [.ref (μ 1), .ref (μ 2), .ref (μ 3), .ref (μ 4), .ref (μ 5), .ref (μ 6), .ref (μ 7), .ref (μ 8), .int (iI (q 0)), .int (iI (q 1)), .int (iI (q 2)), .int (iI (q 3))]) := (fr_28 (μ 0) (hμ.ne (i := 0) (j := 2) (by decide) (by decide) (by decide))).trans hMo
      have hM_30 : M_26 (μ 1) = cI ca 110 g := (fr_28 (μ 1) (hμ.ne (i := 1) (j := 2) (by decide) (by decide) (by decide))).trans hMs
      have hM_31 : M_26 (μ 3) = cI ca 110 tr := (fr_28 (μ 3) (hμ.ne (i := 3) (j := 2) (by decide) (by decide) (by decide))).trans hM3
      have hM_32 : M_26 (μ 4) = cI ca 660 be := (fr_28 (μ 4) (hμ.ne (i := 4) (j := 2) (by decide) (by decide) (by decide))).trans hM4
      have hM_33 : M_26 (μ 5) = cI ca 220 sa := (fr_28 (μ 5) (hμ.ne (i := 5) (j := 2) (by decide) (by decide) (by decide))).trans hM5
      have hM_34 : M_26 (μ 6) = cZ ca 2 iz := (fr_28 (μ 6) (hμ.ne (i := 6) (j := 2) (by decide) (by decide) (by decide))).trans hM6
      have hM_35 : M_26 (μ 7) = cI ca 33 rd := (fr_28 (μ 7) (hμ.ne (i := 7) (j := 2) (by decide) (by decide) (by decide))).trans hM7
      have hM_36 : M_26 (μ 8) = cC ca 60 pa := (fr_28 (μ 8) (hμ.ne (i := 8) (j := 2) (by decide) (by decide) (by decide))).trans hM8
      refine g_st (st' := []) rfl ?_
      refine g_iconst X (z := 0) dX6_run_34 rfl ?_
      refine g_istore_n X (lv' := [(2, .int (iI 0)), (0, .ref (μ 0)), (1, .int (iI v))]) (by decide) rfl dX6_run_35 rfl ?_
      refine g_iconst X (z := 0) dX6_run_36 rfl ?_
      refine g_istore_n X (lv' := [(3, .int (iI 0)), (2, .int (iI 0)), (0, .ref (μ 0)), (1, .int (iI v))]) (by decide) rfl dX6_run_37 rfl ?_
      refine g_lv (lv' := [(0, .ref (μ 0)), (1, .int (iI v)), (2, .int (iI 0)), (3, .int (iI 0))]) [2, 3, 1, 0] rfl ?_
      exact lp 510 0 _ _ _ _ (by omega) (by omega) rfl (by omega) rfl rfl hM_29 hM_30 hM_27 hM_31 hM_32 hM_33 hM_34 hM_35 hM_36 (fun b hb1 hb2 => (fr_28 b hb2)) (by omega)
    · refine g_bipush X (z := -4) (by decide +kernel) dX6_run_27 rfl ?_
      subst hQ
      exact g_iret X hret ⟨Nat.le_of_ble_eq_true rfl, Nat.le_of_ble_eq_true rfl⟩ dX6_run_29 ⟨by rw [anRun, if_pos (by first | omega | (dsimp only; omega)), if_pos (by first | omega | (dsimp only; omega))], rfl, by rw [opRun, if_neg (by first | omega | (dsimp only; omega))]; exact ⟨q, _, _, _, rfl, rfl, hMo, hMs, hM2, hM3, hM4, hM5, hM6, hM7, hM8⟩, (fun b hb => rfl)⟩
  · refine g_bipush X (z := -2) (by decide +kernel) dX6_run_11 rfl ?_
    subst hQ
    exact g_iret X hret ⟨Nat.le_of_ble_eq_true rfl, Nat.le_of_ble_eq_true rfl⟩ dX6_run_13 ⟨by rw [anRun, if_neg (by first | omega | (dsimp only; omega))], rfl, by rw [opRun, if_neg (by first | omega | (dsimp only; omega))]; exact ⟨q, _, _, _, rfl, rfl, hMo, hMs, hM2, hM3, hM4, hM5, hM6, hM7, hM8⟩, (fun b hb => rfl)⟩
set_option maxRecDepth 100000 in
set_option maxHeartbeats 4000000 in
theorem ct_X6_bankOf (l : Launch) (μ : Nat → Nat) (q g : Int → Int) (sp tr be sa iz rd pa : Int → Int) (a : Int) : Ct l yX6_bankOf cX6_bankOf 2 (some .int) 3 0 0 (fun ca av L M => av = [.ref (μ 0), .int (iI a)] ∧ MuOk μ L ∧ M (μ 0) = oMd μ q ∧ M (μ 1) = cI ca 110 g ∧ M (μ 2) = cI ca 110 sp ∧ M (μ 3) = cI ca 110 tr ∧ M (μ 4) = cI ca 660 be ∧ M (μ 5) = cI ca 220 sa ∧ M (μ 6) = cZ ca 2 iz ∧ M (μ 7) = cI ca 33 rd ∧ M (μ 8) = cC ca 60 pa ∧ Inv g ∧ (0 ≤ q 0 ∧ q 0 ≤ 60) ∧ (0 ≤ q 1 ∧ q 1 ≤ 6) ∧ R32 a) (fun ca av L M r L1 M1 => r = some (.int (iI (anBankOf (g, be, sa, iz, pa, q 0, q 1) a))) ∧ L = L1 ∧ Md ca M1 μ ((g, be, sa, iz, pa, q 0, q 1)) ∧ ∀ b, (∀ i, i < 9 → b ≠ μ i) → M1 b = M b) := by
  refine Ct_of (own := RX6) (by decide) rfl (by rintro _ _ _ _ ⟨rfl, _⟩; exact Nat.le_of_ble_eq_true rfl) ?_
  rintro p e s m args below meth c D ca A av L M ⟨rfl, hμ, hMo, hMs, hM2, hM3, hM4, hM5, hM6, hM7, hM8, hI, hq0, hq1, ha⟩ X hret hname
  refine g_lv (lv' := [(0, .ref (μ 0)), (1, .int (iI a))]) [0, 1] rfl ?_
  obtain ⟨⟨i00, i01⟩, ⟨i10, i11⟩, ⟨i20, i21⟩, ⟨i30, i31⟩, ⟨i40, i41⟩, i50, i51⟩ := id hI.1
  refine g_iload_n X 1 rfl dX6_bankOf_0 rfl ?_
  refine g_iconst X (z := 0) dX6_bankOf_1 rfl ?_
  refine g_sipush X (z := 4095) (by decide +kernel) dX6_bankOf_2 rfl ?_
  refine g_callS X (ct_X6_in l a 0 4095) (As := [.int (iI a), .int (iI 0), .int (iI 4095)]) (rest := []) rfl ca_X6_in rfl wm_X6_36 wt_X6_in wc_X6_in w0_X6 ⟨by decide, by decide⟩ (by decide) ⟨by decide, by decide⟩ rfl dX6_bankOf_5 rfl ⟨rfl, ha, ⟨by decide, by decide⟩, ⟨by decide, by decide⟩⟩ (fun r1 L1 M1 hq => ?_)
  obtain ⟨rfl, rfl, rfl⟩ := hq
  refine g_st (st' := [.int (iI (if 0 ≤ a ∧ a ≤ 4095 then 1 else 0))]) rfl ?_
  refine g_if_eqb X (tgt := 19) dX6_bankOf_8 (by decide) rfl (fun h_1 => ?_) (fun h_1 => ?_)
  · refine g_bipush X (z := -2) (by decide +kernel) dX6_bankOf_19 rfl ?_
    exact g_iret X hret ⟨Nat.le_of_ble_eq_true rfl, Nat.le_of_ble_eq_true rfl⟩ dX6_bankOf_21 ⟨by rw [anBankOf, if_neg h_1], rfl, ⟨q, _, _, _, rfl, rfl, hMo, hMs, hM2, hM3, hM4, hM5, hM6, hM7, hM8⟩, (fun b hb => rfl)⟩
  · refine g_aload_n X 0 rfl dX6_bankOf_11 rfl ?_
    refine g_iload_n X 1 rfl dX6_bankOf_12 rfl ?_
    refine g_callV X (ct_X6_bankAt l μ q g a) (As := [.int (iI a)]) (rest := []) cl_X6 rfl ca_X6_bankAt rfl wm_X6_56 wi_X6_bankAt ws_X6_bankAt wc_X6_bankAt w0_X6 ⟨by decide, by decide⟩ (hμ.mem 0 (by decide)) hMo (by decide) ⟨by decide, by decide⟩ rfl dX6_bankOf_13 rfl ⟨rfl, hμ, hMo, hMs, hI.1, by omega, by omega⟩ (fun r1 L1 M1 hq => ?_)
    obtain ⟨rfl, rfl, rfl⟩ := hq
    refine g_st (st' := [.int (iI (bkG g a))]) rfl ?_
    refine g_goto X (n := 21) dX6_bankOf_16 (by decide) ?_
    exact g_iret X hret ⟨Nat.le_of_ble_eq_true rfl, Nat.le_of_ble_eq_true rfl⟩ dX6_bankOf_21 ⟨by rw [anBankOf, if_pos h_1], rfl, ⟨q, _, _, _, rfl, rfl, hMo, hMs, hM2, hM3, hM4, hM5, hM6, hM7, hM8⟩, (fun b hb => rfl)⟩
set_option maxRecDepth 100000 in
set_option maxHeartbeats 4000000 in
theorem ct_X6_comes (l : Launch) (μ : Nat → Nat) (q g : Int → Int) (tr : Int → Int) (p0 i : Int) : Ct l yX6_comes cX6_comes 4 none 1 0 0 (fun ca av L M => av = [.ref (μ 0), .int (iI p0), .int (iI i)] ∧ MuOk μ L ∧ M (μ 0) = oMd μ q ∧ M (μ 1) = cI ca 110 g ∧ M (μ 3) = cI ca 110 tr ∧ (0 ≤ p0 ∧ p0 ≤ 3) ∧ (0 ≤ i ∧ i ≤ 3)) (fun ca av L M r L1 M1 => r = none ∧ L = L1 ∧ M1 (μ 1) = cI ca 110 (cmG 10 p0 i tr g) ∧ ∀ b, b ≠ μ 1 → M1 b = M b) := by
  refine Ct_of (own := RX6) (by decide) rfl (by rintro _ _ _ _ ⟨rfl, _⟩; exact Nat.le_of_ble_eq_true rfl) ?_
  rintro p e s m args below meth c D ca A av L M ⟨rfl, hμ, hMo, hMs, hM3, hp, hi⟩ X hret hname
  refine g_lv (lv' := [(0, .ref (μ 0)), (1, .int (iI p0)), (2, .int (iI i))]) [0, 1, 2] rfl ?_
  generalize hQ : MQ below _ args s _ _ A = Q
  have lp : ∀ (n : Nat) (y : Int) (M1 : Mem) (f : Int → Int) (hy0 : 0 ≤ y) (hy1 : y ≤ 10) (hf : f = cmG y p0 i tr g) (n0 : M1 (μ 0) = oMd μ q) (n1 : M1 (μ 1) = cI ca 110 f) (n3 : M1 (μ 3) = cI ca 110 tr) (hfr : ∀ b, b ≠ μ 1 → M1 b = M b) (hm : 10 - y < (n : Int)), G p l e (Rm 1 0 0) s m args below meth c D A 4 Q 0 0 L M1 2 [(0, .ref (μ 0)), (1, .int (iI p0)), (2, .int (iI i)), (3, .int (iI y))] [] := by
    intro n
    induction n with
    | zero =>
      intro y M1 f hy0 hy1 hf n0 n1 n3 hfr hm
      exfalso; omega
    | succ n ih =>
      intro y M1 f hy0 hy1 hf n0 n1 n3 hfr hm
      refine g_iload_n X 3 rfl dX6_comes_2 rfl ?_
      refine g_bipush X (z := 10) (by decide +kernel) dX6_comes_3 rfl ?_
      refine g_icmp_ge X ⟨by omega, by omega⟩ ⟨by decide, by decide⟩ (tgt := 36) dX6_comes_5 (by decide) rfl (fun h_1 => ?_) (fun h_1 => ?_)
      · subst hQ
        exact g_vret X hret ⟨Nat.le_of_ble_eq_true rfl, Nat.le_of_ble_eq_true rfl⟩ dX6_comes_36 ⟨rfl, rfl, by rw [n1, hf, show y = 10 from by omega], fun b hb => (hfr b hb)⟩
      · refine g_aload_n X 0 rfl dX6_comes_8 rfl ?_
        refine g_get X cl_X6 0 (by decide) wf_X6_7 rfl (hμ.mem 0 (by decide)) n0 rfl dX6_comes_9 rfl ?_
        refine g_iload_n X 1 rfl dX6_comes_12 rfl ?_
        refine g_callS X (ct_X6_m l p0) (As := [.int (iI p0)]) (rest := [.ref (μ 1)]) rfl ca_X6_m rfl wm_X6_52 wt_X6_m wc_X6_m w0_X6 ⟨by decide, by decide⟩ (Nat.le_of_ble_eq_true rfl) ⟨by decide, by decide⟩ rfl dX6_comes_13 rfl ⟨rfl, trivial⟩ (fun r1 L1 M1 hq => ?_)
        obtain ⟨rfl, rfl, rfl⟩ := hq
        refine g_st (st' := [.int (iI (70 + 10 * p0)), .ref (μ 1)]) rfl ?_
        refine g_iload_n X 3 rfl dX6_comes_16 rfl ?_
        refine g_iadd X dX6_comes_17 rfl ?_
        refine g_aload_n X 0 rfl dX6_comes_18 rfl ?_
        refine g_get X cl_X6 2 (by decide) wf_X6_16 rfl (hμ.mem 0 (by decide)) n0 rfl dX6_comes_19 rfl ?_
        refine g_iload_n X 2 rfl dX6_comes_22 rfl ?_
        refine g_callS X (ct_X6_m l i) (As := [.int (iI i)]) (rest := [.ref (μ 3), .int (iI ((70 + 10 * p0) + y)), .ref (μ 1)]) rfl ca_X6_m rfl wm_X6_52 wt_X6_m wc_X6_m w0_X6 ⟨by decide, by decide⟩ (Nat.le_of_ble_eq_true rfl) ⟨by decide, by decide⟩ rfl dX6_comes_23 rfl ⟨rfl, trivial⟩ (fun r1 L1 M1 hq => ?_)
        obtain ⟨rfl, rfl, rfl⟩ := hq
        refine g_st (st' := [.int (iI (70 + 10 * i)), .ref (μ 3), .int (iI ((70 + 10 * p0) + y)), .ref (μ 1)]) rfl ?_
        refine g_iload_n X 3 rfl dX6_comes_26 rfl ?_
        refine g_iadd X dX6_comes_27 rfl ?_
        refine g_iald X (hμ.mem 3 (by decide)) n3 ⟨by omega, by omega⟩ (by decide) dX6_comes_28 rfl ?_
        refine g_iast X (hμ.mem 1 (by decide)) n1 ⟨by omega, by omega⟩ (by decide) dX6_comes_29 rfl (fun M_2 hM_3 fr_4 => ?_)
        obtain ⟨g_5, hg_6⟩ : ∃ x : Int → Int, x = up f ((70 + 10 * p0) + y) (tr ((70 + 10 * i) + y)) := ⟨_, rfl⟩
        rw [← hg_6] at hM_3
        have hM_7 : M_2 (μ 0) = .inr (6, [.ref (μ 1), .ref (μ 2), .ref (μ 3), .ref (μ 4), .ref (μ 5), .ref (μ 6), .ref (μ 7), .ref (μ 8), .int (iI (q 0)), .int (iI (q 1)), .int (iI (q 2)), .int (iI (q 3))]) := (fr_4 (μ 0) (hμ.ne (i := 0) (j := 1) (by decide) (by decide) (by decide))).trans n0
        have hM_8 : M_2 (μ 3) = cI ca 110 tr := (fr_4 (μ 3) (hμ.ne (i := 3) (j := 1) (by decide) (by decide) (by decide))).trans n3
        refine g_iinc X (lv' := [(3, .int (iI (y + 1))), (0, .ref (μ 0)), (1, .int (iI p0)), (2, .int (iI i))]) 3 rfl (by decide) rfl dX6_comes_30 rfl ?_
        refine g_goto X (n := 2) dX6_comes_33 (by decide) ?_
        refine g_lv (lv' := [(0, .ref (μ 0)), (1, .int (iI p0)), (2, .int (iI i)), (3, .int (iI (y + 1)))]) [1, 2, 3, 0] rfl ?_
        exact ih _ _ _ (by omega) (by omega) (by rw [hg_6, hf, cmG_up _ _ _ _ hy0]) hM_7 hM_3 hM_8 (fun b hb => ((fr_4 b hb).trans (hfr b hb))) (by omega)
  refine g_iconst X (z := 0) dX6_comes_0 rfl ?_
  refine g_istore_n X (lv' := [(3, .int (iI 0)), (0, .ref (μ 0)), (1, .int (iI p0)), (2, .int (iI i))]) (by decide) rfl dX6_comes_1 rfl ?_
  refine g_lv (lv' := [(0, .ref (μ 0)), (1, .int (iI p0)), (2, .int (iI i)), (3, .int (iI 0))]) [1, 2, 3, 0] rfl ?_
  exact lp 20 _ _ _ (by decide) (by decide) (by rw [cmG_0]) hMo hMs hM3 (fun _ _ => rfl) (by decide)
set_option maxRecDepth 100000 in
set_option maxHeartbeats 4000000 in
theorem ct_X6_untilDone (l : Launch) (μ : Nat → Nat) (q g : Int → Int) (sp tr be sa iz rd pa : Int → Int) : Ct l yX6_untilDone cX6_untilDone 2 (some .int) 6 0 0 (fun ca av L M => av = [.ref (μ 0)] ∧ MuOk μ L ∧ M (μ 0) = oMd μ q ∧ M (μ 1) = cI ca 110 g ∧ M (μ 2) = cI ca 110 sp ∧ M (μ 3) = cI ca 110 tr ∧ M (μ 4) = cI ca 660 be ∧ M (μ 5) = cI ca 220 sa ∧ M (μ 6) = cZ ca 2 iz ∧ M (μ 7) = cI ca 33 rd ∧ M (μ 8) = cC ca 60 pa ∧ Inv g ∧ (0 ≤ q 0 ∧ q 0 ≤ 60) ∧ (0 ≤ q 1 ∧ q 1 ≤ 6) ∧ g 4 ≤ 99999) (fun ca av L M r L1 M1 => r = some (.int (iI (roC 20000 g))) ∧ L = L1 ∧ Md ca M1 μ ((g, be, sa, iz, pa, q 0, q 1)) ∧ ∀ b, (∀ i, i < 9 → b ≠ μ i) → M1 b = M b) := by
  refine Ct_of (own := RX6) (by decide) rfl (by rintro _ _ _ _ ⟨rfl, _⟩; exact Nat.le_of_ble_eq_true rfl) ?_
  rintro p e s m args below meth c D ca A av L M ⟨rfl, hμ, hMo, hMs, hM2, hM3, hM4, hM5, hM6, hM7, hM8, hI, hq0, hq1, hc4⟩ X hret hname
  refine g_lv (lv' := [(0, .ref (μ 0))]) [0] rfl ?_
  refine g_aload_n X 0 rfl dX6_untilDone_0 rfl ?_
  refine g_callV X (ct_X6_keepTrial l μ q g tr) (As := []) (rest := []) cl_X6 rfl ca_X6_keepTrial rfl wm_X6_138 wi_X6_keepTrial ws_X6_keepTrial wc_X6_keepTrial w0_X6 ⟨by decide, by decide⟩ (hμ.mem 0 (by decide)) hMo (by decide) ⟨by decide, by decide⟩ rfl dX6_untilDone_1 rfl ⟨rfl, hμ, hMo, hMs, hM3⟩ (fun r1 L1 M_1 hq => ?_)
  obtain ⟨rfl, rfl, hM_2, fr_3⟩ := hq
  have hM_4 : M_1 (μ 0) = .inr (6, [.ref (μ 1), .ref (μ 2), .ref (μ 3), .ref (μ 4), .ref (μ 5), .ref (μ 6), .ref (μ 7), .ref (μ 8), .int (iI (q 0)), .int (iI (q 1)), .int (iI (q 2)), .int (iI (q 3))]) := (fr_3 (μ 0) (hμ.ne (i := 0) (j := 3) (by decide) (by decide) (by decide))).trans hMo
  have hM_5 : M_1 (μ 1) = cI ca 110 g := (fr_3 (μ 1) (hμ.ne (i := 1) (j := 3) (by decide) (by decide) (by decide))).trans hMs
  have hM_6 : M_1 (μ 2) = cI ca 110 sp := (fr_3 (μ 2) (hμ.ne (i := 2) (j := 3) (by decide) (by decide) (by decide))).trans hM2
  have hM_7 : M_1 (μ 4) = cI ca 660 be := (fr_3 (μ 4) (hμ.ne (i := 4) (j := 3) (by decide) (by decide) (by decide))).trans hM4
  have hM_8 : M_1 (μ 5) = cI ca 220 sa := (fr_3 (μ 5) (hμ.ne (i := 5) (j := 3) (by decide) (by decide) (by decide))).trans hM5
  have hM_9 : M_1 (μ 6) = cZ ca 2 iz := (fr_3 (μ 6) (hμ.ne (i := 6) (j := 3) (by decide) (by decide) (by decide))).trans hM6
  have hM_10 : M_1 (μ 7) = cI ca 33 rd := (fr_3 (μ 7) (hμ.ne (i := 7) (j := 3) (by decide) (by decide) (by decide))).trans hM7
  have hM_11 : M_1 (μ 8) = cC ca 60 pa := (fr_3 (μ 8) (hμ.ne (i := 8) (j := 3) (by decide) (by decide) (by decide))).trans hM8
  refine g_st (st' := []) rfl ?_
  refine g_aload_n X 0 rfl dX6_untilDone_4 rfl ?_
  refine g_callV X (ct_X6_runsOut l μ q g) (As := []) (rest := []) cl_X6 rfl ca_X6_runsOut rfl wm_X6_141 wi_X6_runsOut ws_X6_runsOut wc_X6_runsOut w0_X6 ⟨by decide, by decide⟩ (hμ.mem 0 (by decide)) hM_4 (by decide) ⟨by decide, by decide⟩ rfl dX6_untilDone_5 rfl ⟨rfl, hμ, hM_4, hM_5, hI, by omega⟩ (fun r1 L1 M_12 hq => ?_)
  obtain ⟨rfl, rfl, hM_13, fr_14⟩ := hq
  have hM_15 : M_12 (μ 0) = .inr (6, [.ref (μ 1), .ref (μ 2), .ref (μ 3), .ref (μ 4), .ref (μ 5), .ref (μ 6), .ref (μ 7), .ref (μ 8), .int (iI (q 0)), .int (iI (q 1)), .int (iI (q 2)), .int (iI (q 3))]) := (fr_14 (μ 0) (hμ.ne (i := 0) (j := 1) (by decide) (by decide) (by decide))).trans hM_4
  have hM_16 : M_12 (μ 2) = cI ca 110 sp := (fr_14 (μ 2) (hμ.ne (i := 2) (j := 1) (by decide) (by decide) (by decide))).trans hM_6
  have hM_17 : M_12 (μ 4) = cI ca 660 be := (fr_14 (μ 4) (hμ.ne (i := 4) (j := 1) (by decide) (by decide) (by decide))).trans hM_7
  have hM_18 : M_12 (μ 5) = cI ca 220 sa := (fr_14 (μ 5) (hμ.ne (i := 5) (j := 1) (by decide) (by decide) (by decide))).trans hM_8
  have hM_19 : M_12 (μ 6) = cZ ca 2 iz := (fr_14 (μ 6) (hμ.ne (i := 6) (j := 1) (by decide) (by decide) (by decide))).trans hM_9
  have hM_20 : M_12 (μ 7) = cI ca 33 rd := (fr_14 (μ 7) (hμ.ne (i := 7) (j := 1) (by decide) (by decide) (by decide))).trans hM_10
  have hM_21 : M_12 (μ 8) = cC ca 60 pa := (fr_14 (μ 8) (hμ.ne (i := 8) (j := 1) (by decide) (by decide) (by decide))).trans hM_11
  have hM_22 : M_12 (μ 3) = cI ca 110 g := (fr_14 (μ 3) (hμ.ne (i := 3) (j := 1) (by decide) (by decide) (by decide))).trans hM_2
  refine g_st (st' := [.int (iI (roC 20000 g))]) rfl ?_
  refine g_istore_n X (lv' := [(1, .int (iI (roC 20000 g))), (0, .ref (μ 0))]) (by decide) rfl dX6_untilDone_8 rfl ?_
  refine g_aload_n X 1 rfl dX6_untilDone_9 rfl ?_
  refine g_callV X (ct_X6_putBack l μ q (roS 20000 g) g) (As := []) (rest := []) cl_X6 rfl ca_X6_putBack rfl wm_X6_144 wi_X6_putBack ws_X6_putBack wc_X6_putBack w0_X6 ⟨by decide, by decide⟩ (hμ.mem 0 (by decide)) hM_15 (by decide) ⟨by decide, by decide⟩ rfl dX6_untilDone_10 rfl ⟨rfl, hμ, hM_15, hM_13, hM_22⟩ (fun r1 L1 M_23 hq => ?_)
  obtain ⟨rfl, rfl, hM_24, fr_25⟩ := hq
  have hM_26 : M_23 (μ 0) = .inr (6, [.ref (μ 1), .ref (μ 2), .ref (μ 3), .ref (μ 4), .ref (μ 5), .ref (μ 6), .ref (μ 7), .ref (μ 8), .int (iI (q 0)), .int (iI (q 1)), .int (iI (q 2)), .int (iI (q 3))]) := (fr_25 (μ 0) (hμ.ne (i := 0) (j := 1) (by decide) (by decide) (by decide))).trans hM_15
  have hM_27 : M_23 (μ 2) = cI ca 110 sp := (fr_25 (μ 2) (hμ.ne (i := 2) (j := 1) (by decide) (by decide) (by decide))).trans hM_16
  have hM_28 : M_23 (μ 4) = cI ca 660 be := (fr_25 (μ 4) (hμ.ne (i := 4) (j := 1) (by decide) (by decide) (by decide))).trans hM_17
  have hM_29 : M_23 (μ 5) = cI ca 220 sa := (fr_25 (μ 5) (hμ.ne (i := 5) (j := 1) (by decide) (by decide) (by decide))).trans hM_18
  have hM_30 : M_23 (μ 6) = cZ ca 2 iz := (fr_25 (μ 6) (hμ.ne (i := 6) (j := 1) (by decide) (by decide) (by decide))).trans hM_19
  have hM_31 : M_23 (μ 7) = cI ca 33 rd := (fr_25 (μ 7) (hμ.ne (i := 7) (j := 1) (by decide) (by decide) (by decide))).trans hM_20
  have hM_32 : M_23 (μ 8) = cC ca 60 pa := (fr_25 (μ 8) (hμ.ne (i := 8) (j := 1) (by decide) (by decide) (by decide))).trans hM_21
  have hM_33 : M_23 (μ 3) = cI ca 110 g := (fr_25 (μ 3) (hμ.ne (i := 3) (j := 1) (by decide) (by decide) (by decide))).trans hM_22
  refine g_st (st' := []) rfl ?_
  refine g_iload_n X 0 rfl dX6_untilDone_13 rfl ?_
  exact g_iret X hret ⟨Nat.le_of_ble_eq_true rfl, Nat.le_of_ble_eq_true rfl⟩ dX6_untilDone_14 ⟨rfl, rfl, ⟨q, _, _, _, rfl, rfl, hM_26, hM_24, hM_27, hM_33, hM_28, hM_29, hM_30, hM_31, hM_32⟩, (fun b hb => ((fr_25 b (hb 1 (by decide))).trans ((fr_14 b (hb 1 (by decide))).trans (fr_3 b (hb 3 (by decide))))))⟩
set_option maxRecDepth 100000 in
set_option maxHeartbeats 4000000 in
theorem ct_X6_cyclesWith (l : Launch) (μ : Nat → Nat) (q g : Int → Int) (tr : Int → Int) (i v : Int) : Ct l yX6_cyclesWith cX6_cyclesWith 4 (some .int) 6 0 0 (fun ca av L M => av = [.ref (μ 0), .int (iI i), .int (iI v)] ∧ MuOk μ L ∧ M (μ 0) = oMd μ q ∧ M (μ 1) = cI ca 110 g ∧ M (μ 3) = cI ca 110 tr ∧ Inv g ∧ 0 ≤ i ∧ i < g 5 ∧ (0 ≤ v ∧ v < 1024)) (fun ca av L M r L1 M1 => r = some (.int (iI (cwC g i v))) ∧ L = L1 ∧ M1 (μ 1) = cI ca 110 g ∧ (∃ t2, M1 (μ 3) = cI ca 110 t2) ∧ ∀ b, b ≠ μ 1 → b ≠ μ 3 → M1 b = M b) := by
  refine Ct_of (own := RX6) (by decide) rfl (by rintro _ _ _ _ ⟨rfl, _⟩; exact Nat.le_of_ble_eq_true rfl) ?_
  rintro p e s m args below meth c D ca A av L M ⟨rfl, hμ, hMo, hMs, hM3, hI, h0, h1, hv⟩ X hret hname
  refine g_lv (lv' := [(0, .ref (μ 0)), (1, .int (iI i)), (2, .int (iI v))]) [0, 1, 2] rfl ?_
  obtain ⟨⟨i00, i01⟩, ⟨i10, i11⟩, ⟨i20, i21⟩, ⟨i30, i31⟩, ⟨i40, i41⟩, i50, i51⟩ := id hI.1
  have ok := cw_ok hI h0 h1 hv
  have okI := bga_inv ok.1 ok.2.1
  have ok4 := bga_cyc (cwG g i v)
  refine g_aload_n X 0 rfl dX6_cyclesWith_0 rfl ?_
  refine g_callV X (ct_X6_keepTrial l μ q g tr) (As := []) (rest := []) cl_X6 rfl ca_X6_keepTrial rfl wm_X6_138 wi_X6_keepTrial ws_X6_keepTrial wc_X6_keepTrial w0_X6 ⟨by decide, by decide⟩ (hμ.mem 0 (by decide)) hMo (by decide) ⟨by decide, by decide⟩ rfl dX6_cyclesWith_1 rfl ⟨rfl, hμ, hMo, hMs, hM3⟩ (fun r1 L1 M_1 hq => ?_)
  obtain ⟨rfl, rfl, hM_2, fr_3⟩ := hq
  have hM_4 : M_1 (μ 0) = .inr (6, [.ref (μ 1), .ref (μ 2), .ref (μ 3), .ref (μ 4), .ref (μ 5), .ref (μ 6), .ref (μ 7), .ref (μ 8), .int (iI (q 0)), .int (iI (q 1)), .int (iI (q 2)), .int (iI (q 3))]) := (fr_3 (μ 0) (hμ.ne (i := 0) (j := 3) (by decide) (by decide) (by decide))).trans hMo
  have hM_5 : M_1 (μ 1) = cI ca 110 g := (fr_3 (μ 1) (hμ.ne (i := 1) (j := 3) (by decide) (by decide) (by decide))).trans hMs
  refine g_st (st' := []) rfl ?_
  refine g_aload_n X 0 rfl dX6_cyclesWith_4 rfl ?_
  refine g_iconst X (z := 0) dX6_cyclesWith_5 rfl ?_
  refine g_iload_n X 1 rfl dX6_cyclesWith_6 rfl ?_
  refine g_callV X (ct_X6_comes l μ q g g 0 i) (As := [.int (iI 0), .int (iI i)]) (rest := []) cl_X6 rfl ca_X6_comes rfl wm_X6_147 wi_X6_comes ws_X6_comes wc_X6_comes w0_X6 ⟨by decide, by decide⟩ (hμ.mem 0 (by decide)) hM_4 (by decide) ⟨by decide, by decide⟩ rfl dX6_cyclesWith_7 rfl ⟨rfl, hμ, hM_4, hM_5, hM_2, by omega, by omega⟩ (fun r1 L1 M_6 hq => ?_)
  obtain ⟨rfl, rfl, hM_7, fr_8⟩ := hq
  have hM_9 : M_6 (μ 0) = .inr (6, [.ref (μ 1), .ref (μ 2), .ref (μ 3), .ref (μ 4), .ref (μ 5), .ref (μ 6), .ref (μ 7), .ref (μ 8), .int (iI (q 0)), .int (iI (q 1)), .int (iI (q 2)), .int (iI (q 3))]) := (fr_8 (μ 0) (hμ.ne (i := 0) (j := 1) (by decide) (by decide) (by decide))).trans hM_4
  have hM_10 : M_6 (μ 3) = cI ca 110 g := (fr_8 (μ 3) (hμ.ne (i := 3) (j := 1) (by decide) (by decide) (by decide))).trans hM_2
  refine g_st (st' := []) rfl ?_
  refine g_aload_n X 0 rfl dX6_cyclesWith_10 rfl ?_
  refine g_get X cl_X6 0 (by decide) wf_X6_7 rfl (hμ.mem 0 (by decide)) hM_9 rfl dX6_cyclesWith_11 rfl ?_
  refine g_iconst X (z := 0) dX6_cyclesWith_14 rfl ?_
  refine g_callS X (ct_X6_m l 0) (As := [.int (iI 0)]) (rest := [.ref (μ 1)]) rfl ca_X6_m rfl wm_X6_52 wt_X6_m wc_X6_m w0_X6 ⟨by decide, by decide⟩ (Nat.le_of_ble_eq_true rfl) ⟨by decide, by decide⟩ rfl dX6_cyclesWith_15 rfl ⟨rfl, trivial⟩ (fun r1 L1 M1 hq => ?_)
  obtain ⟨rfl, rfl, rfl⟩ := hq
  refine g_st (st' := [.int (iI (70 + 10 * 0)), .ref (μ 1)]) rfl ?_
  refine g_iconst X (z := 1) dX6_cyclesWith_18 rfl ?_
  refine g_iadd X dX6_cyclesWith_19 rfl ?_
  refine g_iload_n X 2 rfl dX6_cyclesWith_20 rfl ?_
  refine g_iast X (hμ.mem 1 (by decide)) hM_7 ⟨by omega, by omega⟩ (by decide) dX6_cyclesWith_21 rfl (fun M_11 hM_12 fr_13 => ?_)
  obtain ⟨g_14, hg_15⟩ : ∃ x : Int → Int, x = up (cmG 10 0 i g g) ((70 + 10 * 0) + 1) v := ⟨_, rfl⟩
  rw [← hg_15] at hM_12
  have hM_16 : M_11 (μ 0) = .inr (6, [.ref (μ 1), .ref (μ 2), .ref (μ 3), .ref (μ 4), .ref (μ 5), .ref (μ 6), .ref (μ 7), .ref (μ 8), .int (iI (q 0)), .int (iI (q 1)), .int (iI (q 2)), .int (iI (q 3))]) := (fr_13 (μ 0) (hμ.ne (i := 0) (j := 1) (by decide) (by decide) (by decide))).trans hM_9
  have hM_17 : M_11 (μ 3) = cI ca 110 g := (fr_13 (μ 3) (hμ.ne (i := 3) (j := 1) (by decide) (by decide) (by decide))).trans hM_10
  refine g_aload_n X 0 rfl dX6_cyclesWith_22 rfl ?_
  refine g_get X cl_X6 0 (by decide) wf_X6_7 rfl (hμ.mem 0 (by decide)) hM_16 rfl dX6_cyclesWith_23 rfl ?_
  refine g_iconst X (z := 5) dX6_cyclesWith_26 rfl ?_
  refine g_iconst X (z := 1) dX6_cyclesWith_27 rfl ?_
  refine g_iast X (hμ.mem 1 (by decide)) hM_12 ⟨by decide, by decide⟩ (by decide) dX6_cyclesWith_28 rfl (fun M_18 hM_19 fr_20 => ?_)
  obtain ⟨g_21, hg_22⟩ : ∃ x : Int → Int, x = up g_14 5 1 := ⟨_, rfl⟩
  rw [← hg_22] at hM_19
  have hM_23 : M_18 (μ 0) = .inr (6, [.ref (μ 1), .ref (μ 2), .ref (μ 3), .ref (μ 4), .ref (μ 5), .ref (μ 6), .ref (μ 7), .ref (μ 8), .int (iI (q 0)), .int (iI (q 1)), .int (iI (q 2)), .int (iI (q 3))]) := (fr_20 (μ 0) (hμ.ne (i := 0) (j := 1) (by decide) (by decide) (by decide))).trans hM_16
  have hM_24 : M_18 (μ 3) = cI ca 110 g := (fr_20 (μ 3) (hμ.ne (i := 3) (j := 1) (by decide) (by decide) (by decide))).trans hM_17
  refine g_aload_n X 0 rfl dX6_cyclesWith_29 rfl ?_
  refine g_callV X (ct_X6_beginsAnew l μ q g_21) (As := []) (rest := []) cl_X6 rfl ca_X6_beginsAnew rfl wm_X6_82 wi_X6_beginsAnew ws_X6_beginsAnew wc_X6_beginsAnew w0_X6 ⟨by decide, by decide⟩ (hμ.mem 0 (by decide)) hM_23 (by decide) ⟨by decide, by decide⟩ rfl dX6_cyclesWith_30 rfl ⟨rfl, hμ, hM_23, hM_19, by rw [hg_22, hg_15]; exact (by omega : (0 : Int) ≤ cwG g i v 5), by rw [hg_22, hg_15]; exact (by omega : cwG g i v 5 ≤ 4)⟩ (fun r1 L1 M_25 hq => ?_)
  obtain ⟨rfl, rfl, hM_26, fr_27⟩ := hq
  have hM_28 : M_25 (μ 0) = .inr (6, [.ref (μ 1), .ref (μ 2), .ref (μ 3), .ref (μ 4), .ref (μ 5), .ref (μ 6), .ref (μ 7), .ref (μ 8), .int (iI (q 0)), .int (iI (q 1)), .int (iI (q 2)), .int (iI (q 3))]) := (fr_27 (μ 0) (hμ.ne (i := 0) (j := 1) (by decide) (by decide) (by decide))).trans hM_23
  have hM_29 : M_25 (μ 3) = cI ca 110 g := (fr_27 (μ 3) (hμ.ne (i := 3) (j := 1) (by decide) (by decide) (by decide))).trans hM_24
  refine g_st (st' := []) rfl ?_
  refine g_aload_n X 0 rfl dX6_cyclesWith_33 rfl ?_
  refine g_callV X (ct_X6_runsOut l μ q (bgaG g_21)) (As := []) (rest := []) cl_X6 rfl ca_X6_runsOut rfl wm_X6_141 wi_X6_runsOut ws_X6_runsOut wc_X6_runsOut w0_X6 ⟨by decide, by decide⟩ (hμ.mem 0 (by decide)) hM_28 (by decide) ⟨by decide, by decide⟩ rfl dX6_cyclesWith_34 rfl ⟨rfl, hμ, hM_28, hM_26, by rw [hg_22, hg_15]; exact okI, by rw [hg_22, hg_15]; exact (by omega : bgaG (cwG g i v) 4 ≤ 900000)⟩ (fun r1 L1 M_30 hq => ?_)
  obtain ⟨rfl, rfl, hM_31, fr_32⟩ := hq
  have hM_33 : M_30 (μ 0) = .inr (6, [.ref (μ 1), .ref (μ 2), .ref (μ 3), .ref (μ 4), .ref (μ 5), .ref (μ 6), .ref (μ 7), .ref (μ 8), .int (iI (q 0)), .int (iI (q 1)), .int (iI (q 2)), .int (iI (q 3))]) := (fr_32 (μ 0) (hμ.ne (i := 0) (j := 1) (by decide) (by decide) (by decide))).trans hM_28
  have hM_34 : M_30 (μ 3) = cI ca 110 g := (fr_32 (μ 3) (hμ.ne (i := 3) (j := 1) (by decide) (by decide) (by decide))).trans hM_29
  refine g_st (st' := [.int (iI (roC 20000 (bgaG g_21)))]) rfl ?_
  refine g_istore_n X (lv' := [(3, .int (iI (roC 20000 (bgaG g_21)))), (0, .ref (μ 0)), (1, .int (iI i)), (2, .int (iI v))]) (by decide) rfl dX6_cyclesWith_37 rfl ?_
  refine g_aload_n X 1 rfl dX6_cyclesWith_38 rfl ?_
  refine g_callV X (ct_X6_putBack l μ q (roS 20000 (bgaG g_21)) g) (As := []) (rest := []) cl_X6 rfl ca_X6_putBack rfl wm_X6_144 wi_X6_putBack ws_X6_putBack wc_X6_putBack w0_X6 ⟨by decide, by decide⟩ (hμ.mem 0 (by decide)) hM_33 (by decide) ⟨by decide, by decide⟩ rfl dX6_cyclesWith_39 rfl ⟨rfl, hμ, hM_33, hM_31, hM_34⟩ (fun r1 L1 M_35 hq => ?_)
  obtain ⟨rfl, rfl, hM_36, fr_37⟩ := hq
  have hM_38 : M_35 (μ 0) = .inr (6, [.ref (μ 1), .ref (μ 2), .ref (μ 3), .ref (μ 4), .ref (μ 5), .ref (μ 6), .ref (μ 7), .ref (μ 8), .int (iI (q 0)), .int (iI (q 1)), .int (iI (q 2)), .int (iI (q 3))]) := (fr_37 (μ 0) (hμ.ne (i := 0) (j := 1) (by decide) (by decide) (by decide))).trans hM_33
  have hM_39 : M_35 (μ 3) = cI ca 110 g := (fr_37 (μ 3) (hμ.ne (i := 3) (j := 1) (by decide) (by decide) (by decide))).trans hM_34
  refine g_st (st' := []) rfl ?_
  refine g_iload_n X 0 rfl dX6_cyclesWith_42 rfl ?_
  subst hg_22 hg_15
  exact g_iret X hret ⟨Nat.le_of_ble_eq_true rfl, Nat.le_of_ble_eq_true rfl⟩ dX6_cyclesWith_43 ⟨rfl, rfl, hM_36, ⟨_, hM_39⟩, fun b hb hb3 => ((fr_37 b hb).trans ((fr_32 b hb).trans ((fr_27 b hb).trans ((fr_20 b hb).trans ((fr_13 b hb).trans ((fr_8 b hb).trans (fr_3 b hb3)))))))⟩
end
section
/-! the reference: what-ifs and what there is -/
set_option maxRecDepth 100000 in
set_option maxHeartbeats 4000000 in
theorem ct_X6_alone (l : Launch) (μ : Nat → Nat) (q g : Int → Int) (sp tr be sa iz rd pa : Int → Int) (i v : Int) : Ct l yX6_alone cX6_alone 3 (some .int) 7 0 0 (fun ca av L M => av = [.ref (μ 0), .int (iI i), .int (iI v)] ∧ MuOk μ L ∧ M (μ 0) = oMd μ q ∧ M (μ 1) = cI ca 110 g ∧ M (μ 2) = cI ca 110 sp ∧ M (μ 3) = cI ca 110 tr ∧ M (μ 4) = cI ca 660 be ∧ M (μ 5) = cI ca 220 sa ∧ M (μ 6) = cZ ca 2 iz ∧ M (μ 7) = cI ca 33 rd ∧ M (μ 8) = cC ca 60 pa ∧ Inv g ∧ (0 ≤ q 0 ∧ q 0 ≤ 60) ∧ (0 ≤ q 1 ∧ q 1 ≤ 6) ∧ R32 i ∧ R32 v) (fun ca av L M r L1 M1 => r = some (.int (iI (anAlone (g, be, sa, iz, pa, q 0, q 1) i v))) ∧ L = L1 ∧ Md ca M1 μ ((g, be, sa, iz, pa, q 0, q 1)) ∧ ∀ b, (∀ i, i < 9 → b ≠ μ i) → M1 b = M b) := by
  refine Ct_of (own := RX6) (by decide) rfl (by rintro _ _ _ _ ⟨rfl, _⟩; exact Nat.le_of_ble_eq_true rfl) ?_
  rintro p e s m args below meth c D ca A av L M ⟨rfl, hμ, hMo, hMs, hM2, hM3, hM4, hM5, hM6, hM7, hM8, hI, hq0, hq1, hi, hv⟩ X hret hname
  refine g_lv (lv' := [(0, .ref (μ 0)), (1, .int (iI i)), (2, .int (iI v))]) [0, 1, 2] rfl ?_
  obtain ⟨⟨i00, i01⟩, ⟨i10, i11⟩, ⟨i20, i21⟩, ⟨i30, i31⟩, ⟨i40, i41⟩, i50, i51⟩ := id hI.1
  refine g_aload_n X 0 rfl dX6_alone_0 rfl ?_
  refine g_iload_n X 1 rfl dX6_alone_1 rfl ?_
  refine g_callV X (ct_X6_isStream l μ q g i) (As := [.int (iI i)]) (rest := []) cl_X6 rfl ca_X6_isStream rfl wm_X6_92 wi_X6_isStream ws_X6_isStream wc_X6_isStream w0_X6 ⟨by decide, by decide⟩ (hμ.mem 0 (by decide)) hMo (by decide) ⟨by decide, by decide⟩ rfl dX6_alone_2 rfl ⟨rfl, hμ, hMo, hMs, hi, by omega, by omega⟩ (fun r1 L1 M1 hq => ?_)
  obtain ⟨rfl, rfl, rfl⟩ := hq
  refine g_st (st' := [.int (iI (if 0 ≤ i ∧ i ≤ g 5 - 1 then 1 else 0))]) rfl ?_
  refine g_if_neb X (tgt := 10) dX6_alone_5 (by decide) rfl (fun h_1 => ?_) (fun h_1 => ?_)
  · refine g_iload_n X 2 rfl dX6_alone_10 rfl ?_
    refine g_iconst X (z := 0) dX6_alone_11 rfl ?_
    refine g_sipush X (z := 1023) (by decide +kernel) dX6_alone_12 rfl ?_
    refine g_callS X (ct_X6_in l v 0 1023) (As := [.int (iI v), .int (iI 0), .int (iI 1023)]) (rest := []) rfl ca_X6_in rfl wm_X6_36 wt_X6_in wc_X6_in w0_X6 ⟨by decide, by decide⟩ (by decide) ⟨by decide, by decide⟩ rfl dX6_alone_15 rfl ⟨rfl, hv, ⟨by decide, by decide⟩, ⟨by decide, by decide⟩⟩ (fun r1 L1 M1 hq => ?_)
    obtain ⟨rfl, rfl, rfl⟩ := hq
    refine g_st (st' := [.int (iI (if 0 ≤ v ∧ v ≤ 1023 then 1 else 0))]) rfl ?_
    refine g_if_eqb X (tgt := 30) dX6_alone_18 (by decide) rfl (fun h_2 => ?_) (fun h_2 => ?_)
    · refine g_bipush X (z := -2) (by decide +kernel) dX6_alone_30 rfl ?_
      exact g_iret X hret ⟨Nat.le_of_ble_eq_true rfl, Nat.le_of_ble_eq_true rfl⟩ dX6_alone_32 ⟨by rw [anAlone, if_pos h_1, if_neg h_2], rfl, ⟨q, _, _, _, rfl, rfl, hMo, hMs, hM2, hM3, hM4, hM5, hM6, hM7, hM8⟩, (fun b hb => rfl)⟩
    · refine g_aload_n X 0 rfl dX6_alone_21 rfl ?_
      refine g_iload_n X 1 rfl dX6_alone_22 rfl ?_
      refine g_iload_n X 2 rfl dX6_alone_23 rfl ?_
      refine g_callV X (ct_X6_cyclesWith l μ q g tr i v) (As := [.int (iI i), .int (iI v)]) (rest := []) cl_X6 rfl ca_X6_cyclesWith rfl wm_X6_151 wi_X6_cyclesWith ws_X6_cyclesWith wc_X6_cyclesWith w0_X6 ⟨by decide, by decide⟩ (hμ.mem 0 (by decide)) hMo (by decide) ⟨by decide, by decide⟩ rfl dX6_alone_24 rfl ⟨rfl, hμ, hMo, hMs, hM3, hI, by omega, by omega, by omega⟩ (fun r1 L1 M_3 hq => ?_)
      obtain ⟨rfl, rfl, hM_4, ⟨t_7, hM_5⟩, fr_6⟩ := hq
      have hM_8 : M_3 (μ 0) = .inr (6, [.ref (μ 1), .ref (μ 2), .ref (μ 3), .ref (μ 4), .ref (μ 5), .ref (μ 6), .ref (μ 7), .ref (μ 8), .int (iI (q 0)), .int (iI (q 1)), .int (iI (q 2)), .int (iI (q 3))]) := (fr_6 _ (hμ.ne (i := 0) (j := 1) (by decide) (by decide) (by decide)) (hμ.ne (i := 0) (j := 3) (by decide) (by decide) (by decide))).trans hMo
      have hM_9 : M_3 (μ 2) = cI ca 110 sp := (fr_6 _ (hμ.ne (i := 2) (j := 1) (by decide) (by decide) (by decide)) (hμ.ne (i := 2) (j := 3) (by decide) (by decide) (by decide))).trans hM2
      have hM_10 : M_3 (μ 4) = cI ca 660 be := (fr_6 _ (hμ.ne (i := 4) (j := 1) (by decide) (by decide) (by decide)) (hμ.ne (i := 4) (j := 3) (by decide) (by decide) (by decide))).trans hM4
      have hM_11 : M_3 (μ 5) = cI ca 220 sa := (fr_6 _ (hμ.ne (i := 5) (j := 1) (by decide) (by decide) (by decide)) (hμ.ne (i := 5) (j := 3) (by decide) (by decide) (by decide))).trans hM5
      have hM_12 : M_3 (μ 6) = cZ ca 2 iz := (fr_6 _ (hμ.ne (i := 6) (j := 1) (by decide) (by decide) (by decide)) (hμ.ne (i := 6) (j := 3) (by decide) (by decide) (by decide))).trans hM6
      have hM_13 : M_3 (μ 7) = cI ca 33 rd := (fr_6 _ (hμ.ne (i := 7) (j := 1) (by decide) (by decide) (by decide)) (hμ.ne (i := 7) (j := 3) (by decide) (by decide) (by decide))).trans hM7
      have hM_14 : M_3 (μ 8) = cC ca 60 pa := (fr_6 _ (hμ.ne (i := 8) (j := 1) (by decide) (by decide) (by decide)) (hμ.ne (i := 8) (j := 3) (by decide) (by decide) (by decide))).trans hM8
      refine g_st (st' := [.int (iI (cwC g i v))]) rfl ?_
      refine g_goto X (n := 32) dX6_alone_27 (by decide) ?_
      exact g_iret X hret ⟨Nat.le_of_ble_eq_true rfl, Nat.le_of_ble_eq_true rfl⟩ dX6_alone_32 ⟨by rw [anAlone, if_pos h_1, if_pos h_2], rfl, ⟨q, _, _, _, rfl, rfl, hM_8, hM_4, hM_9, hM_5, hM_10, hM_11, hM_12, hM_13, hM_14⟩, (fun b hb => (fr_6 b (hb 1 (by decide)) (hb 3 (by decide))))⟩
  · refine g_iconst X (z := -1) dX6_alone_8 rfl ?_
    exact g_iret X hret ⟨Nat.le_of_ble_eq_true rfl, Nat.le_of_ble_eq_true rfl⟩ dX6_alone_9 ⟨by rw [anAlone, if_neg h_1], rfl, ⟨q, _, _, _, rfl, rfl, hMo, hMs, hM2, hM3, hM4, hM5, hM6, hM7, hM8⟩, (fun b hb => rfl)⟩
set_option maxRecDepth 100000 in
set_option maxHeartbeats 4000000 in
theorem ct_X6_bestStride (l : Launch) (μ : Nat → Nat) (q g : Int → Int) (sp tr be sa iz rd pa : Int → Int) (i a b0 : Int) : Ct l yX6_bestStride cX6_bestStride 8 (some .int) 7 0 0 (fun ca av L M => av = [.ref (μ 0), .int (iI i), .int (iI a), .int (iI b0)] ∧ MuOk μ L ∧ M (μ 0) = oMd μ q ∧ M (μ 1) = cI ca 110 g ∧ M (μ 2) = cI ca 110 sp ∧ M (μ 3) = cI ca 110 tr ∧ M (μ 4) = cI ca 660 be ∧ M (μ 5) = cI ca 220 sa ∧ M (μ 6) = cZ ca 2 iz ∧ M (μ 7) = cI ca 33 rd ∧ M (μ 8) = cC ca 60 pa ∧ Inv g ∧ (0 ≤ q 0 ∧ q 0 ≤ 60) ∧ (0 ≤ q 1 ∧ q 1 ≤ 6) ∧ R32 i ∧ R32 a ∧ R32 b0) (fun ca av L M r L1 M1 => r = some (.int (iI (anBest (g, be, sa, iz, pa, q 0, q 1) i a b0))) ∧ L = L1 ∧ Md ca M1 μ ((g, be, sa, iz, pa, q 0, q 1)) ∧ ∀ b, (∀ i, i < 9 → b ≠ μ i) → M1 b = M b) := by
  refine Ct_of (own := RX6) (by decide) rfl (by rintro _ _ _ _ ⟨rfl, _⟩; exact Nat.le_of_ble_eq_true rfl) ?_
  rintro p e s m args below meth c D ca A av L M ⟨rfl, hμ, hMo, hMs, hM2, hM3, hM4, hM5, hM6, hM7, hM8, hI, hq0, hq1, hi, ha, hb0⟩ X hret hname
  refine g_lv (lv' := [(0, .ref (μ 0)), (1, .int (iI i)), (2, .int (iI a)), (3, .int (iI b0))]) [0, 1, 2, 3] rfl ?_
  generalize hQ : MQ below _ args s _ _ A = Q
  obtain ⟨⟨i00, i01⟩, ⟨i10, i11⟩, ⟨i20, i21⟩, ⟨i30, i31⟩, ⟨i40, i41⟩, i50, i51⟩ := id hI.1
  have lp : ∀ (n : Nat) (k : Nat) (x z y : Int) (M1 : Mem) (t : Int → Int) (hin : isStr g i) (hab : (0 ≤ a ∧ a ≤ 1023) ∧ (a ≤ b0 ∧ b0 ≤ 1023) ∧ b0 ≤ a + 63) (hy : y = a + k) (hyb : y ≤ b0 + 1) (hx : x = (bsF g i a k).1) (hz : z = (bsF g i a k).2) (hzr : R32 z) (n0 : M1 (μ 0) = .inr (6, [.ref (μ 1), .ref (μ 2), .ref (μ 3), .ref (μ 4), .ref (μ 5), .ref (μ 6), .ref (μ 7), .ref (μ 8), .int (iI (q 0)), .int (iI (q 1)), .int (iI (q 2)), .int (iI (q 3))])) (n1 : M1 (μ 1) = cI ca 110 g) (n2 : M1 (μ 2) = cI ca 110 sp) (n3 : M1 (μ 3) = cI ca 110 t) (n4 : M1 (μ 4) = cI ca 660 be) (n5 : M1 (μ 5) = cI ca 220 sa) (n6 : M1 (μ 6) = cZ ca 2 iz) (n7 : M1 (μ 7) = cI ca 33 rd) (n8 : M1 (μ 8) = cC ca 60 pa) (hfr : ∀ b, b ≠ μ 1 → b ≠ μ 3 → M1 b = M b) (hm : b0 + 1 - y < (n : Int)), G p l e (Rm 7 0 0) s m args below meth c D A 8 Q 0 0 L M1 53 [(0, .ref (μ 0)), (1, .int (iI i)), (2, .int (iI a)), (3, .int (iI b0)), (4, .int (iI x)), (5, .int (iI z)), (6, .int (iI y))] [] := by
    intro n
    induction n with
    | zero =>
      intro k x z y M1 t hin hab hy hyb hx hz hzr n0 n1 n2 n3 n4 n5 n6 n7 n8 hfr hm
      exfalso; omega
    | succ n ih =>
      intro k x z y M1 t hin hab hy hyb hx hz hzr n0 n1 n2 n3 n4 n5 n6 n7 n8 hfr hm
      have cwr : R32 (cwC g i y) := by have := ro_rng (g := bgaG (cwG g i y)) 20000; unfold cwC; exact ⟨by omega, by omega⟩
      refine g_iload X 6 rfl dX6_bestStride_53 rfl ?_
      refine g_iload_n X 3 rfl dX6_bestStride_55 rfl ?_
      refine g_icmp_gt X ⟨by omega, by omega⟩ hb0 (tgt := 106) dX6_bestStride_56 (by decide) rfl (fun h_1 => ?_) (fun h_1 => ?_)
      · refine g_iload X 4 rfl dX6_bestStride_106 rfl ?_
        subst hQ
        have hk2 : (b0 + 1 - a).toNat = k := by omega
        exact g_iret X hret ⟨Nat.le_of_ble_eq_true rfl, Nat.le_of_ble_eq_true rfl⟩ dX6_bestStride_108 ⟨by rw [anBest, if_pos hin, if_pos hab, hk2, hx], rfl, ⟨q, _, _, _, rfl, rfl, n0, n1, n2, n3, n4, n5, n6, n7, n8⟩, (fun b hb => (hfr b (hb 1 (by decide)) (hb 3 (by decide))))⟩
      · refine g_aload_n X 0 rfl dX6_bestStride_59 rfl ?_
        refine g_iload_n X 1 rfl dX6_bestStride_60 rfl ?_
        refine g_iload X 6 rfl dX6_bestStride_61 rfl ?_
        refine g_callV X (ct_X6_cyclesWith l μ q g t i y) (As := [.int (iI i), .int (iI y)]) (rest := []) cl_X6 rfl ca_X6_cyclesWith rfl wm_X6_151 wi_X6_cyclesWith ws_X6_cyclesWith wc_X6_cyclesWith w0_X6 ⟨by decide, by decide⟩ (hμ.mem 0 (by decide)) n0 (by decide) ⟨by decide, by decide⟩ rfl dX6_bestStride_63 rfl ⟨rfl, hμ, n0, n1, n3, hI, by omega, by omega, by omega⟩ (fun r1 L1 M_2 hq => ?_)
        obtain ⟨rfl, rfl, hM_3, ⟨t_6, hM_4⟩, fr_5⟩ := hq
        have hM_7 : M_2 (μ 0) = .inr (6, [.ref (μ 1), .ref (μ 2), .ref (μ 3), .ref (μ 4), .ref (μ 5), .ref (μ 6), .ref (μ 7), .ref (μ 8), .int (iI (q 0)), .int (iI (q 1)), .int (iI (q 2)), .int (iI (q 3))]) := (fr_5 _ (hμ.ne (i := 0) (j := 1) (by decide) (by decide) (by decide)) (hμ.ne (i := 0) (j := 3) (by decide) (by decide) (by decide))).trans n0
        have hM_8 : M_2 (μ 2) = cI ca 110 sp := (fr_5 _ (hμ.ne (i := 2) (j := 1) (by decide) (by decide) (by decide)) (hμ.ne (i := 2) (j := 3) (by decide) (by decide) (by decide))).trans n2
        have hM_9 : M_2 (μ 4) = cI ca 660 be := (fr_5 _ (hμ.ne (i := 4) (j := 1) (by decide) (by decide) (by decide)) (hμ.ne (i := 4) (j := 3) (by decide) (by decide) (by decide))).trans n4
        have hM_10 : M_2 (μ 5) = cI ca 220 sa := (fr_5 _ (hμ.ne (i := 5) (j := 1) (by decide) (by decide) (by decide)) (hμ.ne (i := 5) (j := 3) (by decide) (by decide) (by decide))).trans n5
        have hM_11 : M_2 (μ 6) = cZ ca 2 iz := (fr_5 _ (hμ.ne (i := 6) (j := 1) (by decide) (by decide) (by decide)) (hμ.ne (i := 6) (j := 3) (by decide) (by decide) (by decide))).trans n6
        have hM_12 : M_2 (μ 7) = cI ca 33 rd := (fr_5 _ (hμ.ne (i := 7) (j := 1) (by decide) (by decide) (by decide)) (hμ.ne (i := 7) (j := 3) (by decide) (by decide) (by decide))).trans n7
        have hM_13 : M_2 (μ 8) = cC ca 60 pa := (fr_5 _ (hμ.ne (i := 8) (j := 1) (by decide) (by decide) (by decide)) (hμ.ne (i := 8) (j := 3) (by decide) (by decide) (by decide))).trans n8
        refine g_st (st' := [.int (iI (cwC g i y))]) rfl ?_
        refine g_istore X (lv' := [(7, .int (iI (cwC g i y))), (0, .ref (μ 0)), (1, .int (iI i)), (2, .int (iI a)), (3, .int (iI b0)), (4, .int (iI x)), (5, .int (iI z)), (6, .int (iI y))]) (by decide) rfl dX6_bestStride_66 rfl ?_
        refine g_iload X 0 rfl dX6_bestStride_68 rfl ?_
        refine g_iload X 6 rfl dX6_bestStride_70 rfl ?_
        refine g_icmp_ge X cwr hzr (tgt := 80) dX6_bestStride_72 (by decide) rfl (fun h_14 => ?_) (fun h_14 => ?_)
        · refine g_iload X 5 rfl dX6_bestStride_80 rfl ?_
          refine g_istore X (lv' := [(4, .int (iI x)), (7, .int (iI (cwC g i y))), (0, .ref (μ 0)), (1, .int (iI i)), (2, .int (iI a)), (3, .int (iI b0)), (5, .int (iI z)), (6, .int (iI y))]) (by decide) rfl dX6_bestStride_82 rfl ?_
          refine g_iload X 1 rfl dX6_bestStride_84 rfl ?_
          refine g_iload X 6 rfl dX6_bestStride_86 rfl ?_
          refine g_icmp_ge X cwr hzr (tgt := 96) dX6_bestStride_88 (by decide) rfl (fun h_15 => ?_) (fun h_15 => ?_)
          · refine g_iload X 6 rfl dX6_bestStride_96 rfl ?_
            refine g_istore X (lv' := [(5, .int (iI z)), (4, .int (iI x)), (7, .int (iI (cwC g i y))), (0, .ref (μ 0)), (1, .int (iI i)), (2, .int (iI a)), (3, .int (iI b0)), (6, .int (iI y))]) (by decide) rfl dX6_bestStride_98 rfl ?_
            refine g_iinc X (lv' := [(6, .int (iI (y + 1))), (5, .int (iI z)), (4, .int (iI x)), (7, .int (iI (cwC g i y))), (0, .ref (μ 0)), (1, .int (iI i)), (2, .int (iI a)), (3, .int (iI b0))]) 7 rfl (by decide) rfl dX6_bestStride_100 rfl ?_
            refine g_goto X (n := 53) dX6_bestStride_103 (by decide) ?_
            refine g_lv (lv' := [(0, .ref (μ 0)), (1, .int (iI i)), (2, .int (iI a)), (3, .int (iI b0)), (4, .int (iI x)), (5, .int (iI z)), (6, .int (iI (y + 1)))]) [4, 5, 6, 7, 2, 1, 0] rfl ?_
            exact ih (k + 1) _ _ _ _ _ hin hab (by omega) (by omega) (by simp only [bsF]; rw [← hx, ← hz, ← hy, if_neg (by omega)]) (by simp only [bsF]; rw [← hz, ← hy, if_neg (by omega)]) (by have := ro_rng (g := bgaG (cwG g i y)) 20000; first | exact hzr | (unfold cwC at *; omega)) hM_7 hM_3 hM_8 hM_4 hM_9 hM_10 hM_11 hM_12 hM_13 (fun b hb1 hb3 => ((fr_5 b hb1 hb3).trans (hfr b hb1 hb3))) (by omega)
          · refine g_iload X 1 rfl dX6_bestStride_91 rfl ?_
            refine g_goto X (n := 98) dX6_bestStride_93 (by decide) ?_
            refine g_istore X (lv' := [(5, .int (iI (cwC g i y))), (4, .int (iI x)), (7, .int (iI (cwC g i y))), (0, .ref (μ 0)), (1, .int (iI i)), (2, .int (iI a)), (3, .int (iI b0)), (6, .int (iI y))]) (by decide) rfl dX6_bestStride_98 rfl ?_
            refine g_iinc X (lv' := [(6, .int (iI (y + 1))), (5, .int (iI (cwC g i y))), (4, .int (iI x)), (7, .int (iI (cwC g i y))), (0, .ref (μ 0)), (1, .int (iI i)), (2, .int (iI a)), (3, .int (iI b0))]) 7 rfl (by decide) rfl dX6_bestStride_100 rfl ?_
            refine g_goto X (n := 53) dX6_bestStride_103 (by decide) ?_
            refine g_lv (lv' := [(0, .ref (μ 0)), (1, .int (iI i)), (2, .int (iI a)), (3, .int (iI b0)), (4, .int (iI x)), (5, .int (iI (cwC g i y))), (6, .int (iI (y + 1)))]) [4, 5, 6, 7, 2, 1, 0] rfl ?_
            exact ih (k + 1) _ _ _ _ _ hin hab (by omega) (by omega) (by simp only [bsF]; rw [← hx, ← hz, ← hy, if_neg (by omega)]) (by simp only [bsF]; rw [← hz, ← hy, if_pos (by omega)]) (by have := ro_rng (g := bgaG (cwG g i y)) 20000; first | exact hzr | (unfold cwC at *; omega)) hM_7 hM_3 hM_8 hM_4 hM_9 hM_10 hM_11 hM_12 hM_13 (fun b hb1 hb3 => ((fr_5 b hb1 hb3).trans (hfr b hb1 hb3))) (by omega)
        · refine g_iload X 7 rfl dX6_bestStride_75 rfl ?_
          refine g_goto X (n := 82) dX6_bestStride_77 (by decide) ?_
          refine g_istore X (lv' := [(4, .int (iI y)), (7, .int (iI (cwC g i y))), (0, .ref (μ 0)), (1, .int (iI i)), (2, .int (iI a)), (3, .int (iI b0)), (5, .int (iI z)), (6, .int (iI y))]) (by decide) rfl dX6_bestStride_82 rfl ?_
          refine g_iload X 1 rfl dX6_bestStride_84 rfl ?_
          refine g_iload X 6 rfl dX6_bestStride_86 rfl ?_
          refine g_icmp_ge X cwr hzr (tgt := 96) dX6_bestStride_88 (by decide) rfl (fun h_16 => ?_) (fun h_16 => ?_)
          · refine g_iload X 6 rfl dX6_bestStride_96 rfl ?_
            refine g_istore X (lv' := [(5, .int (iI z)), (4, .int (iI y)), (7, .int (iI (cwC g i y))), (0, .ref (μ 0)), (1, .int (iI i)), (2, .int (iI a)), (3, .int (iI b0)), (6, .int (iI y))]) (by decide) rfl dX6_bestStride_98 rfl ?_
            refine g_iinc X (lv' := [(6, .int (iI (y + 1))), (5, .int (iI z)), (4, .int (iI y)), (7, .int (iI (cwC g i y))), (0, .ref (μ 0)), (1, .int (iI i)), (2, .int (iI a)), (3, .int (iI b0))]) 7 rfl (by decide) rfl dX6_bestStride_100 rfl ?_
            refine g_goto X (n := 53) dX6_bestStride_103 (by decide) ?_
            refine g_lv (lv' := [(0, .ref (μ 0)), (1, .int (iI i)), (2, .int (iI a)), (3, .int (iI b0)), (4, .int (iI y)), (5, .int (iI z)), (6, .int (iI (y + 1)))]) [4, 5, 6, 7, 2, 1, 0] rfl ?_
            exact ih (k + 1) _ _ _ _ _ hin hab (by omega) (by omega) (by simp only [bsF]; rw [← hx, ← hz, ← hy, if_pos (by omega)]) (by simp only [bsF]; rw [← hz, ← hy, if_neg (by omega)]) (by have := ro_rng (g := bgaG (cwG g i y)) 20000; first | exact hzr | (unfold cwC at *; omega)) hM_7 hM_3 hM_8 hM_4 hM_9 hM_10 hM_11 hM_12 hM_13 (fun b hb1 hb3 => ((fr_5 b hb1 hb3).trans (hfr b hb1 hb3))) (by omega)
          · refine g_iload X 1 rfl dX6_bestStride_91 rfl ?_
            refine g_goto X (n := 98) dX6_bestStride_93 (by decide) ?_
            refine g_istore X (lv' := [(5, .int (iI (cwC g i y))), (4, .int (iI y)), (7, .int (iI (cwC g i y))), (0, .ref (μ 0)), (1, .int (iI i)), (2, .int (iI a)), (3, .int (iI b0)), (6, .int (iI y))]) (by decide) rfl dX6_bestStride_98 rfl ?_
            refine g_iinc X (lv' := [(6, .int (iI (y + 1))), (5, .int (iI (cwC g i y))), (4, .int (iI y)), (7, .int (iI (cwC g i y))), (0, .ref (μ 0)), (1, .int (iI i)), (2, .int (iI a)), (3, .int (iI b0))]) 7 rfl (by decide) rfl dX6_bestStride_100 rfl ?_
            refine g_goto X (n := 53) dX6_bestStride_103 (by decide) ?_
            refine g_lv (lv' := [(0, .ref (μ 0)), (1, .int (iI i)), (2, .int (iI a)), (3, .int (iI b0)), (4, .int (iI y)), (5, .int (iI (cwC g i y))), (6, .int (iI (y + 1)))]) [4, 5, 6, 7, 2, 1, 0] rfl ?_
            exact ih (k + 1) _ _ _ _ _ hin hab (by omega) (by omega) (by simp only [bsF]; rw [← hx, ← hz, ← hy, if_pos (by omega)]) (by simp only [bsF]; rw [← hz, ← hy, if_pos (by omega)]) (by have := ro_rng (g := bgaG (cwG g i y)) 20000; first | exact hzr | (unfold cwC at *; omega)) hM_7 hM_3 hM_8 hM_4 hM_9 hM_10 hM_11 hM_12 hM_13 (fun b hb1 hb3 => ((fr_5 b hb1 hb3).trans (hfr b hb1 hb3))) (by omega)
  refine g_aload_n X 0 rfl dX6_bestStride_0 rfl ?_
  refine g_iload_n X 1 rfl dX6_bestStride_1 rfl ?_
  refine g_callV X (ct_X6_isStream l μ q g i) (As := [.int (iI i)]) (rest := []) cl_X6 rfl ca_X6_isStream rfl wm_X6_92 wi_X6_isStream ws_X6_isStream wc_X6_isStream w0_X6 ⟨by decide, by decide⟩ (hμ.mem 0 (by decide)) hMo (by decide) ⟨by decide, by decide⟩ rfl dX6_bestStride_2 rfl ⟨rfl, hμ, hMo, hMs, hi, by omega, by omega⟩ (fun r1 L1 M1 hq => ?_)
  obtain ⟨rfl, rfl, rfl⟩ := hq
  refine g_st (st' := [.int (iI (if 0 ≤ i ∧ i ≤ g 5 - 1 then 1 else 0))]) rfl ?_
  refine g_if_neb X (tgt := 10) dX6_bestStride_5 (by decide) rfl (fun h_17 => ?_) (fun h_17 => ?_)
  · refine g_iload_n X 2 rfl dX6_bestStride_10 rfl ?_
    refine g_iconst X (z := 0) dX6_bestStride_11 rfl ?_
    refine g_sipush X (z := 1023) (by decide +kernel) dX6_bestStride_12 rfl ?_
    refine g_callS X (ct_X6_in l a 0 1023) (As := [.int (iI a), .int (iI 0), .int (iI 1023)]) (rest := []) rfl ca_X6_in rfl wm_X6_36 wt_X6_in wc_X6_in w0_X6 ⟨by decide, by decide⟩ (by decide) ⟨by decide, by decide⟩ rfl dX6_bestStride_15 rfl ⟨rfl, ha, ⟨by decide, by decide⟩, ⟨by decide, by decide⟩⟩ (fun r1 L1 M1 hq => ?_)
    obtain ⟨rfl, rfl, rfl⟩ := hq
    refine g_st (st' := [.int (iI (if 0 ≤ a ∧ a ≤ 1023 then 1 else 0))]) rfl ?_
    refine g_if_eqb X (tgt := 40) dX6_bestStride_18 (by decide) rfl (fun h_18 => ?_) (fun h_18 => ?_)
    · refine g_bipush X (z := -2) (by decide +kernel) dX6_bestStride_40 rfl ?_
      subst hQ
      exact g_iret X hret ⟨Nat.le_of_ble_eq_true rfl, Nat.le_of_ble_eq_true rfl⟩ dX6_bestStride_42 ⟨by rw [anBest, if_pos h_17, if_neg (by omega)], rfl, ⟨q, _, _, _, rfl, rfl, hMo, hMs, hM2, hM3, hM4, hM5, hM6, hM7, hM8⟩, (fun b hb => rfl)⟩
    · refine g_iload_n X 3 rfl dX6_bestStride_21 rfl ?_
      refine g_iload_n X 2 rfl dX6_bestStride_22 rfl ?_
      refine g_sipush X (z := 1023) (by decide +kernel) dX6_bestStride_23 rfl ?_
      refine g_callS X (ct_X6_in l b0 a 1023) (As := [.int (iI b0), .int (iI a), .int (iI 1023)]) (rest := []) rfl ca_X6_in rfl wm_X6_36 wt_X6_in wc_X6_in w0_X6 ⟨by decide, by decide⟩ (by decide) ⟨by decide, by decide⟩ rfl dX6_bestStride_26 rfl ⟨rfl, hb0, ha, ⟨by decide, by decide⟩⟩ (fun r1 L1 M1 hq => ?_)
      obtain ⟨rfl, rfl, rfl⟩ := hq
      refine g_st (st' := [.int (iI (if a ≤ b0 ∧ b0 ≤ 1023 then 1 else 0))]) rfl ?_
      refine g_if_eqb X (tgt := 40) dX6_bestStride_29 (by decide) rfl (fun h_19 => ?_) (fun h_19 => ?_)
      · refine g_bipush X (z := -2) (by decide +kernel) dX6_bestStride_40 rfl ?_
        subst hQ
        exact g_iret X hret ⟨Nat.le_of_ble_eq_true rfl, Nat.le_of_ble_eq_true rfl⟩ dX6_bestStride_42 ⟨by rw [anBest, if_pos h_17, if_neg (by omega)], rfl, ⟨q, _, _, _, rfl, rfl, hMo, hMs, hM2, hM3, hM4, hM5, hM6, hM7, hM8⟩, (fun b hb => rfl)⟩
      · refine g_iload_n X 3 rfl dX6_bestStride_32 rfl ?_
        refine g_iload_n X 2 rfl dX6_bestStride_33 rfl ?_
        refine g_bipush X (z := 63) (by decide +kernel) dX6_bestStride_34 rfl ?_
        refine g_iadd X dX6_bestStride_36 rfl ?_
        refine g_icmp_le X hb0 ⟨by omega, by omega⟩ (tgt := 43) dX6_bestStride_37 (by decide) rfl (fun h_20 => ?_) (fun h_20 => ?_)
        · refine g_iload_n X 2 rfl dX6_bestStride_43 rfl ?_
          refine g_istore X (lv' := [(4, .int (iI a)), (0, .ref (μ 0)), (1, .int (iI i)), (2, .int (iI a)), (3, .int (iI b0))]) (by decide) rfl dX6_bestStride_44 rfl ?_
          refine g_ldc X (z := 1000000) wv_X6_155 (by decide +kernel) dX6_bestStride_46 rfl ?_
          refine g_istore X (lv' := [(5, .int (iI 1000000)), (4, .int (iI a)), (0, .ref (μ 0)), (1, .int (iI i)), (2, .int (iI a)), (3, .int (iI b0))]) (by decide) rfl dX6_bestStride_48 rfl ?_
          refine g_iload_n X 4 rfl dX6_bestStride_50 rfl ?_
          refine g_istore X (lv' := [(6, .int (iI a)), (5, .int (iI 1000000)), (4, .int (iI a)), (0, .ref (μ 0)), (1, .int (iI i)), (2, .int (iI a)), (3, .int (iI b0))]) (by decide) rfl dX6_bestStride_51 rfl ?_
          have hin : isStr g i := h_17
          refine g_lv (lv' := [(0, .ref (μ 0)), (1, .int (iI i)), (2, .int (iI a)), (3, .int (iI b0)), (4, .int (iI a)), (5, .int (iI 1000000)), (6, .int (iI a))]) [3, 4, 5, 6, 2, 1, 0] rfl ?_
          exact lp 70 0 _ _ _ _ _ hin (by omega) (by omega) (by omega) rfl rfl ⟨by decide, by decide⟩ hMo hMs hM2 hM3 hM4 hM5 hM6 hM7 hM8 (fun b hb1 hb3 => rfl) (by omega)
        · refine g_bipush X (z := -2) (by decide +kernel) dX6_bestStride_40 rfl ?_
          subst hQ
          exact g_iret X hret ⟨Nat.le_of_ble_eq_true rfl, Nat.le_of_ble_eq_true rfl⟩ dX6_bestStride_42 ⟨by rw [anBest, if_pos h_17, if_neg (by omega)], rfl, ⟨q, _, _, _, rfl, rfl, hMo, hMs, hM2, hM3, hM4, hM5, hM6, hM7, hM8⟩, (fun b hb => rfl)⟩
  · refine g_iconst X (z := -1) dX6_bestStride_8 rfl ?_
    subst hQ
    exact g_iret X hret ⟨Nat.le_of_ble_eq_true rfl, Nat.le_of_ble_eq_true rfl⟩ dX6_bestStride_9 ⟨by rw [anBest, if_neg h_17], rfl, ⟨q, _, _, _, rfl, rfl, hMo, hMs, hM2, hM3, hM4, hM5, hM6, hM7, hM8⟩, (fun b hb => rfl)⟩
set_option maxRecDepth 100000 in
set_option maxHeartbeats 4000000 in
theorem ct_X6_bestMap (l : Launch) (μ : Nat → Nat) (q g : Int → Int) (sp tr be sa iz rd pa : Int → Int) (w : Int) : Ct l yX6_bestMap cX6_bestMap 6 (some .int) 6 0 0 (fun ca av L M => av = [.ref (μ 0), .int (iI w)] ∧ MuOk μ L ∧ M (μ 0) = oMd μ q ∧ M (μ 1) = cI ca 110 g ∧ M (μ 2) = cI ca 110 sp ∧ M (μ 3) = cI ca 110 tr ∧ M (μ 4) = cI ca 660 be ∧ M (μ 5) = cI ca 220 sa ∧ M (μ 6) = cZ ca 2 iz ∧ M (μ 7) = cI ca 33 rd ∧ M (μ 8) = cC ca 60 pa ∧ Inv g ∧ (0 ≤ q 0 ∧ q 0 ≤ 60) ∧ (0 ≤ q 1 ∧ q 1 ≤ 6) ∧ R32 w) (fun ca av L M r L1 M1 => r = some (.int (iI (anMap (g, be, sa, iz, pa, q 0, q 1) w))) ∧ L = L1 ∧ Md ca M1 μ ((g, be, sa, iz, pa, q 0, q 1)) ∧ ∀ b, (∀ i, i < 9 → b ≠ μ i) → M1 b = M b) := by
  refine Ct_of (own := RX6) (by decide) rfl (by rintro _ _ _ _ ⟨rfl, _⟩; exact Nat.le_of_ble_eq_true rfl) ?_
  rintro p e s m args below meth c D ca A av L M ⟨rfl, hμ, hMo, hMs, hM2, hM3, hM4, hM5, hM6, hM7, hM8, hI, hq0, hq1, hw⟩ X hret hname
  refine g_lv (lv' := [(0, .ref (μ 0)), (1, .int (iI w))]) [0, 1] rfl ?_
  generalize hQ : MQ below _ args s _ _ A = Q
  obtain ⟨⟨i00, i01⟩, ⟨i10, i11⟩, ⟨i20, i21⟩, ⟨i30, i31⟩, ⟨i40, i41⟩, i50, i51⟩ := id hI.1
  have lp : ∀ (n : Nat) (k : Nat) (x z y : Int) (M1 : Mem) (t : Int → Int) (hw2 : 0 ≤ w ∧ w ≤ 1) (hy : y = k) (hyb : y ≤ 3) (hx : x = (bmF g k).1) (hz : z = (bmF g k).2) (hzr : R32 z) (n0 : M1 (μ 0) = .inr (6, [.ref (μ 1), .ref (μ 2), .ref (μ 3), .ref (μ 4), .ref (μ 5), .ref (μ 6), .ref (μ 7), .ref (μ 8), .int (iI (q 0)), .int (iI (q 1)), .int (iI (q 2)), .int (iI (q 3))])) (n1 : M1 (μ 1) = cI ca 110 g) (n2 : M1 (μ 2) = cI ca 110 sp) (n3 : M1 (μ 3) = cI ca 110 t) (n4 : M1 (μ 4) = cI ca 660 be) (n5 : M1 (μ 5) = cI ca 220 sa) (n6 : M1 (μ 6) = cZ ca 2 iz) (n7 : M1 (μ 7) = cI ca 33 rd) (n8 : M1 (μ 8) = cC ca 60 pa) (hfr : ∀ b, b ≠ μ 1 → b ≠ μ 3 → M1 b = M b) (hm : 3 - y < (n : Int)), G p l e (Rm 6 0 0) s m args below meth c D A 6 Q 0 0 L M1 20 [(0, .ref (μ 0)), (1, .int (iI w)), (2, .int (iI x)), (3, .int (iI z)), (4, .int (iI y))] [] := by
    intro n
    induction n with
    | zero =>
      intro k x z y M1 t hw2 hy hyb hx hz hzr n0 n1 n2 n3 n4 n5 n6 n7 n8 hfr hm
      exfalso; omega
    | succ n ih =>
      intro k x z y M1 t hw2 hy hyb hx hz hzr n0 n1 n2 n3 n4 n5 n6 n7 n8 hfr hm
      refine g_iload X 4 rfl dX6_bestMap_20 rfl ?_
      refine g_iconst X (z := 3) dX6_bestMap_22 rfl ?_
      refine g_icmp_ge X ⟨by omega, by omega⟩ ⟨by decide, by decide⟩ (tgt := 84) dX6_bestMap_23 (by decide) rfl (fun h_1 => ?_) (fun h_1 => ?_)
      · refine g_iload_n X 1 rfl dX6_bestMap_84 rfl ?_
        refine g_if_ne X hw (tgt := 92) dX6_bestMap_85 (by decide) rfl (fun h_2 => ?_) (fun h_2 => ?_)
        · refine g_iload_n X 3 rfl dX6_bestMap_92 rfl ?_
          subst hQ
          have hk3 : k = 3 := by omega
          subst hk3
          exact g_iret X hret ⟨Nat.le_of_ble_eq_true rfl, Nat.le_of_ble_eq_true rfl⟩ dX6_bestMap_93 ⟨by rw [anMap, if_pos hw2, if_neg (by omega), hz], rfl, ⟨q, _, _, _, rfl, rfl, n0, n1, n2, n3, n4, n5, n6, n7, n8⟩, (fun b hb => (hfr b (hb 1 (by decide)) (hb 3 (by decide))))⟩
        · refine g_iload_n X 2 rfl dX6_bestMap_88 rfl ?_
          refine g_goto X (n := 93) dX6_bestMap_89 (by decide) ?_
          subst hQ
          have hk3 : k = 3 := by omega
          subst hk3
          exact g_iret X hret ⟨Nat.le_of_ble_eq_true rfl, Nat.le_of_ble_eq_true rfl⟩ dX6_bestMap_93 ⟨by rw [anMap, if_pos hw2, if_pos (by omega), hx], rfl, ⟨q, _, _, _, rfl, rfl, n0, n1, n2, n3, n4, n5, n6, n7, n8⟩, (fun b hb => (hfr b (hb 1 (by decide)) (hb 3 (by decide))))⟩
      · refine g_aload_n X 0 rfl dX6_bestMap_26 rfl ?_
        have ok := mp_ok hI (m := y) (by omega)
        have okI := bga_inv ok.1 ok.2.1
        have ok4 := bga_cyc (up g 2 y)
        refine g_callV X (ct_X6_keepTrial l μ q g t) (As := []) (rest := []) cl_X6 rfl ca_X6_keepTrial rfl wm_X6_138 wi_X6_keepTrial ws_X6_keepTrial wc_X6_keepTrial w0_X6 ⟨by decide, by decide⟩ (hμ.mem 0 (by decide)) n0 (by decide) ⟨by decide, by decide⟩ rfl dX6_bestMap_27 rfl ⟨rfl, hμ, n0, n1, n3⟩ (fun r1 L1 M_3 hq => ?_)
        obtain ⟨rfl, rfl, hM_4, fr_5⟩ := hq
        have hM_6 : M_3 (μ 0) = .inr (6, [.ref (μ 1), .ref (μ 2), .ref (μ 3), .ref (μ 4), .ref (μ 5), .ref (μ 6), .ref (μ 7), .ref (μ 8), .int (iI (q 0)), .int (iI (q 1)), .int (iI (q 2)), .int (iI (q 3))]) := (fr_5 (μ 0) (hμ.ne (i := 0) (j := 3) (by decide) (by decide) (by decide))).trans n0
        have hM_7 : M_3 (μ 1) = cI ca 110 g := (fr_5 (μ 1) (hμ.ne (i := 1) (j := 3) (by decide) (by decide) (by decide))).trans n1
        have hM_8 : M_3 (μ 2) = cI ca 110 sp := (fr_5 (μ 2) (hμ.ne (i := 2) (j := 3) (by decide) (by decide) (by decide))).trans n2
        have hM_9 : M_3 (μ 4) = cI ca 660 be := (fr_5 (μ 4) (hμ.ne (i := 4) (j := 3) (by decide) (by decide) (by decide))).trans n4
        have hM_10 : M_3 (μ 5) = cI ca 220 sa := (fr_5 (μ 5) (hμ.ne (i := 5) (j := 3) (by decide) (by decide) (by decide))).trans n5
        have hM_11 : M_3 (μ 6) = cZ ca 2 iz := (fr_5 (μ 6) (hμ.ne (i := 6) (j := 3) (by decide) (by decide) (by decide))).trans n6
        have hM_12 : M_3 (μ 7) = cI ca 33 rd := (fr_5 (μ 7) (hμ.ne (i := 7) (j := 3) (by decide) (by decide) (by decide))).trans n7
        have hM_13 : M_3 (μ 8) = cC ca 60 pa := (fr_5 (μ 8) (hμ.ne (i := 8) (j := 3) (by decide) (by decide) (by decide))).trans n8
        refine g_st (st' := []) rfl ?_
        refine g_aload_n X 0 rfl dX6_bestMap_30 rfl ?_
        refine g_get X cl_X6 0 (by decide) wf_X6_7 rfl (hμ.mem 0 (by decide)) hM_6 rfl dX6_bestMap_31 rfl ?_
        refine g_iconst X (z := 2) dX6_bestMap_34 rfl ?_
        refine g_iload X 4 rfl dX6_bestMap_35 rfl ?_
        refine g_iast X (hμ.mem 1 (by decide)) hM_7 ⟨by decide, by decide⟩ (by decide) dX6_bestMap_37 rfl (fun M_14 hM_15 fr_16 => ?_)
        obtain ⟨g_17, hg_18⟩ : ∃ x : Int → Int, x = up g 2 y := ⟨_, rfl⟩
        rw [← hg_18] at hM_15
        have hM_19 : M_14 (μ 0) = .inr (6, [.ref (μ 1), .ref (μ 2), .ref (μ 3), .ref (μ 4), .ref (μ 5), .ref (μ 6), .ref (μ 7), .ref (μ 8), .int (iI (q 0)), .int (iI (q 1)), .int (iI (q 2)), .int (iI (q 3))]) := (fr_16 (μ 0) (hμ.ne (i := 0) (j := 1) (by decide) (by decide) (by decide))).trans hM_6
        have hM_20 : M_14 (μ 2) = cI ca 110 sp := (fr_16 (μ 2) (hμ.ne (i := 2) (j := 1) (by decide) (by decide) (by decide))).trans hM_8
        have hM_21 : M_14 (μ 4) = cI ca 660 be := (fr_16 (μ 4) (hμ.ne (i := 4) (j := 1) (by decide) (by decide) (by decide))).trans hM_9
        have hM_22 : M_14 (μ 5) = cI ca 220 sa := (fr_16 (μ 5) (hμ.ne (i := 5) (j := 1) (by decide) (by decide) (by decide))).trans hM_10
        have hM_23 : M_14 (μ 6) = cZ ca 2 iz := (fr_16 (μ 6) (hμ.ne (i := 6) (j := 1) (by decide) (by decide) (by decide))).trans hM_11
        have hM_24 : M_14 (μ 7) = cI ca 33 rd := (fr_16 (μ 7) (hμ.ne (i := 7) (j := 1) (by decide) (by decide) (by decide))).trans hM_12
        have hM_25 : M_14 (μ 8) = cC ca 60 pa := (fr_16 (μ 8) (hμ.ne (i := 8) (j := 1) (by decide) (by decide) (by decide))).trans hM_13
        have hM_26 : M_14 (μ 3) = cI ca 110 g := (fr_16 (μ 3) (hμ.ne (i := 3) (j := 1) (by decide) (by decide) (by decide))).trans hM_4
        refine g_aload_n X 0 rfl dX6_bestMap_38 rfl ?_
        refine g_callV X (ct_X6_beginsAnew l μ q g_17) (As := []) (rest := []) cl_X6 rfl ca_X6_beginsAnew rfl wm_X6_82 wi_X6_beginsAnew ws_X6_beginsAnew wc_X6_beginsAnew w0_X6 ⟨by decide, by decide⟩ (hμ.mem 0 (by decide)) hM_19 (by decide) ⟨by decide, by decide⟩ rfl dX6_bestMap_39 rfl ⟨rfl, hμ, hM_19, hM_15, by rw [hg_18, up_ne _ _ (by decide)]; omega, by rw [hg_18, up_ne _ _ (by decide)]; omega⟩ (fun r1 L1 M_27 hq => ?_)
        obtain ⟨rfl, rfl, hM_28, fr_29⟩ := hq
        have hM_30 : M_27 (μ 0) = .inr (6, [.ref (μ 1), .ref (μ 2), .ref (μ 3), .ref (μ 4), .ref (μ 5), .ref (μ 6), .ref (μ 7), .ref (μ 8), .int (iI (q 0)), .int (iI (q 1)), .int (iI (q 2)), .int (iI (q 3))]) := (fr_29 (μ 0) (hμ.ne (i := 0) (j := 1) (by decide) (by decide) (by decide))).trans hM_19
        have hM_31 : M_27 (μ 2) = cI ca 110 sp := (fr_29 (μ 2) (hμ.ne (i := 2) (j := 1) (by decide) (by decide) (by decide))).trans hM_20
        have hM_32 : M_27 (μ 4) = cI ca 660 be := (fr_29 (μ 4) (hμ.ne (i := 4) (j := 1) (by decide) (by decide) (by decide))).trans hM_21
        have hM_33 : M_27 (μ 5) = cI ca 220 sa := (fr_29 (μ 5) (hμ.ne (i := 5) (j := 1) (by decide) (by decide) (by decide))).trans hM_22
        have hM_34 : M_27 (μ 6) = cZ ca 2 iz := (fr_29 (μ 6) (hμ.ne (i := 6) (j := 1) (by decide) (by decide) (by decide))).trans hM_23
        have hM_35 : M_27 (μ 7) = cI ca 33 rd := (fr_29 (μ 7) (hμ.ne (i := 7) (j := 1) (by decide) (by decide) (by decide))).trans hM_24
        have hM_36 : M_27 (μ 8) = cC ca 60 pa := (fr_29 (μ 8) (hμ.ne (i := 8) (j := 1) (by decide) (by decide) (by decide))).trans hM_25
        have hM_37 : M_27 (μ 3) = cI ca 110 g := (fr_29 (μ 3) (hμ.ne (i := 3) (j := 1) (by decide) (by decide) (by decide))).trans hM_26
        refine g_st (st' := []) rfl ?_
        refine g_aload_n X 0 rfl dX6_bestMap_42 rfl ?_
        have cwr : R32 (roC 20000 (bgaG g_17)) := by have := ro_rng (g := bgaG g_17) 20000; exact ⟨by omega, by omega⟩
        refine g_callV X (ct_X6_runsOut l μ q (bgaG g_17)) (As := []) (rest := []) cl_X6 rfl ca_X6_runsOut rfl wm_X6_141 wi_X6_runsOut ws_X6_runsOut wc_X6_runsOut w0_X6 ⟨by decide, by decide⟩ (hμ.mem 0 (by decide)) hM_30 (by decide) ⟨by decide, by decide⟩ rfl dX6_bestMap_43 rfl ⟨rfl, hμ, hM_30, hM_28, by rw [hg_18]; exact okI, by rw [hg_18]; exact (by omega : bgaG (up g 2 y) 4 ≤ 900000)⟩ (fun r1 L1 M_38 hq => ?_)
        obtain ⟨rfl, rfl, hM_39, fr_40⟩ := hq
        have hM_41 : M_38 (μ 0) = .inr (6, [.ref (μ 1), .ref (μ 2), .ref (μ 3), .ref (μ 4), .ref (μ 5), .ref (μ 6), .ref (μ 7), .ref (μ 8), .int (iI (q 0)), .int (iI (q 1)), .int (iI (q 2)), .int (iI (q 3))]) := (fr_40 (μ 0) (hμ.ne (i := 0) (j := 1) (by decide) (by decide) (by decide))).trans hM_30
        have hM_42 : M_38 (μ 2) = cI ca 110 sp := (fr_40 (μ 2) (hμ.ne (i := 2) (j := 1) (by decide) (by decide) (by decide))).trans hM_31
        have hM_43 : M_38 (μ 4) = cI ca 660 be := (fr_40 (μ 4) (hμ.ne (i := 4) (j := 1) (by decide) (by decide) (by decide))).trans hM_32
        have hM_44 : M_38 (μ 5) = cI ca 220 sa := (fr_40 (μ 5) (hμ.ne (i := 5) (j := 1) (by decide) (by decide) (by decide))).trans hM_33
        have hM_45 : M_38 (μ 6) = cZ ca 2 iz := (fr_40 (μ 6) (hμ.ne (i := 6) (j := 1) (by decide) (by decide) (by decide))).trans hM_34
        have hM_46 : M_38 (μ 7) = cI ca 33 rd := (fr_40 (μ 7) (hμ.ne (i := 7) (j := 1) (by decide) (by decide) (by decide))).trans hM_35
        have hM_47 : M_38 (μ 8) = cC ca 60 pa := (fr_40 (μ 8) (hμ.ne (i := 8) (j := 1) (by decide) (by decide) (by decide))).trans hM_36
        have hM_48 : M_38 (μ 3) = cI ca 110 g := (fr_40 (μ 3) (hμ.ne (i := 3) (j := 1) (by decide) (by decide) (by decide))).trans hM_37
        refine g_st (st' := [.int (iI (roC 20000 (bgaG g_17)))]) rfl ?_
        refine g_istore X (lv' := [(5, .int (iI (roC 20000 (bgaG g_17)))), (0, .ref (μ 0)), (1, .int (iI w)), (2, .int (iI x)), (3, .int (iI z)), (4, .int (iI y))]) (by decide) rfl dX6_bestMap_46 rfl ?_
        refine g_aload_n X 1 rfl dX6_bestMap_48 rfl ?_
        refine g_callV X (ct_X6_putBack l μ q (roS 20000 (bgaG g_17)) g) (As := []) (rest := []) cl_X6 rfl ca_X6_putBack rfl wm_X6_144 wi_X6_putBack ws_X6_putBack wc_X6_putBack w0_X6 ⟨by decide, by decide⟩ (hμ.mem 0 (by decide)) hM_41 (by decide) ⟨by decide, by decide⟩ rfl dX6_bestMap_49 rfl ⟨rfl, hμ, hM_41, hM_39, hM_48⟩ (fun r1 L1 M_49 hq => ?_)
        obtain ⟨rfl, rfl, hM_50, fr_51⟩ := hq
        have hM_52 : M_49 (μ 0) = .inr (6, [.ref (μ 1), .ref (μ 2), .ref (μ 3), .ref (μ 4), .ref (μ 5), .ref (μ 6), .ref (μ 7), .ref (μ 8), .int (iI (q 0)), .int (iI (q 1)), .int (iI (q 2)), .int (iI (q 3))]) := (fr_51 (μ 0) (hμ.ne (i := 0) (j := 1) (by decide) (by decide) (by decide))).trans hM_41
        have hM_53 : M_49 (μ 2) = cI ca 110 sp := (fr_51 (μ 2) (hμ.ne (i := 2) (j := 1) (by decide) (by decide) (by decide))).trans hM_42
        have hM_54 : M_49 (μ 4) = cI ca 660 be := (fr_51 (μ 4) (hμ.ne (i := 4) (j := 1) (by decide) (by decide) (by decide))).trans hM_43
        have hM_55 : M_49 (μ 5) = cI ca 220 sa := (fr_51 (μ 5) (hμ.ne (i := 5) (j := 1) (by decide) (by decide) (by decide))).trans hM_44
        have hM_56 : M_49 (μ 6) = cZ ca 2 iz := (fr_51 (μ 6) (hμ.ne (i := 6) (j := 1) (by decide) (by decide) (by decide))).trans hM_45
        have hM_57 : M_49 (μ 7) = cI ca 33 rd := (fr_51 (μ 7) (hμ.ne (i := 7) (j := 1) (by decide) (by decide) (by decide))).trans hM_46
        have hM_58 : M_49 (μ 8) = cC ca 60 pa := (fr_51 (μ 8) (hμ.ne (i := 8) (j := 1) (by decide) (by decide) (by decide))).trans hM_47
        have hM_59 : M_49 (μ 3) = cI ca 110 g := (fr_51 (μ 3) (hμ.ne (i := 3) (j := 1) (by decide) (by decide) (by decide))).trans hM_48
        refine g_st (st' := []) rfl ?_
        refine g_iload X 0 rfl dX6_bestMap_52 rfl ?_
        refine g_iload_n X 4 rfl dX6_bestMap_54 rfl ?_
        refine g_icmp_ge X cwr hzr (tgt := 63) dX6_bestMap_55 (by decide) rfl (fun h_60 => ?_) (fun h_60 => ?_)
        · refine g_iload_n X 3 rfl dX6_bestMap_63 rfl ?_
          refine g_istore_n X (lv' := [(2, .int (iI x)), (5, .int (iI (roC 20000 (bgaG g_17)))), (0, .ref (μ 0)), (1, .int (iI w)), (3, .int (iI z)), (4, .int (iI y))]) (by decide) rfl dX6_bestMap_64 rfl ?_
          refine g_iload X 1 rfl dX6_bestMap_65 rfl ?_
          refine g_iload_n X 4 rfl dX6_bestMap_67 rfl ?_
          refine g_icmp_ge X cwr hzr (tgt := 76) dX6_bestMap_68 (by decide) rfl (fun h_61 => ?_) (fun h_61 => ?_)
          · refine g_iload_n X 4 rfl dX6_bestMap_76 rfl ?_
            refine g_istore_n X (lv' := [(3, .int (iI z)), (2, .int (iI x)), (5, .int (iI (roC 20000 (bgaG g_17)))), (0, .ref (μ 0)), (1, .int (iI w)), (4, .int (iI y))]) (by decide) rfl dX6_bestMap_77 rfl ?_
            refine g_iinc X (lv' := [(4, .int (iI (y + 1))), (3, .int (iI z)), (2, .int (iI x)), (5, .int (iI (roC 20000 (bgaG g_17)))), (0, .ref (μ 0)), (1, .int (iI w))]) 5 rfl (by decide) rfl dX6_bestMap_78 rfl ?_
            refine g_goto X (n := 20) dX6_bestMap_81 (by decide) ?_
            refine g_lv (lv' := [(0, .ref (μ 0)), (1, .int (iI w)), (2, .int (iI x)), (3, .int (iI z)), (4, .int (iI (y + 1)))]) [4, 5, 2, 1, 0] rfl ?_
            subst hg_18
            exact ih (k + 1) _ _ _ _ _ hw2 (by omega) (by omega) (by simp only [bmF]; rw [← hx, ← hz, ← hy]; exact (if_neg (show ¬ mpC g y < z from by unfold mpC; omega)).symm) (by simp only [bmF]; rw [← hz, ← hy]; exact (if_neg (show ¬ mpC g y < z from by unfold mpC; omega)).symm) (by first | exact hzr | exact cwr) hM_52 hM_50 hM_53 hM_59 hM_54 hM_55 hM_56 hM_57 hM_58 (fun b hb1 hb3 => ((fr_51 b hb1).trans ((fr_40 b hb1).trans ((fr_29 b hb1).trans ((fr_16 b hb1).trans ((fr_5 b hb3).trans (hfr b hb1 hb3))))))) (by omega)
          · refine g_iload X 1 rfl dX6_bestMap_71 rfl ?_
            refine g_goto X (n := 77) dX6_bestMap_73 (by decide) ?_
            refine g_istore_n X (lv' := [(3, .int (iI (roC 20000 (bgaG g_17)))), (2, .int (iI x)), (5, .int (iI (roC 20000 (bgaG g_17)))), (0, .ref (μ 0)), (1, .int (iI w)), (4, .int (iI y))]) (by decide) rfl dX6_bestMap_77 rfl ?_
            refine g_iinc X (lv' := [(4, .int (iI (y + 1))), (3, .int (iI (roC 20000 (bgaG g_17)))), (2, .int (iI x)), (5, .int (iI (roC 20000 (bgaG g_17)))), (0, .ref (μ 0)), (1, .int (iI w))]) 5 rfl (by decide) rfl dX6_bestMap_78 rfl ?_
            refine g_goto X (n := 20) dX6_bestMap_81 (by decide) ?_
            refine g_lv (lv' := [(0, .ref (μ 0)), (1, .int (iI w)), (2, .int (iI x)), (3, .int (iI (roC 20000 (bgaG g_17)))), (4, .int (iI (y + 1)))]) [4, 5, 2, 1, 0] rfl ?_
            subst hg_18
            exact ih (k + 1) _ _ _ _ _ hw2 (by omega) (by omega) (by simp only [bmF]; rw [← hx, ← hz, ← hy]; exact (if_neg (show ¬ mpC g y < z from by unfold mpC; omega)).symm) (by simp only [bmF]; rw [← hz, ← hy]; exact (if_pos (show mpC g y < z from by unfold mpC; omega)).symm) (by first | exact hzr | exact cwr) hM_52 hM_50 hM_53 hM_59 hM_54 hM_55 hM_56 hM_57 hM_58 (fun b hb1 hb3 => ((fr_51 b hb1).trans ((fr_40 b hb1).trans ((fr_29 b hb1).trans ((fr_16 b hb1).trans ((fr_5 b hb3).trans (hfr b hb1 hb3))))))) (by omega)
        · refine g_iload X 5 rfl dX6_bestMap_58 rfl ?_
          refine g_goto X (n := 64) dX6_bestMap_60 (by decide) ?_
          refine g_istore_n X (lv' := [(2, .int (iI y)), (5, .int (iI (roC 20000 (bgaG g_17)))), (0, .ref (μ 0)), (1, .int (iI w)), (3, .int (iI z)), (4, .int (iI y))]) (by decide) rfl dX6_bestMap_64 rfl ?_
          refine g_iload X 1 rfl dX6_bestMap_65 rfl ?_
          refine g_iload_n X 4 rfl dX6_bestMap_67 rfl ?_
          refine g_icmp_ge X cwr hzr (tgt := 76) dX6_bestMap_68 (by decide) rfl (fun h_62 => ?_) (fun h_62 => ?_)
          · refine g_iload_n X 4 rfl dX6_bestMap_76 rfl ?_
            refine g_istore_n X (lv' := [(3, .int (iI z)), (2, .int (iI y)), (5, .int (iI (roC 20000 (bgaG g_17)))), (0, .ref (μ 0)), (1, .int (iI w)), (4, .int (iI y))]) (by decide) rfl dX6_bestMap_77 rfl ?_
            refine g_iinc X (lv' := [(4, .int (iI (y + 1))), (3, .int (iI z)), (2, .int (iI y)), (5, .int (iI (roC 20000 (bgaG g_17)))), (0, .ref (μ 0)), (1, .int (iI w))]) 5 rfl (by decide) rfl dX6_bestMap_78 rfl ?_
            refine g_goto X (n := 20) dX6_bestMap_81 (by decide) ?_
            refine g_lv (lv' := [(0, .ref (μ 0)), (1, .int (iI w)), (2, .int (iI y)), (3, .int (iI z)), (4, .int (iI (y + 1)))]) [4, 5, 2, 1, 0] rfl ?_
            subst hg_18
            exact ih (k + 1) _ _ _ _ _ hw2 (by omega) (by omega) (by simp only [bmF]; rw [← hx, ← hz, ← hy]; exact (if_pos (show mpC g y < z from by unfold mpC; omega)).symm) (by simp only [bmF]; rw [← hz, ← hy]; exact (if_neg (show ¬ mpC g y < z from by unfold mpC; omega)).symm) (by first | exact hzr | exact cwr) hM_52 hM_50 hM_53 hM_59 hM_54 hM_55 hM_56 hM_57 hM_58 (fun b hb1 hb3 => ((fr_51 b hb1).trans ((fr_40 b hb1).trans ((fr_29 b hb1).trans ((fr_16 b hb1).trans ((fr_5 b hb3).trans (hfr b hb1 hb3))))))) (by omega)
          · refine g_iload X 1 rfl dX6_bestMap_71 rfl ?_
            refine g_goto X (n := 77) dX6_bestMap_73 (by decide) ?_
            refine g_istore_n X (lv' := [(3, .int (iI (roC 20000 (bgaG g_17)))), (2, .int (iI y)), (5, .int (iI (roC 20000 (bgaG g_17)))), (0, .ref (μ 0)), (1, .int (iI w)), (4, .int (iI y))]) (by decide) rfl dX6_bestMap_77 rfl ?_
            refine g_iinc X (lv' := [(4, .int (iI (y + 1))), (3, .int (iI (roC 20000 (bgaG g_17)))), (2, .int (iI y)), (5, .int (iI (roC 20000 (bgaG g_17)))), (0, .ref (μ 0)), (1, .int (iI w))]) 5 rfl (by decide) rfl dX6_bestMap_78 rfl ?_
            refine g_goto X (n := 20) dX6_bestMap_81 (by decide) ?_
            refine g_lv (lv' := [(0, .ref (μ 0)), (1, .int (iI w)), (2, .int (iI y)), (3, .int (iI (roC 20000 (bgaG g_17)))), (4, .int (iI (y + 1)))]) [4, 5, 2, 1, 0] rfl ?_
            subst hg_18
            exact ih (k + 1) _ _ _ _ _ hw2 (by omega) (by omega) (by simp only [bmF]; rw [← hx, ← hz, ← hy]; exact (if_pos (show mpC g y < z from by unfold mpC; omega)).symm) (by simp only [bmF]; rw [← hz, ← hy]; exact (if_pos (show mpC g y < z from by unfold mpC; omega)).symm) (by first | exact hzr | exact cwr) hM_52 hM_50 hM_53 hM_59 hM_54 hM_55 hM_56 hM_57 hM_58 (fun b hb1 hb3 => ((fr_51 b hb1).trans ((fr_40 b hb1).trans ((fr_29 b hb1).trans ((fr_16 b hb1).trans ((fr_5 b hb3).trans (hfr b hb1 hb3))))))) (by omega)
  refine g_iload_n X 1 rfl dX6_bestMap_0 rfl ?_
  refine g_iconst X (z := 0) dX6_bestMap_1 rfl ?_
  refine g_iconst X (z := 1) dX6_bestMap_2 rfl ?_
  refine g_callS X (ct_X6_in l w 0 1) (As := [.int (iI w), .int (iI 0), .int (iI 1)]) (rest := []) rfl ca_X6_in rfl wm_X6_36 wt_X6_in wc_X6_in w0_X6 ⟨by decide, by decide⟩ (by decide) ⟨by decide, by decide⟩ rfl dX6_bestMap_3 rfl ⟨rfl, hw, ⟨by decide, by decide⟩, ⟨by decide, by decide⟩⟩ (fun r1 L1 M1 hq => ?_)
  obtain ⟨rfl, rfl, rfl⟩ := hq
  refine g_st (st' := [.int (iI (if 0 ≤ w ∧ w ≤ 1 then 1 else 0))]) rfl ?_
  refine g_if_neb X (tgt := 12) dX6_bestMap_6 (by decide) rfl (fun h_63 => ?_) (fun h_63 => ?_)
  · refine g_iconst X (z := 0) dX6_bestMap_12 rfl ?_
    refine g_istore_n X (lv' := [(2, .int (iI 0)), (0, .ref (μ 0)), (1, .int (iI w))]) (by decide) rfl dX6_bestMap_13 rfl ?_
    refine g_ldc X (z := 1000000) wv_X6_155 (by decide +kernel) dX6_bestMap_14 rfl ?_
    refine g_istore_n X (lv' := [(3, .int (iI 1000000)), (2, .int (iI 0)), (0, .ref (μ 0)), (1, .int (iI w))]) (by decide) rfl dX6_bestMap_16 rfl ?_
    refine g_iconst X (z := 0) dX6_bestMap_17 rfl ?_
    refine g_istore X (lv' := [(4, .int (iI 0)), (3, .int (iI 1000000)), (2, .int (iI 0)), (0, .ref (μ 0)), (1, .int (iI w))]) (by decide) rfl dX6_bestMap_18 rfl ?_
    refine g_lv (lv' := [(0, .ref (μ 0)), (1, .int (iI w)), (2, .int (iI 0)), (3, .int (iI 1000000)), (4, .int (iI 0))]) [3, 4, 2, 1, 0] rfl ?_
    exact lp 7 0 0 1000000 0 _ _ (by omega) (by omega) (by omega) rfl rfl ⟨by decide, by decide⟩ hMo hMs hM2 hM3 hM4 hM5 hM6 hM7 hM8 (fun b hb1 hb3 => rfl) (by omega)
  · refine g_bipush X (z := -2) (by decide +kernel) dX6_bestMap_9 rfl ?_
    subst hQ
    exact g_iret X hret ⟨Nat.le_of_ble_eq_true rfl, Nat.le_of_ble_eq_true rfl⟩ dX6_bestMap_11 ⟨by rw [anMap, if_neg h_63], rfl, ⟨q, _, _, _, rfl, rfl, hMo, hMs, hM2, hM3, hM4, hM5, hM6, hM7, hM8⟩, (fun b hb => rfl)⟩
set_option maxRecDepth 100000 in
set_option maxHeartbeats 4000000 in
theorem ct_X6_ofStreams (l : Launch) (μ : Nat → Nat) (q g : Int → Int) (w : Int) : Ct l yX6_ofStreams cX6_ofStreams 5 (some .int) 1 0 0 (fun ca av L M => av = [.ref (μ 0), .int (iI w)] ∧ MuOk μ L ∧ M (μ 0) = oMd μ q ∧ M (μ 1) = cI ca 110 g ∧ R32 w ∧ 0 ≤ g 5 ∧ g 5 ≤ 4) (fun ca av L M r L1 M1 => r = some (.int (iI (ofG g w))) ∧ L = L1 ∧ M = M1) := by
  refine Ct_of (own := RX6) (by decide) rfl (by rintro _ _ _ _ ⟨rfl, _⟩; exact Nat.le_of_ble_eq_true rfl) ?_
  rintro p e s m args below meth c D ca A av L M ⟨rfl, hμ, hMo, hMs, hw, h50, h51⟩ X hret hname
  refine g_lv (lv' := [(0, .ref (μ 0)), (1, .int (iI w))]) [0, 1] rfl ?_
  generalize hQ : MQ below _ args s _ _ A = Q
  have lp : ∀ (n : Nat) (k : Nat) (z y : Int) (hy : y = k) (hk : y ≤ g 5) (hz : z = ofS g w k) (hm : g 5 - y < (n : Int)), G p l e (Rm 1 0 0) s m args below meth c D A 5 Q 0 0 L M 4 [(0, .ref (μ 0)), (1, .int (iI w)), (2, .int (iI z)), (3, .int (iI y))] [] := by
    intro n
    induction n with
    | zero =>
      intro k z y hy hk hz hm
      exfalso; omega
    | succ n ih =>
      intro k z y hy hk hz hm
      refine g_iload_n X 3 rfl dX6_ofStreams_4 rfl ?_
      refine g_aload_n X 0 rfl dX6_ofStreams_5 rfl ?_
      refine g_get X cl_X6 0 (by decide) wf_X6_7 rfl (hμ.mem 0 (by decide)) hMo rfl dX6_ofStreams_6 rfl ?_
      refine g_iconst X (z := 5) dX6_ofStreams_9 rfl ?_
      refine g_iald X (hμ.mem 1 (by decide)) hMs ⟨by decide, by decide⟩ (by decide) dX6_ofStreams_10 rfl ?_
      refine g_icmp_ge X ⟨by omega, by omega⟩ ⟨by omega, by omega⟩ (tgt := 86) dX6_ofStreams_11 (by decide) rfl (fun h_1 => ?_) (fun h_1 => ?_)
      · refine g_iload_n X 2 rfl dX6_ofStreams_86 rfl ?_
        subst hQ
        exact g_iret X hret ⟨Nat.le_of_ble_eq_true rfl, Nat.le_of_ble_eq_true rfl⟩ dX6_ofStreams_87 ⟨by rw [hz, ofG, show (g 5).toNat = k from by omega], rfl, rfl⟩
      · refine g_iload_n X 3 rfl dX6_ofStreams_14 rfl ?_
        refine g_callS X (ct_X6_m l y) (As := [.int (iI y)]) (rest := []) rfl ca_X6_m rfl wm_X6_52 wt_X6_m wc_X6_m w0_X6 ⟨by decide, by decide⟩ (by decide) ⟨by decide, by decide⟩ rfl dX6_ofStreams_15 rfl ⟨rfl, trivial⟩ (fun r1 L1 M1 hq => ?_)
        obtain ⟨rfl, rfl, rfl⟩ := hq
        refine g_st (st' := [.int (iI (70 + 10 * y))]) rfl ?_
        refine g_istore X (lv' := [(4, .int (iI (70 + 10 * y))), (0, .ref (μ 0)), (1, .int (iI w)), (2, .int (iI z)), (3, .int (iI y))]) (by decide) rfl dX6_ofStreams_18 rfl ?_
        refine g_iload_n X 3 rfl dX6_ofStreams_20 rfl ?_
        refine g_iload_n X 2 rfl dX6_ofStreams_21 rfl ?_
        refine g_bipush X (z := 7) (by decide +kernel) dX6_ofStreams_22 rfl ?_
        refine g_icmp_ne X hw ⟨by decide, by decide⟩ (tgt := 49) dX6_ofStreams_24 (by decide) rfl (fun h_2 => ?_) (fun h_2 => ?_)
        · refine g_iload_n X 2 rfl dX6_ofStreams_49 rfl ?_
          refine g_bipush X (z := 8) (by decide +kernel) dX6_ofStreams_50 rfl ?_
          refine g_icmp_ne X hw ⟨by decide, by decide⟩ (tgt := 68) dX6_ofStreams_52 (by decide) rfl (fun h_3 => ?_) (fun h_3 => ?_)
          · refine g_aload_n X 1 rfl dX6_ofStreams_68 rfl ?_
            refine g_get X cl_X6 0 (by decide) wf_X6_7 rfl (hμ.mem 0 (by decide)) hMo rfl dX6_ofStreams_69 rfl ?_
            refine g_iload X 0 rfl dX6_ofStreams_72 rfl ?_
            refine g_bipush X (z := 7) (by decide +kernel) dX6_ofStreams_74 rfl ?_
            refine g_iadd X dX6_ofStreams_76 rfl ?_
            refine g_iald X (hμ.mem 1 (by decide)) hMs ⟨by omega, by omega⟩ (by decide) dX6_ofStreams_77 rfl ?_
            refine g_iadd X dX6_ofStreams_78 rfl ?_
            refine g_istore_n X (lv' := [(2, .int (iI (z + g ((70 + 10 * y) + 7)))), (4, .int (iI (70 + 10 * y))), (0, .ref (μ 0)), (1, .int (iI w)), (3, .int (iI y))]) (by decide) rfl dX6_ofStreams_79 rfl ?_
            refine g_iinc X (lv' := [(3, .int (iI (y + 1))), (2, .int (iI (z + g ((70 + 10 * y) + 7)))), (4, .int (iI (70 + 10 * y))), (0, .ref (μ 0)), (1, .int (iI w))]) 4 rfl (by decide) rfl dX6_ofStreams_80 rfl ?_
            refine g_goto X (n := 4) dX6_ofStreams_83 (by decide) ?_
            refine g_lv (lv' := [(0, .ref (μ 0)), (1, .int (iI w)), (2, .int (iI (z + g ((70 + 10 * y) + 7)))), (3, .int (iI (y + 1)))]) [3, 4, 1, 0] rfl ?_
            exact ih (k + 1) _ _ (by omega) (by omega) (by simp only [ofS]; rw [ofV, if_neg (by omega), if_neg (by omega), hz, hy]) (by omega)
          · refine g_aload_n X 1 rfl dX6_ofStreams_55 rfl ?_
            refine g_get X cl_X6 0 (by decide) wf_X6_7 rfl (hμ.mem 0 (by decide)) hMo rfl dX6_ofStreams_56 rfl ?_
            refine g_iload X 0 rfl dX6_ofStreams_59 rfl ?_
            refine g_bipush X (z := 6) (by decide +kernel) dX6_ofStreams_61 rfl ?_
            refine g_iadd X dX6_ofStreams_63 rfl ?_
            refine g_iald X (hμ.mem 1 (by decide)) hMs ⟨by omega, by omega⟩ (by decide) dX6_ofStreams_64 rfl ?_
            refine g_goto X (n := 78) dX6_ofStreams_65 (by decide) ?_
            refine g_iadd X dX6_ofStreams_78 rfl ?_
            refine g_istore_n X (lv' := [(2, .int (iI (z + g ((70 + 10 * y) + 6)))), (4, .int (iI (70 + 10 * y))), (0, .ref (μ 0)), (1, .int (iI w)), (3, .int (iI y))]) (by decide) rfl dX6_ofStreams_79 rfl ?_
            refine g_iinc X (lv' := [(3, .int (iI (y + 1))), (2, .int (iI (z + g ((70 + 10 * y) + 6)))), (4, .int (iI (70 + 10 * y))), (0, .ref (μ 0)), (1, .int (iI w))]) 4 rfl (by decide) rfl dX6_ofStreams_80 rfl ?_
            refine g_goto X (n := 4) dX6_ofStreams_83 (by decide) ?_
            refine g_lv (lv' := [(0, .ref (μ 0)), (1, .int (iI w)), (2, .int (iI (z + g ((70 + 10 * y) + 6)))), (3, .int (iI (y + 1)))]) [3, 4, 1, 0] rfl ?_
            exact ih (k + 1) _ _ (by omega) (by omega) (by simp only [ofS]; rw [ofV, if_neg (by omega), if_pos (by omega), hz, hy]) (by omega)
        · refine g_aload_n X 1 rfl dX6_ofStreams_27 rfl ?_
          refine g_get X cl_X6 0 (by decide) wf_X6_7 rfl (hμ.mem 0 (by decide)) hMo rfl dX6_ofStreams_28 rfl ?_
          refine g_iload X 0 rfl dX6_ofStreams_31 rfl ?_
          refine g_iconst X (z := 2) dX6_ofStreams_33 rfl ?_
          refine g_iadd X dX6_ofStreams_34 rfl ?_
          refine g_iald X (hμ.mem 1 (by decide)) hMs ⟨by omega, by omega⟩ (by decide) dX6_ofStreams_35 rfl ?_
          refine g_aload_n X 1 rfl dX6_ofStreams_36 rfl ?_
          refine g_get X cl_X6 0 (by decide) wf_X6_7 rfl (hμ.mem 0 (by decide)) hMo rfl dX6_ofStreams_37 rfl ?_
          refine g_iload X 0 rfl dX6_ofStreams_40 rfl ?_
          refine g_iconst X (z := 3) dX6_ofStreams_42 rfl ?_
          refine g_iadd X dX6_ofStreams_43 rfl ?_
          refine g_iald X (hμ.mem 1 (by decide)) hMs ⟨by omega, by omega⟩ (by decide) dX6_ofStreams_44 rfl ?_
          refine g_isub X dX6_ofStreams_45 rfl ?_
          refine g_goto X (n := 78) dX6_ofStreams_46 (by decide) ?_
          refine g_iadd X dX6_ofStreams_78 rfl ?_
          refine g_istore_n X (lv' := [(2, .int (iI (z + (g ((70 + 10 * y) + 2) - g ((70 + 10 * y) + 3))))), (4, .int (iI (70 + 10 * y))), (0, .ref (μ 0)), (1, .int (iI w)), (3, .int (iI y))]) (by decide) rfl dX6_ofStreams_79 rfl ?_
          refine g_iinc X (lv' := [(3, .int (iI (y + 1))), (2, .int (iI (z + (g ((70 + 10 * y) + 2) - g ((70 + 10 * y) + 3))))), (4, .int (iI (70 + 10 * y))), (0, .ref (μ 0)), (1, .int (iI w))]) 4 rfl (by decide) rfl dX6_ofStreams_80 rfl ?_
          refine g_goto X (n := 4) dX6_ofStreams_83 (by decide) ?_
          refine g_lv (lv' := [(0, .ref (μ 0)), (1, .int (iI w)), (2, .int (iI (z + (g ((70 + 10 * y) + 2) - g ((70 + 10 * y) + 3))))), (3, .int (iI (y + 1)))]) [3, 4, 1, 0] rfl ?_
          exact ih (k + 1) _ _ (by omega) (by omega) (by simp only [ofS]; rw [ofV, if_pos (by omega), hz, hy]) (by omega)
  refine g_iconst X (z := 0) dX6_ofStreams_0 rfl ?_
  refine g_istore_n X (lv' := [(2, .int (iI 0)), (0, .ref (μ 0)), (1, .int (iI w))]) (by decide) rfl dX6_ofStreams_1 rfl ?_
  refine g_iconst X (z := 0) dX6_ofStreams_2 rfl ?_
  refine g_istore_n X (lv' := [(3, .int (iI 0)), (2, .int (iI 0)), (0, .ref (μ 0)), (1, .int (iI w))]) (by decide) rfl dX6_ofStreams_3 rfl ?_
  refine g_lv (lv' := [(0, .ref (μ 0)), (1, .int (iI w)), (2, .int (iI 0)), (3, .int (iI 0))]) [2, 3, 1, 0] rfl ?_
  exact lp 9 0 _ _ rfl (by omega) rfl (by omega)
end
section
theorem i_vc : Claimed_1_1 ∧ Claimed_1_2 := sorry
end
