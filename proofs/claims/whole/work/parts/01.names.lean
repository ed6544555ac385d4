/-! names, tables, words (begun out of the kit's printed names and its skeleton) -/
/-- a private method of a class that the tables say can be made, by its rows of tables_1 -/
def lw_okq (q : MethodName × Nat) : Prop := (q.1.cls ≠ "java/lang/invoke/MethodHandle" ∧ q.1.cls ≠ "java/lang/invoke/VarHandle") ∧ Cond.instantiable q.1.cls q.2 ∈ tables_1 ∧ Cond.privateMethod q.1 ∈ tables_1 ∧ Cond.instanceMethod q.1 ∈ tables_1
theorem lw_p0 : lw_okq (⟨"StrideBanks$BankRow", "beginAnew", "()V"⟩, 4) := ⟨⟨by decide +kernel, by decide +kernel⟩, List.mem_of_getElem? (i := 73) (by decide +kernel), List.mem_of_getElem? (i := 99) (by decide +kernel), List.mem_of_getElem? (i := 100) (by decide +kernel)⟩
theorem lw_p1 : lw_okq (⟨"StrideBanks$History", "record", "(LStrideBanks$Store;)V"⟩, 2) := ⟨⟨by decide +kernel, by decide +kernel⟩, List.mem_of_getElem? (i := 124) (by decide +kernel), List.mem_of_getElem? (i := 193) (by decide +kernel), List.mem_of_getElem? (i := 194) (by decide +kernel)⟩
theorem lw_p2 : lw_okq (⟨"StrideBanks$History", "forgetOldest", "()V"⟩, 2) := ⟨⟨by decide +kernel, by decide +kernel⟩, List.mem_of_getElem? (i := 124) (by decide +kernel), List.mem_of_getElem? (i := 197) (by decide +kernel), List.mem_of_getElem? (i := 198) (by decide +kernel)⟩
theorem lw_p3 : lw_okq (⟨"StrideBanks$Store", "copy", "(LStrideBanks$Store;)V"⟩, 5) := ⟨⟨by decide +kernel, by decide +kernel⟩, List.mem_of_getElem? (i := 20) (by decide +kernel), List.mem_of_getElem? (i := 201) (by decide +kernel), List.mem_of_getElem? (i := 202) (by decide +kernel)⟩
theorem lw_p4 : lw_okq (⟨"StrideBanks$Store", "copySettings", "(LStrideBanks$Store;)V"⟩, 5) := ⟨⟨by decide +kernel, by decide +kernel⟩, List.mem_of_getElem? (i := 20) (by decide +kernel), List.mem_of_getElem? (i := 205) (by decide +kernel), List.mem_of_getElem? (i := 206) (by decide +kernel)⟩
theorem lw_p5 : lw_okq (⟨"StrideBanks$StreamRow", "copy", "(LStrideBanks$StreamRow;)V"⟩, 8) := ⟨⟨by decide +kernel, by decide +kernel⟩, List.mem_of_getElem? (i := 34) (by decide +kernel), List.mem_of_getElem? (i := 209) (by decide +kernel), List.mem_of_getElem? (i := 210) (by decide +kernel)⟩
theorem lw_p6 : lw_okq (⟨"StrideBanks$BankRow", "copy", "(LStrideBanks$BankRow;)V"⟩, 4) := ⟨⟨by decide +kernel, by decide +kernel⟩, List.mem_of_getElem? (i := 73) (by decide +kernel), List.mem_of_getElem? (i := 213) (by decide +kernel), List.mem_of_getElem? (i := 214) (by decide +kernel)⟩
theorem lw_p7 : lw_okq (⟨"StrideBanks$Store", "beginAnew", "()V"⟩, 5) := ⟨⟨by decide +kernel, by decide +kernel⟩, List.mem_of_getElem? (i := 20) (by decide +kernel), List.mem_of_getElem? (i := 217) (by decide +kernel), List.mem_of_getElem? (i := 218) (by decide +kernel)⟩
theorem lw_p8 : lw_okq (⟨"StrideBanks$Store", "freeBanks", "()V"⟩, 5) := ⟨⟨by decide +kernel, by decide +kernel⟩, List.mem_of_getElem? (i := 20) (by decide +kernel), List.mem_of_getElem? (i := 221) (by decide +kernel), List.mem_of_getElem? (i := 222) (by decide +kernel)⟩
theorem lw_p9 : lw_okq (⟨"StrideBanks$StreamRow", "beginAnew", "()V"⟩, 8) := ⟨⟨by decide +kernel, by decide +kernel⟩, List.mem_of_getElem? (i := 34) (by decide +kernel), List.mem_of_getElem? (i := 225) (by decide +kernel), List.mem_of_getElem? (i := 226) (by decide +kernel)⟩
theorem lw_p10 : lw_okq (⟨"StrideBanks$Store", "append", "(III)V"⟩, 5) := ⟨⟨by decide +kernel, by decide +kernel⟩, List.mem_of_getElem? (i := 20) (by decide +kernel), List.mem_of_getElem? (i := 233) (by decide +kernel), List.mem_of_getElem? (i := 234) (by decide +kernel)⟩
theorem lw_p11 : lw_okq (⟨"StrideBanks$Pad", "firstFault", "()I"⟩, 4) := ⟨⟨by decide +kernel, by decide +kernel⟩, List.mem_of_getElem? (i := 141) (by decide +kernel), List.mem_of_getElem? (i := 241) (by decide +kernel), List.mem_of_getElem? (i := 242) (by decide +kernel)⟩
theorem lw_p12 : lw_okq (⟨"StrideBanks$Pad", "takesDigit", "(III)Z"⟩, 4) := ⟨⟨by decide +kernel, by decide +kernel⟩, List.mem_of_getElem? (i := 141) (by decide +kernel), List.mem_of_getElem? (i := 246) (by decide +kernel), List.mem_of_getElem? (i := 247) (by decide +kernel)⟩
theorem lw_p13 : lw_okq (⟨"StrideBanks$Pad", "streamsFound", "()I"⟩, 4) := ⟨⟨by decide +kernel, by decide +kernel⟩, List.mem_of_getElem? (i := 141) (by decide +kernel), List.mem_of_getElem? (i := 256) (by decide +kernel), List.mem_of_getElem? (i := 257) (by decide +kernel)⟩
theorem lw_p14 : lw_okq (⟨"StrideBanks$Pad", "numberOf", "(II)I"⟩, 4) := ⟨⟨by decide +kernel, by decide +kernel⟩, List.mem_of_getElem? (i := 141) (by decide +kernel), List.mem_of_getElem? (i := 260) (by decide +kernel), List.mem_of_getElem? (i := 261) (by decide +kernel)⟩
theorem lw_p15 : lw_okq (⟨"StrideBanks$Store", "has", "(I)Z"⟩, 5) := ⟨⟨by decide +kernel, by decide +kernel⟩, List.mem_of_getElem? (i := 20) (by decide +kernel), List.mem_of_getElem? (i := 268) (by decide +kernel), List.mem_of_getElem? (i := 269) (by decide +kernel)⟩
def lw_privs_1 : List (MethodName × Nat) := [(⟨"StrideBanks$BankRow", "beginAnew", "()V"⟩, 4), (⟨"StrideBanks$History", "record", "(LStrideBanks$Store;)V"⟩, 2), (⟨"StrideBanks$History", "forgetOldest", "()V"⟩, 2), (⟨"StrideBanks$Store", "copy", "(LStrideBanks$Store;)V"⟩, 5), (⟨"StrideBanks$Store", "copySettings", "(LStrideBanks$Store;)V"⟩, 5), (⟨"StrideBanks$StreamRow", "copy", "(LStrideBanks$StreamRow;)V"⟩, 8), (⟨"StrideBanks$BankRow", "copy", "(LStrideBanks$BankRow;)V"⟩, 4), (⟨"StrideBanks$Store", "beginAnew", "()V"⟩, 5), (⟨"StrideBanks$Store", "freeBanks", "()V"⟩, 5), (⟨"StrideBanks$StreamRow", "beginAnew", "()V"⟩, 8), (⟨"StrideBanks$Store", "append", "(III)V"⟩, 5), (⟨"StrideBanks$Pad", "firstFault", "()I"⟩, 4), (⟨"StrideBanks$Pad", "takesDigit", "(III)Z"⟩, 4), (⟨"StrideBanks$Pad", "streamsFound", "()I"⟩, 4), (⟨"StrideBanks$Pad", "numberOf", "(II)I"⟩, 4), (⟨"StrideBanks$Store", "has", "(I)Z"⟩, 5)]
theorem lw_r1 : ∀ q ∈ lw_privs_1, lw_okq q := List.forall_mem_cons.mpr ⟨lw_p0, List.forall_mem_cons.mpr ⟨lw_p1, List.forall_mem_cons.mpr ⟨lw_p2, List.forall_mem_cons.mpr ⟨lw_p3, List.forall_mem_cons.mpr ⟨lw_p4, List.forall_mem_cons.mpr ⟨lw_p5, List.forall_mem_cons.mpr ⟨lw_p6, List.forall_mem_cons.mpr ⟨lw_p7, List.forall_mem_cons.mpr ⟨lw_p8, List.forall_mem_cons.mpr ⟨lw_p9, List.forall_mem_cons.mpr ⟨lw_p10, List.forall_mem_cons.mpr ⟨lw_p11, List.forall_mem_cons.mpr ⟨lw_p12, List.forall_mem_cons.mpr ⟨lw_p13, List.forall_mem_cons.mpr ⟨lw_p14, List.forall_mem_cons.mpr ⟨lw_p15, fun _ h => absurd h List.not_mem_nil⟩⟩⟩⟩⟩⟩⟩⟩⟩⟩⟩⟩⟩⟩⟩⟩
theorem lw_p16 : lw_okq (⟨"StrideBanks$Store", "remove", "(I)V"⟩, 5) := ⟨⟨by decide +kernel, by decide +kernel⟩, List.mem_of_getElem? (i := 20) (by decide +kernel), List.mem_of_getElem? (i := 272) (by decide +kernel), List.mem_of_getElem? (i := 273) (by decide +kernel)⟩
theorem lw_p17 : lw_okq (⟨"StrideBanks$Store", "passCycle", "()I"⟩, 5) := ⟨⟨by decide +kernel, by decide +kernel⟩, List.mem_of_getElem? (i := 20) (by decide +kernel), List.mem_of_getElem? (i := 285) (by decide +kernel), List.mem_of_getElem? (i := 286) (by decide +kernel)⟩
theorem lw_p18 : lw_okq (⟨"StrideBanks$Store", "ask", "(I)I"⟩, 5) := ⟨⟨by decide +kernel, by decide +kernel⟩, List.mem_of_getElem? (i := 20) (by decide +kernel), List.mem_of_getElem? (i := 289) (by decide +kernel), List.mem_of_getElem? (i := 290) (by decide +kernel)⟩
theorem lw_p19 : lw_okq (⟨"StrideBanks$StreamRow", "nextAddress", "()I"⟩, 8) := ⟨⟨by decide +kernel, by decide +kernel⟩, List.mem_of_getElem? (i := 34) (by decide +kernel), List.mem_of_getElem? (i := 293) (by decide +kernel), List.mem_of_getElem? (i := 294) (by decide +kernel)⟩
theorem lw_p20 : lw_okq (⟨"StrideBanks$Store", "bankAt", "(I)I"⟩, 5) := ⟨⟨by decide +kernel, by decide +kernel⟩, List.mem_of_getElem? (i := 20) (by decide +kernel), List.mem_of_getElem? (i := 297) (by decide +kernel), List.mem_of_getElem? (i := 298) (by decide +kernel)⟩
theorem lw_p21 : lw_okq (⟨"StrideBanks$Store", "greatestPrime", "()I"⟩, 5) := ⟨⟨by decide +kernel, by decide +kernel⟩, List.mem_of_getElem? (i := 20) (by decide +kernel), List.mem_of_getElem? (i := 301) (by decide +kernel), List.mem_of_getElem? (i := 302) (by decide +kernel)⟩
theorem lw_p22 : lw_okq (⟨"StrideBanks$StreamRow", "finishRequest", "(II)V"⟩, 8) := ⟨⟨by decide +kernel, by decide +kernel⟩, List.mem_of_getElem? (i := 34) (by decide +kernel), List.mem_of_getElem? (i := 307) (by decide +kernel), List.mem_of_getElem? (i := 308) (by decide +kernel)⟩
theorem lw_p23 : lw_okq (⟨"StrideBanks$Store", "total", "(I)I"⟩, 5) := ⟨⟨by decide +kernel, by decide +kernel⟩, List.mem_of_getElem? (i := 20) (by decide +kernel), List.mem_of_getElem? (i := 315) (by decide +kernel), List.mem_of_getElem? (i := 316) (by decide +kernel)⟩
theorem lw_p24 : lw_okq (⟨"StrideBanks$StreamRow", "tell", "(I)I"⟩, 8) := ⟨⟨by decide +kernel, by decide +kernel⟩, List.mem_of_getElem? (i := 34) (by decide +kernel), List.mem_of_getElem? (i := 319) (by decide +kernel), List.mem_of_getElem? (i := 320) (by decide +kernel)⟩
theorem lw_p25 : lw_okq (⟨"StrideBanks$Store", "banksMet", "(LStrideBanks$StreamRow;)I"⟩, 5) := ⟨⟨by decide +kernel, by decide +kernel⟩, List.mem_of_getElem? (i := 20) (by decide +kernel), List.mem_of_getElem? (i := 333) (by decide +kernel), List.mem_of_getElem? (i := 334) (by decide +kernel)⟩
theorem lw_p26 : lw_okq (⟨"StrideBanks$Store", "wordsLeftIn", "(I)I"⟩, 5) := ⟨⟨by decide +kernel, by decide +kernel⟩, List.mem_of_getElem? (i := 20) (by decide +kernel), List.mem_of_getElem? (i := 351) (by decide +kernel), List.mem_of_getElem? (i := 352) (by decide +kernel)⟩
theorem lw_p27 : lw_okq (⟨"StrideBanks$Store", "busyBanks", "()I"⟩, 5) := ⟨⟨by decide +kernel, by decide +kernel⟩, List.mem_of_getElem? (i := 20) (by decide +kernel), List.mem_of_getElem? (i := 359) (by decide +kernel), List.mem_of_getElem? (i := 360) (by decide +kernel)⟩
theorem lw_p28 : lw_okq (⟨"StrideBanks$Store", "passAll", "()I"⟩, 5) := ⟨⟨by decide +kernel, by decide +kernel⟩, List.mem_of_getElem? (i := 20) (by decide +kernel), List.mem_of_getElem? (i := 369) (by decide +kernel), List.mem_of_getElem? (i := 370) (by decide +kernel)⟩
theorem lw_p29 : lw_okq (⟨"StrideBanks", "cyclesAlone", "(II)I"⟩, 6) := ⟨⟨by decide +kernel, by decide +kernel⟩, List.mem_of_getElem? (i := 12) (by decide +kernel), List.mem_of_getElem? (i := 380) (by decide +kernel), List.mem_of_getElem? (i := 381) (by decide +kernel)⟩
theorem lw_p30 : lw_okq (⟨"StrideBanks$Store", "lonelyCycles", "(LStrideBanks$StreamRow;I)I"⟩, 5) := ⟨⟨by decide +kernel, by decide +kernel⟩, List.mem_of_getElem? (i := 20) (by decide +kernel), List.mem_of_getElem? (i := 386) (by decide +kernel), List.mem_of_getElem? (i := 387) (by decide +kernel)⟩
theorem lw_p31 : lw_okq (⟨"StrideBanks", "cyclesByMap", "(I)I"⟩, 6) := ⟨⟨by decide +kernel, by decide +kernel⟩, List.mem_of_getElem? (i := 12) (by decide +kernel), List.mem_of_getElem? (i := 402) (by decide +kernel), List.mem_of_getElem? (i := 403) (by decide +kernel)⟩
def lw_privs_2 : List (MethodName × Nat) := [(⟨"StrideBanks$Store", "remove", "(I)V"⟩, 5), (⟨"StrideBanks$Store", "passCycle", "()I"⟩, 5), (⟨"StrideBanks$Store", "ask", "(I)I"⟩, 5), (⟨"StrideBanks$StreamRow", "nextAddress", "()I"⟩, 8), (⟨"StrideBanks$Store", "bankAt", "(I)I"⟩, 5), (⟨"StrideBanks$Store", "greatestPrime", "()I"⟩, 5), (⟨"StrideBanks$StreamRow", "finishRequest", "(II)V"⟩, 8), (⟨"StrideBanks$Store", "total", "(I)I"⟩, 5), (⟨"StrideBanks$StreamRow", "tell", "(I)I"⟩, 8), (⟨"StrideBanks$Store", "banksMet", "(LStrideBanks$StreamRow;)I"⟩, 5), (⟨"StrideBanks$Store", "wordsLeftIn", "(I)I"⟩, 5), (⟨"StrideBanks$Store", "busyBanks", "()I"⟩, 5), (⟨"StrideBanks$Store", "passAll", "()I"⟩, 5), (⟨"StrideBanks", "cyclesAlone", "(II)I"⟩, 6), (⟨"StrideBanks$Store", "lonelyCycles", "(LStrideBanks$StreamRow;I)I"⟩, 5), (⟨"StrideBanks", "cyclesByMap", "(I)I"⟩, 6)]
theorem lw_r2 : ∀ q ∈ lw_privs_2, lw_okq q := List.forall_mem_cons.mpr ⟨lw_p16, List.forall_mem_cons.mpr ⟨lw_p17, List.forall_mem_cons.mpr ⟨lw_p18, List.forall_mem_cons.mpr ⟨lw_p19, List.forall_mem_cons.mpr ⟨lw_p20, List.forall_mem_cons.mpr ⟨lw_p21, List.forall_mem_cons.mpr ⟨lw_p22, List.forall_mem_cons.mpr ⟨lw_p23, List.forall_mem_cons.mpr ⟨lw_p24, List.forall_mem_cons.mpr ⟨lw_p25, List.forall_mem_cons.mpr ⟨lw_p26, List.forall_mem_cons.mpr ⟨lw_p27, List.forall_mem_cons.mpr ⟨lw_p28, List.forall_mem_cons.mpr ⟨lw_p29, List.forall_mem_cons.mpr ⟨lw_p30, List.forall_mem_cons.mpr ⟨lw_p31, fun _ h => absurd h List.not_mem_nil⟩⟩⟩⟩⟩⟩⟩⟩⟩⟩⟩⟩⟩⟩⟩⟩
theorem lw_p32 : lw_okq (⟨"StrideBanks$Store", "appendLike", "(LStrideBanks$StreamRow;)V"⟩, 5) := ⟨⟨by decide +kernel, by decide +kernel⟩, List.mem_of_getElem? (i := 20) (by decide +kernel), List.mem_of_getElem? (i := 410) (by decide +kernel), List.mem_of_getElem? (i := 411) (by decide +kernel)⟩
theorem lw_p33 : lw_okq (⟨"StrideBanks$Pad", "append", "(JI)V"⟩, 4) := ⟨⟨by decide +kernel, by decide +kernel⟩, List.mem_of_getElem? (i := 141) (by decide +kernel), List.mem_of_getElem? (i := 423) (by decide +kernel), List.mem_of_getElem? (i := 424) (by decide +kernel)⟩
theorem lw_p34 : lw_okq (⟨"StrideBanks$History", "takeBack", "(LStrideBanks$Store;)V"⟩, 2) := ⟨⟨by decide +kernel, by decide +kernel⟩, List.mem_of_getElem? (i := 124) (by decide +kernel), List.mem_of_getElem? (i := 440) (by decide +kernel), List.mem_of_getElem? (i := 441) (by decide +kernel)⟩
theorem lw_p35 : lw_okq (⟨"StrideBanksModel", "hold", "()V"⟩, 12) := ⟨⟨by decide +kernel, by decide +kernel⟩, List.mem_of_getElem? (i := 452) (by decide +kernel), List.mem_of_getElem? (i := 505) (by decide +kernel), List.mem_of_getElem? (i := 506) (by decide +kernel)⟩
theorem lw_p36 : lw_okq (⟨"StrideBanksModel", "beginsAnew", "()V"⟩, 12) := ⟨⟨by decide +kernel, by decide +kernel⟩, List.mem_of_getElem? (i := 452) (by decide +kernel), List.mem_of_getElem? (i := 509) (by decide +kernel), List.mem_of_getElem? (i := 510) (by decide +kernel)⟩
theorem lw_p37 : lw_okq (⟨"StrideBanksModel", "begins", "(I)V"⟩, 12) := ⟨⟨by decide +kernel, by decide +kernel⟩, List.mem_of_getElem? (i := 452) (by decide +kernel), List.mem_of_getElem? (i := 513) (by decide +kernel), List.mem_of_getElem? (i := 514) (by decide +kernel)⟩
theorem lw_p38 : lw_okq (⟨"StrideBanksModel", "recorded", "(I)I"⟩, 12) := ⟨⟨by decide +kernel, by decide +kernel⟩, List.mem_of_getElem? (i := 452) (by decide +kernel), List.mem_of_getElem? (i := 520) (by decide +kernel), List.mem_of_getElem? (i := 521) (by decide +kernel)⟩
theorem lw_p39 : lw_okq (⟨"StrideBanksModel", "puts", "(III)I"⟩, 12) := ⟨⟨by decide +kernel, by decide +kernel⟩, List.mem_of_getElem? (i := 452) (by decide +kernel), List.mem_of_getElem? (i := 528) (by decide +kernel), List.mem_of_getElem? (i := 529) (by decide +kernel)⟩
theorem lw_p40 : lw_okq (⟨"StrideBanksModel", "isStream", "(I)Z"⟩, 12) := ⟨⟨by decide +kernel, by decide +kernel⟩, List.mem_of_getElem? (i := 452) (by decide +kernel), List.mem_of_getElem? (i := 536) (by decide +kernel), List.mem_of_getElem? (i := 537) (by decide +kernel)⟩
theorem lw_p41 : lw_okq (⟨"StrideBanksModel", "cycle", "()I"⟩, 12) := ⟨⟨by decide +kernel, by decide +kernel⟩, List.mem_of_getElem? (i := 452) (by decide +kernel), List.mem_of_getElem? (i := 552) (by decide +kernel), List.mem_of_getElem? (i := 553) (by decide +kernel)⟩
theorem lw_p42 : lw_okq (⟨"StrideBanksModel", "asks", "(I)I"⟩, 12) := ⟨⟨by decide +kernel, by decide +kernel⟩, List.mem_of_getElem? (i := 452) (by decide +kernel), List.mem_of_getElem? (i := 556) (by decide +kernel), List.mem_of_getElem? (i := 557) (by decide +kernel)⟩
theorem lw_p43 : lw_okq (⟨"StrideBanksModel", "bankAt", "(I)I"⟩, 12) := ⟨⟨by decide +kernel, by decide +kernel⟩, List.mem_of_getElem? (i := 452) (by decide +kernel), List.mem_of_getElem? (i := 560) (by decide +kernel), List.mem_of_getElem? (i := 561) (by decide +kernel)⟩
theorem lw_p44 : lw_okq (⟨"StrideBanksModel", "prime", "()I"⟩, 12) := ⟨⟨by decide +kernel, by decide +kernel⟩, List.mem_of_getElem? (i := 452) (by decide +kernel), List.mem_of_getElem? (i := 564) (by decide +kernel), List.mem_of_getElem? (i := 565) (by decide +kernel)⟩
theorem lw_p45 : lw_okq (⟨"StrideBanksModel", "wordsLeft", "()I"⟩, 12) := ⟨⟨by decide +kernel, by decide +kernel⟩, List.mem_of_getElem? (i := 452) (by decide +kernel), List.mem_of_getElem? (i := 575) (by decide +kernel), List.mem_of_getElem? (i := 576) (by decide +kernel)⟩
theorem lw_p46 : lw_okq (⟨"StrideBanksModel", "faultOf", "()I"⟩, 12) := ⟨⟨by decide +kernel, by decide +kernel⟩, List.mem_of_getElem? (i := 452) (by decide +kernel), List.mem_of_getElem? (i := 583) (by decide +kernel), List.mem_of_getElem? (i := 584) (by decide +kernel)⟩
theorem lw_p47 : lw_okq (⟨"StrideBanksModel", "readsStream", "()Z"⟩, 12) := ⟨⟨by decide +kernel, by decide +kernel⟩, List.mem_of_getElem? (i := 452) (by decide +kernel), List.mem_of_getElem? (i := 587) (by decide +kernel), List.mem_of_getElem? (i := 588) (by decide +kernel)⟩
def lw_privs_3 : List (MethodName × Nat) := [(⟨"StrideBanks$Store", "appendLike", "(LStrideBanks$StreamRow;)V"⟩, 5), (⟨"StrideBanks$Pad", "append", "(JI)V"⟩, 4), (⟨"StrideBanks$History", "takeBack", "(LStrideBanks$Store;)V"⟩, 2), (⟨"StrideBanksModel", "hold", "()V"⟩, 12), (⟨"StrideBanksModel", "beginsAnew", "()V"⟩, 12), (⟨"StrideBanksModel", "begins", "(I)V"⟩, 12), (⟨"StrideBanksModel", "recorded", "(I)I"⟩, 12), (⟨"StrideBanksModel", "puts", "(III)I"⟩, 12), (⟨"StrideBanksModel", "isStream", "(I)Z"⟩, 12), (⟨"StrideBanksModel", "cycle", "()I"⟩, 12), (⟨"StrideBanksModel", "asks", "(I)I"⟩, 12), (⟨"StrideBanksModel", "bankAt", "(I)I"⟩, 12), (⟨"StrideBanksModel", "prime", "()I"⟩, 12), (⟨"StrideBanksModel", "wordsLeft", "()I"⟩, 12), (⟨"StrideBanksModel", "faultOf", "()I"⟩, 12), (⟨"StrideBanksModel", "readsStream", "()Z"⟩, 12)]
theorem lw_r3 : ∀ q ∈ lw_privs_3, lw_okq q := List.forall_mem_cons.mpr ⟨lw_p32, List.forall_mem_cons.mpr ⟨lw_p33, List.forall_mem_cons.mpr ⟨lw_p34, List.forall_mem_cons.mpr ⟨lw_p35, List.forall_mem_cons.mpr ⟨lw_p36, List.forall_mem_cons.mpr ⟨lw_p37, List.forall_mem_cons.mpr ⟨lw_p38, List.forall_mem_cons.mpr ⟨lw_p39, List.forall_mem_cons.mpr ⟨lw_p40, List.forall_mem_cons.mpr ⟨lw_p41, List.forall_mem_cons.mpr ⟨lw_p42, List.forall_mem_cons.mpr ⟨lw_p43, List.forall_mem_cons.mpr ⟨lw_p44, List.forall_mem_cons.mpr ⟨lw_p45, List.forall_mem_cons.mpr ⟨lw_p46, List.forall_mem_cons.mpr ⟨lw_p47, fun _ h => absurd h List.not_mem_nil⟩⟩⟩⟩⟩⟩⟩⟩⟩⟩⟩⟩⟩⟩⟩⟩
theorem lw_p48 : lw_okq (⟨"StrideBanksModel", "number", "(III)Z"⟩, 12) := ⟨⟨by decide +kernel, by decide +kernel⟩, List.mem_of_getElem? (i := 452) (by decide +kernel), List.mem_of_getElem? (i := 591) (by decide +kernel), List.mem_of_getElem? (i := 592) (by decide +kernel)⟩
theorem lw_p49 : lw_okq (⟨"StrideBanksModel", "isSign", "(CC)Z"⟩, 12) := ⟨⟨by decide +kernel, by decide +kernel⟩, List.mem_of_getElem? (i := 452) (by decide +kernel), List.mem_of_getElem? (i := 595) (by decide +kernel), List.mem_of_getElem? (i := 596) (by decide +kernel)⟩
theorem lw_p50 : lw_okq (⟨"StrideBanksModel", "accepts", "(C)Z"⟩, 12) := ⟨⟨by decide +kernel, by decide +kernel⟩, List.mem_of_getElem? (i := 452) (by decide +kernel), List.mem_of_getElem? (i := 599) (by decide +kernel), List.mem_of_getElem? (i := 600) (by decide +kernel)⟩
theorem lw_p51 : lw_okq (⟨"StrideBanksModel", "meets", "(I)I"⟩, 12) := ⟨⟨by decide +kernel, by decide +kernel⟩, List.mem_of_getElem? (i := 452) (by decide +kernel), List.mem_of_getElem? (i := 611) (by decide +kernel), List.mem_of_getElem? (i := 612) (by decide +kernel)⟩
theorem lw_p52 : lw_okq (⟨"StrideBanksModel", "busy", "(I)I"⟩, 12) := ⟨⟨by decide +kernel, by decide +kernel⟩, List.mem_of_getElem? (i := 452) (by decide +kernel), List.mem_of_getElem? (i := 619) (by decide +kernel), List.mem_of_getElem? (i := 620) (by decide +kernel)⟩
theorem lw_p53 : lw_okq (⟨"StrideBanksModel", "wordsIn", "(I)I"⟩, 12) := ⟨⟨by decide +kernel, by decide +kernel⟩, List.mem_of_getElem? (i := 452) (by decide +kernel), List.mem_of_getElem? (i := 623) (by decide +kernel), List.mem_of_getElem? (i := 624) (by decide +kernel)⟩
theorem lw_p54 : lw_okq (⟨"StrideBanksModel", "ofStreams", "(I)I"⟩, 12) := ⟨⟨by decide +kernel, by decide +kernel⟩, List.mem_of_getElem? (i := 452) (by decide +kernel), List.mem_of_getElem? (i := 631) (by decide +kernel), List.mem_of_getElem? (i := 632) (by decide +kernel)⟩
theorem lw_p55 : lw_okq (⟨"StrideBanksModel", "busyBanks", "()I"⟩, 12) := ⟨⟨by decide +kernel, by decide +kernel⟩, List.mem_of_getElem? (i := 452) (by decide +kernel), List.mem_of_getElem? (i := 635) (by decide +kernel), List.mem_of_getElem? (i := 636) (by decide +kernel)⟩
theorem lw_p56 : lw_okq (⟨"StrideBanksModel", "keepTrial", "()V"⟩, 12) := ⟨⟨by decide +kernel, by decide +kernel⟩, List.mem_of_getElem? (i := 452) (by decide +kernel), List.mem_of_getElem? (i := 643) (by decide +kernel), List.mem_of_getElem? (i := 644) (by decide +kernel)⟩
theorem lw_p57 : lw_okq (⟨"StrideBanksModel", "runsOut", "()I"⟩, 12) := ⟨⟨by decide +kernel, by decide +kernel⟩, List.mem_of_getElem? (i := 452) (by decide +kernel), List.mem_of_getElem? (i := 647) (by decide +kernel), List.mem_of_getElem? (i := 648) (by decide +kernel)⟩
theorem lw_p58 : lw_okq (⟨"StrideBanksModel", "putBack", "()V"⟩, 12) := ⟨⟨by decide +kernel, by decide +kernel⟩, List.mem_of_getElem? (i := 452) (by decide +kernel), List.mem_of_getElem? (i := 651) (by decide +kernel), List.mem_of_getElem? (i := 652) (by decide +kernel)⟩
theorem lw_p59 : lw_okq (⟨"StrideBanksModel", "cyclesWith", "(II)I"⟩, 12) := ⟨⟨by decide +kernel, by decide +kernel⟩, List.mem_of_getElem? (i := 452) (by decide +kernel), List.mem_of_getElem? (i := 659) (by decide +kernel), List.mem_of_getElem? (i := 660) (by decide +kernel)⟩
theorem lw_p60 : lw_okq (⟨"StrideBanksModel", "comes", "(II)V"⟩, 12) := ⟨⟨by decide +kernel, by decide +kernel⟩, List.mem_of_getElem? (i := 452) (by decide +kernel), List.mem_of_getElem? (i := 663) (by decide +kernel), List.mem_of_getElem? (i := 664) (by decide +kernel)⟩
def lw_privs_4 : List (MethodName × Nat) := [(⟨"StrideBanksModel", "number", "(III)Z"⟩, 12), (⟨"StrideBanksModel", "isSign", "(CC)Z"⟩, 12), (⟨"StrideBanksModel", "accepts", "(C)Z"⟩, 12), (⟨"StrideBanksModel", "meets", "(I)I"⟩, 12), (⟨"StrideBanksModel", "busy", "(I)I"⟩, 12), (⟨"StrideBanksModel", "wordsIn", "(I)I"⟩, 12), (⟨"StrideBanksModel", "ofStreams", "(I)I"⟩, 12), (⟨"StrideBanksModel", "busyBanks", "()I"⟩, 12), (⟨"StrideBanksModel", "keepTrial", "()V"⟩, 12), (⟨"StrideBanksModel", "runsOut", "()I"⟩, 12), (⟨"StrideBanksModel", "putBack", "()V"⟩, 12), (⟨"StrideBanksModel", "cyclesWith", "(II)I"⟩, 12), (⟨"StrideBanksModel", "comes", "(II)V"⟩, 12)]
theorem lw_r4 : ∀ q ∈ lw_privs_4, lw_okq q := List.forall_mem_cons.mpr ⟨lw_p48, List.forall_mem_cons.mpr ⟨lw_p49, List.forall_mem_cons.mpr ⟨lw_p50, List.forall_mem_cons.mpr ⟨lw_p51, List.forall_mem_cons.mpr ⟨lw_p52, List.forall_mem_cons.mpr ⟨lw_p53, List.forall_mem_cons.mpr ⟨lw_p54, List.forall_mem_cons.mpr ⟨lw_p55, List.forall_mem_cons.mpr ⟨lw_p56, List.forall_mem_cons.mpr ⟨lw_p57, List.forall_mem_cons.mpr ⟨lw_p58, List.forall_mem_cons.mpr ⟨lw_p59, List.forall_mem_cons.mpr ⟨lw_p60, fun _ h => absurd h List.not_mem_nil⟩⟩⟩⟩⟩⟩⟩⟩⟩⟩⟩⟩⟩
def lw_privs : List (MethodName × Nat) := lw_privs_1 ++ (lw_privs_2 ++ (lw_privs_3 ++ (lw_privs_4)))
def lw_tbl : List Cond := k2_sels lw_privs ++ tables_1
theorem lw_privs_ok : ∀ q ∈ lw_privs, lw_okq q := by
  show ∀ q ∈ lw_privs_1 ++ (lw_privs_2 ++ (lw_privs_3 ++ (lw_privs_4))), lw_okq q
  exact List.forall_mem_append.mpr ⟨lw_r1, List.forall_mem_append.mpr ⟨lw_r2, List.forall_mem_append.mpr ⟨lw_r3, lw_r4⟩⟩⟩
def RX0 : String := "StrideBanks$BankRow"
def TX0 : u_T := fun k => match k with
  | 0 => ("StrideBanks$BankRow", "freeFrom", "I", false)
  | 1 => ("StrideBanks$BankRow", "maker", "I", false)
  | 2 => ("StrideBanks$BankRow", "requests", "I", false)
  | _ => ("StrideBanks$BankRow", "stalls", "I", false)
def tyX0 : Nat → FieldType := fun k => match k with
  | 0 => .int
  | 1 => .int
  | 2 => .int
  | _ => .int
abbrev wsX00 : List Cond := u_ws RX0 TX0 4
theorem nmX0 : ∀ a, a < 4 → ∀ b, b < 4 → a ≠ b → (TX0 a).2.1 ≠ (TX0 b).2.1 := by decide +kernel
theorem tyX0_ok : ∀ k, k < 4 → parseFieldDescriptor (TX0 k).2.2.1 = some (tyX0 k) := by decide +kernel
abbrev cX0_init : ByteArray := prog_2_method_1_code
def yX0_init : MethodName := ⟨RX0, "<init>", "()V"⟩
abbrev cX0_beginAnew : ByteArray := prog_2_method_2_code
def yX0_beginAnew : MethodName := ⟨RX0, "beginAnew", "()V"⟩
abbrev cX0_copy : ByteArray := prog_2_method_3_code
def yX0_copy : MethodName := ⟨RX0, "copy", "(LStrideBanks$BankRow;)V"⟩
def RX1 : String := "StrideBanks$History"
def TX1 : u_T := fun k => match k with
  | 0 => ("StrideBanks$History", "states", "[LStrideBanks$Store;", true)
  | _ => ("StrideBanks$History", "size", "I", false)
def tyX1 : Nat → FieldType := fun k => match k with
  | 0 => .array (.object "StrideBanks$Store")
  | _ => .int
abbrev wsX10 : List Cond := u_ws RX1 TX1 2
theorem nmX1 : ∀ a, a < 2 → ∀ b, b < 2 → a ≠ b → (TX1 a).2.1 ≠ (TX1 b).2.1 := by decide +kernel
theorem tyX1_ok : ∀ k, k < 2 → parseFieldDescriptor (TX1 k).2.2.1 = some (tyX1 k) := by decide +kernel
abbrev cX1_init : ByteArray := prog_3_method_1_code
def yX1_init : MethodName := ⟨RX1, "<init>", "()V"⟩
abbrev cX1_record : ByteArray := prog_3_method_2_code
def yX1_record : MethodName := ⟨RX1, "record", "(LStrideBanks$Store;)V"⟩
abbrev cX1_forgetOldest : ByteArray := prog_3_method_3_code
def yX1_forgetOldest : MethodName := ⟨RX1, "forgetOldest", "()V"⟩
abbrev cX1_takeBack : ByteArray := prog_3_method_4_code
def yX1_takeBack : MethodName := ⟨RX1, "takeBack", "(LStrideBanks$Store;)V"⟩
def RX2 : String := "StrideBanks$Pad"
def TX2 : u_T := fun k => match k with
  | 0 => ("StrideBanks$Pad", "text", "[C", true)
  | 1 => ("StrideBanks$Pad", "length", "I", false)
  | 2 => ("StrideBanks$Pad", "numbers", "[I", true)
  | _ => ("StrideBanks$Pad", "numbersFound", "I", false)
def tyX2 : Nat → FieldType := fun k => match k with
  | 0 => .array .char
  | 1 => .int
  | 2 => .array .int
  | _ => .int
abbrev wsX20 : List Cond := u_ws RX2 TX2 4
theorem nmX2 : ∀ a, a < 4 → ∀ b, b < 4 → a ≠ b → (TX2 a).2.1 ≠ (TX2 b).2.1 := by decide +kernel
theorem tyX2_ok : ∀ k, k < 4 → parseFieldDescriptor (TX2 k).2.2.1 = some (tyX2 k) := by decide +kernel
abbrev cX2_init : ByteArray := prog_4_method_1_code
def yX2_init : MethodName := ⟨RX2, "<init>", "()V"⟩
abbrev cX2_append : ByteArray := prog_4_method_2_code
def yX2_append : MethodName := ⟨RX2, "append", "(JI)V"⟩
abbrev cX2_firstFault : ByteArray := prog_4_method_3_code
def yX2_firstFault : MethodName := ⟨RX2, "firstFault", "()I"⟩
abbrev cX2_takesDigit : ByteArray := prog_4_method_4_code
def yX2_takesDigit : MethodName := ⟨RX2, "takesDigit", "(III)Z"⟩
abbrev cX2_streamsFound : ByteArray := prog_4_method_5_code
def yX2_streamsFound : MethodName := ⟨RX2, "streamsFound", "()I"⟩
abbrev cX2_numberOf : ByteArray := prog_4_method_6_code
def yX2_numberOf : MethodName := ⟨RX2, "numberOf", "(II)I"⟩
def RX3 : String := "StrideBanks$Store"
def TX3 : u_T := fun k => match k with
  | 0 => ("StrideBanks$Store", "settings", "[I", true)
  | 1 => ("StrideBanks$Store", "streams", "[LStrideBanks$StreamRow;", true)
  | 2 => ("StrideBanks$Store", "banks", "[LStrideBanks$BankRow;", true)
  | 3 => ("StrideBanks$Store", "streamCount", "I", false)
  | _ => ("StrideBanks$Store", "cycle", "I", false)
def tyX3 : Nat → FieldType := fun k => match k with
  | 0 => .array .int
  | 1 => .array (.object "StrideBanks$StreamRow")
  | 2 => .array (.object "StrideBanks$BankRow")
  | 3 => .int
  | _ => .int
abbrev wsX30 : List Cond := u_ws RX3 TX3 5
theorem nmX3 : ∀ a, a < 5 → ∀ b, b < 5 → a ≠ b → (TX3 a).2.1 ≠ (TX3 b).2.1 := by decide +kernel
theorem tyX3_ok : ∀ k, k < 5 → parseFieldDescriptor (TX3 k).2.2.1 = some (tyX3 k) := by decide +kernel
abbrev cX3_init : ByteArray := prog_5_method_1_code
def yX3_init : MethodName := ⟨RX3, "<init>", "()V"⟩
abbrev cX3_copySettings : ByteArray := prog_5_method_2_code
def yX3_copySettings : MethodName := ⟨RX3, "copySettings", "(LStrideBanks$Store;)V"⟩
abbrev cX3_copy : ByteArray := prog_5_method_3_code
def yX3_copy : MethodName := ⟨RX3, "copy", "(LStrideBanks$Store;)V"⟩
abbrev cX3_freeBanks : ByteArray := prog_5_method_4_code
def yX3_freeBanks : MethodName := ⟨RX3, "freeBanks", "()V"⟩
abbrev cX3_beginAnew : ByteArray := prog_5_method_5_code
def yX3_beginAnew : MethodName := ⟨RX3, "beginAnew", "()V"⟩
abbrev cX3_has : ByteArray := prog_5_method_6_code
def yX3_has : MethodName := ⟨RX3, "has", "(I)Z"⟩
abbrev cX3_append : ByteArray := prog_5_method_7_code
def yX3_append : MethodName := ⟨RX3, "append", "(III)V"⟩
abbrev cX3_appendLike : ByteArray := prog_5_method_8_code
def yX3_appendLike : MethodName := ⟨RX3, "appendLike", "(LStrideBanks$StreamRow;)V"⟩
abbrev cX3_remove : ByteArray := prog_5_method_9_code
def yX3_remove : MethodName := ⟨RX3, "remove", "(I)V"⟩
abbrev cX3_greatestPrime : ByteArray := prog_5_method_10_code
def yX3_greatestPrime : MethodName := ⟨RX3, "greatestPrime", "()I"⟩
abbrev cX3_bankAt : ByteArray := prog_5_method_11_code
def yX3_bankAt : MethodName := ⟨RX3, "bankAt", "(I)I"⟩
abbrev cX3_passCycle : ByteArray := prog_5_method_12_code
def yX3_passCycle : MethodName := ⟨RX3, "passCycle", "()I"⟩
abbrev cX3_ask : ByteArray := prog_5_method_13_code
def yX3_ask : MethodName := ⟨RX3, "ask", "(I)I"⟩
abbrev cX3_passAll : ByteArray := prog_5_method_14_code
def yX3_passAll : MethodName := ⟨RX3, "passAll", "()I"⟩
abbrev cX3_lonelyCycles : ByteArray := prog_5_method_15_code
def yX3_lonelyCycles : MethodName := ⟨RX3, "lonelyCycles", "(LStrideBanks$StreamRow;I)I"⟩
abbrev cX3_banksMet : ByteArray := prog_5_method_16_code
def yX3_banksMet : MethodName := ⟨RX3, "banksMet", "(LStrideBanks$StreamRow;)I"⟩
abbrev cX3_wordsLeftIn : ByteArray := prog_5_method_17_code
def yX3_wordsLeftIn : MethodName := ⟨RX3, "wordsLeftIn", "(I)I"⟩
abbrev cX3_total : ByteArray := prog_5_method_18_code
def yX3_total : MethodName := ⟨RX3, "total", "(I)I"⟩
abbrev cX3_busyBanks : ByteArray := prog_5_method_19_code
def yX3_busyBanks : MethodName := ⟨RX3, "busyBanks", "()I"⟩
def RX4 : String := "StrideBanks$StreamRow"
def TX4 : u_T := fun k => match k with
  | 0 => ("StrideBanks$StreamRow", "start", "I", false)
  | 1 => ("StrideBanks$StreamRow", "stride", "I", false)
  | 2 => ("StrideBanks$StreamRow", "length", "I", false)
  | 3 => ("StrideBanks$StreamRow", "left", "I", false)
  | 4 => ("StrideBanks$StreamRow", "latest", "I", false)
  | 5 => ("StrideBanks$StreamRow", "stalls", "I", false)
  | 6 => ("StrideBanks$StreamRow", "clashes", "I", false)
  | _ => ("StrideBanks$StreamRow", "ended", "I", false)
def tyX4 : Nat → FieldType := fun k => match k with
  | 0 => .int
  | 1 => .int
  | 2 => .int
  | 3 => .int
  | 4 => .int
  | 5 => .int
  | 6 => .int
  | _ => .int
abbrev wsX40 : List Cond := u_ws RX4 TX4 8
theorem nmX4 : ∀ a, a < 8 → ∀ b, b < 8 → a ≠ b → (TX4 a).2.1 ≠ (TX4 b).2.1 := by decide +kernel
theorem tyX4_ok : ∀ k, k < 8 → parseFieldDescriptor (TX4 k).2.2.1 = some (tyX4 k) := by decide +kernel
abbrev cX4_init : ByteArray := prog_6_method_1_code
def yX4_init : MethodName := ⟨RX4, "<init>", "()V"⟩
abbrev cX4_beginAnew : ByteArray := prog_6_method_2_code
def yX4_beginAnew : MethodName := ⟨RX4, "beginAnew", "()V"⟩
abbrev cX4_copy : ByteArray := prog_6_method_3_code
def yX4_copy : MethodName := ⟨RX4, "copy", "(LStrideBanks$StreamRow;)V"⟩
abbrev cX4_tell : ByteArray := prog_6_method_4_code
def yX4_tell : MethodName := ⟨RX4, "tell", "(I)I"⟩
abbrev cX4_nextAddress : ByteArray := prog_6_method_5_code
def yX4_nextAddress : MethodName := ⟨RX4, "nextAddress", "()I"⟩
abbrev cX4_finishRequest : ByteArray := prog_6_method_6_code
def yX4_finishRequest : MethodName := ⟨RX4, "finishRequest", "(II)V"⟩
def RX5 : String := "StrideBanks"
def TX5 : u_T := fun k => match k with
  | 0 => ("StrideBanks", "now", "LStrideBanks$Store;", true)
  | 1 => ("StrideBanks", "trial", "LStrideBanks$Store;", true)
  | 2 => ("StrideBanks", "history", "LStrideBanks$History;", true)
  | 3 => ("StrideBanks", "slots", "[LStrideBanks$Store;", true)
  | 4 => ("StrideBanks", "saved", "[Z", true)
  | _ => ("StrideBanks", "pad", "LStrideBanks$Pad;", true)
def tyX5 : Nat → FieldType := fun k => match k with
  | 0 => .object "StrideBanks$Store"
  | 1 => .object "StrideBanks$Store"
  | 2 => .object "StrideBanks$History"
  | 3 => .array (.object "StrideBanks$Store")
  | 4 => .array .boolean
  | _ => .object "StrideBanks$Pad"
abbrev wsX50 : List Cond := u_ws RX5 TX5 6
theorem nmX5 : ∀ a, a < 6 → ∀ b, b < 6 → a ≠ b → (TX5 a).2.1 ≠ (TX5 b).2.1 := by decide +kernel
theorem tyX5_ok : ∀ k, k < 6 → parseFieldDescriptor (TX5 k).2.2.1 = some (tyX5 k) := by decide +kernel
abbrev cX5_init : ByteArray := prog_1_method_1_code
def yX5_init : MethodName := ⟨RX5, "<init>", "()V"⟩
abbrev cX5_set : ByteArray := prog_1_method_2_code
def yX5_set : MethodName := ⟨RX5, "set", "(II)I"⟩
abbrev cX5_add : ByteArray := prog_1_method_3_code
def yX5_add : MethodName := ⟨RX5, "add", "(III)I"⟩
abbrev cX5_read : ByteArray := prog_1_method_4_code
def yX5_read : MethodName := ⟨RX5, "read", "()I"⟩
abbrev cX5_drop : ByteArray := prog_1_method_5_code
def yX5_drop : MethodName := ⟨RX5, "drop", "(I)I"⟩
abbrev cX5_stride : ByteArray := prog_1_method_6_code
def yX5_stride : MethodName := ⟨RX5, "stride", "(II)I"⟩
abbrev cX5_run : ByteArray := prog_1_method_7_code
def yX5_run : MethodName := ⟨RX5, "run", "(I)I"⟩
abbrev cX5_reset : ByteArray := prog_1_method_8_code
def yX5_reset : MethodName := ⟨RX5, "reset", "()I"⟩
abbrev cX5_bankOf : ByteArray := prog_1_method_9_code
def yX5_bankOf : MethodName := ⟨RX5, "bankOf", "(I)I"⟩
abbrev cX5_stream : ByteArray := prog_1_method_10_code
def yX5_stream : MethodName := ⟨RX5, "stream", "(II)I"⟩
abbrev cX5_bank : ByteArray := prog_1_method_11_code
def yX5_bank : MethodName := ⟨RX5, "bank", "(II)I"⟩
abbrev cX5_count : ByteArray := prog_1_method_12_code
def yX5_count : MethodName := ⟨RX5, "count", "(I)I"⟩
abbrev cX5_untilDone : ByteArray := prog_1_method_13_code
def yX5_untilDone : MethodName := ⟨RX5, "untilDone", "()I"⟩
abbrev cX5_alone : ByteArray := prog_1_method_14_code
def yX5_alone : MethodName := ⟨RX5, "alone", "(II)I"⟩
abbrev cX5_bestStride : ByteArray := prog_1_method_15_code
def yX5_bestStride : MethodName := ⟨RX5, "bestStride", "(III)I"⟩
abbrev cX5_bestMap : ByteArray := prog_1_method_16_code
def yX5_bestMap : MethodName := ⟨RX5, "bestMap", "(I)I"⟩
abbrev cX5_clashes : ByteArray := prog_1_method_17_code
def yX5_clashes : MethodName := ⟨RX5, "clashes", "(II)I"⟩
abbrev cX5_put : ByteArray := prog_1_method_18_code
def yX5_put : MethodName := ⟨RX5, "put", "(J)I"⟩
abbrev cX5_wipe : ByteArray := prog_1_method_19_code
def yX5_wipe : MethodName := ⟨RX5, "wipe", "()I"⟩
abbrev cX5_fault : ByteArray := prog_1_method_20_code
def yX5_fault : MethodName := ⟨RX5, "fault", "()I"⟩
abbrev cX5_undo : ByteArray := prog_1_method_21_code
def yX5_undo : MethodName := ⟨RX5, "undo", "()I"⟩
abbrev cX5_save : ByteArray := prog_1_method_22_code
def yX5_save : MethodName := ⟨RX5, "save", "(I)I"⟩
abbrev cX5_restore : ByteArray := prog_1_method_23_code
def yX5_restore : MethodName := ⟨RX5, "restore", "(I)I"⟩
abbrev cX5_isIn : ByteArray := prog_1_method_24_code
def yX5_isIn : MethodName := ⟨RX5, "isIn", "(III)Z"⟩
abbrev cX5_cyclesAlone : ByteArray := prog_1_method_25_code
def yX5_cyclesAlone : MethodName := ⟨RX5, "cyclesAlone", "(II)I"⟩
abbrev cX5_cyclesByMap : ByteArray := prog_1_method_26_code
def yX5_cyclesByMap : MethodName := ⟨RX5, "cyclesByMap", "(I)I"⟩
abbrev cX5_charactersIn : ByteArray := prog_1_method_27_code
def yX5_charactersIn : MethodName := ⟨RX5, "charactersIn", "(J)I"⟩
def RX6 : String := "StrideBanksModel"
def TX6 : u_T := fun k => match k with
  | 0 => ("StrideBanksModel", "s", "[I", true)
  | 1 => ("StrideBanksModel", "spare", "[I", true)
  | 2 => ("StrideBanksModel", "trial", "[I", true)
  | 3 => ("StrideBanksModel", "before", "[I", true)
  | 4 => ("StrideBanksModel", "saved", "[I", true)
  | 5 => ("StrideBanksModel", "isSaved", "[Z", true)
  | 6 => ("StrideBanksModel", "read", "[I", true)
  | 7 => ("StrideBanksModel", "pad", "[C", true)
  | 8 => ("StrideBanksModel", "length", "I", false)
  | 9 => ("StrideBanksModel", "states", "I", false)
  | 10 => ("StrideBanksModel", "told", "I", false)
  | _ => ("StrideBanksModel", "at", "I", false)
def tyX6 : Nat → FieldType := fun k => match k with
  | 0 => .array .int
  | 1 => .array .int
  | 2 => .array .int
  | 3 => .array .int
  | 4 => .array .int
  | 5 => .array .boolean
  | 6 => .array .int
  | 7 => .array .char
  | 8 => .int
  | 9 => .int
  | 10 => .int
  | _ => .int
abbrev wsX60 : List Cond := u_ws RX6 TX6 12
theorem nmX6 : ∀ a, a < 12 → ∀ b, b < 12 → a ≠ b → (TX6 a).2.1 ≠ (TX6 b).2.1 := by decide +kernel
theorem tyX6_ok : ∀ k, k < 12 → parseFieldDescriptor (TX6 k).2.2.1 = some (tyX6 k) := by decide +kernel
abbrev cX6_init : ByteArray := prog_8_method_1_code
def yX6_init : MethodName := ⟨RX6, "<init>", "()V"⟩
abbrev cX6_in : ByteArray := prog_8_method_2_code
def yX6_in : MethodName := ⟨RX6, "in", "(III)Z"⟩
abbrev cX6_b : ByteArray := prog_8_method_3_code
def yX6_b : MethodName := ⟨RX6, "b", "(I)I"⟩
abbrev cX6_m : ByteArray := prog_8_method_4_code
def yX6_m : MethodName := ⟨RX6, "m", "(I)I"⟩
abbrev cX6_isStream : ByteArray := prog_8_method_5_code
def yX6_isStream : MethodName := ⟨RX6, "isStream", "(I)Z"⟩
abbrev cX6_hold : ByteArray := prog_8_method_6_code
def yX6_hold : MethodName := ⟨RX6, "hold", "()V"⟩
abbrev cX6_recorded : ByteArray := prog_8_method_7_code
def yX6_recorded : MethodName := ⟨RX6, "recorded", "(I)I"⟩
abbrev cX6_keepTrial : ByteArray := prog_8_method_8_code
def yX6_keepTrial : MethodName := ⟨RX6, "keepTrial", "()V"⟩
abbrev cX6_putBack : ByteArray := prog_8_method_9_code
def yX6_putBack : MethodName := ⟨RX6, "putBack", "()V"⟩
abbrev cX6_isPrime : ByteArray := prog_8_method_10_code
def yX6_isPrime : MethodName := ⟨RX6, "isPrime", "(I)Z"⟩
abbrev cX6_prime : ByteArray := prog_8_method_11_code
def yX6_prime : MethodName := ⟨RX6, "prime", "()I"⟩
abbrev cX6_bankAt : ByteArray := prog_8_method_12_code
def yX6_bankAt : MethodName := ⟨RX6, "bankAt", "(I)I"⟩
abbrev cX6_asks : ByteArray := prog_8_method_13_code
def yX6_asks : MethodName := ⟨RX6, "asks", "(I)I"⟩
abbrev cX6_cycle : ByteArray := prog_8_method_14_code
def yX6_cycle : MethodName := ⟨RX6, "cycle", "()I"⟩
abbrev cX6_wordsLeft : ByteArray := prog_8_method_15_code
def yX6_wordsLeft : MethodName := ⟨RX6, "wordsLeft", "()I"⟩
abbrev cX6_begins : ByteArray := prog_8_method_16_code
def yX6_begins : MethodName := ⟨RX6, "begins", "(I)V"⟩
abbrev cX6_beginsAnew : ByteArray := prog_8_method_17_code
def yX6_beginsAnew : MethodName := ⟨RX6, "beginsAnew", "()V"⟩
abbrev cX6_runsOut : ByteArray := prog_8_method_18_code
def yX6_runsOut : MethodName := ⟨RX6, "runsOut", "()I"⟩
abbrev cX6_isSetting : ByteArray := prog_8_method_19_code
def yX6_isSetting : MethodName := ⟨RX6, "isSetting", "(II)Z"⟩
abbrev cX6_set : ByteArray := prog_8_method_20_code
def yX6_set : MethodName := ⟨RX6, "set", "(II)I"⟩
abbrev cX6_puts : ByteArray := prog_8_method_21_code
def yX6_puts : MethodName := ⟨RX6, "puts", "(III)I"⟩
abbrev cX6_add : ByteArray := prog_8_method_22_code
def yX6_add : MethodName := ⟨RX6, "add", "(III)I"⟩
abbrev cX6_drop : ByteArray := prog_8_method_23_code
def yX6_drop : MethodName := ⟨RX6, "drop", "(I)I"⟩
abbrev cX6_stride : ByteArray := prog_8_method_24_code
def yX6_stride : MethodName := ⟨RX6, "stride", "(II)I"⟩
abbrev cX6_run : ByteArray := prog_8_method_25_code
def yX6_run : MethodName := ⟨RX6, "run", "(I)I"⟩
abbrev cX6_reset : ByteArray := prog_8_method_26_code
def yX6_reset : MethodName := ⟨RX6, "reset", "()I"⟩
abbrev cX6_isSign : ByteArray := prog_8_method_27_code
def yX6_isSign : MethodName := ⟨RX6, "isSign", "(CC)Z"⟩
abbrev cX6_accepts : ByteArray := prog_8_method_28_code
def yX6_accepts : MethodName := ⟨RX6, "accepts", "(C)Z"⟩
abbrev cX6_number : ByteArray := prog_8_method_29_code
def yX6_number : MethodName := ⟨RX6, "number", "(III)Z"⟩
abbrev cX6_readsStream : ByteArray := prog_8_method_30_code
def yX6_readsStream : MethodName := ⟨RX6, "readsStream", "()Z"⟩
abbrev cX6_faultOf : ByteArray := prog_8_method_31_code
def yX6_faultOf : MethodName := ⟨RX6, "faultOf", "()I"⟩
abbrev cX6_read : ByteArray := prog_8_method_32_code
def yX6_read : MethodName := ⟨RX6, "read", "()I"⟩
abbrev cX6_bankOf : ByteArray := prog_8_method_33_code
def yX6_bankOf : MethodName := ⟨RX6, "bankOf", "(I)I"⟩
abbrev cX6_meets : ByteArray := prog_8_method_34_code
def yX6_meets : MethodName := ⟨RX6, "meets", "(I)I"⟩
abbrev cX6_stream : ByteArray := prog_8_method_35_code
def yX6_stream : MethodName := ⟨RX6, "stream", "(II)I"⟩
abbrev cX6_wordsIn : ByteArray := prog_8_method_36_code
def yX6_wordsIn : MethodName := ⟨RX6, "wordsIn", "(I)I"⟩
abbrev cX6_busy : ByteArray := prog_8_method_37_code
def yX6_busy : MethodName := ⟨RX6, "busy", "(I)I"⟩
abbrev cX6_bank : ByteArray := prog_8_method_38_code
def yX6_bank : MethodName := ⟨RX6, "bank", "(II)I"⟩
abbrev cX6_ofStreams : ByteArray := prog_8_method_39_code
def yX6_ofStreams : MethodName := ⟨RX6, "ofStreams", "(I)I"⟩
abbrev cX6_busyBanks : ByteArray := prog_8_method_40_code
def yX6_busyBanks : MethodName := ⟨RX6, "busyBanks", "()I"⟩
abbrev cX6_count : ByteArray := prog_8_method_41_code
def yX6_count : MethodName := ⟨RX6, "count", "(I)I"⟩
abbrev cX6_untilDone : ByteArray := prog_8_method_42_code
def yX6_untilDone : MethodName := ⟨RX6, "untilDone", "()I"⟩
abbrev cX6_comes : ByteArray := prog_8_method_43_code
def yX6_comes : MethodName := ⟨RX6, "comes", "(II)V"⟩
abbrev cX6_cyclesWith : ByteArray := prog_8_method_44_code
def yX6_cyclesWith : MethodName := ⟨RX6, "cyclesWith", "(II)I"⟩
abbrev cX6_alone : ByteArray := prog_8_method_45_code
def yX6_alone : MethodName := ⟨RX6, "alone", "(II)I"⟩
abbrev cX6_bestStride : ByteArray := prog_8_method_46_code
def yX6_bestStride : MethodName := ⟨RX6, "bestStride", "(III)I"⟩
abbrev cX6_bestMap : ByteArray := prog_8_method_47_code
def yX6_bestMap : MethodName := ⟨RX6, "bestMap", "(I)I"⟩
abbrev cX6_clashes : ByteArray := prog_8_method_48_code
def yX6_clashes : MethodName := ⟨RX6, "clashes", "(II)I"⟩
abbrev cX6_put : ByteArray := prog_8_method_49_code
def yX6_put : MethodName := ⟨RX6, "put", "(J)I"⟩
abbrev cX6_wipe : ByteArray := prog_8_method_50_code
def yX6_wipe : MethodName := ⟨RX6, "wipe", "()I"⟩
abbrev cX6_fault : ByteArray := prog_8_method_51_code
def yX6_fault : MethodName := ⟨RX6, "fault", "()I"⟩
abbrev cX6_undo : ByteArray := prog_8_method_52_code
def yX6_undo : MethodName := ⟨RX6, "undo", "()I"⟩
abbrev cX6_save : ByteArray := prog_8_method_53_code
def yX6_save : MethodName := ⟨RX6, "save", "(I)I"⟩
abbrev cX6_restore : ByteArray := prog_8_method_54_code
def yX6_restore : MethodName := ⟨RX6, "restore", "(I)I"⟩
def RJ6 : String := "java/lang/Integer"
def TJ6 : u_T := fun k => match k with
  | _ => ("", "", "", false)
def tyJ6 : Nat → FieldType := fun k => match k with
  | _ => .int
abbrev wsJ60 : List Cond := u_ws RJ6 TJ6 0
theorem nmJ6 : ∀ a, a < 0 → ∀ b, b < 0 → a ≠ b → (TJ6 a).2.1 ≠ (TJ6 b).2.1 := by decide +kernel
theorem tyJ6_ok : ∀ k, k < 0 → parseFieldDescriptor (TJ6 k).2.2.1 = some (tyJ6 k) := by decide +kernel
abbrev cJ6_bitCount_0f7a4 : ByteArray := prog_9_method_49_code
def yJ6_bitCount_0f7a4 : MethodName := ⟨RJ6, "bitCount", "(I)I"⟩
def RJ9 : String := "java/lang/Math"
def TJ9 : u_T := fun k => match k with
  | _ => ("", "", "", false)
def tyJ9 : Nat → FieldType := fun k => match k with
  | _ => .int
abbrev wsJ90 : List Cond := u_ws RJ9 TJ9 0
theorem nmJ9 : ∀ a, a < 0 → ∀ b, b < 0 → a ≠ b → (TJ9 a).2.1 ≠ (TJ9 b).2.1 := by decide +kernel
theorem tyJ9_ok : ∀ k, k < 0 → parseFieldDescriptor (TJ9 k).2.2.1 = some (tyJ9 k) := by decide +kernel
abbrev cJ9_max_7cf53 : ByteArray := prog_10_method_65_code
def yJ9_max_7cf53 : MethodName := ⟨RJ9, "max", "(II)I"⟩
abbrev cJ9_min_7cf53 : ByteArray := prog_10_method_69_code
def yJ9_min_7cf53 : MethodName := ⟨RJ9, "min", "(II)I"⟩
def RJ10 : String := "java/lang/System"
def TJ10 : u_T := fun k => match k with
  | _ => ("", "", "", false)
def tyJ10 : Nat → FieldType := fun k => match k with
  | _ => .int
abbrev wsJ100 : List Cond := u_ws RJ10 TJ10 0
theorem nmJ10 : ∀ a, a < 0 → ∀ b, b < 0 → a ≠ b → (TJ10 a).2.1 ≠ (TJ10 b).2.1 := by decide +kernel
theorem tyJ10_ok : ∀ k, k < 0 → parseFieldDescriptor (TJ10 k).2.2.1 = some (tyJ10 k) := by decide +kernel
def RL : String := "StrideBanksLaw"
abbrev cL_law : ByteArray := code
def yL_law : MethodName := ⟨RL, "law", "([I)Z"⟩
abbrev vwCl : List vw_C := [(RX0, TX0, 4), (RX1, TX1, 2), (RX2, TX2, 4), (RX3, TX3, 5), (RX4, TX4, 8), (RX5, TX5, 6), (RX6, TX6, 12)]
/-- the words of the tables that every call may carry, and those of nest mates and arrays -/
def TB : List Cond := lw_tbl.filter goodWord
def isNW : Cond → Bool
  | .methodLinkNest .. => true
  | .fieldLinkNest .. => true
  | .arrayOver (.object _) => true
  | _ => false
def NW : List Cond := lw_tbl.filter isNW
theorem tb_of {w : Cond} (i : Nat) (h : lw_tbl[i]? = some w) (g : goodWord w = true) : w ∈ TB := List.mem_filter.mpr ⟨List.mem_of_getElem? h, g⟩
theorem nw_of {w : Cond} (i : Nat) (h : lw_tbl[i]? = some w) (g : isNW w = true) : w ∈ NW := List.mem_filter.mpr ⟨List.mem_of_getElem? h, g⟩
theorem tb_good : GoodIn TB TB := fun w h => ⟨h, good_of_word (List.mem_filter.mp h).2⟩
set_option maxRecDepth 20000 in
theorem ws_X0_beginAnew : Cond.selects RX0 yX0_beginAnew yX0_beginAnew ∈ TB := tb_of 0 (by rfl) (by rfl)
set_option maxRecDepth 20000 in
theorem ws_X1_record : Cond.selects RX1 yX1_record yX1_record ∈ TB := tb_of 1 (by rfl) (by rfl)
set_option maxRecDepth 20000 in
theorem ws_X1_forgetOldest : Cond.selects RX1 yX1_forgetOldest yX1_forgetOldest ∈ TB := tb_of 2 (by rfl) (by rfl)
set_option maxRecDepth 20000 in
theorem ws_X3_copy : Cond.selects RX3 yX3_copy yX3_copy ∈ TB := tb_of 3 (by rfl) (by rfl)
set_option maxRecDepth 20000 in
theorem ws_X3_copySettings : Cond.selects RX3 yX3_copySettings yX3_copySettings ∈ TB := tb_of 4 (by rfl) (by rfl)
set_option maxRecDepth 20000 in
theorem ws_X4_copy : Cond.selects RX4 yX4_copy yX4_copy ∈ TB := tb_of 5 (by rfl) (by rfl)
set_option maxRecDepth 20000 in
theorem ws_X0_copy : Cond.selects RX0 yX0_copy yX0_copy ∈ TB := tb_of 6 (by rfl) (by rfl)
set_option maxRecDepth 20000 in
theorem ws_X3_beginAnew : Cond.selects RX3 yX3_beginAnew yX3_beginAnew ∈ TB := tb_of 7 (by rfl) (by rfl)
set_option maxRecDepth 20000 in
theorem ws_X3_freeBanks : Cond.selects RX3 yX3_freeBanks yX3_freeBanks ∈ TB := tb_of 8 (by rfl) (by rfl)
set_option maxRecDepth 20000 in
theorem ws_X4_beginAnew : Cond.selects RX4 yX4_beginAnew yX4_beginAnew ∈ TB := tb_of 9 (by rfl) (by rfl)
set_option maxRecDepth 20000 in
theorem ws_X3_append : Cond.selects RX3 yX3_append yX3_append ∈ TB := tb_of 10 (by rfl) (by rfl)
set_option maxRecDepth 20000 in
theorem ws_X2_firstFault : Cond.selects RX2 yX2_firstFault yX2_firstFault ∈ TB := tb_of 11 (by rfl) (by rfl)
set_option maxRecDepth 20000 in
theorem ws_X2_takesDigit : Cond.selects RX2 yX2_takesDigit yX2_takesDigit ∈ TB := tb_of 12 (by rfl) (by rfl)
set_option maxRecDepth 20000 in
theorem ws_X2_streamsFound : Cond.selects RX2 yX2_streamsFound yX2_streamsFound ∈ TB := tb_of 13 (by rfl) (by rfl)
set_option maxRecDepth 20000 in
theorem ws_X2_numberOf : Cond.selects RX2 yX2_numberOf yX2_numberOf ∈ TB := tb_of 14 (by rfl) (by rfl)
set_option maxRecDepth 20000 in
theorem ws_X3_has : Cond.selects RX3 yX3_has yX3_has ∈ TB := tb_of 15 (by rfl) (by rfl)
set_option maxRecDepth 20000 in
theorem ws_X3_remove : Cond.selects RX3 yX3_remove yX3_remove ∈ TB := tb_of 16 (by rfl) (by rfl)
set_option maxRecDepth 20000 in
theorem ws_X3_passCycle : Cond.selects RX3 yX3_passCycle yX3_passCycle ∈ TB := tb_of 17 (by rfl) (by rfl)
set_option maxRecDepth 20000 in
theorem ws_X3_ask : Cond.selects RX3 yX3_ask yX3_ask ∈ TB := tb_of 18 (by rfl) (by rfl)
set_option maxRecDepth 20000 in
theorem ws_X4_nextAddress : Cond.selects RX4 yX4_nextAddress yX4_nextAddress ∈ TB := tb_of 19 (by rfl) (by rfl)
set_option maxRecDepth 20000 in
theorem ws_X3_bankAt : Cond.selects RX3 yX3_bankAt yX3_bankAt ∈ TB := tb_of 20 (by rfl) (by rfl)
set_option maxRecDepth 20000 in
theorem ws_X3_greatestPrime : Cond.selects RX3 yX3_greatestPrime yX3_greatestPrime ∈ TB := tb_of 21 (by rfl) (by rfl)
set_option maxRecDepth 20000 in
theorem ws_X4_finishRequest : Cond.selects RX4 yX4_finishRequest yX4_finishRequest ∈ TB := tb_of 22 (by rfl) (by rfl)
set_option maxRecDepth 20000 in
theorem ws_X3_total : Cond.selects RX3 yX3_total yX3_total ∈ TB := tb_of 23 (by rfl) (by rfl)
set_option maxRecDepth 20000 in
theorem ws_X4_tell : Cond.selects RX4 yX4_tell yX4_tell ∈ TB := tb_of 24 (by rfl) (by rfl)
set_option maxRecDepth 20000 in
theorem ws_X3_banksMet : Cond.selects RX3 yX3_banksMet yX3_banksMet ∈ TB := tb_of 25 (by rfl) (by rfl)
set_option maxRecDepth 20000 in
theorem ws_X3_wordsLeftIn : Cond.selects RX3 yX3_wordsLeftIn yX3_wordsLeftIn ∈ TB := tb_of 26 (by rfl) (by rfl)
set_option maxRecDepth 20000 in
theorem ws_X3_busyBanks : Cond.selects RX3 yX3_busyBanks yX3_busyBanks ∈ TB := tb_of 27 (by rfl) (by rfl)
set_option maxRecDepth 20000 in
theorem ws_X3_passAll : Cond.selects RX3 yX3_passAll yX3_passAll ∈ TB := tb_of 28 (by rfl) (by rfl)
set_option maxRecDepth 20000 in
theorem ws_X5_cyclesAlone : Cond.selects RX5 yX5_cyclesAlone yX5_cyclesAlone ∈ TB := tb_of 29 (by rfl) (by rfl)
set_option maxRecDepth 20000 in
theorem ws_X3_lonelyCycles : Cond.selects RX3 yX3_lonelyCycles yX3_lonelyCycles ∈ TB := tb_of 30 (by rfl) (by rfl)
set_option maxRecDepth 20000 in
theorem ws_X5_cyclesByMap : Cond.selects RX5 yX5_cyclesByMap yX5_cyclesByMap ∈ TB := tb_of 31 (by rfl) (by rfl)
set_option maxRecDepth 20000 in
theorem ws_X3_appendLike : Cond.selects RX3 yX3_appendLike yX3_appendLike ∈ TB := tb_of 32 (by rfl) (by rfl)
set_option maxRecDepth 20000 in
theorem ws_X2_append : Cond.selects RX2 yX2_append yX2_append ∈ TB := tb_of 33 (by rfl) (by rfl)
set_option maxRecDepth 20000 in
theorem ws_X1_takeBack : Cond.selects RX1 yX1_takeBack yX1_takeBack ∈ TB := tb_of 34 (by rfl) (by rfl)
set_option maxRecDepth 20000 in
theorem ws_X6_hold : Cond.selects RX6 yX6_hold yX6_hold ∈ TB := tb_of 35 (by rfl) (by rfl)
set_option maxRecDepth 20000 in
theorem ws_X6_beginsAnew : Cond.selects RX6 yX6_beginsAnew yX6_beginsAnew ∈ TB := tb_of 36 (by rfl) (by rfl)
set_option maxRecDepth 20000 in
theorem ws_X6_begins : Cond.selects RX6 yX6_begins yX6_begins ∈ TB := tb_of 37 (by rfl) (by rfl)
set_option maxRecDepth 20000 in
theorem ws_X6_recorded : Cond.selects RX6 yX6_recorded yX6_recorded ∈ TB := tb_of 38 (by rfl) (by rfl)
set_option maxRecDepth 20000 in
theorem ws_X6_puts : Cond.selects RX6 yX6_puts yX6_puts ∈ TB := tb_of 39 (by rfl) (by rfl)
set_option maxRecDepth 20000 in
theorem ws_X6_isStream : Cond.selects RX6 yX6_isStream yX6_isStream ∈ TB := tb_of 40 (by rfl) (by rfl)
set_option maxRecDepth 20000 in
theorem ws_X6_cycle : Cond.selects RX6 yX6_cycle yX6_cycle ∈ TB := tb_of 41 (by rfl) (by rfl)
set_option maxRecDepth 20000 in
theorem ws_X6_asks : Cond.selects RX6 yX6_asks yX6_asks ∈ TB := tb_of 42 (by rfl) (by rfl)
set_option maxRecDepth 20000 in
theorem ws_X6_bankAt : Cond.selects RX6 yX6_bankAt yX6_bankAt ∈ TB := tb_of 43 (by rfl) (by rfl)
set_option maxRecDepth 20000 in
theorem ws_X6_prime : Cond.selects RX6 yX6_prime yX6_prime ∈ TB := tb_of 44 (by rfl) (by rfl)
set_option maxRecDepth 20000 in
theorem ws_X6_wordsLeft : Cond.selects RX6 yX6_wordsLeft yX6_wordsLeft ∈ TB := tb_of 45 (by rfl) (by rfl)
set_option maxRecDepth 20000 in
theorem ws_X6_faultOf : Cond.selects RX6 yX6_faultOf yX6_faultOf ∈ TB := tb_of 46 (by rfl) (by rfl)
set_option maxRecDepth 20000 in
theorem ws_X6_readsStream : Cond.selects RX6 yX6_readsStream yX6_readsStream ∈ TB := tb_of 47 (by rfl) (by rfl)
set_option maxRecDepth 20000 in
theorem ws_X6_number : Cond.selects RX6 yX6_number yX6_number ∈ TB := tb_of 48 (by rfl) (by rfl)
set_option maxRecDepth 20000 in
theorem ws_X6_isSign : Cond.selects RX6 yX6_isSign yX6_isSign ∈ TB := tb_of 49 (by rfl) (by rfl)
set_option maxRecDepth 20000 in
theorem ws_X6_accepts : Cond.selects RX6 yX6_accepts yX6_accepts ∈ TB := tb_of 50 (by rfl) (by rfl)
set_option maxRecDepth 20000 in
theorem ws_X6_meets : Cond.selects RX6 yX6_meets yX6_meets ∈ TB := tb_of 51 (by rfl) (by rfl)
set_option maxRecDepth 20000 in
theorem ws_X6_busy : Cond.selects RX6 yX6_busy yX6_busy ∈ TB := tb_of 52 (by rfl) (by rfl)
set_option maxRecDepth 20000 in
theorem ws_X6_wordsIn : Cond.selects RX6 yX6_wordsIn yX6_wordsIn ∈ TB := tb_of 53 (by rfl) (by rfl)
set_option maxRecDepth 20000 in
theorem ws_X6_ofStreams : Cond.selects RX6 yX6_ofStreams yX6_ofStreams ∈ TB := tb_of 54 (by rfl) (by rfl)
set_option maxRecDepth 20000 in
theorem ws_X6_busyBanks : Cond.selects RX6 yX6_busyBanks yX6_busyBanks ∈ TB := tb_of 55 (by rfl) (by rfl)
set_option maxRecDepth 20000 in
theorem ws_X6_keepTrial : Cond.selects RX6 yX6_keepTrial yX6_keepTrial ∈ TB := tb_of 56 (by rfl) (by rfl)
set_option maxRecDepth 20000 in
theorem ws_X6_runsOut : Cond.selects RX6 yX6_runsOut yX6_runsOut ∈ TB := tb_of 57 (by rfl) (by rfl)
set_option maxRecDepth 20000 in
theorem ws_X6_putBack : Cond.selects RX6 yX6_putBack yX6_putBack ∈ TB := tb_of 58 (by rfl) (by rfl)
set_option maxRecDepth 20000 in
theorem ws_X6_cyclesWith : Cond.selects RX6 yX6_cyclesWith yX6_cyclesWith ∈ TB := tb_of 59 (by rfl) (by rfl)
set_option maxRecDepth 20000 in
theorem ws_X6_comes : Cond.selects RX6 yX6_comes yX6_comes ∈ TB := tb_of 60 (by rfl) (by rfl)
set_option maxRecDepth 20000 in
theorem w0_L : Cond.initialized RL ∈ TB := tb_of 61 (by rfl) (by rfl)
set_option maxRecDepth 20000 in
theorem w0_X5 : Cond.initialized RX5 ∈ TB := tb_of 62 (by rfl) (by rfl)
set_option maxRecDepth 20000 in
theorem w0_X3 : Cond.initialized RX3 ∈ TB := tb_of 63 (by rfl) (by rfl)
set_option maxRecDepth 20000 in
theorem w0_J10 : Cond.initialized RJ10 ∈ TB := tb_of 64 (by rfl) (by rfl)
set_option maxRecDepth 20000 in
theorem w0_X4 : Cond.initialized RX4 ∈ TB := tb_of 65 (by rfl) (by rfl)
set_option maxRecDepth 20000 in
theorem w0_X0 : Cond.initialized RX0 ∈ TB := tb_of 66 (by rfl) (by rfl)
set_option maxRecDepth 20000 in
theorem w0_X1 : Cond.initialized RX1 ∈ TB := tb_of 67 (by rfl) (by rfl)
set_option maxRecDepth 20000 in
theorem w0_X2 : Cond.initialized RX2 ∈ TB := tb_of 68 (by rfl) (by rfl)
set_option maxRecDepth 20000 in
theorem w0_X6 : Cond.initialized RX6 ∈ TB := tb_of 69 (by rfl) (by rfl)
set_option maxRecDepth 20000 in
theorem w0_J6 : Cond.initialized RJ6 ∈ TB := tb_of 70 (by rfl) (by rfl)
set_option maxRecDepth 20000 in
theorem w0_J9 : Cond.initialized RJ9 ∈ TB := tb_of 71 (by rfl) (by rfl)
set_option maxRecDepth 20000 in
theorem wk_L_7 : Cond.classLink RL 7 RX5 ∈ TB := tb_of 72 (by rfl) (by rfl)
set_option maxRecDepth 20000 in
theorem w1_X5 : Cond.instantiable RX5 6 ∈ TB := tb_of 73 (by rfl) (by rfl)
set_option maxRecDepth 20000 in
theorem wm_L_9 : Cond.methodLink RL 9 yX5_init ∈ TB := tb_of 74 (by rfl) (by rfl)
set_option maxRecDepth 20000 in
theorem wi_X5_init : Cond.instanceMethod yX5_init ∈ TB := tb_of 75 (by rfl) (by rfl)
set_option maxRecDepth 20000 in
theorem wc_X5_init : Cond.code yX5_init cX5_init 2 none ∈ TB := tb_of 76 (by rfl) (by rfl)
set_option maxRecDepth 20000 in
theorem wm_X5_1 : Cond.methodLink RX5 1 ⟨"java/lang/Object", "<init>", "()V"⟩ ∈ TB := tb_of 77 (by rfl) (by rfl)
set_option maxRecDepth 20000 in
theorem wi_java_lang_Object_init : Cond.instanceMethod ⟨"java/lang/Object", "<init>", "()V"⟩ ∈ TB := tb_of 78 (by rfl) (by rfl)
set_option maxRecDepth 20000 in
theorem wc_java_lang_Object : Cond.code ⟨"java/lang/Object", "<init>", "()V"⟩ object_method_1_code 1 none ∈ TB := tb_of 79 (by rfl) (by rfl)
set_option maxRecDepth 20000 in
theorem wk_X5_7 : Cond.classLink RX5 7 RX3 ∈ TB := tb_of 80 (by rfl) (by rfl)
set_option maxRecDepth 20000 in
theorem w1_X3 : Cond.instantiable RX3 5 ∈ TB := tb_of 81 (by rfl) (by rfl)
set_option maxRecDepth 20000 in
theorem wm_X5_9 : Cond.methodLinkNest RX5 9 yX3_init "StrideBanks" ∈ NW := nw_of 82 (by rfl) (by rfl)
set_option maxRecDepth 20000 in
theorem wi_X3_init : Cond.instanceMethod yX3_init ∈ TB := tb_of 83 (by rfl) (by rfl)
set_option maxRecDepth 20000 in
theorem wc_X3_init : Cond.code yX3_init cX3_init 2 none ∈ TB := tb_of 84 (by rfl) (by rfl)
set_option maxRecDepth 20000 in
theorem wm_X3_3 : Cond.methodLink RX3 3 ⟨"java/lang/Object", "<init>", "()V"⟩ ∈ TB := tb_of 85 (by rfl) (by rfl)
set_option maxRecDepth 20000 in
theorem wk_X3_15 : Cond.classLink RX3 15 RX4 ∈ TB := tb_of 86 (by rfl) (by rfl)
set_option maxRecDepth 20000 in
theorem wo_X4 : Cond.arrayOver (.object RX4) ∈ NW := nw_of 87 (by rfl) (by rfl)
set_option maxRecDepth 20000 in
theorem wk_X3_21 : Cond.classLink RX3 21 RX0 ∈ TB := tb_of 88 (by rfl) (by rfl)
set_option maxRecDepth 20000 in
theorem wo_X0 : Cond.arrayOver (.object RX0) ∈ NW := nw_of 89 (by rfl) (by rfl)
set_option maxRecDepth 20000 in
theorem wf_X3_27 : Cond.fieldLinkNest RX3 27 "StrideBanks" "FIRST_SETTING" "[I" "StrideBanks" ∈ NW := nw_of 90 (by rfl) (by rfl)
set_option maxRecDepth 20000 in
theorem wl_FIRST_SETTING : Cond.laysStatic "StrideBanks" "FIRST_SETTING" "[I" ∈ lw_tbl := List.mem_of_getElem? (i := 91) (by rfl)
set_option maxRecDepth 20000 in
theorem wm_X3_30 : Cond.methodLink RX3 30 ⟨"java/lang/System", "arraycopy", "(Ljava/lang/Object;ILjava/lang/Object;II)V"⟩ ∈ TB := tb_of 92 (by rfl) (by rfl)
set_option maxRecDepth 20000 in
theorem wt_java_lang_System_arraycopy : Cond.static ⟨"java/lang/System", "arraycopy", "(Ljava/lang/Object;ILjava/lang/Object;II)V"⟩ ∈ TB := tb_of 93 (by rfl) (by rfl)
set_option maxRecDepth 20000 in
theorem wn_java_lang_System_arraycopy : Cond.native ⟨"java/lang/System", "arraycopy", "(Ljava/lang/Object;ILjava/lang/Object;II)V"⟩ ∈ TB := tb_of 94 (by rfl) (by rfl)
set_option maxRecDepth 20000 in
theorem w1_X4 : Cond.instantiable RX4 8 ∈ TB := tb_of 95 (by rfl) (by rfl)
set_option maxRecDepth 20000 in
theorem wm_X3_36 : Cond.methodLinkNest RX3 36 yX4_init "StrideBanks" ∈ NW := nw_of 96 (by rfl) (by rfl)
set_option maxRecDepth 20000 in
theorem wi_X4_init : Cond.instanceMethod yX4_init ∈ TB := tb_of 97 (by rfl) (by rfl)
set_option maxRecDepth 20000 in
theorem wc_X4_init : Cond.code yX4_init cX4_init 1 none ∈ TB := tb_of 98 (by rfl) (by rfl)
set_option maxRecDepth 20000 in
theorem wm_X4_3 : Cond.methodLink RX4 3 ⟨"java/lang/Object", "<init>", "()V"⟩ ∈ TB := tb_of 99 (by rfl) (by rfl)
set_option maxRecDepth 20000 in
theorem wf_X4_18 : Cond.fieldLink RX4 18 "StrideBanks$StreamRow" "start" "I" ∈ TB := tb_of 100 (by rfl) (by rfl)
set_option maxRecDepth 20000 in
theorem wf_X3_63 : Cond.fieldLinkNest RX3 63 "StrideBanks$StreamRow" "start" "I" "StrideBanks" ∈ NW := nw_of 101 (by rfl) (by rfl)
set_option maxRecDepth 20000 in
theorem wf_X4_33 : Cond.fieldLink RX4 33 "StrideBanks$StreamRow" "stride" "I" ∈ TB := tb_of 102 (by rfl) (by rfl)
set_option maxRecDepth 20000 in
theorem wf_X5_101 : Cond.fieldLinkNest RX5 101 "StrideBanks$StreamRow" "stride" "I" "StrideBanks" ∈ NW := nw_of 103 (by rfl) (by rfl)
set_option maxRecDepth 20000 in
theorem wf_X3_66 : Cond.fieldLinkNest RX3 66 "StrideBanks$StreamRow" "stride" "I" "StrideBanks" ∈ NW := nw_of 104 (by rfl) (by rfl)
set_option maxRecDepth 20000 in
theorem wf_X4_9 : Cond.fieldLink RX4 9 "StrideBanks$StreamRow" "length" "I" ∈ TB := tb_of 105 (by rfl) (by rfl)
set_option maxRecDepth 20000 in
theorem wf_X3_69 : Cond.fieldLinkNest RX3 69 "StrideBanks$StreamRow" "length" "I" "StrideBanks" ∈ NW := nw_of 106 (by rfl) (by rfl)
set_option maxRecDepth 20000 in
theorem wf_X4_15 : Cond.fieldLink RX4 15 "StrideBanks$StreamRow" "left" "I" ∈ TB := tb_of 107 (by rfl) (by rfl)
set_option maxRecDepth 20000 in
theorem wf_X5_92 : Cond.fieldLinkNest RX5 92 "StrideBanks$StreamRow" "left" "I" "StrideBanks" ∈ NW := nw_of 108 (by rfl) (by rfl)
set_option maxRecDepth 20000 in
theorem wf_X3_90 : Cond.fieldLinkNest RX3 90 "StrideBanks$StreamRow" "left" "I" "StrideBanks" ∈ NW := nw_of 109 (by rfl) (by rfl)
set_option maxRecDepth 20000 in
theorem wf_X4_21 : Cond.fieldLink RX4 21 "StrideBanks$StreamRow" "latest" "I" ∈ TB := tb_of 110 (by rfl) (by rfl)
set_option maxRecDepth 20000 in
theorem wf_X4_24 : Cond.fieldLink RX4 24 "StrideBanks$StreamRow" "stalls" "I" ∈ TB := tb_of 111 (by rfl) (by rfl)
set_option maxRecDepth 20000 in
theorem wf_X3_105 : Cond.fieldLinkNest RX3 105 "StrideBanks$StreamRow" "stalls" "I" "StrideBanks" ∈ NW := nw_of 112 (by rfl) (by rfl)
set_option maxRecDepth 20000 in
theorem wf_X4_27 : Cond.fieldLink RX4 27 "StrideBanks$StreamRow" "clashes" "I" ∈ TB := tb_of 113 (by rfl) (by rfl)
set_option maxRecDepth 20000 in
theorem wf_X3_106 : Cond.fieldLinkNest RX3 106 "StrideBanks$StreamRow" "clashes" "I" "StrideBanks" ∈ NW := nw_of 114 (by rfl) (by rfl)
set_option maxRecDepth 20000 in
theorem wf_X4_30 : Cond.fieldLink RX4 30 "StrideBanks$StreamRow" "ended" "I" ∈ TB := tb_of 115 (by rfl) (by rfl)
set_option maxRecDepth 20000 in
theorem wa_int : Cond.arrayClass .int ∈ TB := tb_of 133 (by rfl) (by rfl)
set_option maxRecDepth 20000 in
theorem w1_X0 : Cond.instantiable RX0 4 ∈ TB := tb_of 134 (by rfl) (by rfl)
set_option maxRecDepth 20000 in
theorem wm_X3_37 : Cond.methodLinkNest RX3 37 yX0_init "StrideBanks" ∈ NW := nw_of 135 (by rfl) (by rfl)
set_option maxRecDepth 20000 in
theorem wi_X0_init : Cond.instanceMethod yX0_init ∈ TB := tb_of 136 (by rfl) (by rfl)
set_option maxRecDepth 20000 in
theorem wc_X0_init : Cond.code yX0_init cX0_init 1 none ∈ TB := tb_of 137 (by rfl) (by rfl)
set_option maxRecDepth 20000 in
theorem wm_X0_3 : Cond.methodLink RX0 3 ⟨"java/lang/Object", "<init>", "()V"⟩ ∈ TB := tb_of 138 (by rfl) (by rfl)
set_option maxRecDepth 20000 in
theorem wf_X0_9 : Cond.fieldLink RX0 9 "StrideBanks$BankRow" "freeFrom" "I" ∈ TB := tb_of 139 (by rfl) (by rfl)
set_option maxRecDepth 20000 in
theorem wf_X5_129 : Cond.fieldLinkNest RX5 129 "StrideBanks$BankRow" "freeFrom" "I" "StrideBanks" ∈ NW := nw_of 140 (by rfl) (by rfl)
set_option maxRecDepth 20000 in
theorem wf_X3_99 : Cond.fieldLinkNest RX3 99 "StrideBanks$BankRow" "freeFrom" "I" "StrideBanks" ∈ NW := nw_of 141 (by rfl) (by rfl)
set_option maxRecDepth 20000 in
theorem wf_X0_15 : Cond.fieldLink RX0 15 "StrideBanks$BankRow" "maker" "I" ∈ TB := tb_of 142 (by rfl) (by rfl)
set_option maxRecDepth 20000 in
theorem wf_X3_76 : Cond.fieldLinkNest RX3 76 "StrideBanks$BankRow" "maker" "I" "StrideBanks" ∈ NW := nw_of 143 (by rfl) (by rfl)
set_option maxRecDepth 20000 in
theorem wf_X0_18 : Cond.fieldLink RX0 18 "StrideBanks$BankRow" "requests" "I" ∈ TB := tb_of 144 (by rfl) (by rfl)
set_option maxRecDepth 20000 in
theorem wf_X5_139 : Cond.fieldLinkNest RX5 139 "StrideBanks$BankRow" "requests" "I" "StrideBanks" ∈ NW := nw_of 145 (by rfl) (by rfl)
set_option maxRecDepth 20000 in
theorem wf_X3_109 : Cond.fieldLinkNest RX3 109 "StrideBanks$BankRow" "requests" "I" "StrideBanks" ∈ NW := nw_of 146 (by rfl) (by rfl)
set_option maxRecDepth 20000 in
theorem wf_X0_21 : Cond.fieldLink RX0 21 "StrideBanks$BankRow" "stalls" "I" ∈ TB := tb_of 147 (by rfl) (by rfl)
set_option maxRecDepth 20000 in
theorem wf_X5_142 : Cond.fieldLinkNest RX5 142 "StrideBanks$BankRow" "stalls" "I" "StrideBanks" ∈ NW := nw_of 148 (by rfl) (by rfl)
set_option maxRecDepth 20000 in
theorem wf_X3_102 : Cond.fieldLinkNest RX3 102 "StrideBanks$BankRow" "stalls" "I" "StrideBanks" ∈ NW := nw_of 149 (by rfl) (by rfl)
set_option maxRecDepth 20000 in
theorem wm_X3_38 : Cond.methodLinkNest RX3 38 yX0_beginAnew "StrideBanks" ∈ NW := nw_of 159 (by rfl) (by rfl)
set_option maxRecDepth 20000 in
theorem wi_X0_beginAnew : Cond.instanceMethod yX0_beginAnew ∈ TB := tb_of 161 (by rfl) (by rfl)
set_option maxRecDepth 20000 in
theorem wc_X0_beginAnew : Cond.code yX0_beginAnew cX0_beginAnew 1 none ∈ TB := tb_of 162 (by rfl) (by rfl)
set_option maxRecDepth 20000 in
theorem wf_X3_9 : Cond.fieldLink RX3 9 "StrideBanks$Store" "settings" "[I" ∈ TB := tb_of 163 (by rfl) (by rfl)
set_option maxRecDepth 20000 in
theorem wf_X5_56 : Cond.fieldLinkNest RX5 56 "StrideBanks$Store" "settings" "[I" "StrideBanks" ∈ NW := nw_of 164 (by rfl) (by rfl)
set_option maxRecDepth 20000 in
theorem wf_X3_17 : Cond.fieldLink RX3 17 "StrideBanks$Store" "streams" "[LStrideBanks$StreamRow;" ∈ TB := tb_of 165 (by rfl) (by rfl)
set_option maxRecDepth 20000 in
theorem wf_X5_88 : Cond.fieldLinkNest RX5 88 "StrideBanks$Store" "streams" "[LStrideBanks$StreamRow;" "StrideBanks" ∈ NW := nw_of 166 (by rfl) (by rfl)
set_option maxRecDepth 20000 in
theorem wf_X3_23 : Cond.fieldLink RX3 23 "StrideBanks$Store" "banks" "[LStrideBanks$BankRow;" ∈ TB := tb_of 167 (by rfl) (by rfl)
set_option maxRecDepth 20000 in
theorem wf_X5_125 : Cond.fieldLinkNest RX5 125 "StrideBanks$Store" "banks" "[LStrideBanks$BankRow;" "StrideBanks" ∈ NW := nw_of 168 (by rfl) (by rfl)
set_option maxRecDepth 20000 in
theorem wf_X5_62 : Cond.fieldLinkNest RX5 62 "StrideBanks$Store" "streamCount" "I" "StrideBanks" ∈ NW := nw_of 169 (by rfl) (by rfl)
set_option maxRecDepth 20000 in
theorem wf_X3_52 : Cond.fieldLink RX3 52 "StrideBanks$Store" "streamCount" "I" ∈ TB := tb_of 170 (by rfl) (by rfl)
set_option maxRecDepth 20000 in
theorem wf_X3_56 : Cond.fieldLink RX3 56 "StrideBanks$Store" "cycle" "I" ∈ TB := tb_of 171 (by rfl) (by rfl)
set_option maxRecDepth 20000 in
theorem wf_X5_104 : Cond.fieldLinkNest RX5 104 "StrideBanks$Store" "cycle" "I" "StrideBanks" ∈ NW := nw_of 172 (by rfl) (by rfl)
set_option maxRecDepth 20000 in
theorem wk_X5_19 : Cond.classLink RX5 19 RX1 ∈ TB := tb_of 184 (by rfl) (by rfl)
set_option maxRecDepth 20000 in
theorem w1_X1 : Cond.instantiable RX1 2 ∈ TB := tb_of 185 (by rfl) (by rfl)
set_option maxRecDepth 20000 in
theorem wm_X5_21 : Cond.methodLinkNest RX5 21 yX1_init "StrideBanks" ∈ NW := nw_of 186 (by rfl) (by rfl)
set_option maxRecDepth 20000 in
theorem wi_X1_init : Cond.instanceMethod yX1_init ∈ TB := tb_of 187 (by rfl) (by rfl)
set_option maxRecDepth 20000 in
theorem wc_X1_init : Cond.code yX1_init cX1_init 2 none ∈ TB := tb_of 188 (by rfl) (by rfl)
set_option maxRecDepth 20000 in
theorem wm_X1_3 : Cond.methodLink RX1 3 ⟨"java/lang/Object", "<init>", "()V"⟩ ∈ TB := tb_of 189 (by rfl) (by rfl)
set_option maxRecDepth 20000 in
theorem wk_X1_9 : Cond.classLink RX1 9 RX3 ∈ TB := tb_of 190 (by rfl) (by rfl)
set_option maxRecDepth 20000 in
theorem wo_X3 : Cond.arrayOver (.object RX3) ∈ NW := nw_of 191 (by rfl) (by rfl)
set_option maxRecDepth 20000 in
theorem wm_X1_17 : Cond.methodLinkNest RX1 17 yX3_init "StrideBanks" ∈ NW := nw_of 192 (by rfl) (by rfl)
set_option maxRecDepth 20000 in
theorem wf_X1_11 : Cond.fieldLink RX1 11 "StrideBanks$History" "states" "[LStrideBanks$Store;" ∈ TB := tb_of 193 (by rfl) (by rfl)
set_option maxRecDepth 20000 in
theorem wf_X1_18 : Cond.fieldLink RX1 18 "StrideBanks$History" "size" "I" ∈ TB := tb_of 194 (by rfl) (by rfl)
set_option maxRecDepth 20000 in
theorem wf_X5_154 : Cond.fieldLinkNest RX5 154 "StrideBanks$History" "size" "I" "StrideBanks" ∈ NW := nw_of 195 (by rfl) (by rfl)
set_option maxRecDepth 20000 in
theorem wk_X5_34 : Cond.classLink RX5 34 RX2 ∈ TB := tb_of 201 (by rfl) (by rfl)
set_option maxRecDepth 20000 in
theorem w1_X2 : Cond.instantiable RX2 4 ∈ TB := tb_of 202 (by rfl) (by rfl)
set_option maxRecDepth 20000 in
theorem wm_X5_36 : Cond.methodLinkNest RX5 36 yX2_init "StrideBanks" ∈ NW := nw_of 203 (by rfl) (by rfl)
set_option maxRecDepth 20000 in
theorem wi_X2_init : Cond.instanceMethod yX2_init ∈ TB := tb_of 204 (by rfl) (by rfl)
set_option maxRecDepth 20000 in
theorem wc_X2_init : Cond.code yX2_init cX2_init 1 none ∈ TB := tb_of 205 (by rfl) (by rfl)
set_option maxRecDepth 20000 in
theorem wm_X2_3 : Cond.methodLink RX2 3 ⟨"java/lang/Object", "<init>", "()V"⟩ ∈ TB := tb_of 206 (by rfl) (by rfl)
set_option maxRecDepth 20000 in
theorem wf_X2_9 : Cond.fieldLink RX2 9 "StrideBanks$Pad" "text" "[C" ∈ TB := tb_of 207 (by rfl) (by rfl)
set_option maxRecDepth 20000 in
theorem wf_X2_19 : Cond.fieldLink RX2 19 "StrideBanks$Pad" "length" "I" ∈ TB := tb_of 208 (by rfl) (by rfl)
set_option maxRecDepth 20000 in
theorem wf_X5_81 : Cond.fieldLinkNest RX5 81 "StrideBanks$Pad" "length" "I" "StrideBanks" ∈ NW := nw_of 209 (by rfl) (by rfl)
set_option maxRecDepth 20000 in
theorem wf_X2_15 : Cond.fieldLink RX2 15 "StrideBanks$Pad" "numbers" "[I" ∈ TB := tb_of 210 (by rfl) (by rfl)
set_option maxRecDepth 20000 in
theorem wf_X2_25 : Cond.fieldLink RX2 25 "StrideBanks$Pad" "numbersFound" "I" ∈ TB := tb_of 211 (by rfl) (by rfl)
set_option maxRecDepth 20000 in
theorem wa_boolean : Cond.arrayClass .boolean ∈ TB := tb_of 221 (by rfl) (by rfl)
set_option maxRecDepth 20000 in
theorem wa_char : Cond.arrayClass .char ∈ TB := tb_of 222 (by rfl) (by rfl)
set_option maxRecDepth 20000 in
theorem wf_X5_10 : Cond.fieldLink RX5 10 "StrideBanks" "now" "LStrideBanks$Store;" ∈ TB := tb_of 223 (by rfl) (by rfl)
set_option maxRecDepth 20000 in
theorem wf_X5_16 : Cond.fieldLink RX5 16 "StrideBanks" "trial" "LStrideBanks$Store;" ∈ TB := tb_of 224 (by rfl) (by rfl)
set_option maxRecDepth 20000 in
theorem wf_X5_22 : Cond.fieldLink RX5 22 "StrideBanks" "history" "LStrideBanks$History;" ∈ TB := tb_of 225 (by rfl) (by rfl)
set_option maxRecDepth 20000 in
theorem wf_X5_26 : Cond.fieldLink RX5 26 "StrideBanks" "slots" "[LStrideBanks$Store;" ∈ TB := tb_of 226 (by rfl) (by rfl)
set_option maxRecDepth 20000 in
theorem wf_X5_30 : Cond.fieldLink RX5 30 "StrideBanks" "saved" "[Z" ∈ TB := tb_of 227 (by rfl) (by rfl)
set_option maxRecDepth 20000 in
theorem wf_X5_37 : Cond.fieldLink RX5 37 "StrideBanks" "pad" "LStrideBanks$Pad;" ∈ TB := tb_of 228 (by rfl) (by rfl)
set_option maxRecDepth 20000 in
theorem wm_L_13 : Cond.methodLink RL 13 yX5_set ∈ TB := tb_of 242 (by rfl) (by rfl)
set_option maxRecDepth 20000 in
theorem wi_X5_set : Cond.instanceMethod yX5_set ∈ TB := tb_of 243 (by rfl) (by rfl)
set_option maxRecDepth 20000 in
theorem ws_X5_set : Cond.selects RX5 yX5_set yX5_set ∈ TB := tb_of 244 (by rfl) (by rfl)
set_option maxRecDepth 20000 in
theorem wc_X5_set : Cond.code yX5_set cX5_set 4 (some .int) ∈ TB := tb_of 245 (by rfl) (by rfl)
set_option maxRecDepth 20000 in
theorem wm_X5_41 : Cond.methodLink RX5 41 yX5_isIn ∈ TB := tb_of 246 (by rfl) (by rfl)
set_option maxRecDepth 20000 in
theorem wt_X5_isIn : Cond.static yX5_isIn ∈ TB := tb_of 247 (by rfl) (by rfl)
set_option maxRecDepth 20000 in
theorem wc_X5_isIn : Cond.code yX5_isIn cX5_isIn 3 (some .boolean) ∈ TB := tb_of 248 (by rfl) (by rfl)
set_option maxRecDepth 20000 in
theorem wf_X5_45 : Cond.fieldLink RX5 45 "StrideBanks" "LEAST_SETTING" "[I" ∈ TB := tb_of 249 (by rfl) (by rfl)
set_option maxRecDepth 20000 in
theorem wl_LEAST_SETTING : Cond.laysStatic "StrideBanks" "LEAST_SETTING" "[I" ∈ lw_tbl := List.mem_of_getElem? (i := 250) (by rfl)
set_option maxRecDepth 20000 in
theorem wf_X5_49 : Cond.fieldLink RX5 49 "StrideBanks" "MOST_SETTING" "[I" ∈ TB := tb_of 251 (by rfl) (by rfl)
set_option maxRecDepth 20000 in
theorem wl_MOST_SETTING : Cond.laysStatic "StrideBanks" "MOST_SETTING" "[I" ∈ lw_tbl := List.mem_of_getElem? (i := 252) (by rfl)
set_option maxRecDepth 20000 in
theorem wm_X5_52 : Cond.methodLinkNest RX5 52 yX1_record "StrideBanks" ∈ NW := nw_of 253 (by rfl) (by rfl)
set_option maxRecDepth 20000 in
theorem wi_X1_record : Cond.instanceMethod yX1_record ∈ TB := tb_of 255 (by rfl) (by rfl)
set_option maxRecDepth 20000 in
theorem wc_X1_record : Cond.code yX1_record cX1_record 2 none ∈ TB := tb_of 256 (by rfl) (by rfl)
set_option maxRecDepth 20000 in
theorem wm_X1_22 : Cond.methodLink RX1 22 yX1_forgetOldest ∈ TB := tb_of 257 (by rfl) (by rfl)
set_option maxRecDepth 20000 in
theorem wi_X1_forgetOldest : Cond.instanceMethod yX1_forgetOldest ∈ TB := tb_of 259 (by rfl) (by rfl)
set_option maxRecDepth 20000 in
theorem wc_X1_forgetOldest : Cond.code yX1_forgetOldest cX1_forgetOldest 3 none ∈ TB := tb_of 260 (by rfl) (by rfl)
set_option maxRecDepth 20000 in
theorem wm_X1_25 : Cond.methodLinkNest RX1 25 yX3_copy "StrideBanks" ∈ NW := nw_of 261 (by rfl) (by rfl)
set_option maxRecDepth 20000 in
theorem wi_X3_copy : Cond.instanceMethod yX3_copy ∈ TB := tb_of 263 (by rfl) (by rfl)
set_option maxRecDepth 20000 in
theorem wc_X3_copy : Cond.code yX3_copy cX3_copy 3 none ∈ TB := tb_of 264 (by rfl) (by rfl)
set_option maxRecDepth 20000 in
theorem wm_X3_41 : Cond.methodLink RX3 41 yX3_copySettings ∈ TB := tb_of 265 (by rfl) (by rfl)
set_option maxRecDepth 20000 in
theorem wi_X3_copySettings : Cond.instanceMethod yX3_copySettings ∈ TB := tb_of 267 (by rfl) (by rfl)
set_option maxRecDepth 20000 in
theorem wc_X3_copySettings : Cond.code yX3_copySettings cX3_copySettings 2 none ∈ TB := tb_of 268 (by rfl) (by rfl)
set_option maxRecDepth 20000 in
theorem wm_X3_45 : Cond.methodLinkNest RX3 45 yX4_copy "StrideBanks" ∈ NW := nw_of 269 (by rfl) (by rfl)
set_option maxRecDepth 20000 in
theorem wi_X4_copy : Cond.instanceMethod yX4_copy ∈ TB := tb_of 271 (by rfl) (by rfl)
set_option maxRecDepth 20000 in
theorem wc_X4_copy : Cond.code yX4_copy cX4_copy 2 none ∈ TB := tb_of 272 (by rfl) (by rfl)
set_option maxRecDepth 20000 in
theorem wm_X3_49 : Cond.methodLinkNest RX3 49 yX0_copy "StrideBanks" ∈ NW := nw_of 273 (by rfl) (by rfl)
set_option maxRecDepth 20000 in
theorem wi_X0_copy : Cond.instanceMethod yX0_copy ∈ TB := tb_of 275 (by rfl) (by rfl)
set_option maxRecDepth 20000 in
theorem wc_X0_copy : Cond.code yX0_copy cX0_copy 2 none ∈ TB := tb_of 276 (by rfl) (by rfl)
set_option maxRecDepth 20000 in
theorem wm_X5_59 : Cond.methodLinkNest RX5 59 yX3_beginAnew "StrideBanks" ∈ NW := nw_of 277 (by rfl) (by rfl)
set_option maxRecDepth 20000 in
theorem wi_X3_beginAnew : Cond.instanceMethod yX3_beginAnew ∈ TB := tb_of 279 (by rfl) (by rfl)
set_option maxRecDepth 20000 in
theorem wc_X3_beginAnew : Cond.code yX3_beginAnew cX3_beginAnew 2 none ∈ TB := tb_of 280 (by rfl) (by rfl)
set_option maxRecDepth 20000 in
theorem wm_X3_59 : Cond.methodLink RX3 59 yX3_freeBanks ∈ TB := tb_of 281 (by rfl) (by rfl)
set_option maxRecDepth 20000 in
theorem wi_X3_freeBanks : Cond.instanceMethod yX3_freeBanks ∈ TB := tb_of 283 (by rfl) (by rfl)
set_option maxRecDepth 20000 in
theorem wc_X3_freeBanks : Cond.code yX3_freeBanks cX3_freeBanks 2 none ∈ TB := tb_of 284 (by rfl) (by rfl)
set_option maxRecDepth 20000 in
theorem wm_X3_62 : Cond.methodLinkNest RX3 62 yX4_beginAnew "StrideBanks" ∈ NW := nw_of 285 (by rfl) (by rfl)
set_option maxRecDepth 20000 in
theorem wi_X4_beginAnew : Cond.instanceMethod yX4_beginAnew ∈ TB := tb_of 287 (by rfl) (by rfl)
set_option maxRecDepth 20000 in
theorem wc_X4_beginAnew : Cond.code yX4_beginAnew cX4_beginAnew 1 none ∈ TB := tb_of 288 (by rfl) (by rfl)
set_option maxRecDepth 20000 in
theorem wm_L_18 : Cond.methodLink RL 18 yX5_add ∈ TB := tb_of 289 (by rfl) (by rfl)
set_option maxRecDepth 20000 in
theorem wi_X5_add : Cond.instanceMethod yX5_add ∈ TB := tb_of 290 (by rfl) (by rfl)
set_option maxRecDepth 20000 in
theorem ws_X5_add : Cond.selects RX5 yX5_add yX5_add ∈ TB := tb_of 291 (by rfl) (by rfl)
set_option maxRecDepth 20000 in
theorem wc_X5_add : Cond.code yX5_add cX5_add 4 (some .int) ∈ TB := tb_of 292 (by rfl) (by rfl)
set_option maxRecDepth 20000 in
theorem wm_X5_66 : Cond.methodLinkNest RX5 66 yX3_append "StrideBanks" ∈ NW := nw_of 293 (by rfl) (by rfl)
set_option maxRecDepth 20000 in
theorem wi_X3_append : Cond.instanceMethod yX3_append ∈ TB := tb_of 295 (by rfl) (by rfl)
set_option maxRecDepth 20000 in
theorem wc_X3_append : Cond.code yX3_append cX3_append 5 none ∈ TB := tb_of 296 (by rfl) (by rfl)
set_option maxRecDepth 20000 in
theorem wm_L_23 : Cond.methodLink RL 23 yX5_read ∈ TB := tb_of 297 (by rfl) (by rfl)
set_option maxRecDepth 20000 in
theorem wi_X5_read : Cond.instanceMethod yX5_read ∈ TB := tb_of 298 (by rfl) (by rfl)
set_option maxRecDepth 20000 in
theorem ws_X5_read : Cond.selects RX5 yX5_read yX5_read ∈ TB := tb_of 299 (by rfl) (by rfl)
set_option maxRecDepth 20000 in
theorem wc_X5_read : Cond.code yX5_read cX5_read 3 (some .int) ∈ TB := tb_of 300 (by rfl) (by rfl)
set_option maxRecDepth 20000 in
theorem wm_X5_70 : Cond.methodLinkNest RX5 70 yX2_firstFault "StrideBanks" ∈ NW := nw_of 301 (by rfl) (by rfl)
set_option maxRecDepth 20000 in
theorem wi_X2_firstFault : Cond.instanceMethod yX2_firstFault ∈ TB := tb_of 303 (by rfl) (by rfl)
set_option maxRecDepth 20000 in
theorem wc_X2_firstFault : Cond.code yX2_firstFault cX2_firstFault 4 (some .int) ∈ TB := tb_of 304 (by rfl) (by rfl)
set_option maxRecDepth 20000 in
theorem wm_X2_28 : Cond.methodLinkNest RX2 28 yX5_isIn "StrideBanks" ∈ NW := nw_of 305 (by rfl) (by rfl)
set_option maxRecDepth 20000 in
theorem wm_X2_32 : Cond.methodLink RX2 32 yX2_takesDigit ∈ TB := tb_of 306 (by rfl) (by rfl)
set_option maxRecDepth 20000 in
theorem wi_X2_takesDigit : Cond.instanceMethod yX2_takesDigit ∈ TB := tb_of 308 (by rfl) (by rfl)
set_option maxRecDepth 20000 in
theorem wc_X2_takesDigit : Cond.code yX2_takesDigit cX2_takesDigit 7 (some .boolean) ∈ TB := tb_of 309 (by rfl) (by rfl)
set_option maxRecDepth 20000 in
theorem wf_X2_38 : Cond.fieldLinkNest RX2 38 "StrideBanks" "LEAST_NUMBER" "[I" "StrideBanks" ∈ NW := nw_of 310 (by rfl) (by rfl)
set_option maxRecDepth 20000 in
theorem wl_LEAST_NUMBER : Cond.laysStatic "StrideBanks" "LEAST_NUMBER" "[I" ∈ lw_tbl := List.mem_of_getElem? (i := 311) (by rfl)
set_option maxRecDepth 20000 in
theorem wf_X2_41 : Cond.fieldLinkNest RX2 41 "StrideBanks" "MOST_NUMBER" "[I" "StrideBanks" ∈ NW := nw_of 312 (by rfl) (by rfl)
set_option maxRecDepth 20000 in
theorem wl_MOST_NUMBER : Cond.laysStatic "StrideBanks" "MOST_NUMBER" "[I" ∈ lw_tbl := List.mem_of_getElem? (i := 313) (by rfl)
set_option maxRecDepth 20000 in
theorem wf_X2_35 : Cond.fieldLinkNest RX2 35 "StrideBanks" "BEHIND_NUMBER" "[C" "StrideBanks" ∈ NW := nw_of 314 (by rfl) (by rfl)
set_option maxRecDepth 20000 in
theorem wl_BEHIND_NUMBER : Cond.laysStatic "StrideBanks" "BEHIND_NUMBER" "[C" ∈ lw_tbl := List.mem_of_getElem? (i := 315) (by rfl)
set_option maxRecDepth 20000 in
theorem wm_X5_74 : Cond.methodLinkNest RX5 74 yX2_streamsFound "StrideBanks" ∈ NW := nw_of 316 (by rfl) (by rfl)
set_option maxRecDepth 20000 in
theorem wi_X2_streamsFound : Cond.instanceMethod yX2_streamsFound ∈ TB := tb_of 318 (by rfl) (by rfl)
set_option maxRecDepth 20000 in
theorem wc_X2_streamsFound : Cond.code yX2_streamsFound cX2_streamsFound 1 (some .int) ∈ TB := tb_of 319 (by rfl) (by rfl)
set_option maxRecDepth 20000 in
theorem wm_X5_77 : Cond.methodLinkNest RX5 77 yX2_numberOf "StrideBanks" ∈ NW := nw_of 320 (by rfl) (by rfl)
set_option maxRecDepth 20000 in
theorem wi_X2_numberOf : Cond.instanceMethod yX2_numberOf ∈ TB := tb_of 322 (by rfl) (by rfl)
set_option maxRecDepth 20000 in
theorem wc_X2_numberOf : Cond.code yX2_numberOf cX2_numberOf 3 (some .int) ∈ TB := tb_of 323 (by rfl) (by rfl)
set_option maxRecDepth 20000 in
theorem wm_L_28 : Cond.methodLink RL 28 yX5_drop ∈ TB := tb_of 324 (by rfl) (by rfl)
set_option maxRecDepth 20000 in
theorem wi_X5_drop : Cond.instanceMethod yX5_drop ∈ TB := tb_of 325 (by rfl) (by rfl)
set_option maxRecDepth 20000 in
theorem ws_X5_drop : Cond.selects RX5 yX5_drop yX5_drop ∈ TB := tb_of 326 (by rfl) (by rfl)
set_option maxRecDepth 20000 in
theorem wc_X5_drop : Cond.code yX5_drop cX5_drop 3 (some .int) ∈ TB := tb_of 327 (by rfl) (by rfl)
set_option maxRecDepth 20000 in
theorem wm_X5_84 : Cond.methodLinkNest RX5 84 yX3_has "StrideBanks" ∈ NW := nw_of 328 (by rfl) (by rfl)
set_option maxRecDepth 20000 in
theorem wi_X3_has : Cond.instanceMethod yX3_has ∈ TB := tb_of 330 (by rfl) (by rfl)
set_option maxRecDepth 20000 in
theorem wc_X3_has : Cond.code yX3_has cX3_has 2 (some .boolean) ∈ TB := tb_of 331 (by rfl) (by rfl)
set_option maxRecDepth 20000 in
theorem wm_X5_97 : Cond.methodLinkNest RX5 97 yX3_remove "StrideBanks" ∈ NW := nw_of 332 (by rfl) (by rfl)
set_option maxRecDepth 20000 in
theorem wi_X3_remove : Cond.instanceMethod yX3_remove ∈ TB := tb_of 334 (by rfl) (by rfl)
set_option maxRecDepth 20000 in
theorem wc_X3_remove : Cond.code yX3_remove cX3_remove 4 none ∈ TB := tb_of 335 (by rfl) (by rfl)
set_option maxRecDepth 20000 in
theorem wm_L_33 : Cond.methodLink RL 33 yX5_stride ∈ TB := tb_of 336 (by rfl) (by rfl)
set_option maxRecDepth 20000 in
theorem wi_X5_stride : Cond.instanceMethod yX5_stride ∈ TB := tb_of 337 (by rfl) (by rfl)
set_option maxRecDepth 20000 in
theorem ws_X5_stride : Cond.selects RX5 yX5_stride yX5_stride ∈ TB := tb_of 338 (by rfl) (by rfl)
set_option maxRecDepth 20000 in
theorem wc_X5_stride : Cond.code yX5_stride cX5_stride 4 (some .int) ∈ TB := tb_of 339 (by rfl) (by rfl)
set_option maxRecDepth 20000 in
theorem wm_L_37 : Cond.methodLink RL 37 yX5_run ∈ TB := tb_of 340 (by rfl) (by rfl)
set_option maxRecDepth 20000 in
theorem wi_X5_run : Cond.instanceMethod yX5_run ∈ TB := tb_of 341 (by rfl) (by rfl)
set_option maxRecDepth 20000 in
theorem ws_X5_run : Cond.selects RX5 yX5_run yX5_run ∈ TB := tb_of 342 (by rfl) (by rfl)
set_option maxRecDepth 20000 in
theorem wc_X5_run : Cond.code yX5_run cX5_run 4 (some .int) ∈ TB := tb_of 343 (by rfl) (by rfl)
set_option maxRecDepth 20000 in
theorem wv_X5_107 : Cond.constant RX5 107 (99999) ∈ TB := tb_of 344 (by rfl) (by rfl)
set_option maxRecDepth 20000 in
theorem wm_X5_108 : Cond.methodLinkNest RX5 108 yX3_passCycle "StrideBanks" ∈ NW := nw_of 345 (by rfl) (by rfl)
set_option maxRecDepth 20000 in
theorem wi_X3_passCycle : Cond.instanceMethod yX3_passCycle ∈ TB := tb_of 347 (by rfl) (by rfl)
set_option maxRecDepth 20000 in
theorem wc_X3_passCycle : Cond.code yX3_passCycle cX3_passCycle 4 (some .int) ∈ TB := tb_of 348 (by rfl) (by rfl)
set_option maxRecDepth 20000 in
theorem wm_X3_86 : Cond.methodLink RX3 86 yX3_ask ∈ TB := tb_of 349 (by rfl) (by rfl)
set_option maxRecDepth 20000 in
theorem wi_X3_ask : Cond.instanceMethod yX3_ask ∈ TB := tb_of 351 (by rfl) (by rfl)
set_option maxRecDepth 20000 in
theorem wc_X3_ask : Cond.code yX3_ask cX3_ask 5 (some .int) ∈ TB := tb_of 352 (by rfl) (by rfl)
set_option maxRecDepth 20000 in
theorem wm_X3_93 : Cond.methodLinkNest RX3 93 yX4_nextAddress "StrideBanks" ∈ NW := nw_of 353 (by rfl) (by rfl)
set_option maxRecDepth 20000 in
theorem wi_X4_nextAddress : Cond.instanceMethod yX4_nextAddress ∈ TB := tb_of 355 (by rfl) (by rfl)
set_option maxRecDepth 20000 in
theorem wc_X4_nextAddress : Cond.code yX4_nextAddress cX4_nextAddress 1 (some .int) ∈ TB := tb_of 356 (by rfl) (by rfl)
set_option maxRecDepth 20000 in
theorem wm_X3_96 : Cond.methodLink RX3 96 yX3_bankAt ∈ TB := tb_of 357 (by rfl) (by rfl)
set_option maxRecDepth 20000 in
theorem wi_X3_bankAt : Cond.instanceMethod yX3_bankAt ∈ TB := tb_of 359 (by rfl) (by rfl)
set_option maxRecDepth 20000 in
theorem wc_X3_bankAt : Cond.code yX3_bankAt cX3_bankAt 4 (some .int) ∈ TB := tb_of 360 (by rfl) (by rfl)
set_option maxRecDepth 20000 in
theorem wm_X3_82 : Cond.methodLink RX3 82 yX3_greatestPrime ∈ TB := tb_of 361 (by rfl) (by rfl)
set_option maxRecDepth 20000 in
theorem wi_X3_greatestPrime : Cond.instanceMethod yX3_greatestPrime ∈ TB := tb_of 363 (by rfl) (by rfl)
set_option maxRecDepth 20000 in
theorem wc_X3_greatestPrime : Cond.code yX3_greatestPrime cX3_greatestPrime 1 (some .int) ∈ TB := tb_of 364 (by rfl) (by rfl)
set_option maxRecDepth 20000 in
theorem wf_X3_79 : Cond.fieldLinkNest RX3 79 "StrideBanks" "GREATEST_PRIME_TO" "[I" "StrideBanks" ∈ NW := nw_of 365 (by rfl) (by rfl)
set_option maxRecDepth 20000 in
theorem wl_GREATEST_PRIME_TO : Cond.laysStatic "StrideBanks" "GREATEST_PRIME_TO" "[I" ∈ lw_tbl := List.mem_of_getElem? (i := 366) (by rfl)
set_option maxRecDepth 20000 in
theorem wm_X3_112 : Cond.methodLinkNest RX3 112 yX4_finishRequest "StrideBanks" ∈ NW := nw_of 367 (by rfl) (by rfl)
set_option maxRecDepth 20000 in
theorem wi_X4_finishRequest : Cond.instanceMethod yX4_finishRequest ∈ TB := tb_of 369 (by rfl) (by rfl)
set_option maxRecDepth 20000 in
theorem wc_X4_finishRequest : Cond.code yX4_finishRequest cX4_finishRequest 3 none ∈ TB := tb_of 370 (by rfl) (by rfl)
set_option maxRecDepth 20000 in
theorem wm_L_41 : Cond.methodLink RL 41 yX5_reset ∈ TB := tb_of 371 (by rfl) (by rfl)
set_option maxRecDepth 20000 in
theorem wi_X5_reset : Cond.instanceMethod yX5_reset ∈ TB := tb_of 372 (by rfl) (by rfl)
set_option maxRecDepth 20000 in
theorem ws_X5_reset : Cond.selects RX5 yX5_reset yX5_reset ∈ TB := tb_of 373 (by rfl) (by rfl)
set_option maxRecDepth 20000 in
theorem wc_X5_reset : Cond.code yX5_reset cX5_reset 1 (some .int) ∈ TB := tb_of 374 (by rfl) (by rfl)
set_option maxRecDepth 20000 in
theorem wm_X5_111 : Cond.methodLinkNest RX5 111 yX3_total "StrideBanks" ∈ NW := nw_of 375 (by rfl) (by rfl)
set_option maxRecDepth 20000 in
theorem wi_X3_total : Cond.instanceMethod yX3_total ∈ TB := tb_of 377 (by rfl) (by rfl)
set_option maxRecDepth 20000 in
theorem wc_X3_total : Cond.code yX3_total cX3_total 4 (some .int) ∈ TB := tb_of 378 (by rfl) (by rfl)
set_option maxRecDepth 20000 in
theorem wm_X3_134 : Cond.methodLinkNest RX3 134 yX4_tell "StrideBanks" ∈ NW := nw_of 379 (by rfl) (by rfl)
set_option maxRecDepth 20000 in
theorem wi_X4_tell : Cond.instanceMethod yX4_tell ∈ TB := tb_of 381 (by rfl) (by rfl)
set_option maxRecDepth 20000 in
theorem wc_X4_tell : Cond.code yX4_tell cX4_tell 2 (some .int) ∈ TB := tb_of 382 (by rfl) (by rfl)
set_option maxRecDepth 20000 in
theorem wm_X4_36 : Cond.methodLink RX4 36 yX4_nextAddress ∈ TB := tb_of 383 (by rfl) (by rfl)
set_option maxRecDepth 20000 in
theorem wm_L_45 : Cond.methodLink RL 45 yX5_bankOf ∈ TB := tb_of 384 (by rfl) (by rfl)
set_option maxRecDepth 20000 in
theorem wi_X5_bankOf : Cond.instanceMethod yX5_bankOf ∈ TB := tb_of 385 (by rfl) (by rfl)
set_option maxRecDepth 20000 in
theorem ws_X5_bankOf : Cond.selects RX5 yX5_bankOf yX5_bankOf ∈ TB := tb_of 386 (by rfl) (by rfl)
set_option maxRecDepth 20000 in
theorem wc_X5_bankOf : Cond.code yX5_bankOf cX5_bankOf 2 (some .int) ∈ TB := tb_of 387 (by rfl) (by rfl)
set_option maxRecDepth 20000 in
theorem wm_X5_115 : Cond.methodLinkNest RX5 115 yX3_bankAt "StrideBanks" ∈ NW := nw_of 388 (by rfl) (by rfl)
set_option maxRecDepth 20000 in
theorem wm_L_49 : Cond.methodLink RL 49 yX5_stream ∈ TB := tb_of 389 (by rfl) (by rfl)
set_option maxRecDepth 20000 in
theorem wi_X5_stream : Cond.instanceMethod yX5_stream ∈ TB := tb_of 390 (by rfl) (by rfl)
set_option maxRecDepth 20000 in
theorem ws_X5_stream : Cond.selects RX5 yX5_stream yX5_stream ∈ TB := tb_of 391 (by rfl) (by rfl)
set_option maxRecDepth 20000 in
theorem wc_X5_stream : Cond.code yX5_stream cX5_stream 4 (some .int) ∈ TB := tb_of 392 (by rfl) (by rfl)
set_option maxRecDepth 20000 in
theorem wm_X5_118 : Cond.methodLinkNest RX5 118 yX3_banksMet "StrideBanks" ∈ NW := nw_of 393 (by rfl) (by rfl)
set_option maxRecDepth 20000 in
theorem wi_X3_banksMet : Cond.instanceMethod yX3_banksMet ∈ TB := tb_of 395 (by rfl) (by rfl)
set_option maxRecDepth 20000 in
theorem wc_X3_banksMet : Cond.code yX3_banksMet cX3_banksMet 5 (some .int) ∈ TB := tb_of 396 (by rfl) (by rfl)
set_option maxRecDepth 20000 in
theorem wm_X3_129 : Cond.methodLink RX3 129 yJ6_bitCount_0f7a4 ∈ TB := tb_of 397 (by rfl) (by rfl)
set_option maxRecDepth 20000 in
theorem wt_J6_bitCount_0f7a4 : Cond.static yJ6_bitCount_0f7a4 ∈ TB := tb_of 398 (by rfl) (by rfl)
set_option maxRecDepth 20000 in
theorem wc_J6_bitCount_0f7a4 : Cond.code yJ6_bitCount_0f7a4 cJ6_bitCount_0f7a4 1 (some .int) ∈ TB := tb_of 399 (by rfl) (by rfl)
set_option maxRecDepth 20000 in
theorem wv_J6_265 : Cond.constant RJ6 265 (1431655765) ∈ TB := tb_of 400 (by rfl) (by rfl)
set_option maxRecDepth 20000 in
theorem wv_J6_266 : Cond.constant RJ6 266 (858993459) ∈ TB := tb_of 401 (by rfl) (by rfl)
set_option maxRecDepth 20000 in
theorem wv_J6_267 : Cond.constant RJ6 267 (252645135) ∈ TB := tb_of 402 (by rfl) (by rfl)
set_option maxRecDepth 20000 in
theorem wm_X5_122 : Cond.methodLinkNest RX5 122 yX4_tell "StrideBanks" ∈ NW := nw_of 403 (by rfl) (by rfl)
set_option maxRecDepth 20000 in
theorem wm_L_53 : Cond.methodLink RL 53 yX5_bank ∈ TB := tb_of 404 (by rfl) (by rfl)
set_option maxRecDepth 20000 in
theorem wi_X5_bank : Cond.instanceMethod yX5_bank ∈ TB := tb_of 405 (by rfl) (by rfl)
set_option maxRecDepth 20000 in
theorem ws_X5_bank : Cond.selects RX5 yX5_bank yX5_bank ∈ TB := tb_of 406 (by rfl) (by rfl)
set_option maxRecDepth 20000 in
theorem wc_X5_bank : Cond.code yX5_bank cX5_bank 4 (some .int) ∈ TB := tb_of 407 (by rfl) (by rfl)
set_option maxRecDepth 20000 in
theorem wm_X5_134 : Cond.methodLink RX5 134 yJ9_max_7cf53 ∈ TB := tb_of 408 (by rfl) (by rfl)
set_option maxRecDepth 20000 in
theorem wt_J9_max_7cf53 : Cond.static yJ9_max_7cf53 ∈ TB := tb_of 409 (by rfl) (by rfl)
set_option maxRecDepth 20000 in
theorem wc_J9_max_7cf53 : Cond.code yJ9_max_7cf53 cJ9_max_7cf53 2 (some .int) ∈ TB := tb_of 410 (by rfl) (by rfl)
set_option maxRecDepth 20000 in
theorem wm_X5_145 : Cond.methodLinkNest RX5 145 yX3_wordsLeftIn "StrideBanks" ∈ NW := nw_of 411 (by rfl) (by rfl)
set_option maxRecDepth 20000 in
theorem wi_X3_wordsLeftIn : Cond.instanceMethod yX3_wordsLeftIn ∈ TB := tb_of 413 (by rfl) (by rfl)
set_option maxRecDepth 20000 in
theorem wc_X3_wordsLeftIn : Cond.code yX3_wordsLeftIn cX3_wordsLeftIn 7 (some .int) ∈ TB := tb_of 414 (by rfl) (by rfl)
set_option maxRecDepth 20000 in
theorem wm_L_57 : Cond.methodLink RL 57 yX5_count ∈ TB := tb_of 415 (by rfl) (by rfl)
set_option maxRecDepth 20000 in
theorem wi_X5_count : Cond.instanceMethod yX5_count ∈ TB := tb_of 416 (by rfl) (by rfl)
set_option maxRecDepth 20000 in
theorem ws_X5_count : Cond.selects RX5 yX5_count yX5_count ∈ TB := tb_of 417 (by rfl) (by rfl)
set_option maxRecDepth 20000 in
theorem wc_X5_count : Cond.code yX5_count cX5_count 2 (some .int) ∈ TB := tb_of 418 (by rfl) (by rfl)
set_option maxRecDepth 20000 in
theorem wm_X5_148 : Cond.methodLinkNest RX5 148 yX3_busyBanks "StrideBanks" ∈ NW := nw_of 419 (by rfl) (by rfl)
set_option maxRecDepth 20000 in
theorem wi_X3_busyBanks : Cond.instanceMethod yX3_busyBanks ∈ TB := tb_of 421 (by rfl) (by rfl)
set_option maxRecDepth 20000 in
theorem wc_X3_busyBanks : Cond.code yX3_busyBanks cX3_busyBanks 3 (some .int) ∈ TB := tb_of 422 (by rfl) (by rfl)
set_option maxRecDepth 20000 in
theorem wm_X5_151 : Cond.methodLinkNest RX5 151 yX3_greatestPrime "StrideBanks" ∈ NW := nw_of 423 (by rfl) (by rfl)
set_option maxRecDepth 20000 in
theorem wm_L_61 : Cond.methodLink RL 61 yX5_untilDone ∈ TB := tb_of 424 (by rfl) (by rfl)
set_option maxRecDepth 20000 in
theorem wi_X5_untilDone : Cond.instanceMethod yX5_untilDone ∈ TB := tb_of 425 (by rfl) (by rfl)
set_option maxRecDepth 20000 in
theorem ws_X5_untilDone : Cond.selects RX5 yX5_untilDone yX5_untilDone ∈ TB := tb_of 426 (by rfl) (by rfl)
set_option maxRecDepth 20000 in
theorem wc_X5_untilDone : Cond.code yX5_untilDone cX5_untilDone 1 (some .int) ∈ TB := tb_of 427 (by rfl) (by rfl)
set_option maxRecDepth 20000 in
theorem wm_X5_157 : Cond.methodLinkNest RX5 157 yX3_copy "StrideBanks" ∈ NW := nw_of 428 (by rfl) (by rfl)
set_option maxRecDepth 20000 in
theorem wm_X5_160 : Cond.methodLinkNest RX5 160 yX3_passAll "StrideBanks" ∈ NW := nw_of 429 (by rfl) (by rfl)
set_option maxRecDepth 20000 in
theorem wi_X3_passAll : Cond.instanceMethod yX3_passAll ∈ TB := tb_of 431 (by rfl) (by rfl)
set_option maxRecDepth 20000 in
theorem wc_X3_passAll : Cond.code yX3_passAll cX3_passAll 3 (some .int) ∈ TB := tb_of 432 (by rfl) (by rfl)
set_option maxRecDepth 20000 in
theorem wm_X3_116 : Cond.methodLink RX3 116 yX3_total ∈ TB := tb_of 433 (by rfl) (by rfl)
set_option maxRecDepth 20000 in
theorem wv_X3_119 : Cond.constant RX3 119 (1000000) ∈ TB := tb_of 434 (by rfl) (by rfl)
set_option maxRecDepth 20000 in
theorem wm_X3_120 : Cond.methodLink RX3 120 yX3_passCycle ∈ TB := tb_of 435 (by rfl) (by rfl)
set_option maxRecDepth 20000 in
theorem wm_L_65 : Cond.methodLink RL 65 yX5_alone ∈ TB := tb_of 436 (by rfl) (by rfl)
set_option maxRecDepth 20000 in
theorem wi_X5_alone : Cond.instanceMethod yX5_alone ∈ TB := tb_of 437 (by rfl) (by rfl)
set_option maxRecDepth 20000 in
theorem ws_X5_alone : Cond.selects RX5 yX5_alone yX5_alone ∈ TB := tb_of 438 (by rfl) (by rfl)
set_option maxRecDepth 20000 in
theorem wc_X5_alone : Cond.code yX5_alone cX5_alone 3 (some .int) ∈ TB := tb_of 439 (by rfl) (by rfl)
set_option maxRecDepth 20000 in
theorem wm_X5_163 : Cond.methodLink RX5 163 yX5_cyclesAlone ∈ TB := tb_of 440 (by rfl) (by rfl)
set_option maxRecDepth 20000 in
theorem wi_X5_cyclesAlone : Cond.instanceMethod yX5_cyclesAlone ∈ TB := tb_of 442 (by rfl) (by rfl)
set_option maxRecDepth 20000 in
theorem wc_X5_cyclesAlone : Cond.code yX5_cyclesAlone cX5_cyclesAlone 3 (some .int) ∈ TB := tb_of 443 (by rfl) (by rfl)
set_option maxRecDepth 20000 in
theorem wm_X5_172 : Cond.methodLinkNest RX5 172 yX3_copySettings "StrideBanks" ∈ NW := nw_of 444 (by rfl) (by rfl)
set_option maxRecDepth 20000 in
theorem wm_X5_189 : Cond.methodLinkNest RX5 189 yX3_freeBanks "StrideBanks" ∈ NW := nw_of 445 (by rfl) (by rfl)
set_option maxRecDepth 20000 in
theorem wm_X5_192 : Cond.methodLinkNest RX5 192 yX3_lonelyCycles "StrideBanks" ∈ NW := nw_of 446 (by rfl) (by rfl)
set_option maxRecDepth 20000 in
theorem wi_X3_lonelyCycles : Cond.instanceMethod yX3_lonelyCycles ∈ TB := tb_of 448 (by rfl) (by rfl)
set_option maxRecDepth 20000 in
theorem wc_X3_lonelyCycles : Cond.code yX3_lonelyCycles cX3_lonelyCycles 8 (some .int) ∈ TB := tb_of 449 (by rfl) (by rfl)
set_option maxRecDepth 20000 in
theorem wm_X3_123 : Cond.methodLink RX3 123 yJ9_max_7cf53 ∈ TB := tb_of 450 (by rfl) (by rfl)
set_option maxRecDepth 20000 in
theorem wm_L_69 : Cond.methodLink RL 69 yX5_bestStride ∈ TB := tb_of 451 (by rfl) (by rfl)
set_option maxRecDepth 20000 in
theorem wi_X5_bestStride : Cond.instanceMethod yX5_bestStride ∈ TB := tb_of 452 (by rfl) (by rfl)
set_option maxRecDepth 20000 in
theorem ws_X5_bestStride : Cond.selects RX5 yX5_bestStride yX5_bestStride ∈ TB := tb_of 453 (by rfl) (by rfl)
set_option maxRecDepth 20000 in
theorem wc_X5_bestStride : Cond.code yX5_bestStride cX5_bestStride 8 (some .int) ∈ TB := tb_of 454 (by rfl) (by rfl)
set_option maxRecDepth 20000 in
theorem wm_X5_166 : Cond.methodLink RX5 166 yJ9_min_7cf53 ∈ TB := tb_of 455 (by rfl) (by rfl)
set_option maxRecDepth 20000 in
theorem wt_J9_min_7cf53 : Cond.static yJ9_min_7cf53 ∈ TB := tb_of 456 (by rfl) (by rfl)
set_option maxRecDepth 20000 in
theorem wc_J9_min_7cf53 : Cond.code yJ9_min_7cf53 cJ9_min_7cf53 2 (some .int) ∈ TB := tb_of 457 (by rfl) (by rfl)
set_option maxRecDepth 20000 in
theorem wm_L_73 : Cond.methodLink RL 73 yX5_bestMap ∈ TB := tb_of 458 (by rfl) (by rfl)
set_option maxRecDepth 20000 in
theorem wi_X5_bestMap : Cond.instanceMethod yX5_bestMap ∈ TB := tb_of 459 (by rfl) (by rfl)
set_option maxRecDepth 20000 in
theorem ws_X5_bestMap : Cond.selects RX5 yX5_bestMap yX5_bestMap ∈ TB := tb_of 460 (by rfl) (by rfl)
set_option maxRecDepth 20000 in
theorem wc_X5_bestMap : Cond.code yX5_bestMap cX5_bestMap 6 (some .int) ∈ TB := tb_of 461 (by rfl) (by rfl)
set_option maxRecDepth 20000 in
theorem wm_X5_169 : Cond.methodLink RX5 169 yX5_cyclesByMap ∈ TB := tb_of 462 (by rfl) (by rfl)
set_option maxRecDepth 20000 in
theorem wi_X5_cyclesByMap : Cond.instanceMethod yX5_cyclesByMap ∈ TB := tb_of 464 (by rfl) (by rfl)
set_option maxRecDepth 20000 in
theorem wc_X5_cyclesByMap : Cond.code yX5_cyclesByMap cX5_cyclesByMap 2 (some .int) ∈ TB := tb_of 465 (by rfl) (by rfl)
set_option maxRecDepth 20000 in
theorem wm_L_77 : Cond.methodLink RL 77 yX5_clashes ∈ TB := tb_of 466 (by rfl) (by rfl)
set_option maxRecDepth 20000 in
theorem wi_X5_clashes : Cond.instanceMethod yX5_clashes ∈ TB := tb_of 467 (by rfl) (by rfl)
set_option maxRecDepth 20000 in
theorem ws_X5_clashes : Cond.selects RX5 yX5_clashes yX5_clashes ∈ TB := tb_of 468 (by rfl) (by rfl)
set_option maxRecDepth 20000 in
theorem wc_X5_clashes : Cond.code yX5_clashes cX5_clashes 3 (some .int) ∈ TB := tb_of 469 (by rfl) (by rfl)
set_option maxRecDepth 20000 in
theorem wm_X5_175 : Cond.methodLinkNest RX5 175 yX3_appendLike "StrideBanks" ∈ NW := nw_of 470 (by rfl) (by rfl)
set_option maxRecDepth 20000 in
theorem wi_X3_appendLike : Cond.instanceMethod yX3_appendLike ∈ TB := tb_of 472 (by rfl) (by rfl)
set_option maxRecDepth 20000 in
theorem wc_X3_appendLike : Cond.code yX3_appendLike cX3_appendLike 2 none ∈ TB := tb_of 473 (by rfl) (by rfl)
set_option maxRecDepth 20000 in
theorem wm_X3_72 : Cond.methodLink RX3 72 yX3_append ∈ TB := tb_of 474 (by rfl) (by rfl)
set_option maxRecDepth 20000 in
theorem wm_L_83 : Cond.methodLink RL 83 yX5_put ∈ TB := tb_of 475 (by rfl) (by rfl)
set_option maxRecDepth 20000 in
theorem wi_X5_put : Cond.instanceMethod yX5_put ∈ TB := tb_of 476 (by rfl) (by rfl)
set_option maxRecDepth 20000 in
theorem ws_X5_put : Cond.selects RX5 yX5_put yX5_put ∈ TB := tb_of 477 (by rfl) (by rfl)
set_option maxRecDepth 20000 in
theorem wc_X5_put : Cond.code yX5_put cX5_put 4 (some .int) ∈ TB := tb_of 478 (by rfl) (by rfl)
set_option maxRecDepth 20000 in
theorem wm_X5_179 : Cond.methodLink RX5 179 yX5_charactersIn ∈ TB := tb_of 479 (by rfl) (by rfl)
set_option maxRecDepth 20000 in
theorem wt_X5_charactersIn : Cond.static yX5_charactersIn ∈ TB := tb_of 480 (by rfl) (by rfl)
set_option maxRecDepth 20000 in
theorem wc_X5_charactersIn : Cond.code yX5_charactersIn cX5_charactersIn 6 (some .int) ∈ TB := tb_of 481 (by rfl) (by rfl)
set_option maxRecDepth 20000 in
theorem wv_X5_196 : Cond.constantLong RX5 196 (255) ∈ TB := tb_of 482 (by rfl) (by rfl)
set_option maxRecDepth 20000 in
theorem wm_X5_183 : Cond.methodLinkNest RX5 183 yX2_append "StrideBanks" ∈ NW := nw_of 483 (by rfl) (by rfl)
set_option maxRecDepth 20000 in
theorem wi_X2_append : Cond.instanceMethod yX2_append ∈ TB := tb_of 485 (by rfl) (by rfl)
set_option maxRecDepth 20000 in
theorem wc_X2_append : Cond.code yX2_append cX2_append 5 none ∈ TB := tb_of 486 (by rfl) (by rfl)
set_option maxRecDepth 20000 in
theorem wv_X2_23 : Cond.constantLong RX2 23 (255) ∈ TB := tb_of 487 (by rfl) (by rfl)
set_option maxRecDepth 20000 in
theorem wm_L_88 : Cond.methodLink RL 88 yX5_wipe ∈ TB := tb_of 488 (by rfl) (by rfl)
set_option maxRecDepth 20000 in
theorem wi_X5_wipe : Cond.instanceMethod yX5_wipe ∈ TB := tb_of 489 (by rfl) (by rfl)
set_option maxRecDepth 20000 in
theorem ws_X5_wipe : Cond.selects RX5 yX5_wipe yX5_wipe ∈ TB := tb_of 490 (by rfl) (by rfl)
set_option maxRecDepth 20000 in
theorem wc_X5_wipe : Cond.code yX5_wipe cX5_wipe 2 (some .int) ∈ TB := tb_of 491 (by rfl) (by rfl)
set_option maxRecDepth 20000 in
theorem wm_L_92 : Cond.methodLink RL 92 yX5_fault ∈ TB := tb_of 492 (by rfl) (by rfl)
set_option maxRecDepth 20000 in
theorem wi_X5_fault : Cond.instanceMethod yX5_fault ∈ TB := tb_of 493 (by rfl) (by rfl)
set_option maxRecDepth 20000 in
theorem ws_X5_fault : Cond.selects RX5 yX5_fault yX5_fault ∈ TB := tb_of 494 (by rfl) (by rfl)
set_option maxRecDepth 20000 in
theorem wc_X5_fault : Cond.code yX5_fault cX5_fault 1 (some .int) ∈ TB := tb_of 495 (by rfl) (by rfl)
set_option maxRecDepth 20000 in
theorem wm_L_96 : Cond.methodLink RL 96 yX5_undo ∈ TB := tb_of 496 (by rfl) (by rfl)
set_option maxRecDepth 20000 in
theorem wi_X5_undo : Cond.instanceMethod yX5_undo ∈ TB := tb_of 497 (by rfl) (by rfl)
set_option maxRecDepth 20000 in
theorem ws_X5_undo : Cond.selects RX5 yX5_undo yX5_undo ∈ TB := tb_of 498 (by rfl) (by rfl)
set_option maxRecDepth 20000 in
theorem wc_X5_undo : Cond.code yX5_undo cX5_undo 1 (some .int) ∈ TB := tb_of 499 (by rfl) (by rfl)
set_option maxRecDepth 20000 in
theorem wm_X5_186 : Cond.methodLinkNest RX5 186 yX1_takeBack "StrideBanks" ∈ NW := nw_of 500 (by rfl) (by rfl)
set_option maxRecDepth 20000 in
theorem wi_X1_takeBack : Cond.instanceMethod yX1_takeBack ∈ TB := tb_of 502 (by rfl) (by rfl)
set_option maxRecDepth 20000 in
theorem wc_X1_takeBack : Cond.code yX1_takeBack cX1_takeBack 2 none ∈ TB := tb_of 503 (by rfl) (by rfl)
set_option maxRecDepth 20000 in
theorem wm_L_100 : Cond.methodLink RL 100 yX5_save ∈ TB := tb_of 504 (by rfl) (by rfl)
set_option maxRecDepth 20000 in
theorem wi_X5_save : Cond.instanceMethod yX5_save ∈ TB := tb_of 505 (by rfl) (by rfl)
set_option maxRecDepth 20000 in
theorem ws_X5_save : Cond.selects RX5 yX5_save yX5_save ∈ TB := tb_of 506 (by rfl) (by rfl)
set_option maxRecDepth 20000 in
theorem wc_X5_save : Cond.code yX5_save cX5_save 2 (some .int) ∈ TB := tb_of 507 (by rfl) (by rfl)
set_option maxRecDepth 20000 in
theorem wm_L_104 : Cond.methodLink RL 104 yX5_restore ∈ TB := tb_of 508 (by rfl) (by rfl)
set_option maxRecDepth 20000 in
theorem wi_X5_restore : Cond.instanceMethod yX5_restore ∈ TB := tb_of 509 (by rfl) (by rfl)
set_option maxRecDepth 20000 in
theorem ws_X5_restore : Cond.selects RX5 yX5_restore yX5_restore ∈ TB := tb_of 510 (by rfl) (by rfl)
set_option maxRecDepth 20000 in
theorem wc_X5_restore : Cond.code yX5_restore cX5_restore 2 (some .int) ∈ TB := tb_of 511 (by rfl) (by rfl)
set_option maxRecDepth 20000 in
theorem wk_L_10 : Cond.classLink RL 10 RX6 ∈ TB := tb_of 512 (by rfl) (by rfl)
set_option maxRecDepth 20000 in
theorem w1_X6 : Cond.instantiable RX6 12 ∈ TB := tb_of 513 (by rfl) (by rfl)
set_option maxRecDepth 20000 in
theorem wm_L_12 : Cond.methodLink RL 12 yX6_init ∈ TB := tb_of 514 (by rfl) (by rfl)
set_option maxRecDepth 20000 in
theorem wi_X6_init : Cond.instanceMethod yX6_init ∈ TB := tb_of 515 (by rfl) (by rfl)
set_option maxRecDepth 20000 in
theorem wc_X6_init : Cond.code yX6_init cX6_init 1 none ∈ TB := tb_of 516 (by rfl) (by rfl)
set_option maxRecDepth 20000 in
theorem wm_X6_1 : Cond.methodLink RX6 1 ⟨"java/lang/Object", "<init>", "()V"⟩ ∈ TB := tb_of 517 (by rfl) (by rfl)
set_option maxRecDepth 20000 in
theorem wf_X6_7 : Cond.fieldLink RX6 7 "StrideBanksModel" "s" "[I" ∈ TB := tb_of 518 (by rfl) (by rfl)
set_option maxRecDepth 20000 in
theorem wf_X6_13 : Cond.fieldLink RX6 13 "StrideBanksModel" "spare" "[I" ∈ TB := tb_of 519 (by rfl) (by rfl)
set_option maxRecDepth 20000 in
theorem wf_X6_16 : Cond.fieldLink RX6 16 "StrideBanksModel" "trial" "[I" ∈ TB := tb_of 520 (by rfl) (by rfl)
set_option maxRecDepth 20000 in
theorem wf_X6_19 : Cond.fieldLink RX6 19 "StrideBanksModel" "before" "[I" ∈ TB := tb_of 521 (by rfl) (by rfl)
set_option maxRecDepth 20000 in
theorem wf_X6_22 : Cond.fieldLink RX6 22 "StrideBanksModel" "saved" "[I" ∈ TB := tb_of 522 (by rfl) (by rfl)
set_option maxRecDepth 20000 in
theorem wf_X6_25 : Cond.fieldLink RX6 25 "StrideBanksModel" "isSaved" "[Z" ∈ TB := tb_of 523 (by rfl) (by rfl)
set_option maxRecDepth 20000 in
theorem wf_X6_29 : Cond.fieldLink RX6 29 "StrideBanksModel" "read" "[I" ∈ TB := tb_of 524 (by rfl) (by rfl)
set_option maxRecDepth 20000 in
theorem wf_X6_32 : Cond.fieldLink RX6 32 "StrideBanksModel" "pad" "[C" ∈ TB := tb_of 525 (by rfl) (by rfl)
set_option maxRecDepth 20000 in
theorem wf_X6_99 : Cond.fieldLink RX6 99 "StrideBanksModel" "length" "I" ∈ TB := tb_of 526 (by rfl) (by rfl)
set_option maxRecDepth 20000 in
theorem wf_X6_40 : Cond.fieldLink RX6 40 "StrideBanksModel" "states" "I" ∈ TB := tb_of 527 (by rfl) (by rfl)
set_option maxRecDepth 20000 in
theorem wf_X6_106 : Cond.fieldLink RX6 106 "StrideBanksModel" "told" "I" ∈ TB := tb_of 528 (by rfl) (by rfl)
set_option maxRecDepth 20000 in
theorem wf_X6_96 : Cond.fieldLink RX6 96 "StrideBanksModel" "at" "I" ∈ TB := tb_of 529 (by rfl) (by rfl)
set_option maxRecDepth 20000 in
theorem wm_L_17 : Cond.methodLink RL 17 yX6_set ∈ TB := tb_of 555 (by rfl) (by rfl)
set_option maxRecDepth 20000 in
theorem wi_X6_set : Cond.instanceMethod yX6_set ∈ TB := tb_of 556 (by rfl) (by rfl)
set_option maxRecDepth 20000 in
theorem ws_X6_set : Cond.selects RX6 yX6_set yX6_set ∈ TB := tb_of 557 (by rfl) (by rfl)
set_option maxRecDepth 20000 in
theorem wc_X6_set : Cond.code yX6_set cX6_set 4 (some .int) ∈ TB := tb_of 558 (by rfl) (by rfl)
set_option maxRecDepth 20000 in
theorem wm_X6_75 : Cond.methodLink RX6 75 yX6_isSetting ∈ TB := tb_of 559 (by rfl) (by rfl)
set_option maxRecDepth 20000 in
theorem wt_X6_isSetting : Cond.static yX6_isSetting ∈ TB := tb_of 560 (by rfl) (by rfl)
set_option maxRecDepth 20000 in
theorem wc_X6_isSetting : Cond.code yX6_isSetting cX6_isSetting 2 (some .boolean) ∈ TB := tb_of 561 (by rfl) (by rfl)
set_option maxRecDepth 20000 in
theorem wm_X6_36 : Cond.methodLink RX6 36 yX6_in ∈ TB := tb_of 562 (by rfl) (by rfl)
set_option maxRecDepth 20000 in
theorem wt_X6_in : Cond.static yX6_in ∈ TB := tb_of 563 (by rfl) (by rfl)
set_option maxRecDepth 20000 in
theorem wc_X6_in : Cond.code yX6_in cX6_in 3 (some .boolean) ∈ TB := tb_of 564 (by rfl) (by rfl)
set_option maxRecDepth 20000 in
theorem wm_X6_79 : Cond.methodLink RX6 79 yX6_hold ∈ TB := tb_of 565 (by rfl) (by rfl)
set_option maxRecDepth 20000 in
theorem wi_X6_hold : Cond.instanceMethod yX6_hold ∈ TB := tb_of 567 (by rfl) (by rfl)
set_option maxRecDepth 20000 in
theorem wc_X6_hold : Cond.code yX6_hold cX6_hold 2 none ∈ TB := tb_of 568 (by rfl) (by rfl)
set_option maxRecDepth 20000 in
theorem wm_X6_82 : Cond.methodLink RX6 82 yX6_beginsAnew ∈ TB := tb_of 569 (by rfl) (by rfl)
set_option maxRecDepth 20000 in
theorem wi_X6_beginsAnew : Cond.instanceMethod yX6_beginsAnew ∈ TB := tb_of 571 (by rfl) (by rfl)
set_option maxRecDepth 20000 in
theorem wc_X6_beginsAnew : Cond.code yX6_beginsAnew cX6_beginsAnew 2 none ∈ TB := tb_of 572 (by rfl) (by rfl)
set_option maxRecDepth 20000 in
theorem wm_X6_65 : Cond.methodLink RX6 65 yX6_begins ∈ TB := tb_of 573 (by rfl) (by rfl)
set_option maxRecDepth 20000 in
theorem wi_X6_begins : Cond.instanceMethod yX6_begins ∈ TB := tb_of 575 (by rfl) (by rfl)
set_option maxRecDepth 20000 in
theorem wc_X6_begins : Cond.code yX6_begins cX6_begins 3 none ∈ TB := tb_of 576 (by rfl) (by rfl)
set_option maxRecDepth 20000 in
theorem wm_X6_52 : Cond.methodLink RX6 52 yX6_m ∈ TB := tb_of 577 (by rfl) (by rfl)
set_option maxRecDepth 20000 in
theorem wt_X6_m : Cond.static yX6_m ∈ TB := tb_of 578 (by rfl) (by rfl)
set_option maxRecDepth 20000 in
theorem wc_X6_m : Cond.code yX6_m cX6_m 1 (some .int) ∈ TB := tb_of 579 (by rfl) (by rfl)
set_option maxRecDepth 20000 in
theorem wm_X6_85 : Cond.methodLink RX6 85 yX6_recorded ∈ TB := tb_of 580 (by rfl) (by rfl)
set_option maxRecDepth 20000 in
theorem wi_X6_recorded : Cond.instanceMethod yX6_recorded ∈ TB := tb_of 582 (by rfl) (by rfl)
set_option maxRecDepth 20000 in
theorem wc_X6_recorded : Cond.code yX6_recorded cX6_recorded 3 (some .int) ∈ TB := tb_of 583 (by rfl) (by rfl)
set_option maxRecDepth 20000 in
theorem wm_L_22 : Cond.methodLink RL 22 yX6_add ∈ TB := tb_of 584 (by rfl) (by rfl)
set_option maxRecDepth 20000 in
theorem wi_X6_add : Cond.instanceMethod yX6_add ∈ TB := tb_of 585 (by rfl) (by rfl)
set_option maxRecDepth 20000 in
theorem ws_X6_add : Cond.selects RX6 yX6_add yX6_add ∈ TB := tb_of 586 (by rfl) (by rfl)
set_option maxRecDepth 20000 in
theorem wc_X6_add : Cond.code yX6_add cX6_add 4 (some .int) ∈ TB := tb_of 587 (by rfl) (by rfl)
set_option maxRecDepth 20000 in
theorem wm_X6_88 : Cond.methodLink RX6 88 yX6_puts ∈ TB := tb_of 588 (by rfl) (by rfl)
set_option maxRecDepth 20000 in
theorem wi_X6_puts : Cond.instanceMethod yX6_puts ∈ TB := tb_of 590 (by rfl) (by rfl)
set_option maxRecDepth 20000 in
theorem wc_X6_puts : Cond.code yX6_puts cX6_puts 5 (some .int) ∈ TB := tb_of 591 (by rfl) (by rfl)
set_option maxRecDepth 20000 in
theorem wm_L_32 : Cond.methodLink RL 32 yX6_drop ∈ TB := tb_of 592 (by rfl) (by rfl)
set_option maxRecDepth 20000 in
theorem wi_X6_drop : Cond.instanceMethod yX6_drop ∈ TB := tb_of 593 (by rfl) (by rfl)
set_option maxRecDepth 20000 in
theorem ws_X6_drop : Cond.selects RX6 yX6_drop yX6_drop ∈ TB := tb_of 594 (by rfl) (by rfl)
set_option maxRecDepth 20000 in
theorem wc_X6_drop : Cond.code yX6_drop cX6_drop 5 (some .int) ∈ TB := tb_of 595 (by rfl) (by rfl)
set_option maxRecDepth 20000 in
theorem wm_X6_92 : Cond.methodLink RX6 92 yX6_isStream ∈ TB := tb_of 596 (by rfl) (by rfl)
set_option maxRecDepth 20000 in
theorem wi_X6_isStream : Cond.instanceMethod yX6_isStream ∈ TB := tb_of 598 (by rfl) (by rfl)
set_option maxRecDepth 20000 in
theorem wc_X6_isStream : Cond.code yX6_isStream cX6_isStream 2 (some .boolean) ∈ TB := tb_of 599 (by rfl) (by rfl)
set_option maxRecDepth 20000 in
theorem wm_X6_59 : Cond.methodLink RX6 59 yX6_b ∈ TB := tb_of 600 (by rfl) (by rfl)
set_option maxRecDepth 20000 in
theorem wt_X6_b : Cond.static yX6_b ∈ TB := tb_of 601 (by rfl) (by rfl)
set_option maxRecDepth 20000 in
theorem wc_X6_b : Cond.code yX6_b cX6_b 1 (some .int) ∈ TB := tb_of 602 (by rfl) (by rfl)
set_option maxRecDepth 20000 in
theorem wm_L_36 : Cond.methodLink RL 36 yX6_stride ∈ TB := tb_of 603 (by rfl) (by rfl)
set_option maxRecDepth 20000 in
theorem wi_X6_stride : Cond.instanceMethod yX6_stride ∈ TB := tb_of 604 (by rfl) (by rfl)
set_option maxRecDepth 20000 in
theorem ws_X6_stride : Cond.selects RX6 yX6_stride yX6_stride ∈ TB := tb_of 605 (by rfl) (by rfl)
set_option maxRecDepth 20000 in
theorem wc_X6_stride : Cond.code yX6_stride cX6_stride 5 (some .int) ∈ TB := tb_of 606 (by rfl) (by rfl)
set_option maxRecDepth 20000 in
theorem wm_L_40 : Cond.methodLink RL 40 yX6_run ∈ TB := tb_of 607 (by rfl) (by rfl)
set_option maxRecDepth 20000 in
theorem wi_X6_run : Cond.instanceMethod yX6_run ∈ TB := tb_of 608 (by rfl) (by rfl)
set_option maxRecDepth 20000 in
theorem ws_X6_run : Cond.selects RX6 yX6_run yX6_run ∈ TB := tb_of 609 (by rfl) (by rfl)
set_option maxRecDepth 20000 in
theorem wc_X6_run : Cond.code yX6_run cX6_run 4 (some .int) ∈ TB := tb_of 610 (by rfl) (by rfl)
set_option maxRecDepth 20000 in
theorem wv_X6_95 : Cond.constant RX6 95 (99999) ∈ TB := tb_of 611 (by rfl) (by rfl)
set_option maxRecDepth 20000 in
theorem wm_X6_72 : Cond.methodLink RX6 72 yX6_cycle ∈ TB := tb_of 612 (by rfl) (by rfl)
set_option maxRecDepth 20000 in
theorem wi_X6_cycle : Cond.instanceMethod yX6_cycle ∈ TB := tb_of 614 (by rfl) (by rfl)
set_option maxRecDepth 20000 in
theorem wc_X6_cycle : Cond.code yX6_cycle cX6_cycle 5 (some .int) ∈ TB := tb_of 615 (by rfl) (by rfl)
set_option maxRecDepth 20000 in
theorem wm_X6_62 : Cond.methodLink RX6 62 yX6_asks ∈ TB := tb_of 616 (by rfl) (by rfl)
set_option maxRecDepth 20000 in
theorem wi_X6_asks : Cond.instanceMethod yX6_asks ∈ TB := tb_of 618 (by rfl) (by rfl)
set_option maxRecDepth 20000 in
theorem wc_X6_asks : Cond.code yX6_asks cX6_asks 4 (some .int) ∈ TB := tb_of 619 (by rfl) (by rfl)
set_option maxRecDepth 20000 in
theorem wm_X6_56 : Cond.methodLink RX6 56 yX6_bankAt ∈ TB := tb_of 620 (by rfl) (by rfl)
set_option maxRecDepth 20000 in
theorem wi_X6_bankAt : Cond.instanceMethod yX6_bankAt ∈ TB := tb_of 622 (by rfl) (by rfl)
set_option maxRecDepth 20000 in
theorem wc_X6_bankAt : Cond.code yX6_bankAt cX6_bankAt 3 (some .int) ∈ TB := tb_of 623 (by rfl) (by rfl)
set_option maxRecDepth 20000 in
theorem wm_X6_48 : Cond.methodLink RX6 48 yX6_prime ∈ TB := tb_of 624 (by rfl) (by rfl)
set_option maxRecDepth 20000 in
theorem wi_X6_prime : Cond.instanceMethod yX6_prime ∈ TB := tb_of 626 (by rfl) (by rfl)
set_option maxRecDepth 20000 in
theorem wc_X6_prime : Cond.code yX6_prime cX6_prime 2 (some .int) ∈ TB := tb_of 627 (by rfl) (by rfl)
set_option maxRecDepth 20000 in
theorem wm_X6_44 : Cond.methodLink RX6 44 yX6_isPrime ∈ TB := tb_of 628 (by rfl) (by rfl)
set_option maxRecDepth 20000 in
theorem wt_X6_isPrime : Cond.static yX6_isPrime ∈ TB := tb_of 629 (by rfl) (by rfl)
set_option maxRecDepth 20000 in
theorem wc_X6_isPrime : Cond.code yX6_isPrime cX6_isPrime 3 (some .boolean) ∈ TB := tb_of 630 (by rfl) (by rfl)
set_option maxRecDepth 20000 in
theorem wm_L_44 : Cond.methodLink RL 44 yX6_reset ∈ TB := tb_of 631 (by rfl) (by rfl)
set_option maxRecDepth 20000 in
theorem wi_X6_reset : Cond.instanceMethod yX6_reset ∈ TB := tb_of 632 (by rfl) (by rfl)
set_option maxRecDepth 20000 in
theorem ws_X6_reset : Cond.selects RX6 yX6_reset yX6_reset ∈ TB := tb_of 633 (by rfl) (by rfl)
set_option maxRecDepth 20000 in
theorem wc_X6_reset : Cond.code yX6_reset cX6_reset 1 (some .int) ∈ TB := tb_of 634 (by rfl) (by rfl)
set_option maxRecDepth 20000 in
theorem wm_X6_69 : Cond.methodLink RX6 69 yX6_wordsLeft ∈ TB := tb_of 635 (by rfl) (by rfl)
set_option maxRecDepth 20000 in
theorem wi_X6_wordsLeft : Cond.instanceMethod yX6_wordsLeft ∈ TB := tb_of 637 (by rfl) (by rfl)
set_option maxRecDepth 20000 in
theorem wc_X6_wordsLeft : Cond.code yX6_wordsLeft cX6_wordsLeft 3 (some .int) ∈ TB := tb_of 638 (by rfl) (by rfl)
set_option maxRecDepth 20000 in
theorem wm_L_27 : Cond.methodLink RL 27 yX6_read ∈ TB := tb_of 639 (by rfl) (by rfl)
set_option maxRecDepth 20000 in
theorem wi_X6_read : Cond.instanceMethod yX6_read ∈ TB := tb_of 640 (by rfl) (by rfl)
set_option maxRecDepth 20000 in
theorem ws_X6_read : Cond.selects RX6 yX6_read yX6_read ∈ TB := tb_of 641 (by rfl) (by rfl)
set_option maxRecDepth 20000 in
theorem wc_X6_read : Cond.code yX6_read cX6_read 3 (some .int) ∈ TB := tb_of 642 (by rfl) (by rfl)
set_option maxRecDepth 20000 in
theorem wm_X6_120 : Cond.methodLink RX6 120 yX6_faultOf ∈ TB := tb_of 643 (by rfl) (by rfl)
set_option maxRecDepth 20000 in
theorem wi_X6_faultOf : Cond.instanceMethod yX6_faultOf ∈ TB := tb_of 645 (by rfl) (by rfl)
set_option maxRecDepth 20000 in
theorem wc_X6_faultOf : Cond.code yX6_faultOf cX6_faultOf 2 (some .int) ∈ TB := tb_of 646 (by rfl) (by rfl)
set_option maxRecDepth 20000 in
theorem wm_X6_116 : Cond.methodLink RX6 116 yX6_readsStream ∈ TB := tb_of 647 (by rfl) (by rfl)
set_option maxRecDepth 20000 in
theorem wi_X6_readsStream : Cond.instanceMethod yX6_readsStream ∈ TB := tb_of 649 (by rfl) (by rfl)
set_option maxRecDepth 20000 in
theorem wc_X6_readsStream : Cond.code yX6_readsStream cX6_readsStream 2 (some .boolean) ∈ TB := tb_of 650 (by rfl) (by rfl)
set_option maxRecDepth 20000 in
theorem wm_X6_109 : Cond.methodLink RX6 109 yX6_number ∈ TB := tb_of 651 (by rfl) (by rfl)
set_option maxRecDepth 20000 in
theorem wi_X6_number : Cond.instanceMethod yX6_number ∈ TB := tb_of 653 (by rfl) (by rfl)
set_option maxRecDepth 20000 in
theorem wc_X6_number : Cond.code yX6_number cX6_number 5 (some .boolean) ∈ TB := tb_of 654 (by rfl) (by rfl)
set_option maxRecDepth 20000 in
theorem wm_X6_102 : Cond.methodLink RX6 102 yX6_isSign ∈ TB := tb_of 655 (by rfl) (by rfl)
set_option maxRecDepth 20000 in
theorem wi_X6_isSign : Cond.instanceMethod yX6_isSign ∈ TB := tb_of 657 (by rfl) (by rfl)
set_option maxRecDepth 20000 in
theorem wc_X6_isSign : Cond.code yX6_isSign cX6_isSign 3 (some .boolean) ∈ TB := tb_of 658 (by rfl) (by rfl)
set_option maxRecDepth 20000 in
theorem wm_X6_112 : Cond.methodLink RX6 112 yX6_accepts ∈ TB := tb_of 659 (by rfl) (by rfl)
set_option maxRecDepth 20000 in
theorem wi_X6_accepts : Cond.instanceMethod yX6_accepts ∈ TB := tb_of 661 (by rfl) (by rfl)
set_option maxRecDepth 20000 in
theorem wc_X6_accepts : Cond.code yX6_accepts cX6_accepts 3 (some .boolean) ∈ TB := tb_of 662 (by rfl) (by rfl)
set_option maxRecDepth 20000 in
theorem wm_L_48 : Cond.methodLink RL 48 yX6_bankOf ∈ TB := tb_of 663 (by rfl) (by rfl)
set_option maxRecDepth 20000 in
theorem wi_X6_bankOf : Cond.instanceMethod yX6_bankOf ∈ TB := tb_of 664 (by rfl) (by rfl)
set_option maxRecDepth 20000 in
theorem ws_X6_bankOf : Cond.selects RX6 yX6_bankOf yX6_bankOf ∈ TB := tb_of 665 (by rfl) (by rfl)
set_option maxRecDepth 20000 in
theorem wc_X6_bankOf : Cond.code yX6_bankOf cX6_bankOf 2 (some .int) ∈ TB := tb_of 666 (by rfl) (by rfl)
set_option maxRecDepth 20000 in
theorem wm_L_52 : Cond.methodLink RL 52 yX6_stream ∈ TB := tb_of 667 (by rfl) (by rfl)
set_option maxRecDepth 20000 in
theorem wi_X6_stream : Cond.instanceMethod yX6_stream ∈ TB := tb_of 668 (by rfl) (by rfl)
set_option maxRecDepth 20000 in
theorem ws_X6_stream : Cond.selects RX6 yX6_stream yX6_stream ∈ TB := tb_of 669 (by rfl) (by rfl)
set_option maxRecDepth 20000 in
theorem wc_X6_stream : Cond.code yX6_stream cX6_stream 4 (some .int) ∈ TB := tb_of 670 (by rfl) (by rfl)
set_option maxRecDepth 20000 in
theorem wm_X6_123 : Cond.methodLink RX6 123 yX6_meets ∈ TB := tb_of 671 (by rfl) (by rfl)
set_option maxRecDepth 20000 in
theorem wi_X6_meets : Cond.instanceMethod yX6_meets ∈ TB := tb_of 673 (by rfl) (by rfl)
set_option maxRecDepth 20000 in
theorem wc_X6_meets : Cond.code yX6_meets cX6_meets 6 (some .int) ∈ TB := tb_of 674 (by rfl) (by rfl)
set_option maxRecDepth 20000 in
theorem wm_L_56 : Cond.methodLink RL 56 yX6_bank ∈ TB := tb_of 675 (by rfl) (by rfl)
set_option maxRecDepth 20000 in
theorem wi_X6_bank : Cond.instanceMethod yX6_bank ∈ TB := tb_of 676 (by rfl) (by rfl)
set_option maxRecDepth 20000 in
theorem ws_X6_bank : Cond.selects RX6 yX6_bank yX6_bank ∈ TB := tb_of 677 (by rfl) (by rfl)
set_option maxRecDepth 20000 in
theorem wc_X6_bank : Cond.code yX6_bank cX6_bank 3 (some .int) ∈ TB := tb_of 678 (by rfl) (by rfl)
set_option maxRecDepth 20000 in
theorem wm_X6_126 : Cond.methodLink RX6 126 yX6_busy ∈ TB := tb_of 679 (by rfl) (by rfl)
set_option maxRecDepth 20000 in
theorem wi_X6_busy : Cond.instanceMethod yX6_busy ∈ TB := tb_of 681 (by rfl) (by rfl)
set_option maxRecDepth 20000 in
theorem wc_X6_busy : Cond.code yX6_busy cX6_busy 3 (some .int) ∈ TB := tb_of 682 (by rfl) (by rfl)
set_option maxRecDepth 20000 in
theorem wm_X6_129 : Cond.methodLink RX6 129 yX6_wordsIn ∈ TB := tb_of 683 (by rfl) (by rfl)
set_option maxRecDepth 20000 in
theorem wi_X6_wordsIn : Cond.instanceMethod yX6_wordsIn ∈ TB := tb_of 685 (by rfl) (by rfl)
set_option maxRecDepth 20000 in
theorem wc_X6_wordsIn : Cond.code yX6_wordsIn cX6_wordsIn 6 (some .int) ∈ TB := tb_of 686 (by rfl) (by rfl)
set_option maxRecDepth 20000 in
theorem wm_L_60 : Cond.methodLink RL 60 yX6_count ∈ TB := tb_of 687 (by rfl) (by rfl)
set_option maxRecDepth 20000 in
theorem wi_X6_count : Cond.instanceMethod yX6_count ∈ TB := tb_of 688 (by rfl) (by rfl)
set_option maxRecDepth 20000 in
theorem ws_X6_count : Cond.selects RX6 yX6_count yX6_count ∈ TB := tb_of 689 (by rfl) (by rfl)
set_option maxRecDepth 20000 in
theorem wc_X6_count : Cond.code yX6_count cX6_count 2 (some .int) ∈ TB := tb_of 690 (by rfl) (by rfl)
set_option maxRecDepth 20000 in
theorem wm_X6_132 : Cond.methodLink RX6 132 yX6_ofStreams ∈ TB := tb_of 691 (by rfl) (by rfl)
set_option maxRecDepth 20000 in
theorem wi_X6_ofStreams : Cond.instanceMethod yX6_ofStreams ∈ TB := tb_of 693 (by rfl) (by rfl)
set_option maxRecDepth 20000 in
theorem wc_X6_ofStreams : Cond.code yX6_ofStreams cX6_ofStreams 5 (some .int) ∈ TB := tb_of 694 (by rfl) (by rfl)
set_option maxRecDepth 20000 in
theorem wm_X6_135 : Cond.methodLink RX6 135 yX6_busyBanks ∈ TB := tb_of 695 (by rfl) (by rfl)
set_option maxRecDepth 20000 in
theorem wi_X6_busyBanks : Cond.instanceMethod yX6_busyBanks ∈ TB := tb_of 697 (by rfl) (by rfl)
set_option maxRecDepth 20000 in
theorem wc_X6_busyBanks : Cond.code yX6_busyBanks cX6_busyBanks 3 (some .int) ∈ TB := tb_of 698 (by rfl) (by rfl)
set_option maxRecDepth 20000 in
theorem wm_L_64 : Cond.methodLink RL 64 yX6_untilDone ∈ TB := tb_of 699 (by rfl) (by rfl)
set_option maxRecDepth 20000 in
theorem wi_X6_untilDone : Cond.instanceMethod yX6_untilDone ∈ TB := tb_of 700 (by rfl) (by rfl)
set_option maxRecDepth 20000 in
theorem ws_X6_untilDone : Cond.selects RX6 yX6_untilDone yX6_untilDone ∈ TB := tb_of 701 (by rfl) (by rfl)
set_option maxRecDepth 20000 in
theorem wc_X6_untilDone : Cond.code yX6_untilDone cX6_untilDone 2 (some .int) ∈ TB := tb_of 702 (by rfl) (by rfl)
set_option maxRecDepth 20000 in
theorem wm_X6_138 : Cond.methodLink RX6 138 yX6_keepTrial ∈ TB := tb_of 703 (by rfl) (by rfl)
set_option maxRecDepth 20000 in
theorem wi_X6_keepTrial : Cond.instanceMethod yX6_keepTrial ∈ TB := tb_of 705 (by rfl) (by rfl)
set_option maxRecDepth 20000 in
theorem wc_X6_keepTrial : Cond.code yX6_keepTrial cX6_keepTrial 2 none ∈ TB := tb_of 706 (by rfl) (by rfl)
set_option maxRecDepth 20000 in
theorem wm_X6_141 : Cond.methodLink RX6 141 yX6_runsOut ∈ TB := tb_of 707 (by rfl) (by rfl)
set_option maxRecDepth 20000 in
theorem wi_X6_runsOut : Cond.instanceMethod yX6_runsOut ∈ TB := tb_of 709 (by rfl) (by rfl)
set_option maxRecDepth 20000 in
theorem wc_X6_runsOut : Cond.code yX6_runsOut cX6_runsOut 3 (some .int) ∈ TB := tb_of 710 (by rfl) (by rfl)
set_option maxRecDepth 20000 in
theorem wm_X6_144 : Cond.methodLink RX6 144 yX6_putBack ∈ TB := tb_of 711 (by rfl) (by rfl)
set_option maxRecDepth 20000 in
theorem wi_X6_putBack : Cond.instanceMethod yX6_putBack ∈ TB := tb_of 713 (by rfl) (by rfl)
set_option maxRecDepth 20000 in
theorem wc_X6_putBack : Cond.code yX6_putBack cX6_putBack 2 none ∈ TB := tb_of 714 (by rfl) (by rfl)
set_option maxRecDepth 20000 in
theorem wm_L_68 : Cond.methodLink RL 68 yX6_alone ∈ TB := tb_of 715 (by rfl) (by rfl)
set_option maxRecDepth 20000 in
theorem wi_X6_alone : Cond.instanceMethod yX6_alone ∈ TB := tb_of 716 (by rfl) (by rfl)
set_option maxRecDepth 20000 in
theorem ws_X6_alone : Cond.selects RX6 yX6_alone yX6_alone ∈ TB := tb_of 717 (by rfl) (by rfl)
set_option maxRecDepth 20000 in
theorem wc_X6_alone : Cond.code yX6_alone cX6_alone 3 (some .int) ∈ TB := tb_of 718 (by rfl) (by rfl)
set_option maxRecDepth 20000 in
theorem wm_X6_151 : Cond.methodLink RX6 151 yX6_cyclesWith ∈ TB := tb_of 719 (by rfl) (by rfl)
set_option maxRecDepth 20000 in
theorem wi_X6_cyclesWith : Cond.instanceMethod yX6_cyclesWith ∈ TB := tb_of 721 (by rfl) (by rfl)
set_option maxRecDepth 20000 in
theorem wc_X6_cyclesWith : Cond.code yX6_cyclesWith cX6_cyclesWith 4 (some .int) ∈ TB := tb_of 722 (by rfl) (by rfl)
set_option maxRecDepth 20000 in
theorem wm_X6_147 : Cond.methodLink RX6 147 yX6_comes ∈ TB := tb_of 723 (by rfl) (by rfl)
set_option maxRecDepth 20000 in
theorem wi_X6_comes : Cond.instanceMethod yX6_comes ∈ TB := tb_of 725 (by rfl) (by rfl)
set_option maxRecDepth 20000 in
theorem wc_X6_comes : Cond.code yX6_comes cX6_comes 4 none ∈ TB := tb_of 726 (by rfl) (by rfl)
set_option maxRecDepth 20000 in
theorem wm_L_72 : Cond.methodLink RL 72 yX6_bestStride ∈ TB := tb_of 727 (by rfl) (by rfl)
set_option maxRecDepth 20000 in
theorem wi_X6_bestStride : Cond.instanceMethod yX6_bestStride ∈ TB := tb_of 728 (by rfl) (by rfl)
set_option maxRecDepth 20000 in
theorem ws_X6_bestStride : Cond.selects RX6 yX6_bestStride yX6_bestStride ∈ TB := tb_of 729 (by rfl) (by rfl)
set_option maxRecDepth 20000 in
theorem wc_X6_bestStride : Cond.code yX6_bestStride cX6_bestStride 8 (some .int) ∈ TB := tb_of 730 (by rfl) (by rfl)
set_option maxRecDepth 20000 in
theorem wv_X6_155 : Cond.constant RX6 155 (1000000) ∈ TB := tb_of 731 (by rfl) (by rfl)
set_option maxRecDepth 20000 in
theorem wm_L_76 : Cond.methodLink RL 76 yX6_bestMap ∈ TB := tb_of 732 (by rfl) (by rfl)
set_option maxRecDepth 20000 in
theorem wi_X6_bestMap : Cond.instanceMethod yX6_bestMap ∈ TB := tb_of 733 (by rfl) (by rfl)
set_option maxRecDepth 20000 in
theorem ws_X6_bestMap : Cond.selects RX6 yX6_bestMap yX6_bestMap ∈ TB := tb_of 734 (by rfl) (by rfl)
set_option maxRecDepth 20000 in
theorem wc_X6_bestMap : Cond.code yX6_bestMap cX6_bestMap 6 (some .int) ∈ TB := tb_of 735 (by rfl) (by rfl)
set_option maxRecDepth 20000 in
theorem wm_L_80 : Cond.methodLink RL 80 yX6_clashes ∈ TB := tb_of 736 (by rfl) (by rfl)
set_option maxRecDepth 20000 in
theorem wi_X6_clashes : Cond.instanceMethod yX6_clashes ∈ TB := tb_of 737 (by rfl) (by rfl)
set_option maxRecDepth 20000 in
theorem ws_X6_clashes : Cond.selects RX6 yX6_clashes yX6_clashes ∈ TB := tb_of 738 (by rfl) (by rfl)
set_option maxRecDepth 20000 in
theorem wc_X6_clashes : Cond.code yX6_clashes cX6_clashes 5 (some .int) ∈ TB := tb_of 739 (by rfl) (by rfl)
set_option maxRecDepth 20000 in
theorem wm_L_87 : Cond.methodLink RL 87 yX6_put ∈ TB := tb_of 740 (by rfl) (by rfl)
set_option maxRecDepth 20000 in
theorem wi_X6_put : Cond.instanceMethod yX6_put ∈ TB := tb_of 741 (by rfl) (by rfl)
set_option maxRecDepth 20000 in
theorem ws_X6_put : Cond.selects RX6 yX6_put yX6_put ∈ TB := tb_of 742 (by rfl) (by rfl)
set_option maxRecDepth 20000 in
theorem wc_X6_put : Cond.code yX6_put cX6_put 8 (some .int) ∈ TB := tb_of 743 (by rfl) (by rfl)
set_option maxRecDepth 20000 in
theorem wv_X6_156 : Cond.constantLong RX6 156 (255) ∈ TB := tb_of 744 (by rfl) (by rfl)
set_option maxRecDepth 20000 in
theorem wv_X6_158 : Cond.constantLong RX6 158 (33) ∈ TB := tb_of 745 (by rfl) (by rfl)
set_option maxRecDepth 20000 in
theorem wv_X6_160 : Cond.constantLong RX6 160 (126) ∈ TB := tb_of 746 (by rfl) (by rfl)
set_option maxRecDepth 20000 in
theorem wm_L_91 : Cond.methodLink RL 91 yX6_wipe ∈ TB := tb_of 747 (by rfl) (by rfl)
set_option maxRecDepth 20000 in
theorem wi_X6_wipe : Cond.instanceMethod yX6_wipe ∈ TB := tb_of 748 (by rfl) (by rfl)
set_option maxRecDepth 20000 in
theorem ws_X6_wipe : Cond.selects RX6 yX6_wipe yX6_wipe ∈ TB := tb_of 749 (by rfl) (by rfl)
set_option maxRecDepth 20000 in
theorem wc_X6_wipe : Cond.code yX6_wipe cX6_wipe 2 (some .int) ∈ TB := tb_of 750 (by rfl) (by rfl)
set_option maxRecDepth 20000 in
theorem wm_L_95 : Cond.methodLink RL 95 yX6_fault ∈ TB := tb_of 751 (by rfl) (by rfl)
set_option maxRecDepth 20000 in
theorem wi_X6_fault : Cond.instanceMethod yX6_fault ∈ TB := tb_of 752 (by rfl) (by rfl)
set_option maxRecDepth 20000 in
theorem ws_X6_fault : Cond.selects RX6 yX6_fault yX6_fault ∈ TB := tb_of 753 (by rfl) (by rfl)
set_option maxRecDepth 20000 in
theorem wc_X6_fault : Cond.code yX6_fault cX6_fault 2 (some .int) ∈ TB := tb_of 754 (by rfl) (by rfl)
set_option maxRecDepth 20000 in
theorem wm_L_99 : Cond.methodLink RL 99 yX6_undo ∈ TB := tb_of 755 (by rfl) (by rfl)
set_option maxRecDepth 20000 in
theorem wi_X6_undo : Cond.instanceMethod yX6_undo ∈ TB := tb_of 756 (by rfl) (by rfl)
set_option maxRecDepth 20000 in
theorem ws_X6_undo : Cond.selects RX6 yX6_undo yX6_undo ∈ TB := tb_of 757 (by rfl) (by rfl)
set_option maxRecDepth 20000 in
theorem wc_X6_undo : Cond.code yX6_undo cX6_undo 2 (some .int) ∈ TB := tb_of 758 (by rfl) (by rfl)
set_option maxRecDepth 20000 in
theorem wm_L_103 : Cond.methodLink RL 103 yX6_save ∈ TB := tb_of 759 (by rfl) (by rfl)
set_option maxRecDepth 20000 in
theorem wi_X6_save : Cond.instanceMethod yX6_save ∈ TB := tb_of 760 (by rfl) (by rfl)
set_option maxRecDepth 20000 in
theorem ws_X6_save : Cond.selects RX6 yX6_save yX6_save ∈ TB := tb_of 761 (by rfl) (by rfl)
set_option maxRecDepth 20000 in
theorem wc_X6_save : Cond.code yX6_save cX6_save 3 (some .int) ∈ TB := tb_of 762 (by rfl) (by rfl)
set_option maxRecDepth 20000 in
theorem wm_L_107 : Cond.methodLink RL 107 yX6_restore ∈ TB := tb_of 763 (by rfl) (by rfl)
set_option maxRecDepth 20000 in
theorem wi_X6_restore : Cond.instanceMethod yX6_restore ∈ TB := tb_of 764 (by rfl) (by rfl)
set_option maxRecDepth 20000 in
theorem ws_X6_restore : Cond.selects RX6 yX6_restore yX6_restore ∈ TB := tb_of 765 (by rfl) (by rfl)
set_option maxRecDepth 20000 in
theorem wc_X6_restore : Cond.code yX6_restore cX6_restore 3 (some .int) ∈ TB := tb_of 766 (by rfl) (by rfl)
set_option maxRecDepth 20000 in
theorem wv_L_81 : Cond.constantLong RL 81 (4294967295) ∈ TB := tb_of 767 (by rfl) (by rfl)
set_option maxRecDepth 20000 in
theorem wy_X0_freeFrom : Cond.lays "StrideBanks$BankRow" "StrideBanks$BankRow" "freeFrom" "I" ∈ TB := tb_of 150 (by rfl) (by rfl)
set_option maxRecDepth 20000 in
theorem wy_X0_maker : Cond.lays "StrideBanks$BankRow" "StrideBanks$BankRow" "maker" "I" ∈ TB := tb_of 152 (by rfl) (by rfl)
set_option maxRecDepth 20000 in
theorem wy_X0_requests : Cond.lays "StrideBanks$BankRow" "StrideBanks$BankRow" "requests" "I" ∈ TB := tb_of 154 (by rfl) (by rfl)
set_option maxRecDepth 20000 in
theorem wy_X0_stalls : Cond.lays "StrideBanks$BankRow" "StrideBanks$BankRow" "stalls" "I" ∈ TB := tb_of 156 (by rfl) (by rfl)
theorem uw_X0 : ∀ w ∈ u_ws RX0 TX0 4, w ∈ TB := (List.forall_mem_cons.mpr ⟨wy_X0_freeFrom, List.forall_mem_cons.mpr ⟨wy_X0_maker, List.forall_mem_cons.mpr ⟨wy_X0_requests, List.forall_mem_cons.mpr ⟨wy_X0_stalls, fun _ h => absurd h List.not_mem_nil⟩⟩⟩⟩ : ∀ w ∈ ([Cond.lays RX0 "StrideBanks$BankRow" "freeFrom" "I", Cond.lays RX0 "StrideBanks$BankRow" "maker" "I", Cond.lays RX0 "StrideBanks$BankRow" "requests" "I", Cond.lays RX0 "StrideBanks$BankRow" "stalls" "I"] : List Cond), w ∈ TB)
set_option maxRecDepth 20000 in
theorem wy_X1_states : Cond.laysFinal "StrideBanks$History" "StrideBanks$History" "states" "[LStrideBanks$Store;" ∈ TB := tb_of 196 (by rfl) (by rfl)
set_option maxRecDepth 20000 in
theorem wy_X1_size : Cond.lays "StrideBanks$History" "StrideBanks$History" "size" "I" ∈ TB := tb_of 198 (by rfl) (by rfl)
theorem uw_X1 : ∀ w ∈ u_ws RX1 TX1 2, w ∈ TB := (List.forall_mem_cons.mpr ⟨wy_X1_states, List.forall_mem_cons.mpr ⟨wy_X1_size, fun _ h => absurd h List.not_mem_nil⟩⟩ : ∀ w ∈ ([Cond.laysFinal RX1 "StrideBanks$History" "states" "[LStrideBanks$Store;", Cond.lays RX1 "StrideBanks$History" "size" "I"] : List Cond), w ∈ TB)
set_option maxRecDepth 20000 in
theorem wy_X2_text : Cond.laysFinal "StrideBanks$Pad" "StrideBanks$Pad" "text" "[C" ∈ TB := tb_of 212 (by rfl) (by rfl)
set_option maxRecDepth 20000 in
theorem wy_X2_length : Cond.lays "StrideBanks$Pad" "StrideBanks$Pad" "length" "I" ∈ TB := tb_of 214 (by rfl) (by rfl)
set_option maxRecDepth 20000 in
theorem wy_X2_numbers : Cond.laysFinal "StrideBanks$Pad" "StrideBanks$Pad" "numbers" "[I" ∈ TB := tb_of 216 (by rfl) (by rfl)
set_option maxRecDepth 20000 in
theorem wy_X2_numbersFound : Cond.lays "StrideBanks$Pad" "StrideBanks$Pad" "numbersFound" "I" ∈ TB := tb_of 218 (by rfl) (by rfl)
theorem uw_X2 : ∀ w ∈ u_ws RX2 TX2 4, w ∈ TB := (List.forall_mem_cons.mpr ⟨wy_X2_text, List.forall_mem_cons.mpr ⟨wy_X2_length, List.forall_mem_cons.mpr ⟨wy_X2_numbers, List.forall_mem_cons.mpr ⟨wy_X2_numbersFound, fun _ h => absurd h List.not_mem_nil⟩⟩⟩⟩ : ∀ w ∈ ([Cond.laysFinal RX2 "StrideBanks$Pad" "text" "[C", Cond.lays RX2 "StrideBanks$Pad" "length" "I", Cond.laysFinal RX2 "StrideBanks$Pad" "numbers" "[I", Cond.lays RX2 "StrideBanks$Pad" "numbersFound" "I"] : List Cond), w ∈ TB)
set_option maxRecDepth 20000 in
theorem wy_X3_settings : Cond.laysFinal "StrideBanks$Store" "StrideBanks$Store" "settings" "[I" ∈ TB := tb_of 173 (by rfl) (by rfl)
set_option maxRecDepth 20000 in
theorem wy_X3_streams : Cond.laysFinal "StrideBanks$Store" "StrideBanks$Store" "streams" "[LStrideBanks$StreamRow;" ∈ TB := tb_of 175 (by rfl) (by rfl)
set_option maxRecDepth 20000 in
theorem wy_X3_banks : Cond.laysFinal "StrideBanks$Store" "StrideBanks$Store" "banks" "[LStrideBanks$BankRow;" ∈ TB := tb_of 177 (by rfl) (by rfl)
set_option maxRecDepth 20000 in
theorem wy_X3_streamCount : Cond.lays "StrideBanks$Store" "StrideBanks$Store" "streamCount" "I" ∈ TB := tb_of 179 (by rfl) (by rfl)
set_option maxRecDepth 20000 in
theorem wy_X3_cycle : Cond.lays "StrideBanks$Store" "StrideBanks$Store" "cycle" "I" ∈ TB := tb_of 181 (by rfl) (by rfl)
theorem uw_X3 : ∀ w ∈ u_ws RX3 TX3 5, w ∈ TB := (List.forall_mem_cons.mpr ⟨wy_X3_settings, List.forall_mem_cons.mpr ⟨wy_X3_streams, List.forall_mem_cons.mpr ⟨wy_X3_banks, List.forall_mem_cons.mpr ⟨wy_X3_streamCount, List.forall_mem_cons.mpr ⟨wy_X3_cycle, fun _ h => absurd h List.not_mem_nil⟩⟩⟩⟩⟩ : ∀ w ∈ ([Cond.laysFinal RX3 "StrideBanks$Store" "settings" "[I", Cond.laysFinal RX3 "StrideBanks$Store" "streams" "[LStrideBanks$StreamRow;", Cond.laysFinal RX3 "StrideBanks$Store" "banks" "[LStrideBanks$BankRow;", Cond.lays RX3 "StrideBanks$Store" "streamCount" "I", Cond.lays RX3 "StrideBanks$Store" "cycle" "I"] : List Cond), w ∈ TB)
set_option maxRecDepth 20000 in
theorem wy_X4_start : Cond.lays "StrideBanks$StreamRow" "StrideBanks$StreamRow" "start" "I" ∈ TB := tb_of 116 (by rfl) (by rfl)
set_option maxRecDepth 20000 in
theorem wy_X4_stride : Cond.lays "StrideBanks$StreamRow" "StrideBanks$StreamRow" "stride" "I" ∈ TB := tb_of 118 (by rfl) (by rfl)
set_option maxRecDepth 20000 in
theorem wy_X4_length : Cond.lays "StrideBanks$StreamRow" "StrideBanks$StreamRow" "length" "I" ∈ TB := tb_of 120 (by rfl) (by rfl)
set_option maxRecDepth 20000 in
theorem wy_X4_left : Cond.lays "StrideBanks$StreamRow" "StrideBanks$StreamRow" "left" "I" ∈ TB := tb_of 122 (by rfl) (by rfl)
set_option maxRecDepth 20000 in
theorem wy_X4_latest : Cond.lays "StrideBanks$StreamRow" "StrideBanks$StreamRow" "latest" "I" ∈ TB := tb_of 124 (by rfl) (by rfl)
set_option maxRecDepth 20000 in
theorem wy_X4_stalls : Cond.lays "StrideBanks$StreamRow" "StrideBanks$StreamRow" "stalls" "I" ∈ TB := tb_of 126 (by rfl) (by rfl)
set_option maxRecDepth 20000 in
theorem wy_X4_clashes : Cond.lays "StrideBanks$StreamRow" "StrideBanks$StreamRow" "clashes" "I" ∈ TB := tb_of 128 (by rfl) (by rfl)
set_option maxRecDepth 20000 in
theorem wy_X4_ended : Cond.lays "StrideBanks$StreamRow" "StrideBanks$StreamRow" "ended" "I" ∈ TB := tb_of 130 (by rfl) (by rfl)
theorem uw_X4 : ∀ w ∈ u_ws RX4 TX4 8, w ∈ TB := (List.forall_mem_cons.mpr ⟨wy_X4_start, List.forall_mem_cons.mpr ⟨wy_X4_stride, List.forall_mem_cons.mpr ⟨wy_X4_length, List.forall_mem_cons.mpr ⟨wy_X4_left, List.forall_mem_cons.mpr ⟨wy_X4_latest, List.forall_mem_cons.mpr ⟨wy_X4_stalls, List.forall_mem_cons.mpr ⟨wy_X4_clashes, List.forall_mem_cons.mpr ⟨wy_X4_ended, fun _ h => absurd h List.not_mem_nil⟩⟩⟩⟩⟩⟩⟩⟩ : ∀ w ∈ ([Cond.lays RX4 "StrideBanks$StreamRow" "start" "I", Cond.lays RX4 "StrideBanks$StreamRow" "stride" "I", Cond.lays RX4 "StrideBanks$StreamRow" "length" "I", Cond.lays RX4 "StrideBanks$StreamRow" "left" "I", Cond.lays RX4 "StrideBanks$StreamRow" "latest" "I", Cond.lays RX4 "StrideBanks$StreamRow" "stalls" "I", Cond.lays RX4 "StrideBanks$StreamRow" "clashes" "I", Cond.lays RX4 "StrideBanks$StreamRow" "ended" "I"] : List Cond), w ∈ TB)
set_option maxRecDepth 20000 in
theorem wy_X5_now : Cond.laysFinal "StrideBanks" "StrideBanks" "now" "LStrideBanks$Store;" ∈ TB := tb_of 229 (by rfl) (by rfl)
set_option maxRecDepth 20000 in
theorem wy_X5_trial : Cond.laysFinal "StrideBanks" "StrideBanks" "trial" "LStrideBanks$Store;" ∈ TB := tb_of 231 (by rfl) (by rfl)
set_option maxRecDepth 20000 in
theorem wy_X5_history : Cond.laysFinal "StrideBanks" "StrideBanks" "history" "LStrideBanks$History;" ∈ TB := tb_of 233 (by rfl) (by rfl)
set_option maxRecDepth 20000 in
theorem wy_X5_slots : Cond.laysFinal "StrideBanks" "StrideBanks" "slots" "[LStrideBanks$Store;" ∈ TB := tb_of 235 (by rfl) (by rfl)
set_option maxRecDepth 20000 in
theorem wy_X5_saved : Cond.laysFinal "StrideBanks" "StrideBanks" "saved" "[Z" ∈ TB := tb_of 237 (by rfl) (by rfl)
set_option maxRecDepth 20000 in
theorem wy_X5_pad : Cond.laysFinal "StrideBanks" "StrideBanks" "pad" "LStrideBanks$Pad;" ∈ TB := tb_of 239 (by rfl) (by rfl)
theorem uw_X5 : ∀ w ∈ u_ws RX5 TX5 6, w ∈ TB := (List.forall_mem_cons.mpr ⟨wy_X5_now, List.forall_mem_cons.mpr ⟨wy_X5_trial, List.forall_mem_cons.mpr ⟨wy_X5_history, List.forall_mem_cons.mpr ⟨wy_X5_slots, List.forall_mem_cons.mpr ⟨wy_X5_saved, List.forall_mem_cons.mpr ⟨wy_X5_pad, fun _ h => absurd h List.not_mem_nil⟩⟩⟩⟩⟩⟩ : ∀ w ∈ ([Cond.laysFinal RX5 "StrideBanks" "now" "LStrideBanks$Store;", Cond.laysFinal RX5 "StrideBanks" "trial" "LStrideBanks$Store;", Cond.laysFinal RX5 "StrideBanks" "history" "LStrideBanks$History;", Cond.laysFinal RX5 "StrideBanks" "slots" "[LStrideBanks$Store;", Cond.laysFinal RX5 "StrideBanks" "saved" "[Z", Cond.laysFinal RX5 "StrideBanks" "pad" "LStrideBanks$Pad;"] : List Cond), w ∈ TB)
set_option maxRecDepth 20000 in
theorem wy_X6_s : Cond.laysFinal "StrideBanksModel" "StrideBanksModel" "s" "[I" ∈ TB := tb_of 530 (by rfl) (by rfl)
set_option maxRecDepth 20000 in
theorem wy_X6_spare : Cond.laysFinal "StrideBanksModel" "StrideBanksModel" "spare" "[I" ∈ TB := tb_of 532 (by rfl) (by rfl)
set_option maxRecDepth 20000 in
theorem wy_X6_trial : Cond.laysFinal "StrideBanksModel" "StrideBanksModel" "trial" "[I" ∈ TB := tb_of 534 (by rfl) (by rfl)
set_option maxRecDepth 20000 in
theorem wy_X6_before : Cond.laysFinal "StrideBanksModel" "StrideBanksModel" "before" "[I" ∈ TB := tb_of 536 (by rfl) (by rfl)
set_option maxRecDepth 20000 in
theorem wy_X6_saved : Cond.laysFinal "StrideBanksModel" "StrideBanksModel" "saved" "[I" ∈ TB := tb_of 538 (by rfl) (by rfl)
set_option maxRecDepth 20000 in
theorem wy_X6_isSaved : Cond.laysFinal "StrideBanksModel" "StrideBanksModel" "isSaved" "[Z" ∈ TB := tb_of 540 (by rfl) (by rfl)
set_option maxRecDepth 20000 in
theorem wy_X6_read : Cond.laysFinal "StrideBanksModel" "StrideBanksModel" "read" "[I" ∈ TB := tb_of 542 (by rfl) (by rfl)
set_option maxRecDepth 20000 in
theorem wy_X6_pad : Cond.laysFinal "StrideBanksModel" "StrideBanksModel" "pad" "[C" ∈ TB := tb_of 544 (by rfl) (by rfl)
set_option maxRecDepth 20000 in
theorem wy_X6_length : Cond.lays "StrideBanksModel" "StrideBanksModel" "length" "I" ∈ TB := tb_of 546 (by rfl) (by rfl)
set_option maxRecDepth 20000 in
theorem wy_X6_states : Cond.lays "StrideBanksModel" "StrideBanksModel" "states" "I" ∈ TB := tb_of 548 (by rfl) (by rfl)
set_option maxRecDepth 20000 in
theorem wy_X6_told : Cond.lays "StrideBanksModel" "StrideBanksModel" "told" "I" ∈ TB := tb_of 550 (by rfl) (by rfl)
set_option maxRecDepth 20000 in
theorem wy_X6_at : Cond.lays "StrideBanksModel" "StrideBanksModel" "at" "I" ∈ TB := tb_of 552 (by rfl) (by rfl)
theorem uw_X6 : ∀ w ∈ u_ws RX6 TX6 12, w ∈ TB := (List.forall_mem_cons.mpr ⟨wy_X6_s, List.forall_mem_cons.mpr ⟨wy_X6_spare, List.forall_mem_cons.mpr ⟨wy_X6_trial, List.forall_mem_cons.mpr ⟨wy_X6_before, List.forall_mem_cons.mpr ⟨wy_X6_saved, List.forall_mem_cons.mpr ⟨wy_X6_isSaved, List.forall_mem_cons.mpr ⟨wy_X6_read, List.forall_mem_cons.mpr ⟨wy_X6_pad, List.forall_mem_cons.mpr ⟨wy_X6_length, List.forall_mem_cons.mpr ⟨wy_X6_states, List.forall_mem_cons.mpr ⟨wy_X6_told, List.forall_mem_cons.mpr ⟨wy_X6_at, fun _ h => absurd h List.not_mem_nil⟩⟩⟩⟩⟩⟩⟩⟩⟩⟩⟩⟩ : ∀ w ∈ ([Cond.laysFinal RX6 "StrideBanksModel" "s" "[I", Cond.laysFinal RX6 "StrideBanksModel" "spare" "[I", Cond.laysFinal RX6 "StrideBanksModel" "trial" "[I", Cond.laysFinal RX6 "StrideBanksModel" "before" "[I", Cond.laysFinal RX6 "StrideBanksModel" "saved" "[I", Cond.laysFinal RX6 "StrideBanksModel" "isSaved" "[Z", Cond.laysFinal RX6 "StrideBanksModel" "read" "[I", Cond.laysFinal RX6 "StrideBanksModel" "pad" "[C", Cond.lays RX6 "StrideBanksModel" "length" "I", Cond.lays RX6 "StrideBanksModel" "states" "I", Cond.lays RX6 "StrideBanksModel" "told" "I", Cond.lays RX6 "StrideBanksModel" "at" "I"] : List Cond), w ∈ TB)
