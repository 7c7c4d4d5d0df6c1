section
-- ===== PART A: goes FIRST, ahead of the names: the tables' words, and 'selects' of the private methods out of them =====
/-- a private method of a class that the tables say can be made, by its rows of tables_1 -/
def lw_okq (q : MethodName × Nat) : Prop := (q.1.cls ≠ "java/lang/invoke/MethodHandle" ∧ q.1.cls ≠ "java/lang/invoke/VarHandle") ∧ Cond.instantiable q.1.cls q.2 ∈ tables_1 ∧ Cond.privateMethod q.1 ∈ tables_1 ∧ Cond.instanceMethod q.1 ∈ tables_1
theorem lw_p0 : lw_okq (⟨"QuarrelWays$Town", "write", "(III)V"⟩, 6) := ⟨⟨by decide +kernel, by decide +kernel⟩, List.mem_of_getElem? (i := 22) (by decide +kernel), List.mem_of_getElem? (i := 28) (by decide +kernel), List.mem_of_getElem? (i := 29) (by decide +kernel)⟩
theorem lw_p1 : lw_okq (⟨"QuarrelWays$History", "note", "(LQuarrelWays$Town;)V"⟩, 3) := ⟨⟨by decide +kernel, by decide +kernel⟩, List.mem_of_getElem? (i := 53) (by decide +kernel), List.mem_of_getElem? (i := 118) (by decide +kernel), List.mem_of_getElem? (i := 119) (by decide +kernel)⟩
theorem lw_p2 : lw_okq (⟨"QuarrelWays$History", "stateAt", "(I)LQuarrelWays$Town;"⟩, 3) := ⟨⟨by decide +kernel, by decide +kernel⟩, List.mem_of_getElem? (i := 53) (by decide +kernel), List.mem_of_getElem? (i := 122) (by decide +kernel), List.mem_of_getElem? (i := 123) (by decide +kernel)⟩
theorem lw_p3 : lw_okq (⟨"QuarrelWays$History", "placeOf", "(I)I"⟩, 3) := ⟨⟨by decide +kernel, by decide +kernel⟩, List.mem_of_getElem? (i := 53) (by decide +kernel), List.mem_of_getElem? (i := 126) (by decide +kernel), List.mem_of_getElem? (i := 127) (by decide +kernel)⟩
theorem lw_p4 : lw_okq (⟨"QuarrelWays$Town", "become", "(LQuarrelWays$Town;)V"⟩, 6) := ⟨⟨by decide +kernel, by decide +kernel⟩, List.mem_of_getElem? (i := 22) (by decide +kernel), List.mem_of_getElem? (i := 133) (by decide +kernel), List.mem_of_getElem? (i := 134) (by decide +kernel)⟩
theorem lw_p5 : lw_okq (⟨"QuarrelWays$Town", "changeSetting", "(II)I"⟩, 6) := ⟨⟨by decide +kernel, by decide +kernel⟩, List.mem_of_getElem? (i := 22) (by decide +kernel), List.mem_of_getElem? (i := 143) (by decide +kernel), List.mem_of_getElem? (i := 144) (by decide +kernel)⟩
theorem lw_p6 : lw_okq (⟨"QuarrelWays$Town", "read", "(II)I"⟩, 6) := ⟨⟨by decide +kernel, by decide +kernel⟩, List.mem_of_getElem? (i := 22) (by decide +kernel), List.mem_of_getElem? (i := 151) (by decide +kernel), List.mem_of_getElem? (i := 152) (by decide +kernel)⟩
theorem lw_p7 : lw_okq (⟨"QuarrelWays$History", "keepUnlessError", "(I)I"⟩, 3) := ⟨⟨by decide +kernel, by decide +kernel⟩, List.mem_of_getElem? (i := 53) (by decide +kernel), List.mem_of_getElem? (i := 155) (by decide +kernel), List.mem_of_getElem? (i := 156) (by decide +kernel)⟩
theorem lw_p8 : lw_okq (⟨"QuarrelWays$Town", "addPerson", "(II)I"⟩, 6) := ⟨⟨by decide +kernel, by decide +kernel⟩, List.mem_of_getElem? (i := 22) (by decide +kernel), List.mem_of_getElem? (i := 166) (by decide +kernel), List.mem_of_getElem? (i := 167) (by decide +kernel)⟩
theorem lw_p9 : lw_okq (⟨"QuarrelWays$Town", "takeSecond", "(II)I"⟩, 6) := ⟨⟨by decide +kernel, by decide +kernel⟩, List.mem_of_getElem? (i := 22) (by decide +kernel), List.mem_of_getElem? (i := 177) (by decide +kernel), List.mem_of_getElem? (i := 178) (by decide +kernel)⟩
theorem lw_p10 : lw_okq (⟨"QuarrelWays$Town", "hasPerson", "(I)Z"⟩, 6) := ⟨⟨by decide +kernel, by decide +kernel⟩, List.mem_of_getElem? (i := 22) (by decide +kernel), List.mem_of_getElem? (i := 181) (by decide +kernel), List.mem_of_getElem? (i := 182) (by decide +kernel)⟩
theorem lw_p11 : lw_okq (⟨"QuarrelWays$Town", "allowOrBar", "(I)I"⟩, 6) := ⟨⟨by decide +kernel, by decide +kernel⟩, List.mem_of_getElem? (i := 22) (by decide +kernel), List.mem_of_getElem? (i := 189) (by decide +kernel), List.mem_of_getElem? (i := 190) (by decide +kernel)⟩
theorem lw_p12 : lw_okq (⟨"QuarrelWays$Town", "addQuarrel", "(III)I"⟩, 6) := ⟨⟨by decide +kernel, by decide +kernel⟩, List.mem_of_getElem? (i := 22) (by decide +kernel), List.mem_of_getElem? (i := 197) (by decide +kernel), List.mem_of_getElem? (i := 198) (by decide +kernel)⟩
theorem lw_p13 : lw_okq (⟨"QuarrelWays$Town", "errorOfInsult", "(III)I"⟩, 6) := ⟨⟨by decide +kernel, by decide +kernel⟩, List.mem_of_getElem? (i := 22) (by decide +kernel), List.mem_of_getElem? (i := 201) (by decide +kernel), List.mem_of_getElem? (i := 202) (by decide +kernel)⟩
theorem lw_p14 : lw_okq (⟨"QuarrelWays$Town", "haveOpenQuarrel", "(II)Z"⟩, 6) := ⟨⟨by decide +kernel, by decide +kernel⟩, List.mem_of_getElem? (i := 22) (by decide +kernel), List.mem_of_getElem? (i := 208) (by decide +kernel), List.mem_of_getElem? (i := 209) (by decide +kernel)⟩
theorem lw_p15 : lw_okq (⟨"QuarrelWays$Town", "isOpen", "(I)Z"⟩, 6) := ⟨⟨by decide +kernel, by decide +kernel⟩, List.mem_of_getElem? (i := 22) (by decide +kernel), List.mem_of_getElem? (i := 212) (by decide +kernel), List.mem_of_getElem? (i := 213) (by decide +kernel)⟩
def lw_privs_1 : List (MethodName × Nat) := [(⟨"QuarrelWays$Town", "write", "(III)V"⟩, 6), (⟨"QuarrelWays$History", "note", "(LQuarrelWays$Town;)V"⟩, 3), (⟨"QuarrelWays$History", "stateAt", "(I)LQuarrelWays$Town;"⟩, 3), (⟨"QuarrelWays$History", "placeOf", "(I)I"⟩, 3), (⟨"QuarrelWays$Town", "become", "(LQuarrelWays$Town;)V"⟩, 6), (⟨"QuarrelWays$Town", "changeSetting", "(II)I"⟩, 6), (⟨"QuarrelWays$Town", "read", "(II)I"⟩, 6), (⟨"QuarrelWays$History", "keepUnlessError", "(I)I"⟩, 3), (⟨"QuarrelWays$Town", "addPerson", "(II)I"⟩, 6), (⟨"QuarrelWays$Town", "takeSecond", "(II)I"⟩, 6), (⟨"QuarrelWays$Town", "hasPerson", "(I)Z"⟩, 6), (⟨"QuarrelWays$Town", "allowOrBar", "(I)I"⟩, 6), (⟨"QuarrelWays$Town", "addQuarrel", "(III)I"⟩, 6), (⟨"QuarrelWays$Town", "errorOfInsult", "(III)I"⟩, 6), (⟨"QuarrelWays$Town", "haveOpenQuarrel", "(II)Z"⟩, 6), (⟨"QuarrelWays$Town", "isOpen", "(I)Z"⟩, 6)]
theorem lw_r1 : ∀ q ∈ lw_privs_1, lw_okq q := List.forall_mem_cons.mpr ⟨lw_p0, List.forall_mem_cons.mpr ⟨lw_p1, List.forall_mem_cons.mpr ⟨lw_p2, List.forall_mem_cons.mpr ⟨lw_p3, List.forall_mem_cons.mpr ⟨lw_p4, List.forall_mem_cons.mpr ⟨lw_p5, List.forall_mem_cons.mpr ⟨lw_p6, List.forall_mem_cons.mpr ⟨lw_p7, List.forall_mem_cons.mpr ⟨lw_p8, List.forall_mem_cons.mpr ⟨lw_p9, List.forall_mem_cons.mpr ⟨lw_p10, List.forall_mem_cons.mpr ⟨lw_p11, List.forall_mem_cons.mpr ⟨lw_p12, List.forall_mem_cons.mpr ⟨lw_p13, List.forall_mem_cons.mpr ⟨lw_p14, List.forall_mem_cons.mpr ⟨lw_p15, fun _ h => absurd h List.not_mem_nil⟩⟩⟩⟩⟩⟩⟩⟩⟩⟩⟩⟩⟩⟩⟩⟩
theorem lw_p16 : lw_okq (⟨"QuarrelWays$Town", "addEvent", "(II)V"⟩, 6) := ⟨⟨by decide +kernel, by decide +kernel⟩, List.mem_of_getElem? (i := 22) (by decide +kernel), List.mem_of_getElem? (i := 219) (by decide +kernel), List.mem_of_getElem? (i := 220) (by decide +kernel)⟩
theorem lw_p17 : lw_okq (⟨"QuarrelWays$Town", "settleBy", "(II)I"⟩, 6) := ⟨⟨by decide +kernel, by decide +kernel⟩, List.mem_of_getElem? (i := 22) (by decide +kernel), List.mem_of_getElem? (i := 228) (by decide +kernel), List.mem_of_getElem? (i := 229) (by decide +kernel)⟩
theorem lw_p18 : lw_okq (⟨"QuarrelWays$Town", "hasQuarrel", "(I)Z"⟩, 6) := ⟨⟨by decide +kernel, by decide +kernel⟩, List.mem_of_getElem? (i := 22) (by decide +kernel), List.mem_of_getElem? (i := 232) (by decide +kernel), List.mem_of_getElem? (i := 233) (by decide +kernel)⟩
theorem lw_p19 : lw_okq (⟨"QuarrelWays$Town", "waysOf", "(I)I"⟩, 6) := ⟨⟨by decide +kernel, by decide +kernel⟩, List.mem_of_getElem? (i := 22) (by decide +kernel), List.mem_of_getElem? (i := 236) (by decide +kernel), List.mem_of_getElem? (i := 237) (by decide +kernel)⟩
theorem lw_p20 : lw_okq (⟨"QuarrelWays$Town", "hoursSince", "(I)I"⟩, 6) := ⟨⟨by decide +kernel, by decide +kernel⟩, List.mem_of_getElem? (i := 22) (by decide +kernel), List.mem_of_getElem? (i := 240) (by decide +kernel), List.mem_of_getElem? (i := 241) (by decide +kernel)⟩
theorem lw_p21 : lw_okq (⟨"QuarrelWays$Town", "waysBetween", "(IIII)I"⟩, 6) := ⟨⟨by decide +kernel, by decide +kernel⟩, List.mem_of_getElem? (i := 22) (by decide +kernel), List.mem_of_getElem? (i := 244) (by decide +kernel), List.mem_of_getElem? (i := 245) (by decide +kernel)⟩
theorem lw_p22 : lw_okq (⟨"QuarrelWays$Town", "secondsCanSettle", "(III)Z"⟩, 6) := ⟨⟨by decide +kernel, by decide +kernel⟩, List.mem_of_getElem? (i := 22) (by decide +kernel), List.mem_of_getElem? (i := 248) (by decide +kernel), List.mem_of_getElem? (i := 249) (by decide +kernel)⟩
theorem lw_p23 : lw_okq (⟨"QuarrelWays$Town", "hoursToCool", "(I)I"⟩, 6) := ⟨⟨by decide +kernel, by decide +kernel⟩, List.mem_of_getElem? (i := 22) (by decide +kernel), List.mem_of_getElem? (i := 252) (by decide +kernel), List.mem_of_getElem? (i := 253) (by decide +kernel)⟩
theorem lw_p24 : lw_okq (⟨"QuarrelWays$Town", "oathLeft", "(I)I"⟩, 6) := ⟨⟨by decide +kernel, by decide +kernel⟩, List.mem_of_getElem? (i := 22) (by decide +kernel), List.mem_of_getElem? (i := 256) (by decide +kernel), List.mem_of_getElem? (i := 257) (by decide +kernel)⟩
theorem lw_p25 : lw_okq (⟨"QuarrelWays$Town", "peaceLeft", "(II)I"⟩, 6) := ⟨⟨by decide +kernel, by decide +kernel⟩, List.mem_of_getElem? (i := 22) (by decide +kernel), List.mem_of_getElem? (i := 263) (by decide +kernel), List.mem_of_getElem? (i := 264) (by decide +kernel)⟩
theorem lw_p26 : lw_okq (⟨"QuarrelWays$Town", "addPoints", "(III)V"⟩, 6) := ⟨⟨by decide +kernel, by decide +kernel⟩, List.mem_of_getElem? (i := 22) (by decide +kernel), List.mem_of_getElem? (i := 267) (by decide +kernel), List.mem_of_getElem? (i := 268) (by decide +kernel)⟩
theorem lw_p27 : lw_okq (⟨"QuarrelWays$Town", "quarrelsWith", "(II)I"⟩, 6) := ⟨⟨by decide +kernel, by decide +kernel⟩, List.mem_of_getElem? (i := 22) (by decide +kernel), List.mem_of_getElem? (i := 271) (by decide +kernel), List.mem_of_getElem? (i := 272) (by decide +kernel)⟩
theorem lw_p28 : lw_okq (⟨"QuarrelWays$Town", "duel", "(I)I"⟩, 6) := ⟨⟨by decide +kernel, by decide +kernel⟩, List.mem_of_getElem? (i := 22) (by decide +kernel), List.mem_of_getElem? (i := 279) (by decide +kernel), List.mem_of_getElem? (i := 280) (by decide +kernel)⟩
theorem lw_p29 : lw_okq (⟨"QuarrelWays$Town", "whyNotDue", "(II)I"⟩, 6) := ⟨⟨by decide +kernel, by decide +kernel⟩, List.mem_of_getElem? (i := 22) (by decide +kernel), List.mem_of_getElem? (i := 283) (by decide +kernel), List.mem_of_getElem? (i := 284) (by decide +kernel)⟩
theorem lw_p30 : lw_okq (⟨"QuarrelWays$Town", "winnerOf", "(I)I"⟩, 6) := ⟨⟨by decide +kernel, by decide +kernel⟩, List.mem_of_getElem? (i := 22) (by decide +kernel), List.mem_of_getElem? (i := 287) (by decide +kernel), List.mem_of_getElem? (i := 288) (by decide +kernel)⟩
theorem lw_p31 : lw_okq (⟨"QuarrelWays$Town", "skillOf", "(I)I"⟩, 6) := ⟨⟨by decide +kernel, by decide +kernel⟩, List.mem_of_getElem? (i := 22) (by decide +kernel), List.mem_of_getElem? (i := 291) (by decide +kernel), List.mem_of_getElem? (i := 292) (by decide +kernel)⟩
def lw_privs_2 : List (MethodName × Nat) := [(⟨"QuarrelWays$Town", "addEvent", "(II)V"⟩, 6), (⟨"QuarrelWays$Town", "settleBy", "(II)I"⟩, 6), (⟨"QuarrelWays$Town", "hasQuarrel", "(I)Z"⟩, 6), (⟨"QuarrelWays$Town", "waysOf", "(I)I"⟩, 6), (⟨"QuarrelWays$Town", "hoursSince", "(I)I"⟩, 6), (⟨"QuarrelWays$Town", "waysBetween", "(IIII)I"⟩, 6), (⟨"QuarrelWays$Town", "secondsCanSettle", "(III)Z"⟩, 6), (⟨"QuarrelWays$Town", "hoursToCool", "(I)I"⟩, 6), (⟨"QuarrelWays$Town", "oathLeft", "(I)I"⟩, 6), (⟨"QuarrelWays$Town", "peaceLeft", "(II)I"⟩, 6), (⟨"QuarrelWays$Town", "addPoints", "(III)V"⟩, 6), (⟨"QuarrelWays$Town", "quarrelsWith", "(II)I"⟩, 6), (⟨"QuarrelWays$Town", "duel", "(I)I"⟩, 6), (⟨"QuarrelWays$Town", "whyNotDue", "(II)I"⟩, 6), (⟨"QuarrelWays$Town", "winnerOf", "(I)I"⟩, 6), (⟨"QuarrelWays$Town", "skillOf", "(I)I"⟩, 6)]
theorem lw_r2 : ∀ q ∈ lw_privs_2, lw_okq q := List.forall_mem_cons.mpr ⟨lw_p16, List.forall_mem_cons.mpr ⟨lw_p17, List.forall_mem_cons.mpr ⟨lw_p18, List.forall_mem_cons.mpr ⟨lw_p19, List.forall_mem_cons.mpr ⟨lw_p20, List.forall_mem_cons.mpr ⟨lw_p21, List.forall_mem_cons.mpr ⟨lw_p22, List.forall_mem_cons.mpr ⟨lw_p23, List.forall_mem_cons.mpr ⟨lw_p24, List.forall_mem_cons.mpr ⟨lw_p25, List.forall_mem_cons.mpr ⟨lw_p26, List.forall_mem_cons.mpr ⟨lw_p27, List.forall_mem_cons.mpr ⟨lw_p28, List.forall_mem_cons.mpr ⟨lw_p29, List.forall_mem_cons.mpr ⟨lw_p30, List.forall_mem_cons.mpr ⟨lw_p31, fun _ h => absurd h List.not_mem_nil⟩⟩⟩⟩⟩⟩⟩⟩⟩⟩⟩⟩⟩⟩⟩⟩
theorem lw_p32 : lw_okq (⟨"QuarrelWays$Town", "bindByOath", "(I)V"⟩, 6) := ⟨⟨by decide +kernel, by decide +kernel⟩, List.mem_of_getElem? (i := 22) (by decide +kernel), List.mem_of_getElem? (i := 295) (by decide +kernel), List.mem_of_getElem? (i := 296) (by decide +kernel)⟩
theorem lw_p33 : lw_okq (⟨"QuarrelWays$Town", "takeOath", "(I)I"⟩, 6) := ⟨⟨by decide +kernel, by decide +kernel⟩, List.mem_of_getElem? (i := 22) (by decide +kernel), List.mem_of_getElem? (i := 303) (by decide +kernel), List.mem_of_getElem? (i := 304) (by decide +kernel)⟩
theorem lw_p34 : lw_okq (⟨"QuarrelWays$Town", "moveOn", "(I)I"⟩, 6) := ⟨⟨by decide +kernel, by decide +kernel⟩, List.mem_of_getElem? (i := 22) (by decide +kernel), List.mem_of_getElem? (i := 311) (by decide +kernel), List.mem_of_getElem? (i := 312) (by decide +kernel)⟩
theorem lw_p35 : lw_okq (⟨"QuarrelWays$Town", "dueQuarrels", "()I"⟩, 6) := ⟨⟨by decide +kernel, by decide +kernel⟩, List.mem_of_getElem? (i := 22) (by decide +kernel), List.mem_of_getElem? (i := 316) (by decide +kernel), List.mem_of_getElem? (i := 317) (by decide +kernel)⟩
theorem lw_p36 : lw_okq (⟨"QuarrelWays$Town", "tellPerson", "(II)I"⟩, 6) := ⟨⟨by decide +kernel, by decide +kernel⟩, List.mem_of_getElem? (i := 22) (by decide +kernel), List.mem_of_getElem? (i := 330) (by decide +kernel), List.mem_of_getElem? (i := 331) (by decide +kernel)⟩
theorem lw_p37 : lw_okq (⟨"QuarrelWays$Town", "duelsOf", "(I)I"⟩, 6) := ⟨⟨by decide +kernel, by decide +kernel⟩, List.mem_of_getElem? (i := 22) (by decide +kernel), List.mem_of_getElem? (i := 334) (by decide +kernel), List.mem_of_getElem? (i := 335) (by decide +kernel)⟩
theorem lw_p38 : lw_okq (⟨"QuarrelWays$Town", "personsWithSecond", "(I)I"⟩, 6) := ⟨⟨by decide +kernel, by decide +kernel⟩, List.mem_of_getElem? (i := 22) (by decide +kernel), List.mem_of_getElem? (i := 338) (by decide +kernel), List.mem_of_getElem? (i := 339) (by decide +kernel)⟩
theorem lw_p39 : lw_okq (⟨"QuarrelWays$Town", "tellQuarrel", "(II)I"⟩, 6) := ⟨⟨by decide +kernel, by decide +kernel⟩, List.mem_of_getElem? (i := 22) (by decide +kernel), List.mem_of_getElem? (i := 346) (by decide +kernel), List.mem_of_getElem? (i := 347) (by decide +kernel)⟩
theorem lw_p40 : lw_okq (⟨"QuarrelWays$Town", "tellEvent", "(II)I"⟩, 6) := ⟨⟨by decide +kernel, by decide +kernel⟩, List.mem_of_getElem? (i := 22) (by decide +kernel), List.mem_of_getElem? (i := 354) (by decide +kernel), List.mem_of_getElem? (i := 355) (by decide +kernel)⟩
theorem lw_p41 : lw_okq (⟨"QuarrelWays$Town", "quarrelThatPresses", "(I)I"⟩, 6) := ⟨⟨by decide +kernel, by decide +kernel⟩, List.mem_of_getElem? (i := 22) (by decide +kernel), List.mem_of_getElem? (i := 362) (by decide +kernel), List.mem_of_getElem? (i := 363) (by decide +kernel)⟩
theorem lw_p42 : lw_okq (⟨"QuarrelWays$Town", "quarrelsBefore", "(I)I"⟩, 6) := ⟨⟨by decide +kernel, by decide +kernel⟩, List.mem_of_getElem? (i := 22) (by decide +kernel), List.mem_of_getElem? (i := 366) (by decide +kernel), List.mem_of_getElem? (i := 367) (by decide +kernel)⟩
theorem lw_p43 : lw_okq (⟨"QuarrelWays$Town", "pressureOf", "(I)I"⟩, 6) := ⟨⟨by decide +kernel, by decide +kernel⟩, List.mem_of_getElem? (i := 22) (by decide +kernel), List.mem_of_getElem? (i := 370) (by decide +kernel), List.mem_of_getElem? (i := 371) (by decide +kernel)⟩
theorem lw_p44 : lw_okq (⟨"QuarrelWays$Town", "insultsFrom", "(I)I"⟩, 6) := ⟨⟨by decide +kernel, by decide +kernel⟩, List.mem_of_getElem? (i := 22) (by decide +kernel), List.mem_of_getElem? (i := 378) (by decide +kernel), List.mem_of_getElem? (i := 379) (by decide +kernel)⟩
theorem lw_p45 : lw_okq (⟨"QuarrelWays$Town", "tellNumber", "(I)I"⟩, 6) := ⟨⟨by decide +kernel, by decide +kernel⟩, List.mem_of_getElem? (i := 22) (by decide +kernel), List.mem_of_getElem? (i := 386) (by decide +kernel), List.mem_of_getElem? (i := 387) (by decide +kernel)⟩
theorem lw_p46 : lw_okq (⟨"QuarrelWays$Town", "openQuarrels", "()I"⟩, 6) := ⟨⟨by decide +kernel, by decide +kernel⟩, List.mem_of_getElem? (i := 22) (by decide +kernel), List.mem_of_getElem? (i := 390) (by decide +kernel), List.mem_of_getElem? (i := 391) (by decide +kernel)⟩
theorem lw_p47 : lw_okq (⟨"QuarrelWays$Town", "personsUnderOath", "()I"⟩, 6) := ⟨⟨by decide +kernel, by decide +kernel⟩, List.mem_of_getElem? (i := 22) (by decide +kernel), List.mem_of_getElem? (i := 395) (by decide +kernel), List.mem_of_getElem? (i := 396) (by decide +kernel)⟩
def lw_privs_3 : List (MethodName × Nat) := [(⟨"QuarrelWays$Town", "bindByOath", "(I)V"⟩, 6), (⟨"QuarrelWays$Town", "takeOath", "(I)I"⟩, 6), (⟨"QuarrelWays$Town", "moveOn", "(I)I"⟩, 6), (⟨"QuarrelWays$Town", "dueQuarrels", "()I"⟩, 6), (⟨"QuarrelWays$Town", "tellPerson", "(II)I"⟩, 6), (⟨"QuarrelWays$Town", "duelsOf", "(I)I"⟩, 6), (⟨"QuarrelWays$Town", "personsWithSecond", "(I)I"⟩, 6), (⟨"QuarrelWays$Town", "tellQuarrel", "(II)I"⟩, 6), (⟨"QuarrelWays$Town", "tellEvent", "(II)I"⟩, 6), (⟨"QuarrelWays$Town", "quarrelThatPresses", "(I)I"⟩, 6), (⟨"QuarrelWays$Town", "quarrelsBefore", "(I)I"⟩, 6), (⟨"QuarrelWays$Town", "pressureOf", "(I)I"⟩, 6), (⟨"QuarrelWays$Town", "insultsFrom", "(I)I"⟩, 6), (⟨"QuarrelWays$Town", "tellNumber", "(I)I"⟩, 6), (⟨"QuarrelWays$Town", "openQuarrels", "()I"⟩, 6), (⟨"QuarrelWays$Town", "personsUnderOath", "()I"⟩, 6)]
theorem lw_r3 : ∀ q ∈ lw_privs_3, lw_okq q := List.forall_mem_cons.mpr ⟨lw_p32, List.forall_mem_cons.mpr ⟨lw_p33, List.forall_mem_cons.mpr ⟨lw_p34, List.forall_mem_cons.mpr ⟨lw_p35, List.forall_mem_cons.mpr ⟨lw_p36, List.forall_mem_cons.mpr ⟨lw_p37, List.forall_mem_cons.mpr ⟨lw_p38, List.forall_mem_cons.mpr ⟨lw_p39, List.forall_mem_cons.mpr ⟨lw_p40, List.forall_mem_cons.mpr ⟨lw_p41, List.forall_mem_cons.mpr ⟨lw_p42, List.forall_mem_cons.mpr ⟨lw_p43, List.forall_mem_cons.mpr ⟨lw_p44, List.forall_mem_cons.mpr ⟨lw_p45, List.forall_mem_cons.mpr ⟨lw_p46, List.forall_mem_cons.mpr ⟨lw_p47, fun _ h => absurd h List.not_mem_nil⟩⟩⟩⟩⟩⟩⟩⟩⟩⟩⟩⟩⟩⟩⟩⟩
theorem lw_p48 : lw_okq (⟨"QuarrelWays$Town", "hoursUntilWay", "(I)I"⟩, 6) := ⟨⟨by decide +kernel, by decide +kernel⟩, List.mem_of_getElem? (i := 22) (by decide +kernel), List.mem_of_getElem? (i := 418) (by decide +kernel), List.mem_of_getElem? (i := 419) (by decide +kernel)⟩
theorem lw_p49 : lw_okq (⟨"QuarrelWays$Town", "allows", "(I)Z"⟩, 6) := ⟨⟨by decide +kernel, by decide +kernel⟩, List.mem_of_getElem? (i := 22) (by decide +kernel), List.mem_of_getElem? (i := 422) (by decide +kernel), List.mem_of_getElem? (i := 423) (by decide +kernel)⟩
theorem lw_p50 : lw_okq (⟨"QuarrelWays$Town", "hoursUntilCool", "(I)I"⟩, 6) := ⟨⟨by decide +kernel, by decide +kernel⟩, List.mem_of_getElem? (i := 22) (by decide +kernel), List.mem_of_getElem? (i := 426) (by decide +kernel), List.mem_of_getElem? (i := 427) (by decide +kernel)⟩
theorem lw_p51 : lw_okq (⟨"QuarrelWays$Town", "hoursUntilDuel", "(I)I"⟩, 6) := ⟨⟨by decide +kernel, by decide +kernel⟩, List.mem_of_getElem? (i := 22) (by decide +kernel), List.mem_of_getElem? (i := 437) (by decide +kernel), List.mem_of_getElem? (i := 438) (by decide +kernel)⟩
theorem lw_p52 : lw_okq (⟨"QuarrelWays$Pad", "append", "(JI)Z"⟩, 6) := ⟨⟨by decide +kernel, by decide +kernel⟩, List.mem_of_getElem? (i := 73) (by decide +kernel), List.mem_of_getElem? (i := 462) (by decide +kernel), List.mem_of_getElem? (i := 463) (by decide +kernel)⟩
theorem lw_p53 : lw_okq (⟨"QuarrelWays$Pad", "addSign", "(I)V"⟩, 6) := ⟨⟨by decide +kernel, by decide +kernel⟩, List.mem_of_getElem? (i := 73) (by decide +kernel), List.mem_of_getElem? (i := 466) (by decide +kernel), List.mem_of_getElem? (i := 467) (by decide +kernel)⟩
theorem lw_p54 : lw_okq (⟨"QuarrelWays$Pad", "firstFault", "()I"⟩, 6) := ⟨⟨by decide +kernel, by decide +kernel⟩, List.mem_of_getElem? (i := 73) (by decide +kernel), List.mem_of_getElem? (i := 478) (by decide +kernel), List.mem_of_getElem? (i := 479) (by decide +kernel)⟩
theorem lw_p55 : lw_okq (⟨"QuarrelWays$Pad", "readOrder", "()Z"⟩, 6) := ⟨⟨by decide +kernel, by decide +kernel⟩, List.mem_of_getElem? (i := 73) (by decide +kernel), List.mem_of_getElem? (i := 482) (by decide +kernel), List.mem_of_getElem? (i := 483) (by decide +kernel)⟩
theorem lw_p56 : lw_okq (⟨"QuarrelWays$Pad", "signAt", "(I)I"⟩, 6) := ⟨⟨by decide +kernel, by decide +kernel⟩, List.mem_of_getElem? (i := 73) (by decide +kernel), List.mem_of_getElem? (i := 486) (by decide +kernel), List.mem_of_getElem? (i := 487) (by decide +kernel)⟩
theorem lw_p57 : lw_okq (⟨"QuarrelWays$Pad", "readPart", "(C)Z"⟩, 6) := ⟨⟨by decide +kernel, by decide +kernel⟩, List.mem_of_getElem? (i := 73) (by decide +kernel), List.mem_of_getElem? (i := 552) (by decide +kernel), List.mem_of_getElem? (i := 553) (by decide +kernel)⟩
theorem lw_p58 : lw_okq (⟨"QuarrelWays$Pad", "readNumber", "(I)Z"⟩, 6) := ⟨⟨by decide +kernel, by decide +kernel⟩, List.mem_of_getElem? (i := 73) (by decide +kernel), List.mem_of_getElem? (i := 556) (by decide +kernel), List.mem_of_getElem? (i := 557) (by decide +kernel)⟩
theorem lw_p59 : lw_okq (⟨"QuarrelWays$Pad", "addNumber", "(I)V"⟩, 6) := ⟨⟨by decide +kernel, by decide +kernel⟩, List.mem_of_getElem? (i := 73) (by decide +kernel), List.mem_of_getElem? (i := 563) (by decide +kernel), List.mem_of_getElem? (i := 564) (by decide +kernel)⟩
theorem lw_p60 : lw_okq (⟨"QuarrelWays", "carryOutOrder", "()I"⟩, 4) := ⟨⟨by decide +kernel, by decide +kernel⟩, List.mem_of_getElem? (i := 14) (by decide +kernel), List.mem_of_getElem? (i := 573) (by decide +kernel), List.mem_of_getElem? (i := 574) (by decide +kernel)⟩
theorem lw_p61 : lw_okq (⟨"QuarrelWays$Pad", "number", "(I)I"⟩, 6) := ⟨⟨by decide +kernel, by decide +kernel⟩, List.mem_of_getElem? (i := 73) (by decide +kernel), List.mem_of_getElem? (i := 577) (by decide +kernel), List.mem_of_getElem? (i := 578) (by decide +kernel)⟩
theorem lw_p62 : lw_okq (⟨"QuarrelWays$Pad", "stepOverSemicolon", "()V"⟩, 6) := ⟨⟨by decide +kernel, by decide +kernel⟩, List.mem_of_getElem? (i := 73) (by decide +kernel), List.mem_of_getElem? (i := 581) (by decide +kernel), List.mem_of_getElem? (i := 582) (by decide +kernel)⟩
theorem lw_p63 : lw_okq (⟨"QuarrelWays$History", "goBack", "(LQuarrelWays$Town;)Z"⟩, 3) := ⟨⟨by decide +kernel, by decide +kernel⟩, List.mem_of_getElem? (i := 53) (by decide +kernel), List.mem_of_getElem? (i := 589) (by decide +kernel), List.mem_of_getElem? (i := 590) (by decide +kernel)⟩
def lw_privs_4 : List (MethodName × Nat) := [(⟨"QuarrelWays$Town", "hoursUntilWay", "(I)I"⟩, 6), (⟨"QuarrelWays$Town", "allows", "(I)Z"⟩, 6), (⟨"QuarrelWays$Town", "hoursUntilCool", "(I)I"⟩, 6), (⟨"QuarrelWays$Town", "hoursUntilDuel", "(I)I"⟩, 6), (⟨"QuarrelWays$Pad", "append", "(JI)Z"⟩, 6), (⟨"QuarrelWays$Pad", "addSign", "(I)V"⟩, 6), (⟨"QuarrelWays$Pad", "firstFault", "()I"⟩, 6), (⟨"QuarrelWays$Pad", "readOrder", "()Z"⟩, 6), (⟨"QuarrelWays$Pad", "signAt", "(I)I"⟩, 6), (⟨"QuarrelWays$Pad", "readPart", "(C)Z"⟩, 6), (⟨"QuarrelWays$Pad", "readNumber", "(I)Z"⟩, 6), (⟨"QuarrelWays$Pad", "addNumber", "(I)V"⟩, 6), (⟨"QuarrelWays", "carryOutOrder", "()I"⟩, 4), (⟨"QuarrelWays$Pad", "number", "(I)I"⟩, 6), (⟨"QuarrelWays$Pad", "stepOverSemicolon", "()V"⟩, 6), (⟨"QuarrelWays$History", "goBack", "(LQuarrelWays$Town;)Z"⟩, 3)]
theorem lw_r4 : ∀ q ∈ lw_privs_4, lw_okq q := List.forall_mem_cons.mpr ⟨lw_p48, List.forall_mem_cons.mpr ⟨lw_p49, List.forall_mem_cons.mpr ⟨lw_p50, List.forall_mem_cons.mpr ⟨lw_p51, List.forall_mem_cons.mpr ⟨lw_p52, List.forall_mem_cons.mpr ⟨lw_p53, List.forall_mem_cons.mpr ⟨lw_p54, List.forall_mem_cons.mpr ⟨lw_p55, List.forall_mem_cons.mpr ⟨lw_p56, List.forall_mem_cons.mpr ⟨lw_p57, List.forall_mem_cons.mpr ⟨lw_p58, List.forall_mem_cons.mpr ⟨lw_p59, List.forall_mem_cons.mpr ⟨lw_p60, List.forall_mem_cons.mpr ⟨lw_p61, List.forall_mem_cons.mpr ⟨lw_p62, List.forall_mem_cons.mpr ⟨lw_p63, fun _ h => absurd h List.not_mem_nil⟩⟩⟩⟩⟩⟩⟩⟩⟩⟩⟩⟩⟩⟩⟩⟩
theorem lw_p64 : lw_okq (⟨"QuarrelWays", "isSlot", "(I)Z"⟩, 4) := ⟨⟨by decide +kernel, by decide +kernel⟩, List.mem_of_getElem? (i := 14) (by decide +kernel), List.mem_of_getElem? (i := 597) (by decide +kernel), List.mem_of_getElem? (i := 598) (by decide +kernel)⟩
theorem lw_p65 : lw_okq (⟨"QuarrelWaysModel", "putAside", "()V"⟩, 10) := ⟨⟨by decide +kernel, by decide +kernel⟩, List.mem_of_getElem? (i := 606) (by decide +kernel), List.mem_of_getElem? (i := 651) (by decide +kernel), List.mem_of_getElem? (i := 652) (by decide +kernel)⟩
theorem lw_p66 : lw_okq (⟨"QuarrelWaysModel", "end", "(I)I"⟩, 10) := ⟨⟨by decide +kernel, by decide +kernel⟩, List.mem_of_getElem? (i := 606) (by decide +kernel), List.mem_of_getElem? (i := 655) (by decide +kernel), List.mem_of_getElem? (i := 656) (by decide +kernel)⟩
theorem lw_p67 : lw_okq (⟨"QuarrelWaysModel", "comes", "(II)I"⟩, 10) := ⟨⟨by decide +kernel, by decide +kernel⟩, List.mem_of_getElem? (i := 606) (by decide +kernel), List.mem_of_getElem? (i := 663) (by decide +kernel), List.mem_of_getElem? (i := 664) (by decide +kernel)⟩
theorem lw_p68 : lw_okq (⟨"QuarrelWaysModel", "takes", "(II)I"⟩, 10) := ⟨⟨by decide +kernel, by decide +kernel⟩, List.mem_of_getElem? (i := 606) (by decide +kernel), List.mem_of_getElem? (i := 671) (by decide +kernel), List.mem_of_getElem? (i := 672) (by decide +kernel)⟩
theorem lw_p69 : lw_okq (⟨"QuarrelWaysModel", "isPerson", "(I)Z"⟩, 10) := ⟨⟨by decide +kernel, by decide +kernel⟩, List.mem_of_getElem? (i := 606) (by decide +kernel), List.mem_of_getElem? (i := 675) (by decide +kernel), List.mem_of_getElem? (i := 676) (by decide +kernel)⟩
theorem lw_p70 : lw_okq (⟨"QuarrelWaysModel", "person0", "(II)I"⟩, 10) := ⟨⟨by decide +kernel, by decide +kernel⟩, List.mem_of_getElem? (i := 606) (by decide +kernel), List.mem_of_getElem? (i := 679) (by decide +kernel), List.mem_of_getElem? (i := 680) (by decide +kernel)⟩
theorem lw_p71 : lw_okq (⟨"QuarrelWaysModel", "turns", "(I)I"⟩, 10) := ⟨⟨by decide +kernel, by decide +kernel⟩, List.mem_of_getElem? (i := 606) (by decide +kernel), List.mem_of_getElem? (i := 687) (by decide +kernel), List.mem_of_getElem? (i := 688) (by decide +kernel)⟩
theorem lw_p72 : lw_okq (⟨"QuarrelWaysModel", "offends", "(III)I"⟩, 10) := ⟨⟨by decide +kernel, by decide +kernel⟩, List.mem_of_getElem? (i := 606) (by decide +kernel), List.mem_of_getElem? (i := 695) (by decide +kernel), List.mem_of_getElem? (i := 696) (by decide +kernel)⟩
theorem lw_p73 : lw_okq (⟨"QuarrelWaysModel", "areOfThese", "(III)Z"⟩, 10) := ⟨⟨by decide +kernel, by decide +kernel⟩, List.mem_of_getElem? (i := 606) (by decide +kernel), List.mem_of_getElem? (i := 699) (by decide +kernel), List.mem_of_getElem? (i := 700) (by decide +kernel)⟩
theorem lw_p74 : lw_okq (⟨"QuarrelWaysModel", "quarrel0", "(II)I"⟩, 10) := ⟨⟨by decide +kernel, by decide +kernel⟩, List.mem_of_getElem? (i := 606) (by decide +kernel), List.mem_of_getElem? (i := 703) (by decide +kernel), List.mem_of_getElem? (i := 704) (by decide +kernel)⟩
theorem lw_p75 : lw_okq (⟨"QuarrelWaysModel", "tell", "(II)V"⟩, 10) := ⟨⟨by decide +kernel, by decide +kernel⟩, List.mem_of_getElem? (i := 606) (by decide +kernel), List.mem_of_getElem? (i := 707) (by decide +kernel), List.mem_of_getElem? (i := 708) (by decide +kernel)⟩
theorem lw_p76 : lw_okq (⟨"QuarrelWaysModel", "settles", "(II)I"⟩, 10) := ⟨⟨by decide +kernel, by decide +kernel⟩, List.mem_of_getElem? (i := 606) (by decide +kernel), List.mem_of_getElem? (i := 715) (by decide +kernel), List.mem_of_getElem? (i := 716) (by decide +kernel)⟩
theorem lw_p77 : lw_okq (⟨"QuarrelWaysModel", "isQuarrel", "(I)Z"⟩, 10) := ⟨⟨by decide +kernel, by decide +kernel⟩, List.mem_of_getElem? (i := 606) (by decide +kernel), List.mem_of_getElem? (i := 719) (by decide +kernel), List.mem_of_getElem? (i := 720) (by decide +kernel)⟩
theorem lw_p78 : lw_okq (⟨"QuarrelWaysModel", "waysOf", "(II)I"⟩, 10) := ⟨⟨by decide +kernel, by decide +kernel⟩, List.mem_of_getElem? (i := 606) (by decide +kernel), List.mem_of_getElem? (i := 723) (by decide +kernel), List.mem_of_getElem? (i := 724) (by decide +kernel)⟩
theorem lw_p79 : lw_okq (⟨"QuarrelWaysModel", "since", "(I)I"⟩, 10) := ⟨⟨by decide +kernel, by decide +kernel⟩, List.mem_of_getElem? (i := 606) (by decide +kernel), List.mem_of_getElem? (i := 727) (by decide +kernel), List.mem_of_getElem? (i := 728) (by decide +kernel)⟩
def lw_privs_5 : List (MethodName × Nat) := [(⟨"QuarrelWays", "isSlot", "(I)Z"⟩, 4), (⟨"QuarrelWaysModel", "putAside", "()V"⟩, 10), (⟨"QuarrelWaysModel", "end", "(I)I"⟩, 10), (⟨"QuarrelWaysModel", "comes", "(II)I"⟩, 10), (⟨"QuarrelWaysModel", "takes", "(II)I"⟩, 10), (⟨"QuarrelWaysModel", "isPerson", "(I)Z"⟩, 10), (⟨"QuarrelWaysModel", "person0", "(II)I"⟩, 10), (⟨"QuarrelWaysModel", "turns", "(I)I"⟩, 10), (⟨"QuarrelWaysModel", "offends", "(III)I"⟩, 10), (⟨"QuarrelWaysModel", "areOfThese", "(III)Z"⟩, 10), (⟨"QuarrelWaysModel", "quarrel0", "(II)I"⟩, 10), (⟨"QuarrelWaysModel", "tell", "(II)V"⟩, 10), (⟨"QuarrelWaysModel", "settles", "(II)I"⟩, 10), (⟨"QuarrelWaysModel", "isQuarrel", "(I)Z"⟩, 10), (⟨"QuarrelWaysModel", "waysOf", "(II)I"⟩, 10), (⟨"QuarrelWaysModel", "since", "(I)I"⟩, 10)]
theorem lw_r5 : ∀ q ∈ lw_privs_5, lw_okq q := List.forall_mem_cons.mpr ⟨lw_p64, List.forall_mem_cons.mpr ⟨lw_p65, List.forall_mem_cons.mpr ⟨lw_p66, List.forall_mem_cons.mpr ⟨lw_p67, List.forall_mem_cons.mpr ⟨lw_p68, List.forall_mem_cons.mpr ⟨lw_p69, List.forall_mem_cons.mpr ⟨lw_p70, List.forall_mem_cons.mpr ⟨lw_p71, List.forall_mem_cons.mpr ⟨lw_p72, List.forall_mem_cons.mpr ⟨lw_p73, List.forall_mem_cons.mpr ⟨lw_p74, List.forall_mem_cons.mpr ⟨lw_p75, List.forall_mem_cons.mpr ⟨lw_p76, List.forall_mem_cons.mpr ⟨lw_p77, List.forall_mem_cons.mpr ⟨lw_p78, List.forall_mem_cons.mpr ⟨lw_p79, fun _ h => absurd h List.not_mem_nil⟩⟩⟩⟩⟩⟩⟩⟩⟩⟩⟩⟩⟩⟩⟩⟩
theorem lw_p80 : lw_okq (⟨"QuarrelWaysModel", "waysFor", "(IIIIII)I"⟩, 10) := ⟨⟨by decide +kernel, by decide +kernel⟩, List.mem_of_getElem? (i := 606) (by decide +kernel), List.mem_of_getElem? (i := 731) (by decide +kernel), List.mem_of_getElem? (i := 732) (by decide +kernel)⟩
theorem lw_p81 : lw_okq (⟨"QuarrelWaysModel", "haveSeconds", "(III)Z"⟩, 10) := ⟨⟨by decide +kernel, by decide +kernel⟩, List.mem_of_getElem? (i := 606) (by decide +kernel), List.mem_of_getElem? (i := 735) (by decide +kernel), List.mem_of_getElem? (i := 736) (by decide +kernel)⟩
theorem lw_p82 : lw_okq (⟨"QuarrelWaysModel", "isUnderOath", "(II)Z"⟩, 10) := ⟨⟨by decide +kernel, by decide +kernel⟩, List.mem_of_getElem? (i := 606) (by decide +kernel), List.mem_of_getElem? (i := 739) (by decide +kernel), List.mem_of_getElem? (i := 740) (by decide +kernel)⟩
theorem lw_p83 : lw_okq (⟨"QuarrelWaysModel", "hasPeace", "(IIII)Z"⟩, 10) := ⟨⟨by decide +kernel, by decide +kernel⟩, List.mem_of_getElem? (i := 606) (by decide +kernel), List.mem_of_getElem? (i := 743) (by decide +kernel), List.mem_of_getElem? (i := 744) (by decide +kernel)⟩
theorem lw_p84 : lw_okq (⟨"QuarrelWaysModel", "change", "(III)V"⟩, 10) := ⟨⟨by decide +kernel, by decide +kernel⟩, List.mem_of_getElem? (i := 606) (by decide +kernel), List.mem_of_getElem? (i := 747) (by decide +kernel), List.mem_of_getElem? (i := 748) (by decide +kernel)⟩
theorem lw_p85 : lw_okq (⟨"QuarrelWaysModel", "quarrelsThat", "(I)I"⟩, 10) := ⟨⟨by decide +kernel, by decide +kernel⟩, List.mem_of_getElem? (i := 606) (by decide +kernel), List.mem_of_getElem? (i := 751) (by decide +kernel), List.mem_of_getElem? (i := 752) (by decide +kernel)⟩
theorem lw_p86 : lw_okq (⟨"QuarrelWaysModel", "fights", "(I)I"⟩, 10) := ⟨⟨by decide +kernel, by decide +kernel⟩, List.mem_of_getElem? (i := 606) (by decide +kernel), List.mem_of_getElem? (i := 762) (by decide +kernel), List.mem_of_getElem? (i := 763) (by decide +kernel)⟩
theorem lw_p87 : lw_okq (⟨"QuarrelWaysModel", "reason", "(II)I"⟩, 10) := ⟨⟨by decide +kernel, by decide +kernel⟩, List.mem_of_getElem? (i := 606) (by decide +kernel), List.mem_of_getElem? (i := 766) (by decide +kernel), List.mem_of_getElem? (i := 767) (by decide +kernel)⟩
theorem lw_p88 : lw_okq (⟨"QuarrelWaysModel", "winnerOf", "(I)I"⟩, 10) := ⟨⟨by decide +kernel, by decide +kernel⟩, List.mem_of_getElem? (i := 606) (by decide +kernel), List.mem_of_getElem? (i := 770) (by decide +kernel), List.mem_of_getElem? (i := 771) (by decide +kernel)⟩
theorem lw_p89 : lw_okq (⟨"QuarrelWaysModel", "skill", "(I)I"⟩, 10) := ⟨⟨by decide +kernel, by decide +kernel⟩, List.mem_of_getElem? (i := 606) (by decide +kernel), List.mem_of_getElem? (i := 774) (by decide +kernel), List.mem_of_getElem? (i := 775) (by decide +kernel)⟩
theorem lw_p90 : lw_okq (⟨"QuarrelWaysModel", "oath", "(I)V"⟩, 10) := ⟨⟨by decide +kernel, by decide +kernel⟩, List.mem_of_getElem? (i := 606) (by decide +kernel), List.mem_of_getElem? (i := 778) (by decide +kernel), List.mem_of_getElem? (i := 779) (by decide +kernel)⟩
theorem lw_p91 : lw_okq (⟨"QuarrelWaysModel", "swears", "(I)I"⟩, 10) := ⟨⟨by decide +kernel, by decide +kernel⟩, List.mem_of_getElem? (i := 606) (by decide +kernel), List.mem_of_getElem? (i := 786) (by decide +kernel), List.mem_of_getElem? (i := 787) (by decide +kernel)⟩
theorem lw_p92 : lw_okq (⟨"QuarrelWaysModel", "passes", "(I)I"⟩, 10) := ⟨⟨by decide +kernel, by decide +kernel⟩, List.mem_of_getElem? (i := 606) (by decide +kernel), List.mem_of_getElem? (i := 794) (by decide +kernel), List.mem_of_getElem? (i := 795) (by decide +kernel)⟩
theorem lw_p93 : lw_okq (⟨"QuarrelWaysModel", "due", "()I"⟩, 10) := ⟨⟨by decide +kernel, by decide +kernel⟩, List.mem_of_getElem? (i := 606) (by decide +kernel), List.mem_of_getElem? (i := 798) (by decide +kernel), List.mem_of_getElem? (i := 799) (by decide +kernel)⟩
theorem lw_p94 : lw_okq (⟨"QuarrelWaysModel", "oathLeft", "(I)I"⟩, 10) := ⟨⟨by decide +kernel, by decide +kernel⟩, List.mem_of_getElem? (i := 606) (by decide +kernel), List.mem_of_getElem? (i := 806) (by decide +kernel), List.mem_of_getElem? (i := 807) (by decide +kernel)⟩
theorem lw_p95 : lw_okq (⟨"QuarrelWaysModel", "parts", "(II)I"⟩, 10) := ⟨⟨by decide +kernel, by decide +kernel⟩, List.mem_of_getElem? (i := 606) (by decide +kernel), List.mem_of_getElem? (i := 810) (by decide +kernel), List.mem_of_getElem? (i := 811) (by decide +kernel)⟩
def lw_privs_6 : List (MethodName × Nat) := [(⟨"QuarrelWaysModel", "waysFor", "(IIIIII)I"⟩, 10), (⟨"QuarrelWaysModel", "haveSeconds", "(III)Z"⟩, 10), (⟨"QuarrelWaysModel", "isUnderOath", "(II)Z"⟩, 10), (⟨"QuarrelWaysModel", "hasPeace", "(IIII)Z"⟩, 10), (⟨"QuarrelWaysModel", "change", "(III)V"⟩, 10), (⟨"QuarrelWaysModel", "quarrelsThat", "(I)I"⟩, 10), (⟨"QuarrelWaysModel", "fights", "(I)I"⟩, 10), (⟨"QuarrelWaysModel", "reason", "(II)I"⟩, 10), (⟨"QuarrelWaysModel", "winnerOf", "(I)I"⟩, 10), (⟨"QuarrelWaysModel", "skill", "(I)I"⟩, 10), (⟨"QuarrelWaysModel", "oath", "(I)V"⟩, 10), (⟨"QuarrelWaysModel", "swears", "(I)I"⟩, 10), (⟨"QuarrelWaysModel", "passes", "(I)I"⟩, 10), (⟨"QuarrelWaysModel", "due", "()I"⟩, 10), (⟨"QuarrelWaysModel", "oathLeft", "(I)I"⟩, 10), (⟨"QuarrelWaysModel", "parts", "(II)I"⟩, 10)]
theorem lw_r6 : ∀ q ∈ lw_privs_6, lw_okq q := List.forall_mem_cons.mpr ⟨lw_p80, List.forall_mem_cons.mpr ⟨lw_p81, List.forall_mem_cons.mpr ⟨lw_p82, List.forall_mem_cons.mpr ⟨lw_p83, List.forall_mem_cons.mpr ⟨lw_p84, List.forall_mem_cons.mpr ⟨lw_p85, List.forall_mem_cons.mpr ⟨lw_p86, List.forall_mem_cons.mpr ⟨lw_p87, List.forall_mem_cons.mpr ⟨lw_p88, List.forall_mem_cons.mpr ⟨lw_p89, List.forall_mem_cons.mpr ⟨lw_p90, List.forall_mem_cons.mpr ⟨lw_p91, List.forall_mem_cons.mpr ⟨lw_p92, List.forall_mem_cons.mpr ⟨lw_p93, List.forall_mem_cons.mpr ⟨lw_p94, List.forall_mem_cons.mpr ⟨lw_p95, fun _ h => absurd h List.not_mem_nil⟩⟩⟩⟩⟩⟩⟩⟩⟩⟩⟩⟩⟩⟩⟩⟩
theorem lw_p96 : lw_okq (⟨"QuarrelWaysModel", "secondOf", "(I)I"⟩, 10) := ⟨⟨by decide +kernel, by decide +kernel⟩, List.mem_of_getElem? (i := 606) (by decide +kernel), List.mem_of_getElem? (i := 814) (by decide +kernel), List.mem_of_getElem? (i := 815) (by decide +kernel)⟩
theorem lw_p97 : lw_okq (⟨"QuarrelWaysModel", "press", "(I)I"⟩, 10) := ⟨⟨by decide +kernel, by decide +kernel⟩, List.mem_of_getElem? (i := 606) (by decide +kernel), List.mem_of_getElem? (i := 830) (by decide +kernel), List.mem_of_getElem? (i := 831) (by decide +kernel)⟩
theorem lw_p98 : lw_okq (⟨"QuarrelWaysModel", "sworn", "()I"⟩, 10) := ⟨⟨by decide +kernel, by decide +kernel⟩, List.mem_of_getElem? (i := 606) (by decide +kernel), List.mem_of_getElem? (i := 842) (by decide +kernel), List.mem_of_getElem? (i := 843) (by decide +kernel)⟩
theorem lw_p99 : lw_okq (⟨"QuarrelWaysModel", "go", "(Z)I"⟩, 10) := ⟨⟨by decide +kernel, by decide +kernel⟩, List.mem_of_getElem? (i := 606) (by decide +kernel), List.mem_of_getElem? (i := 886) (by decide +kernel), List.mem_of_getElem? (i := 887) (by decide +kernel)⟩
theorem lw_p100 : lw_okq (⟨"QuarrelWaysModel", "order", "(Z)I"⟩, 10) := ⟨⟨by decide +kernel, by decide +kernel⟩, List.mem_of_getElem? (i := 606) (by decide +kernel), List.mem_of_getElem? (i := 890) (by decide +kernel), List.mem_of_getElem? (i := 891) (by decide +kernel)⟩
theorem lw_p101 : lw_okq (⟨"QuarrelWaysModel", "number", "()I"⟩, 10) := ⟨⟨by decide +kernel, by decide +kernel⟩, List.mem_of_getElem? (i := 606) (by decide +kernel), List.mem_of_getElem? (i := 894) (by decide +kernel), List.mem_of_getElem? (i := 895) (by decide +kernel)⟩
theorem lw_p102 : lw_okq (⟨"QuarrelWaysModel", "digit", "()I"⟩, 10) := ⟨⟨by decide +kernel, by decide +kernel⟩, List.mem_of_getElem? (i := 606) (by decide +kernel), List.mem_of_getElem? (i := 898) (by decide +kernel), List.mem_of_getElem? (i := 899) (by decide +kernel)⟩
theorem lw_p103 : lw_okq (⟨"QuarrelWaysModel", "sign", "(II)I"⟩, 10) := ⟨⟨by decide +kernel, by decide +kernel⟩, List.mem_of_getElem? (i := 606) (by decide +kernel), List.mem_of_getElem? (i := 902) (by decide +kernel), List.mem_of_getElem? (i := 903) (by decide +kernel)⟩
def lw_privs_7 : List (MethodName × Nat) := [(⟨"QuarrelWaysModel", "secondOf", "(I)I"⟩, 10), (⟨"QuarrelWaysModel", "press", "(I)I"⟩, 10), (⟨"QuarrelWaysModel", "sworn", "()I"⟩, 10), (⟨"QuarrelWaysModel", "go", "(Z)I"⟩, 10), (⟨"QuarrelWaysModel", "order", "(Z)I"⟩, 10), (⟨"QuarrelWaysModel", "number", "()I"⟩, 10), (⟨"QuarrelWaysModel", "digit", "()I"⟩, 10), (⟨"QuarrelWaysModel", "sign", "(II)I"⟩, 10)]
theorem lw_r7 : ∀ q ∈ lw_privs_7, lw_okq q := List.forall_mem_cons.mpr ⟨lw_p96, List.forall_mem_cons.mpr ⟨lw_p97, List.forall_mem_cons.mpr ⟨lw_p98, List.forall_mem_cons.mpr ⟨lw_p99, List.forall_mem_cons.mpr ⟨lw_p100, List.forall_mem_cons.mpr ⟨lw_p101, List.forall_mem_cons.mpr ⟨lw_p102, List.forall_mem_cons.mpr ⟨lw_p103, fun _ h => absurd h List.not_mem_nil⟩⟩⟩⟩⟩⟩⟩⟩
def lw_privs : List (MethodName × Nat) := lw_privs_1 ++ (lw_privs_2 ++ (lw_privs_3 ++ (lw_privs_4 ++ (lw_privs_5 ++ (lw_privs_6 ++ (lw_privs_7))))))
def lw_tbl : List Cond := k2_sels lw_privs ++ tables_1
theorem lw_privs_ok : ∀ q ∈ lw_privs, lw_okq q := by
  show ∀ q ∈ lw_privs_1 ++ (lw_privs_2 ++ (lw_privs_3 ++ (lw_privs_4 ++ (lw_privs_5 ++ (lw_privs_6 ++ (lw_privs_7)))))), lw_okq q
  exact List.forall_mem_append.mpr ⟨lw_r1, List.forall_mem_append.mpr ⟨lw_r2, List.forall_mem_append.mpr ⟨lw_r3, List.forall_mem_append.mpr ⟨lw_r4, List.forall_mem_append.mpr ⟨lw_r5, List.forall_mem_append.mpr ⟨lw_r6, lw_r7⟩⟩⟩⟩⟩⟩
-- ===== end of PART A; then your names; then what follows =====
end
section
theorem goodIn_app {big a b : List Cond} (ha : GoodIn big a) (hb : GoodIn big b) : GoodIn big (a ++ b) := fun w h => (List.mem_append.mp h).elim (ha w) (hb w)
/-! names, fields, types, code names (out of the printed names) -/
def RX0 : String := "QuarrelWays$History"
def TX0 : u_T := fun k => match k with
  | 0 => ("QuarrelWays$History", "states", "[LQuarrelWays$Town;", true)
  | 1 => ("QuarrelWays$History", "oldest", "I", false)
  | _ => ("QuarrelWays$History", "size", "I", false)
def tyX0 : Nat → FieldType := fun k => match k with
  | 0 => .array (.object "QuarrelWays$Town")
  | 1 => .int
  | _ => .int
abbrev wsX00 : List Cond := u_ws RX0 TX0 3
theorem nmX0 : ∀ a, a < 3 → ∀ b, b < 3 → a ≠ b → (TX0 a).2.1 ≠ (TX0 b).2.1 := by decide +kernel
theorem tyX0_ok : ∀ k, k < 3 → parseFieldDescriptor (TX0 k).2.2.1 = some (tyX0 k) := by decide +kernel
abbrev cX0_init : ByteArray := prog_2_method_1_code
def yX0_init : MethodName := ⟨RX0, "<init>", "()V"⟩
abbrev cX0_note : ByteArray := prog_2_method_2_code
def yX0_note : MethodName := ⟨RX0, "note", "(LQuarrelWays$Town;)V"⟩
abbrev cX0_keepUnlessError : ByteArray := prog_2_method_3_code
def yX0_keepUnlessError : MethodName := ⟨RX0, "keepUnlessError", "(I)I"⟩
abbrev cX0_goBack : ByteArray := prog_2_method_4_code
def yX0_goBack : MethodName := ⟨RX0, "goBack", "(LQuarrelWays$Town;)Z"⟩
abbrev cX0_stateAt : ByteArray := prog_2_method_5_code
def yX0_stateAt : MethodName := ⟨RX0, "stateAt", "(I)LQuarrelWays$Town;"⟩
abbrev cX0_placeOf : ByteArray := prog_2_method_6_code
def yX0_placeOf : MethodName := ⟨RX0, "placeOf", "(I)I"⟩
def RX1 : String := "QuarrelWays$Pad"
def TX1 : u_T := fun k => match k with
  | 0 => ("QuarrelWays$Pad", "signs", "[I", true)
  | 1 => ("QuarrelWays$Pad", "length", "I", false)
  | 2 => ("QuarrelWays$Pad", "at", "I", false)
  | 3 => ("QuarrelWays$Pad", "order", "I", false)
  | 4 => ("QuarrelWays$Pad", "numbers", "[I", true)
  | _ => ("QuarrelWays$Pad", "numbersRead", "I", false)
def tyX1 : Nat → FieldType := fun k => match k with
  | 0 => .array .int
  | 1 => .int
  | 2 => .int
  | 3 => .int
  | 4 => .array .int
  | _ => .int
abbrev wsX10 : List Cond := u_ws RX1 TX1 6
theorem nmX1 : ∀ a, a < 6 → ∀ b, b < 6 → a ≠ b → (TX1 a).2.1 ≠ (TX1 b).2.1 := by decide +kernel
theorem tyX1_ok : ∀ k, k < 6 → parseFieldDescriptor (TX1 k).2.2.1 = some (tyX1 k) := by decide +kernel
abbrev cX1_init : ByteArray := prog_3_method_1_code
def yX1_init : MethodName := ⟨RX1, "<init>", "()V"⟩
abbrev cX1_signsIn : ByteArray := prog_3_method_2_code
def yX1_signsIn : MethodName := ⟨RX1, "signsIn", "(J)I"⟩
abbrev cX1_append : ByteArray := prog_3_method_3_code
def yX1_append : MethodName := ⟨RX1, "append", "(JI)Z"⟩
abbrev cX1_addSign : ByteArray := prog_3_method_4_code
def yX1_addSign : MethodName := ⟨RX1, "addSign", "(I)V"⟩
abbrev cX1_signAt : ByteArray := prog_3_method_5_code
def yX1_signAt : MethodName := ⟨RX1, "signAt", "(I)I"⟩
abbrev cX1_number : ByteArray := prog_3_method_6_code
def yX1_number : MethodName := ⟨RX1, "number", "(I)I"⟩
abbrev cX1_firstFault : ByteArray := prog_3_method_7_code
def yX1_firstFault : MethodName := ⟨RX1, "firstFault", "()I"⟩
abbrev cX1_stepOverSemicolon : ByteArray := prog_3_method_8_code
def yX1_stepOverSemicolon : MethodName := ⟨RX1, "stepOverSemicolon", "()V"⟩
abbrev cX1_formOf : ByteArray := prog_3_method_9_code
def yX1_formOf : MethodName := ⟨RX1, "formOf", "(I)Ljava/lang/String;"⟩
abbrev cX1_readOrder : ByteArray := prog_3_method_10_code
def yX1_readOrder : MethodName := ⟨RX1, "readOrder", "()Z"⟩
abbrev cX1_readPart : ByteArray := prog_3_method_11_code
def yX1_readPart : MethodName := ⟨RX1, "readPart", "(C)Z"⟩
abbrev cX1_readNumber : ByteArray := prog_3_method_12_code
def yX1_readNumber : MethodName := ⟨RX1, "readNumber", "(I)Z"⟩
abbrev cX1_addNumber : ByteArray := prog_3_method_13_code
def yX1_addNumber : MethodName := ⟨RX1, "addNumber", "(I)V"⟩
abbrev cX1_isDigit : ByteArray := prog_3_method_14_code
def yX1_isDigit : MethodName := ⟨RX1, "isDigit", "(I)Z"⟩
def RX2 : String := "QuarrelWays$Town"
def TX2 : u_T := fun k => match k with
  | 0 => ("QuarrelWays$Town", "hour", "I", false)
  | 1 => ("QuarrelWays$Town", "allowed", "I", false)
  | 2 => ("QuarrelWays$Town", "persons", "I", false)
  | 3 => ("QuarrelWays$Town", "quarrels", "I", false)
  | 4 => ("QuarrelWays$Town", "events", "I", false)
  | _ => ("QuarrelWays$Town", "cells", "[I", true)
def tyX2 : Nat → FieldType := fun k => match k with
  | 0 => .int
  | 1 => .int
  | 2 => .int
  | 3 => .int
  | 4 => .int
  | _ => .array .int
abbrev wsX20 : List Cond := u_ws RX2 TX2 6
theorem nmX2 : ∀ a, a < 6 → ∀ b, b < 6 → a ≠ b → (TX2 a).2.1 ≠ (TX2 b).2.1 := by decide +kernel
theorem tyX2_ok : ∀ k, k < 6 → parseFieldDescriptor (TX2 k).2.2.1 = some (tyX2 k) := by decide +kernel
abbrev cX2_init : ByteArray := prog_4_method_1_code
def yX2_init : MethodName := ⟨RX2, "<init>", "()V"⟩
abbrev cX2_read : ByteArray := prog_4_method_2_code
def yX2_read : MethodName := ⟨RX2, "read", "(II)I"⟩
abbrev cX2_write : ByteArray := prog_4_method_3_code
def yX2_write : MethodName := ⟨RX2, "write", "(III)V"⟩
abbrev cX2_become : ByteArray := prog_4_method_4_code
def yX2_become : MethodName := ⟨RX2, "become", "(LQuarrelWays$Town;)V"⟩
abbrev cX2_hasPerson : ByteArray := prog_4_method_5_code
def yX2_hasPerson : MethodName := ⟨RX2, "hasPerson", "(I)Z"⟩
abbrev cX2_hasQuarrel : ByteArray := prog_4_method_6_code
def yX2_hasQuarrel : MethodName := ⟨RX2, "hasQuarrel", "(I)Z"⟩
abbrev cX2_isOpen : ByteArray := prog_4_method_7_code
def yX2_isOpen : MethodName := ⟨RX2, "isOpen", "(I)Z"⟩
abbrev cX2_allows : ByteArray := prog_4_method_8_code
def yX2_allows : MethodName := ⟨RX2, "allows", "(I)Z"⟩
abbrev cX2_hoursSince : ByteArray := prog_4_method_9_code
def yX2_hoursSince : MethodName := ⟨RX2, "hoursSince", "(I)I"⟩
abbrev cX2_oathLeft : ByteArray := prog_4_method_10_code
def yX2_oathLeft : MethodName := ⟨RX2, "oathLeft", "(I)I"⟩
abbrev cX2_isPoints : ByteArray := prog_4_method_11_code
def yX2_isPoints : MethodName := ⟨RX2, "isPoints", "(I)Z"⟩
abbrev cX2_isRank : ByteArray := prog_4_method_12_code
def yX2_isRank : MethodName := ⟨RX2, "isRank", "(I)Z"⟩
abbrev cX2_areThese : ByteArray := prog_4_method_13_code
def yX2_areThese : MethodName := ⟨RX2, "areThese", "(IIII)Z"⟩
abbrev cX2_changeSetting : ByteArray := prog_4_method_14_code
def yX2_changeSetting : MethodName := ⟨RX2, "changeSetting", "(II)I"⟩
abbrev cX2_addPerson : ByteArray := prog_4_method_15_code
def yX2_addPerson : MethodName := ⟨RX2, "addPerson", "(II)I"⟩
abbrev cX2_takeSecond : ByteArray := prog_4_method_16_code
def yX2_takeSecond : MethodName := ⟨RX2, "takeSecond", "(II)I"⟩
abbrev cX2_allowOrBar : ByteArray := prog_4_method_17_code
def yX2_allowOrBar : MethodName := ⟨RX2, "allowOrBar", "(I)I"⟩
abbrev cX2_errorOfInsult : ByteArray := prog_4_method_18_code
def yX2_errorOfInsult : MethodName := ⟨RX2, "errorOfInsult", "(III)I"⟩
abbrev cX2_haveOpenQuarrel : ByteArray := prog_4_method_19_code
def yX2_haveOpenQuarrel : MethodName := ⟨RX2, "haveOpenQuarrel", "(II)Z"⟩
abbrev cX2_addQuarrel : ByteArray := prog_4_method_20_code
def yX2_addQuarrel : MethodName := ⟨RX2, "addQuarrel", "(III)I"⟩
abbrev cX2_settleBy : ByteArray := prog_4_method_21_code
def yX2_settleBy : MethodName := ⟨RX2, "settleBy", "(II)I"⟩
abbrev cX2_duel : ByteArray := prog_4_method_22_code
def yX2_duel : MethodName := ⟨RX2, "duel", "(I)I"⟩
abbrev cX2_takeOath : ByteArray := prog_4_method_23_code
def yX2_takeOath : MethodName := ⟨RX2, "takeOath", "(I)I"⟩
abbrev cX2_moveOn : ByteArray := prog_4_method_24_code
def yX2_moveOn : MethodName := ⟨RX2, "moveOn", "(I)I"⟩
abbrev cX2_addPoints : ByteArray := prog_4_method_25_code
def yX2_addPoints : MethodName := ⟨RX2, "addPoints", "(III)V"⟩
abbrev cX2_bindByOath : ByteArray := prog_4_method_26_code
def yX2_bindByOath : MethodName := ⟨RX2, "bindByOath", "(I)V"⟩
abbrev cX2_addEvent : ByteArray := prog_4_method_27_code
def yX2_addEvent : MethodName := ⟨RX2, "addEvent", "(II)V"⟩
abbrev cX2_waysOf : ByteArray := prog_4_method_28_code
def yX2_waysOf : MethodName := ⟨RX2, "waysOf", "(I)I"⟩
abbrev cX2_waysBetween : ByteArray := prog_4_method_29_code
def yX2_waysBetween : MethodName := ⟨RX2, "waysBetween", "(IIII)I"⟩
abbrev cX2_firstOf : ByteArray := prog_4_method_30_code
def yX2_firstOf : MethodName := ⟨RX2, "firstOf", "(I)I"⟩
abbrev cX2_secondsCanSettle : ByteArray := prog_4_method_31_code
def yX2_secondsCanSettle : MethodName := ⟨RX2, "secondsCanSettle", "(III)Z"⟩
abbrev cX2_hoursToCool : ByteArray := prog_4_method_32_code
def yX2_hoursToCool : MethodName := ⟨RX2, "hoursToCool", "(I)I"⟩
abbrev cX2_peaceLeft : ByteArray := prog_4_method_33_code
def yX2_peaceLeft : MethodName := ⟨RX2, "peaceLeft", "(II)I"⟩
abbrev cX2_whyNotDue : ByteArray := prog_4_method_34_code
def yX2_whyNotDue : MethodName := ⟨RX2, "whyNotDue", "(II)I"⟩
abbrev cX2_hoursUntilWay : ByteArray := prog_4_method_35_code
def yX2_hoursUntilWay : MethodName := ⟨RX2, "hoursUntilWay", "(I)I"⟩
abbrev cX2_hoursUntilDuel : ByteArray := prog_4_method_36_code
def yX2_hoursUntilDuel : MethodName := ⟨RX2, "hoursUntilDuel", "(I)I"⟩
abbrev cX2_hoursUntilCool : ByteArray := prog_4_method_37_code
def yX2_hoursUntilCool : MethodName := ⟨RX2, "hoursUntilCool", "(I)I"⟩
abbrev cX2_orNoneIfTooFar : ByteArray := prog_4_method_38_code
def yX2_orNoneIfTooFar : MethodName := ⟨RX2, "orNoneIfTooFar", "(I)I"⟩
abbrev cX2_winnerOf : ByteArray := prog_4_method_39_code
def yX2_winnerOf : MethodName := ⟨RX2, "winnerOf", "(I)I"⟩
abbrev cX2_skillOf : ByteArray := prog_4_method_40_code
def yX2_skillOf : MethodName := ⟨RX2, "skillOf", "(I)I"⟩
abbrev cX2_tellPerson : ByteArray := prog_4_method_41_code
def yX2_tellPerson : MethodName := ⟨RX2, "tellPerson", "(II)I"⟩
abbrev cX2_tellQuarrel : ByteArray := prog_4_method_42_code
def yX2_tellQuarrel : MethodName := ⟨RX2, "tellQuarrel", "(II)I"⟩
abbrev cX2_tellEvent : ByteArray := prog_4_method_43_code
def yX2_tellEvent : MethodName := ⟨RX2, "tellEvent", "(II)I"⟩
abbrev cX2_quarrelThatPresses : ByteArray := prog_4_method_44_code
def yX2_quarrelThatPresses : MethodName := ⟨RX2, "quarrelThatPresses", "(I)I"⟩
abbrev cX2_quarrelsBefore : ByteArray := prog_4_method_45_code
def yX2_quarrelsBefore : MethodName := ⟨RX2, "quarrelsBefore", "(I)I"⟩
abbrev cX2_pressureOf : ByteArray := prog_4_method_46_code
def yX2_pressureOf : MethodName := ⟨RX2, "pressureOf", "(I)I"⟩
abbrev cX2_insultsFrom : ByteArray := prog_4_method_47_code
def yX2_insultsFrom : MethodName := ⟨RX2, "insultsFrom", "(I)I"⟩
abbrev cX2_tellNumber : ByteArray := prog_4_method_48_code
def yX2_tellNumber : MethodName := ⟨RX2, "tellNumber", "(I)I"⟩
abbrev cX2_quarrelsWith : ByteArray := prog_4_method_49_code
def yX2_quarrelsWith : MethodName := ⟨RX2, "quarrelsWith", "(II)I"⟩
abbrev cX2_duelsOf : ByteArray := prog_4_method_50_code
def yX2_duelsOf : MethodName := ⟨RX2, "duelsOf", "(I)I"⟩
abbrev cX2_openQuarrels : ByteArray := prog_4_method_51_code
def yX2_openQuarrels : MethodName := ⟨RX2, "openQuarrels", "()I"⟩
abbrev cX2_dueQuarrels : ByteArray := prog_4_method_52_code
def yX2_dueQuarrels : MethodName := ⟨RX2, "dueQuarrels", "()I"⟩
abbrev cX2_personsUnderOath : ByteArray := prog_4_method_53_code
def yX2_personsUnderOath : MethodName := ⟨RX2, "personsUnderOath", "()I"⟩
abbrev cX2_personsWithSecond : ByteArray := prog_4_method_54_code
def yX2_personsWithSecond : MethodName := ⟨RX2, "personsWithSecond", "(I)I"⟩
def RX3 : String := "QuarrelWays"
def TX3 : u_T := fun k => match k with
  | 0 => ("QuarrelWays", "town", "LQuarrelWays$Town;", true)
  | 1 => ("QuarrelWays", "history", "LQuarrelWays$History;", true)
  | 2 => ("QuarrelWays", "pad", "LQuarrelWays$Pad;", true)
  | _ => ("QuarrelWays", "slots", "[LQuarrelWays$Town;", true)
def tyX3 : Nat → FieldType := fun k => match k with
  | 0 => .object "QuarrelWays$Town"
  | 1 => .object "QuarrelWays$History"
  | 2 => .object "QuarrelWays$Pad"
  | _ => .array (.object "QuarrelWays$Town")
abbrev wsX30 : List Cond := u_ws RX3 TX3 4
theorem nmX3 : ∀ a, a < 4 → ∀ b, b < 4 → a ≠ b → (TX3 a).2.1 ≠ (TX3 b).2.1 := by decide +kernel
theorem tyX3_ok : ∀ k, k < 4 → parseFieldDescriptor (TX3 k).2.2.1 = some (tyX3 k) := by decide +kernel
abbrev cX3_init : ByteArray := prog_1_method_1_code
def yX3_init : MethodName := ⟨RX3, "<init>", "()V"⟩
abbrev cX3_set : ByteArray := prog_1_method_2_code
def yX3_set : MethodName := ⟨RX3, "set", "(II)I"⟩
abbrev cX3_person : ByteArray := prog_1_method_3_code
def yX3_person : MethodName := ⟨RX3, "person", "(II)I"⟩
abbrev cX3_second : ByteArray := prog_1_method_4_code
def yX3_second : MethodName := ⟨RX3, "second", "(II)I"⟩
abbrev cX3_allow : ByteArray := prog_1_method_5_code
def yX3_allow : MethodName := ⟨RX3, "allow", "(I)I"⟩
abbrev cX3_insult : ByteArray := prog_1_method_6_code
def yX3_insult : MethodName := ⟨RX3, "insult", "(III)I"⟩
abbrev cX3_settle : ByteArray := prog_1_method_7_code
def yX3_settle : MethodName := ⟨RX3, "settle", "(II)I"⟩
abbrev cX3_fight : ByteArray := prog_1_method_8_code
def yX3_fight : MethodName := ⟨RX3, "fight", "(I)I"⟩
abbrev cX3_swear : ByteArray := prog_1_method_9_code
def yX3_swear : MethodName := ⟨RX3, "swear", "(I)I"⟩
abbrev cX3_pass : ByteArray := prog_1_method_10_code
def yX3_pass : MethodName := ⟨RX3, "pass", "(I)I"⟩
abbrev cX3_of : ByteArray := prog_1_method_11_code
def yX3_of : MethodName := ⟨RX3, "of", "(II)I"⟩
abbrev cX3_quarrel : ByteArray := prog_1_method_12_code
def yX3_quarrel : MethodName := ⟨RX3, "quarrel", "(II)I"⟩
abbrev cX3_record : ByteArray := prog_1_method_13_code
def yX3_record : MethodName := ⟨RX3, "record", "(II)I"⟩
abbrev cX3_pressing : ByteArray := prog_1_method_14_code
def yX3_pressing : MethodName := ⟨RX3, "pressing", "(I)I"⟩
abbrev cX3_insults : ByteArray := prog_1_method_15_code
def yX3_insults : MethodName := ⟨RX3, "insults", "(I)I"⟩
abbrev cX3_count : ByteArray := prog_1_method_16_code
def yX3_count : MethodName := ⟨RX3, "count", "(I)I"⟩
abbrev cX3_why : ByteArray := prog_1_method_17_code
def yX3_why : MethodName := ⟨RX3, "why", "(I)I"⟩
abbrev cX3_firstWay : ByteArray := prog_1_method_18_code
def yX3_firstWay : MethodName := ⟨RX3, "firstWay", "(I)I"⟩
abbrev cX3_opensIn : ByteArray := prog_1_method_19_code
def yX3_opensIn : MethodName := ⟨RX3, "opensIn", "(I)I"⟩
abbrev cX3_dueIn : ByteArray := prog_1_method_20_code
def yX3_dueIn : MethodName := ⟨RX3, "dueIn", "(I)I"⟩
abbrev cX3_ifInsulted : ByteArray := prog_1_method_21_code
def yX3_ifInsulted : MethodName := ⟨RX3, "ifInsulted", "(III)I"⟩
abbrev cX3_ifFought : ByteArray := prog_1_method_22_code
def yX3_ifFought : MethodName := ⟨RX3, "ifFought", "(I)I"⟩
abbrev cX3_put : ByteArray := prog_1_method_23_code
def yX3_put : MethodName := ⟨RX3, "put", "(J)I"⟩
abbrev cX3_wipe : ByteArray := prog_1_method_24_code
def yX3_wipe : MethodName := ⟨RX3, "wipe", "()I"⟩
abbrev cX3_fault : ByteArray := prog_1_method_25_code
def yX3_fault : MethodName := ⟨RX3, "fault", "()I"⟩
abbrev cX3_carryOut : ByteArray := prog_1_method_26_code
def yX3_carryOut : MethodName := ⟨RX3, "carryOut", "()I"⟩
abbrev cX3_undo : ByteArray := prog_1_method_27_code
def yX3_undo : MethodName := ⟨RX3, "undo", "()I"⟩
abbrev cX3_save : ByteArray := prog_1_method_28_code
def yX3_save : MethodName := ⟨RX3, "save", "(I)I"⟩
abbrev cX3_restore : ByteArray := prog_1_method_29_code
def yX3_restore : MethodName := ⟨RX3, "restore", "(I)I"⟩
abbrev cX3_isSlot : ByteArray := prog_1_method_30_code
def yX3_isSlot : MethodName := ⟨RX3, "isSlot", "(I)Z"⟩
abbrev cX3_isError : ByteArray := prog_1_method_31_code
def yX3_isError : MethodName := ⟨RX3, "isError", "(I)Z"⟩
abbrev cX3_carryOutOrder : ByteArray := prog_1_method_32_code
def yX3_carryOutOrder : MethodName := ⟨RX3, "carryOutOrder", "()I"⟩
def RX4 : String := "QuarrelWaysModel"
def TX4 : u_T := fun k => match k with
  | 0 => ("QuarrelWaysModel", "s", "[I", true)
  | 1 => ("QuarrelWaysModel", "aside", "[I", true)
  | 2 => ("QuarrelWaysModel", "before", "[I", true)
  | 3 => ("QuarrelWaysModel", "known", "I", false)
  | 4 => ("QuarrelWaysModel", "kept", "[I", true)
  | 5 => ("QuarrelWaysModel", "isKept", "[Z", true)
  | 6 => ("QuarrelWaysModel", "pad", "[I", true)
  | 7 => ("QuarrelWaysModel", "length", "I", false)
  | 8 => ("QuarrelWaysModel", "place", "I", false)
  | _ => ("QuarrelWaysModel", "isWrong", "Z", false)
def tyX4 : Nat → FieldType := fun k => match k with
  | 0 => .array .int
  | 1 => .array .int
  | 2 => .array .int
  | 3 => .int
  | 4 => .array .int
  | 5 => .array .boolean
  | 6 => .array .int
  | 7 => .int
  | 8 => .int
  | _ => .boolean
abbrev wsX40 : List Cond := u_ws RX4 TX4 10
theorem nmX4 : ∀ a, a < 10 → ∀ b, b < 10 → a ≠ b → (TX4 a).2.1 ≠ (TX4 b).2.1 := by decide +kernel
theorem tyX4_ok : ∀ k, k < 10 → parseFieldDescriptor (TX4 k).2.2.1 = some (tyX4 k) := by decide +kernel
abbrev cX4_init : ByteArray := prog_6_method_1_code
def yX4_init : MethodName := ⟨RX4, "<init>", "()V"⟩
abbrev cX4_in : ByteArray := prog_6_method_3_code
def yX4_in : MethodName := ⟨RX4, "in", "(III)Z"⟩
abbrev cX4_putAside : ByteArray := prog_6_method_4_code
def yX4_putAside : MethodName := ⟨RX4, "putAside", "()V"⟩
abbrev cX4_end : ByteArray := prog_6_method_5_code
def yX4_end : MethodName := ⟨RX4, "end", "(I)I"⟩
abbrev cX4_isPerson : ByteArray := prog_6_method_6_code
def yX4_isPerson : MethodName := ⟨RX4, "isPerson", "(I)Z"⟩
abbrev cX4_isQuarrel : ByteArray := prog_6_method_7_code
def yX4_isQuarrel : MethodName := ⟨RX4, "isQuarrel", "(I)Z"⟩
abbrev cX4_person0 : ByteArray := prog_6_method_8_code
def yX4_person0 : MethodName := ⟨RX4, "person0", "(II)I"⟩
abbrev cX4_quarrel0 : ByteArray := prog_6_method_9_code
def yX4_quarrel0 : MethodName := ⟨RX4, "quarrel0", "(II)I"⟩
abbrev cX4_isUnderOath : ByteArray := prog_6_method_10_code
def yX4_isUnderOath : MethodName := ⟨RX4, "isUnderOath", "(II)Z"⟩
abbrev cX4_areOfThese : ByteArray := prog_6_method_11_code
def yX4_areOfThese : MethodName := ⟨RX4, "areOfThese", "(III)Z"⟩
abbrev cX4_hasPeace : ByteArray := prog_6_method_12_code
def yX4_hasPeace : MethodName := ⟨RX4, "hasPeace", "(IIII)Z"⟩
abbrev cX4_haveSeconds : ByteArray := prog_6_method_13_code
def yX4_haveSeconds : MethodName := ⟨RX4, "haveSeconds", "(III)Z"⟩
abbrev cX4_waysFor : ByteArray := prog_6_method_14_code
def yX4_waysFor : MethodName := ⟨RX4, "waysFor", "(IIIIII)I"⟩
abbrev cX4_since : ByteArray := prog_6_method_15_code
def yX4_since : MethodName := ⟨RX4, "since", "(I)I"⟩
abbrev cX4_waysOf : ByteArray := prog_6_method_16_code
def yX4_waysOf : MethodName := ⟨RX4, "waysOf", "(II)I"⟩
abbrev cX4_reason : ByteArray := prog_6_method_17_code
def yX4_reason : MethodName := ⟨RX4, "reason", "(II)I"⟩
abbrev cX4_skill : ByteArray := prog_6_method_18_code
def yX4_skill : MethodName := ⟨RX4, "skill", "(I)I"⟩
abbrev cX4_winnerOf : ByteArray := prog_6_method_19_code
def yX4_winnerOf : MethodName := ⟨RX4, "winnerOf", "(I)I"⟩
abbrev cX4_tell : ByteArray := prog_6_method_20_code
def yX4_tell : MethodName := ⟨RX4, "tell", "(II)V"⟩
abbrev cX4_change : ByteArray := prog_6_method_21_code
def yX4_change : MethodName := ⟨RX4, "change", "(III)V"⟩
abbrev cX4_oath : ByteArray := prog_6_method_22_code
def yX4_oath : MethodName := ⟨RX4, "oath", "(I)V"⟩
abbrev cX4_quarrelsThat : ByteArray := prog_6_method_23_code
def yX4_quarrelsThat : MethodName := ⟨RX4, "quarrelsThat", "(I)I"⟩
abbrev cX4_size : ByteArray := prog_6_method_24_code
def yX4_size : MethodName := ⟨RX4, "size", "(I)I"⟩
abbrev cX4_due : ByteArray := prog_6_method_25_code
def yX4_due : MethodName := ⟨RX4, "due", "()I"⟩
abbrev cX4_comes : ByteArray := prog_6_method_26_code
def yX4_comes : MethodName := ⟨RX4, "comes", "(II)I"⟩
abbrev cX4_takes : ByteArray := prog_6_method_27_code
def yX4_takes : MethodName := ⟨RX4, "takes", "(II)I"⟩
abbrev cX4_turns : ByteArray := prog_6_method_28_code
def yX4_turns : MethodName := ⟨RX4, "turns", "(I)I"⟩
abbrev cX4_offends : ByteArray := prog_6_method_29_code
def yX4_offends : MethodName := ⟨RX4, "offends", "(III)I"⟩
abbrev cX4_settles : ByteArray := prog_6_method_30_code
def yX4_settles : MethodName := ⟨RX4, "settles", "(II)I"⟩
abbrev cX4_fights : ByteArray := prog_6_method_31_code
def yX4_fights : MethodName := ⟨RX4, "fights", "(I)I"⟩
abbrev cX4_swears : ByteArray := prog_6_method_32_code
def yX4_swears : MethodName := ⟨RX4, "swears", "(I)I"⟩
abbrev cX4_passes : ByteArray := prog_6_method_33_code
def yX4_passes : MethodName := ⟨RX4, "passes", "(I)I"⟩
abbrev cX4_set : ByteArray := prog_6_method_34_code
def yX4_set : MethodName := ⟨RX4, "set", "(II)I"⟩
abbrev cX4_person : ByteArray := prog_6_method_35_code
def yX4_person : MethodName := ⟨RX4, "person", "(II)I"⟩
abbrev cX4_second : ByteArray := prog_6_method_36_code
def yX4_second : MethodName := ⟨RX4, "second", "(II)I"⟩
abbrev cX4_allow : ByteArray := prog_6_method_37_code
def yX4_allow : MethodName := ⟨RX4, "allow", "(I)I"⟩
abbrev cX4_insult : ByteArray := prog_6_method_38_code
def yX4_insult : MethodName := ⟨RX4, "insult", "(III)I"⟩
abbrev cX4_settle : ByteArray := prog_6_method_39_code
def yX4_settle : MethodName := ⟨RX4, "settle", "(II)I"⟩
abbrev cX4_fight : ByteArray := prog_6_method_40_code
def yX4_fight : MethodName := ⟨RX4, "fight", "(I)I"⟩
abbrev cX4_swear : ByteArray := prog_6_method_41_code
def yX4_swear : MethodName := ⟨RX4, "swear", "(I)I"⟩
abbrev cX4_pass : ByteArray := prog_6_method_42_code
def yX4_pass : MethodName := ⟨RX4, "pass", "(I)I"⟩
abbrev cX4_parts : ByteArray := prog_6_method_43_code
def yX4_parts : MethodName := ⟨RX4, "parts", "(II)I"⟩
abbrev cX4_secondOf : ByteArray := prog_6_method_44_code
def yX4_secondOf : MethodName := ⟨RX4, "secondOf", "(I)I"⟩
abbrev cX4_oathLeft : ByteArray := prog_6_method_45_code
def yX4_oathLeft : MethodName := ⟨RX4, "oathLeft", "(I)I"⟩
abbrev cX4_of : ByteArray := prog_6_method_46_code
def yX4_of : MethodName := ⟨RX4, "of", "(II)I"⟩
abbrev cX4_quarrel : ByteArray := prog_6_method_47_code
def yX4_quarrel : MethodName := ⟨RX4, "quarrel", "(II)I"⟩
abbrev cX4_record : ByteArray := prog_6_method_48_code
def yX4_record : MethodName := ⟨RX4, "record", "(II)I"⟩
abbrev cX4_press : ByteArray := prog_6_method_49_code
def yX4_press : MethodName := ⟨RX4, "press", "(I)I"⟩
abbrev cX4_pressing : ByteArray := prog_6_method_50_code
def yX4_pressing : MethodName := ⟨RX4, "pressing", "(I)I"⟩
abbrev cX4_insults : ByteArray := prog_6_method_51_code
def yX4_insults : MethodName := ⟨RX4, "insults", "(I)I"⟩
abbrev cX4_sworn : ByteArray := prog_6_method_52_code
def yX4_sworn : MethodName := ⟨RX4, "sworn", "()I"⟩
abbrev cX4_count : ByteArray := prog_6_method_53_code
def yX4_count : MethodName := ⟨RX4, "count", "(I)I"⟩
abbrev cX4_why : ByteArray := prog_6_method_54_code
def yX4_why : MethodName := ⟨RX4, "why", "(I)I"⟩
abbrev cX4_firstWay : ByteArray := prog_6_method_55_code
def yX4_firstWay : MethodName := ⟨RX4, "firstWay", "(I)I"⟩
abbrev cX4_opensIn : ByteArray := prog_6_method_56_code
def yX4_opensIn : MethodName := ⟨RX4, "opensIn", "(I)I"⟩
abbrev cX4_dueIn : ByteArray := prog_6_method_57_code
def yX4_dueIn : MethodName := ⟨RX4, "dueIn", "(I)I"⟩
abbrev cX4_ifInsulted : ByteArray := prog_6_method_58_code
def yX4_ifInsulted : MethodName := ⟨RX4, "ifInsulted", "(III)I"⟩
abbrev cX4_ifFought : ByteArray := prog_6_method_59_code
def yX4_ifFought : MethodName := ⟨RX4, "ifFought", "(I)I"⟩
abbrev cX4_code : ByteArray := prog_6_method_60_code
def yX4_code : MethodName := ⟨RX4, "code", "(JI)I"⟩
abbrev cX4_put : ByteArray := prog_6_method_61_code
def yX4_put : MethodName := ⟨RX4, "put", "(J)I"⟩
abbrev cX4_wipe : ByteArray := prog_6_method_62_code
def yX4_wipe : MethodName := ⟨RX4, "wipe", "()I"⟩
abbrev cX4_sign : ByteArray := prog_6_method_63_code
def yX4_sign : MethodName := ⟨RX4, "sign", "(II)I"⟩
abbrev cX4_digit : ByteArray := prog_6_method_64_code
def yX4_digit : MethodName := ⟨RX4, "digit", "()I"⟩
abbrev cX4_number : ByteArray := prog_6_method_65_code
def yX4_number : MethodName := ⟨RX4, "number", "()I"⟩
abbrev cX4_order : ByteArray := prog_6_method_66_code
def yX4_order : MethodName := ⟨RX4, "order", "(Z)I"⟩
abbrev cX4_go : ByteArray := prog_6_method_67_code
def yX4_go : MethodName := ⟨RX4, "go", "(Z)I"⟩
abbrev cX4_fault : ByteArray := prog_6_method_68_code
def yX4_fault : MethodName := ⟨RX4, "fault", "()I"⟩
abbrev cX4_carryOut : ByteArray := prog_6_method_69_code
def yX4_carryOut : MethodName := ⟨RX4, "carryOut", "()I"⟩
abbrev cX4_undo : ByteArray := prog_6_method_70_code
def yX4_undo : MethodName := ⟨RX4, "undo", "()I"⟩
abbrev cX4_save : ByteArray := prog_6_method_71_code
def yX4_save : MethodName := ⟨RX4, "save", "(I)I"⟩
abbrev cX4_restore : ByteArray := prog_6_method_72_code
def yX4_restore : MethodName := ⟨RX4, "restore", "(I)I"⟩
def RJ6 : String := "java/lang/Integer"
def TJ6 : u_T := fun k => match k with
  | _ => ("", "", "", false)
def tyJ6 : Nat → FieldType := fun k => match k with
  | _ => .int
abbrev wsJ60 : List Cond := u_ws RJ6 TJ6 0
theorem nmJ6 : ∀ a, a < 0 → ∀ b, b < 0 → a ≠ b → (TJ6 a).2.1 ≠ (TJ6 b).2.1 := by decide +kernel
theorem tyJ6_ok : ∀ k, k < 0 → parseFieldDescriptor (TJ6 k).2.2.1 = some (tyJ6 k) := by decide +kernel
abbrev cJ6_bitCount_0f7a4 : ByteArray := prog_7_method_49_code
def yJ6_bitCount_0f7a4 : MethodName := ⟨RJ6, "bitCount", "(I)I"⟩
def RJ9 : String := "java/lang/Math"
def TJ9 : u_T := fun k => match k with
  | _ => ("", "", "", false)
def tyJ9 : Nat → FieldType := fun k => match k with
  | _ => .int
abbrev wsJ90 : List Cond := u_ws RJ9 TJ9 0
theorem nmJ9 : ∀ a, a < 0 → ∀ b, b < 0 → a ≠ b → (TJ9 a).2.1 ≠ (TJ9 b).2.1 := by decide +kernel
theorem tyJ9_ok : ∀ k, k < 0 → parseFieldDescriptor (TJ9 k).2.2.1 = some (tyJ9 k) := by decide +kernel
abbrev cJ9_floorMod_7cf53 : ByteArray := prog_8_method_50_code
def yJ9_floorMod_7cf53 : MethodName := ⟨RJ9, "floorMod", "(II)I"⟩
abbrev cJ9_max_7cf53 : ByteArray := prog_8_method_65_code
def yJ9_max_7cf53 : MethodName := ⟨RJ9, "max", "(II)I"⟩
abbrev cJ9_min_7cf53 : ByteArray := prog_8_method_69_code
def yJ9_min_7cf53 : MethodName := ⟨RJ9, "min", "(II)I"⟩
def RJ0 : String := "java/lang/String"
def TJ0 : u_T := fun k => match k with
  | _ => ("", "", "", false)
def tyJ0 : Nat → FieldType := fun k => match k with
  | _ => .int
abbrev wsJ00 : List Cond := u_ws RJ0 TJ0 0
theorem nmJ0 : ∀ a, a < 0 → ∀ b, b < 0 → a ≠ b → (TJ0 a).2.1 ≠ (TJ0 b).2.1 := by decide +kernel
theorem tyJ0_ok : ∀ k, k < 0 → parseFieldDescriptor (TJ0 k).2.2.1 = some (tyJ0 k) := by decide +kernel
abbrev cJ0_length_8abf5 : ByteArray := prog_9_method_54_code
def yJ0_length_8abf5 : MethodName := ⟨RJ0, "length", "()I"⟩
abbrev cJ0_isEmpty_aae02 : ByteArray := prog_9_method_55_code
def yJ0_isEmpty_aae02 : MethodName := ⟨RJ0, "isEmpty", "()Z"⟩
abbrev cJ0_charAt_5068e : ByteArray := prog_9_method_56_code
def yJ0_charAt_5068e : MethodName := ⟨RJ0, "charAt", "(I)C"⟩
abbrev cJ0_coder_7d493 : ByteArray := prog_9_method_152_code
def yJ0_coder_7d493 : MethodName := ⟨RJ0, "coder", "()B"⟩
abbrev cJ0_isLatin1_aae02 : ByteArray := prog_9_method_154_code
def yJ0_isLatin1_aae02 : MethodName := ⟨RJ0, "isLatin1", "()Z"⟩
abbrev cJ0_checkIndex_df160 : ByteArray := prog_9_method_155_code
def yJ0_checkIndex_df160 : MethodName := ⟨RJ0, "checkIndex", "(II)V"⟩
def RJ1 : String := "java/lang/StringLatin1"
def TJ1 : u_T := fun k => match k with
  | _ => ("", "", "", false)
def tyJ1 : Nat → FieldType := fun k => match k with
  | _ => .int
abbrev wsJ10 : List Cond := u_ws RJ1 TJ1 0
theorem nmJ1 : ∀ a, a < 0 → ∀ b, b < 0 → a ≠ b → (TJ1 a).2.1 ≠ (TJ1 b).2.1 := by decide +kernel
theorem tyJ1_ok : ∀ k, k < 0 → parseFieldDescriptor (TJ1 k).2.2.1 = some (tyJ1 k) := by decide +kernel
abbrev cJ1_charAt_3b067 : ByteArray := prog_10_method_2_code
def yJ1_charAt_3b067 : MethodName := ⟨RJ1, "charAt", "([BI)C"⟩
def RJ2 : String := "java/lang/StringUTF16"
def TJ2 : u_T := fun k => match k with
  | _ => ("", "", "", false)
def tyJ2 : Nat → FieldType := fun k => match k with
  | _ => .int
abbrev wsJ20 : List Cond := u_ws RJ2 TJ2 0
theorem nmJ2 : ∀ a, a < 0 → ∀ b, b < 0 → a ≠ b → (TJ2 a).2.1 ≠ (TJ2 b).2.1 := by decide +kernel
theorem tyJ2_ok : ∀ k, k < 0 → parseFieldDescriptor (TJ2 k).2.2.1 = some (tyJ2 k) := by decide +kernel
abbrev cJ2_getChar_3b067 : ByteArray := prog_11_method_5_code
def yJ2_getChar_3b067 : MethodName := ⟨RJ2, "getChar", "([BI)C"⟩
abbrev cJ2_length_9d52b : ByteArray := prog_11_method_6_code
def yJ2_length_9d52b : MethodName := ⟨RJ2, "length", "([B)I"⟩
abbrev cJ2_charAt_3b067 : ByteArray := prog_11_method_83_code
def yJ2_charAt_3b067 : MethodName := ⟨RJ2, "charAt", "([BI)C"⟩
abbrev cJ2_checkIndex_2214a : ByteArray := prog_11_method_91_code
def yJ2_checkIndex_2214a : MethodName := ⟨RJ2, "checkIndex", "(I[B)V"⟩
def RJ10 : String := "java/lang/System"
def TJ10 : u_T := fun k => match k with
  | _ => ("", "", "", false)
def tyJ10 : Nat → FieldType := fun k => match k with
  | _ => .int
abbrev wsJ100 : List Cond := u_ws RJ10 TJ10 0
theorem nmJ10 : ∀ a, a < 0 → ∀ b, b < 0 → a ≠ b → (TJ10 a).2.1 ≠ (TJ10 b).2.1 := by decide +kernel
theorem tyJ10_ok : ∀ k, k < 0 → parseFieldDescriptor (TJ10 k).2.2.1 = some (tyJ10 k) := by decide +kernel
def RJ3 : String := "jdk/internal/util/Preconditions"
def TJ3 : u_T := fun k => match k with
  | _ => ("", "", "", false)
def tyJ3 : Nat → FieldType := fun k => match k with
  | _ => .int
abbrev wsJ30 : List Cond := u_ws RJ3 TJ3 0
theorem nmJ3 : ∀ a, a < 0 → ∀ b, b < 0 → a ≠ b → (TJ3 a).2.1 ≠ (TJ3 b).2.1 := by decide +kernel
theorem tyJ3_ok : ∀ k, k < 0 → parseFieldDescriptor (TJ3 k).2.2.1 = some (tyJ3 k) := by decide +kernel
abbrev cJ3_checkIndex_8e157 : ByteArray := prog_13_method_11_code
def yJ3_checkIndex_8e157 : MethodName := ⟨RJ3, "checkIndex", "(IILjava/util/function/BiFunction;)I"⟩
def RL : String := "QuarrelWaysLaw"
abbrev cL_law : ByteArray := code
def yL_law : MethodName := ⟨RL, "law", "([I)Z"⟩
abbrev vwCl : List vw_C := [(RX0, TX0, 3), (RX1, TX1, 6), (RX2, TX2, 6), (RX3, TX3, 4), (RX4, TX4, 10)]
/-! the words of all methods, one list -/
def B0 : List Cond := [.code yX2_write cX2_write 5 none, .fieldLink RX2 27 "QuarrelWays$Town" "cells" "[I", .code yX2_init cX2_init 1 none, .methodLink RX2 5 objectInit, .instanceMethod objectInit, .code objectInit ⟨#[0xb1]⟩ 1 none, .fieldLink RX2 11 "QuarrelWays$Town" "hour" "I", .fieldLink RX2 15 "QuarrelWays$Town" "allowed" "I", .fieldLink RX2 18 "QuarrelWays$Town" "persons" "I", .fieldLink RX2 21 "QuarrelWays$Town" "quarrels" "I", .fieldLink RX2 24 "QuarrelWays$Town" "events" "I", .arrayClass .int, .methodLink RX2 31 yX2_write, .instanceMethod yX2_write, .selects RX2 yX2_write yX2_write, .initialized RX2, .code yX0_init cX0_init 2 none, .methodLink RX0 3 objectInit, .classLink RX0 9 RX2, .fieldLink RX0 11 "QuarrelWays$History" "states" "[LQuarrelWays$Town;", .fieldLink RX0 15 "QuarrelWays$History" "oldest" "I", .fieldLink RX0 19 "QuarrelWays$History" "size" "I", .instantiable RX2 6, .instanceMethod yX2_init, .code yJ9_floorMod_7cf53 cJ9_floorMod_7cf53 3 (some .int)]
def B1 : List Cond := [.code yX0_placeOf cX0_placeOf 2 (some .int), .methodLink RX0 41 yJ9_floorMod_7cf53, .static yJ9_floorMod_7cf53, .initialized RJ9, .code yX0_stateAt cX0_stateAt 3 (some (.object "QuarrelWays$Town")), .methodLink RX0 37 yX0_placeOf, .instanceMethod yX0_placeOf, .selects RX0 yX0_placeOf yX0_placeOf, .initialized RX0, .code yX2_become cX2_become 2 none, .methodLink RX2 35 Lib.Math.min.name, .static Lib.Math.min.name, .code Lib.Math.min.name Lib.Math.min.code 2 (some .int), .methodLink RX2 41 arraycopyName, .native arraycopyName, .static arraycopyName, .initialized RJ10, .methodLink RX0 23 yX0_stateAt, .instanceMethod yX0_stateAt, .selects RX0 yX0_stateAt yX0_stateAt, .instanceMethod yX2_become, .selects RX2 yX2_become yX2_become, .code yX0_note cX0_note 3 none, .code yX3_isError cX3_isError 1 (some .boolean), .code yX0_keepUnlessError cX0_keepUnlessError 2 (some .int)]
def B2 : List Cond := [.static yX3_isError, .initialized RX3, .code yX0_goBack cX0_goBack 3 (some .boolean), .code yX1_init cX1_init 1 none, .methodLink RX1 3 objectInit, .fieldLink RX1 11 "QuarrelWays$Pad" "signs" "[I", .fieldLink RX1 15 "QuarrelWays$Pad" "length" "I", .fieldLink RX1 19 "QuarrelWays$Pad" "at" "I", .fieldLink RX1 22 "QuarrelWays$Pad" "order" "I", .fieldLink RX1 25 "QuarrelWays$Pad" "numbers" "[I", .fieldLink RX1 28 "QuarrelWays$Pad" "numbersRead" "I", .code yX1_signsIn cX1_signsIn 5 (some .int), .constantLong RX1 31 255, .constantLong RX1 33 33, .constantLong RX1 35 126, .code yX1_addSign cX1_addSign 2 none, .code yX1_append cX1_append 5 (some .boolean), .methodLink RX1 37 yX1_addSign, .instanceMethod yX1_addSign, .selects RX1 yX1_addSign yX1_addSign, .initialized RX1, .code yX1_signAt cX1_signAt 2 (some .int), .code yX1_number cX1_number 2 (some .int), .code yX1_formOf cX1_formOf 1 (some (.object "java/lang/String")), .code yJ0_isEmpty_aae02 cJ0_isEmpty_aae02 1 (some .boolean)]
def B3 : List Cond := [.fieldLink RJ0 9 "java/lang/String" "value" "[B", .code yJ0_coder_7d493 cJ0_coder_7d493 1 (some .byte), .fieldLink RJ0 38 "java/lang/String" "COMPACT_STRINGS" "Z", .fieldLink RJ0 15 "java/lang/String" "coder" "B", .code yJ0_length_8abf5 cJ0_length_8abf5 1 (some .int), .methodLink RJ0 335 yJ0_coder_7d493, .instanceMethod yJ0_coder_7d493, .selects RJ0 yJ0_coder_7d493 yJ0_coder_7d493, .initialized RJ0, .code yJ0_isLatin1_aae02 cJ0_isLatin1_aae02 1 (some .boolean), .code yJ3_checkIndex_8e157 cJ3_checkIndex_8e157 3 (some .int), .code yJ0_checkIndex_df160 cJ0_checkIndex_df160 2 none, .fieldLink RJ0 1053 "jdk/internal/util/Preconditions" "SIOOBE_FORMATTER" "Ljava/util/function/BiFunction;", .methodLink RJ0 1059 yJ3_checkIndex_8e157, .static yJ3_checkIndex_8e157, .initialized RJ3, .code yJ1_charAt_3b067 cJ1_charAt_3b067 2 (some .char), .methodLink RJ1 9 yJ0_checkIndex_df160, .static yJ0_checkIndex_df160, .code yJ2_length_9d52b cJ2_length_9d52b 1 (some .int), .code yJ2_checkIndex_2214a cJ2_checkIndex_2214a 2 none, .methodLink RJ2 48 yJ2_length_9d52b, .static yJ2_length_9d52b, .initialized RJ2, .methodLink RJ2 414 yJ0_checkIndex_df160]
def B4 : List Cond := [.code yJ2_getChar_3b067 cJ2_getChar_3b067 2 (some .char), .fieldLink RJ2 44 "java/lang/StringUTF16" "$assertionsDisabled" "Z", .fieldLink RJ2 59 "java/lang/StringUTF16" "HI_BYTE_SHIFT" "I", .fieldLink RJ2 63 "java/lang/StringUTF16" "LO_BYTE_SHIFT" "I", .code yJ2_charAt_3b067 cJ2_charAt_3b067 2 (some .char), .methodLink RJ2 67 yJ2_checkIndex_2214a, .static yJ2_checkIndex_2214a, .methodLink RJ2 71 yJ2_getChar_3b067, .static yJ2_getChar_3b067, .methodLink RJ0 492 yJ0_isLatin1_aae02, .instanceMethod yJ0_isLatin1_aae02, .selects RJ0 yJ0_isLatin1_aae02 yJ0_isLatin1_aae02, .methodLink RJ0 495 yJ1_charAt_3b067, .static yJ1_charAt_3b067, .initialized RJ1, .methodLink RJ0 498 yJ2_charAt_3b067, .static yJ2_charAt_3b067, .code yJ0_charAt_5068e cJ0_charAt_5068e 2 (some .char), .code yX1_isDigit cX1_isDigit 1 (some .boolean), .code yX1_addNumber cX1_addNumber 2 none, .code yX1_readNumber cX1_readNumber 3 (some .boolean), .methodLink RX1 45 yX1_signAt, .instanceMethod yX1_signAt, .selects RX1 yX1_signAt yX1_signAt, .methodLink RX1 87 yX1_isDigit]
def B5 : List Cond := [.static yX1_isDigit, .methodLink RX1 90 yX1_addNumber, .instanceMethod yX1_addNumber, .selects RX1 yX1_addNumber yX1_addNumber, .code yX1_readPart cX1_readPart 2 (some .boolean), .methodLink RX1 83 yX1_readNumber, .instanceMethod yX1_readNumber, .selects RX1 yX1_readNumber yX1_readNumber, .methodLink RX1 63 yX1_formOf, .static yX1_formOf, .methodLink RX1 67 yJ0_isEmpty_aae02, .instanceMethod yJ0_isEmpty_aae02, .selects RJ0 yJ0_isEmpty_aae02 yJ0_isEmpty_aae02, .methodLink RX1 72 yJ0_length_8abf5, .instanceMethod yJ0_length_8abf5, .selects RJ0 yJ0_length_8abf5 yJ0_length_8abf5, .methodLink RX1 75 yJ0_charAt_5068e, .instanceMethod yJ0_charAt_5068e, .selects RJ0 yJ0_charAt_5068e yJ0_charAt_5068e, .methodLink RX1 79 yX1_readPart, .instanceMethod yX1_readPart, .selects RX1 yX1_readPart yX1_readPart, .code yX1_readOrder cX1_readOrder 3 (some .boolean), .methodLink RX1 41 yX1_readOrder, .instanceMethod yX1_readOrder]
def B6 : List Cond := [.selects RX1 yX1_readOrder yX1_readOrder, .code yX1_firstFault cX1_firstFault 2 (some .int), .code yX1_stepOverSemicolon cX1_stepOverSemicolon 1 none, .code yX2_read cX2_read 4 (some .int), .code yX2_hasPerson cX2_hasPerson 2 (some .boolean), .code yX2_hasQuarrel cX2_hasQuarrel 2 (some .boolean), .code yX2_isOpen cX2_isOpen 2 (some .boolean), .methodLink RX2 47 yX2_read, .instanceMethod yX2_read, .selects RX2 yX2_read yX2_read, .code yX2_allows cX2_allows 2 (some .boolean), .code yX2_hoursSince cX2_hoursSince 2 (some .int), .code yX2_oathLeft cX2_oathLeft 2 (some .int), .methodLink RX2 50 Lib.Math.max.name, .static Lib.Math.max.name, .code Lib.Math.max.name Lib.Math.max.code 2 (some .int), .code yX2_isPoints cX2_isPoints 1 (some .boolean), .code yX2_isRank cX2_isRank 1 (some .boolean), .code yX2_areThese cX2_areThese 4 (some .boolean), .code yX2_changeSetting cX2_changeSetting 4 (some .int), .fieldLink RX2 53 "QuarrelWays$Town" "LOWEST" "[I", .fieldLink RX2 56 "QuarrelWays$Town" "HIGHEST" "[I", .code yX2_addPerson cX2_addPerson 4 (some .int), .methodLink RX2 59 yX2_isPoints, .static yX2_isPoints]
def B7 : List Cond := [.code yX2_takeSecond cX2_takeSecond 4 (some .int), .methodLink RX2 63 yX2_hasPerson, .instanceMethod yX2_hasPerson, .selects RX2 yX2_hasPerson yX2_hasPerson, .code yX2_allowOrBar cX2_allowOrBar 2 (some .int), .code yX2_errorOfInsult cX2_errorOfInsult 4 (some .int), .methodLink RX2 66 yX2_isRank, .static yX2_isRank, .code yX2_haveOpenQuarrel cX2_haveOpenQuarrel 4 (some .boolean), .methodLink RX2 69 yX2_isOpen, .instanceMethod yX2_isOpen, .selects RX2 yX2_isOpen yX2_isOpen, .methodLink RX2 72 yX2_areThese, .static yX2_areThese, .code yX2_addEvent cX2_addEvent 4 none, .methodLink RX2 114 yJ9_floorMod_7cf53, .methodLink RX2 76 yX2_errorOfInsult, .instanceMethod yX2_errorOfInsult, .selects RX2 yX2_errorOfInsult yX2_errorOfInsult, .methodLink RX2 80 yX2_haveOpenQuarrel, .instanceMethod yX2_haveOpenQuarrel, .selects RX2 yX2_haveOpenQuarrel yX2_haveOpenQuarrel, .methodLink RX2 84 yX2_addEvent, .instanceMethod yX2_addEvent, .selects RX2 yX2_addEvent yX2_addEvent]
def B8 : List Cond := [.code yX2_addQuarrel cX2_addQuarrel 6 (some .int), .code yX2_secondsCanSettle cX2_secondsCanSettle 6 (some .boolean), .code yX2_hoursToCool cX2_hoursToCool 2 (some .int), .code yX2_peaceLeft cX2_peaceLeft 5 (some .int), .methodLink RX2 124 yX2_secondsCanSettle, .instanceMethod yX2_secondsCanSettle, .selects RX2 yX2_secondsCanSettle yX2_secondsCanSettle, .methodLink RX2 128 yX2_hoursToCool, .instanceMethod yX2_hoursToCool, .selects RX2 yX2_hoursToCool yX2_hoursToCool, .methodLink RX2 111 yX2_oathLeft, .instanceMethod yX2_oathLeft, .selects RX2 yX2_oathLeft yX2_oathLeft, .methodLink RX2 131 yX2_peaceLeft, .instanceMethod yX2_peaceLeft, .selects RX2 yX2_peaceLeft yX2_peaceLeft, .code yX2_waysBetween cX2_waysBetween 6 (some .int), .methodLink RX2 117 yX2_hoursSince, .instanceMethod yX2_hoursSince, .selects RX2 yX2_hoursSince yX2_hoursSince, .methodLink RX2 120 yX2_waysBetween, .instanceMethod yX2_waysBetween, .selects RX2 yX2_waysBetween yX2_waysBetween, .code yX2_waysOf cX2_waysOf 2 (some .int), .code yX2_addPoints cX2_addPoints 5 none]
def B9 : List Cond := [.code yX2_quarrelsWith cX2_quarrelsWith 5 (some .int), .methodLink RX2 88 yX2_hasQuarrel, .instanceMethod yX2_hasQuarrel, .selects RX2 yX2_hasQuarrel yX2_hasQuarrel, .methodLink RX2 91 yX2_waysOf, .instanceMethod yX2_waysOf, .selects RX2 yX2_waysOf yX2_waysOf, .methodLink RX2 95 yX2_addPoints, .instanceMethod yX2_addPoints, .selects RX2 yX2_addPoints yX2_addPoints, .methodLink RX2 98 yX2_quarrelsWith, .instanceMethod yX2_quarrelsWith, .selects RX2 yX2_quarrelsWith yX2_quarrelsWith, .code yX2_settleBy cX2_settleBy 3 (some .int), .code yX2_whyNotDue cX2_whyNotDue 3 (some .int), .code yX2_skillOf cX2_skillOf 2 (some .int), .code yX2_winnerOf cX2_winnerOf 4 (some .int), .methodLink RX2 143 yX2_skillOf, .instanceMethod yX2_skillOf, .selects RX2 yX2_skillOf yX2_skillOf, .code yX2_bindByOath cX2_bindByOath 3 none, .methodLink RX2 101 yX2_whyNotDue, .instanceMethod yX2_whyNotDue, .selects RX2 yX2_whyNotDue yX2_whyNotDue, .methodLink RX2 104 yX2_winnerOf]
def B10 : List Cond := [.instanceMethod yX2_winnerOf, .selects RX2 yX2_winnerOf yX2_winnerOf, .methodLink RX2 107 yX2_bindByOath, .instanceMethod yX2_bindByOath, .selects RX2 yX2_bindByOath yX2_bindByOath, .code yX2_duel cX2_duel 5 (some .int), .code yX2_takeOath cX2_takeOath 2 (some .int), .code yX2_moveOn cX2_moveOn 3 (some .int), .code yX2_firstOf cX2_firstOf 2 (some .int), .code yX2_hoursUntilCool cX2_hoursUntilCool 2 (some .int), .code yX2_orNoneIfTooFar cX2_orNoneIfTooFar 1 (some .int), .methodLink RX2 134 yX2_allows, .instanceMethod yX2_allows, .selects RX2 yX2_allows yX2_allows, .methodLink RX2 137 yX2_hoursUntilCool, .instanceMethod yX2_hoursUntilCool, .selects RX2 yX2_hoursUntilCool yX2_hoursUntilCool, .methodLink RX2 140 yX2_orNoneIfTooFar, .static yX2_orNoneIfTooFar, .code yX2_hoursUntilWay cX2_hoursUntilWay 2 (some .int), .code yX2_hoursUntilDuel cX2_hoursUntilDuel 5 (some .int), .code yX2_duelsOf cX2_duelsOf 5 (some .int), .code yX2_personsWithSecond cX2_personsWithSecond 4 (some .int), .methodLink RX2 146 yX2_duelsOf, .instanceMethod yX2_duelsOf]
def B11 : List Cond := [.selects RX2 yX2_duelsOf yX2_duelsOf, .methodLink RX2 149 yX2_personsWithSecond, .instanceMethod yX2_personsWithSecond, .selects RX2 yX2_personsWithSecond yX2_personsWithSecond, .code yX2_tellPerson cX2_tellPerson 3 (some .int), .code yX2_tellQuarrel cX2_tellQuarrel 3 (some .int), .code yX2_tellEvent cX2_tellEvent 4 (some .int), .code yX2_pressureOf cX2_pressureOf 2 (some .int), .code yX2_quarrelsBefore cX2_quarrelsBefore 5 (some .int), .methodLink RX2 155 yX2_pressureOf, .instanceMethod yX2_pressureOf, .selects RX2 yX2_pressureOf yX2_pressureOf, .code yX2_quarrelThatPresses cX2_quarrelThatPresses 3 (some .int), .methodLink RX2 152 yX2_quarrelsBefore, .instanceMethod yX2_quarrelsBefore, .selects RX2 yX2_quarrelsBefore yX2_quarrelsBefore, .code yX2_insultsFrom cX2_insultsFrom 4 (some .int), .code yX2_openQuarrels cX2_openQuarrels 3 (some .int), .code yX2_dueQuarrels cX2_dueQuarrels 3 (some .int), .code yX2_personsUnderOath cX2_personsUnderOath 3 (some .int), .methodLink RX2 158 yX2_openQuarrels, .instanceMethod yX2_openQuarrels, .selects RX2 yX2_openQuarrels yX2_openQuarrels, .methodLink RX2 162 yX2_dueQuarrels, .instanceMethod yX2_dueQuarrels]
def B12 : List Cond := [.selects RX2 yX2_dueQuarrels yX2_dueQuarrels, .methodLink RX2 165 yX2_personsUnderOath, .instanceMethod yX2_personsUnderOath, .selects RX2 yX2_personsUnderOath yX2_personsUnderOath, .code yX2_tellNumber cX2_tellNumber 2 (some .int), .methodLink RX3 1 objectInit, .classLink RX3 7 RX2, .fieldLink RX3 10 "QuarrelWays" "town" "LQuarrelWays$Town;", .classLink RX3 16 RX0, .instantiable RX0 3, .fieldLink RX3 19 "QuarrelWays" "history" "LQuarrelWays$History;", .classLink RX3 23 RX1, .instantiable RX1 6, .fieldLink RX3 26 "QuarrelWays" "pad" "LQuarrelWays$Pad;", .fieldLink RX3 30 "QuarrelWays" "slots" "[LQuarrelWays$Town;", .instanceMethod yX0_init, .instanceMethod yX1_init, .code yX3_init cX3_init 1 none, .instanceMethod yX0_note, .selects RX0 yX0_note yX0_note, .instanceMethod yX2_changeSetting, .selects RX2 yX2_changeSetting yX2_changeSetting, .instanceMethod yX0_keepUnlessError, .selects RX0 yX0_keepUnlessError yX0_keepUnlessError, .code yX3_set cX3_set 3 (some .int)]
def B13 : List Cond := [.instanceMethod yX2_addPerson, .selects RX2 yX2_addPerson yX2_addPerson, .code yX3_person cX3_person 3 (some .int), .instanceMethod yX2_takeSecond, .selects RX2 yX2_takeSecond yX2_takeSecond, .code yX3_second cX3_second 3 (some .int), .instanceMethod yX2_allowOrBar, .selects RX2 yX2_allowOrBar yX2_allowOrBar, .code yX3_allow cX3_allow 2 (some .int), .instanceMethod yX2_addQuarrel, .selects RX2 yX2_addQuarrel yX2_addQuarrel, .code yX3_insult cX3_insult 4 (some .int), .instanceMethod yX2_settleBy, .selects RX2 yX2_settleBy yX2_settleBy, .code yX3_settle cX3_settle 3 (some .int), .instanceMethod yX2_duel, .selects RX2 yX2_duel yX2_duel, .code yX3_fight cX3_fight 2 (some .int), .instanceMethod yX2_takeOath, .selects RX2 yX2_takeOath yX2_takeOath, .code yX3_swear cX3_swear 2 (some .int), .code yJ6_bitCount_0f7a4 cJ6_bitCount_0f7a4 1 (some .int), .constant RJ6 265 1431655765, .constant RJ6 266 858993459, .constant RJ6 267 252645135]
def B14 : List Cond := [.instanceMethod yX2_moveOn, .selects RX2 yX2_moveOn yX2_moveOn, .methodLink RX3 71 yX3_isError, .methodLink RX3 79 yJ6_bitCount_0f7a4, .static yJ6_bitCount_0f7a4, .initialized RJ6, .code yX3_pass cX3_pass 3 (some .int), .instanceMethod yX2_tellPerson, .selects RX2 yX2_tellPerson yX2_tellPerson, .code yX3_of cX3_of 3 (some .int), .instanceMethod yX2_tellQuarrel, .selects RX2 yX2_tellQuarrel yX2_tellQuarrel, .code yX3_quarrel cX3_quarrel 3 (some .int), .code yX3_record cX3_record 3 (some .int), .instanceMethod yX2_tellEvent, .selects RX2 yX2_tellEvent yX2_tellEvent, .instanceMethod yX2_quarrelThatPresses, .selects RX2 yX2_quarrelThatPresses yX2_quarrelThatPresses, .code yX3_pressing cX3_pressing 2 (some .int), .code yX3_insults cX3_insults 2 (some .int), .instanceMethod yX2_insultsFrom, .selects RX2 yX2_insultsFrom yX2_insultsFrom, .instanceMethod yX2_tellNumber, .selects RX2 yX2_tellNumber yX2_tellNumber, .code yX3_count cX3_count 2 (some .int)]
def B15 : List Cond := [.code yX3_why cX3_why 2 (some .int), .static yX2_firstOf, .code yX3_firstWay cX3_firstWay 2 (some .int), .instanceMethod yX2_hoursUntilWay, .selects RX2 yX2_hoursUntilWay yX2_hoursUntilWay, .code yX3_opensIn cX3_opensIn 2 (some .int), .instanceMethod yX2_hoursUntilDuel, .selects RX2 yX2_hoursUntilDuel yX2_hoursUntilDuel, .code yX3_dueIn cX3_dueIn 2 (some .int), .code yX3_ifInsulted cX3_ifInsulted 5 (some .int), .code yX3_ifFought cX3_ifFought 2 (some .int), .code yX3_put cX3_put 4 (some .int), .static yX1_signsIn, .instanceMethod yX1_append, .selects RX1 yX1_append yX1_append, .code yX3_wipe cX3_wipe 2 (some .int), .instanceMethod yX1_firstFault, .selects RX1 yX1_firstFault yX1_firstFault, .code yX3_fault cX3_fault 1 (some .int), .instanceMethod yX1_number, .selects RX1 yX1_number yX1_number, .code yX3_carryOutOrder cX3_carryOutOrder 3 (some .int), .methodLink RX3 158 yX3_carryOutOrder, .instanceMethod yX3_carryOutOrder, .selects RX3 yX3_carryOutOrder yX3_carryOutOrder]
def B16 : List Cond := [.instanceMethod yX1_stepOverSemicolon, .selects RX1 yX1_stepOverSemicolon yX1_stepOverSemicolon, .code yX3_carryOut cX3_carryOut 3 (some .int), .instanceMethod yX0_goBack, .selects RX0 yX0_goBack yX0_goBack, .code yX3_undo cX3_undo 1 (some .int), .code yX3_isSlot cX3_isSlot 2 (some .boolean), .methodLink RX3 168 yX3_isSlot, .instanceMethod yX3_isSlot, .selects RX3 yX3_isSlot yX3_isSlot, .code yX3_save cX3_save 3 (some .int), .code yX3_restore cX3_restore 3 (some .int), .code yX4_init cX4_init 1 none, .methodLink RX4 1 objectInit, .fieldLink RX4 7 "QuarrelWaysModel" "s" "[I", .fieldLink RX4 13 "QuarrelWaysModel" "aside" "[I", .fieldLink RX4 16 "QuarrelWaysModel" "before" "[I", .fieldLink RX4 19 "QuarrelWaysModel" "kept" "[I", .arrayClass .boolean, .fieldLink RX4 22 "QuarrelWaysModel" "isKept" "[Z", .fieldLink RX4 26 "QuarrelWaysModel" "pad" "[I", .code yX4_in cX4_in 3 (some .boolean), .code yX4_putAside cX4_putAside 2 none, .code yX4_end cX4_end 3 (some .int), .fieldLink RX4 29 "QuarrelWaysModel" "known" "I"]
def B17 : List Cond := [.code yX4_isPerson cX4_isPerson 2 (some .boolean), .methodLink RX4 33 yX4_in, .static yX4_in, .initialized RX4, .code yX4_isQuarrel cX4_isQuarrel 2 (some .boolean), .code yX4_person0 cX4_person0 3 (some .int), .code yX4_quarrel0 cX4_quarrel0 3 (some .int), .code yX4_isUnderOath cX4_isUnderOath 3 (some .boolean), .methodLink RX4 37 yX4_person0, .instanceMethod yX4_person0, .selects RX4 yX4_person0 yX4_person0, .code yX4_areOfThese cX4_areOfThese 6 (some .boolean), .methodLink RX4 41 yX4_quarrel0, .instanceMethod yX4_quarrel0, .selects RX4 yX4_quarrel0 yX4_quarrel0, .code yX4_hasPeace cX4_hasPeace 8 (some .boolean), .methodLink RX4 44 yX4_areOfThese, .instanceMethod yX4_areOfThese, .selects RX4 yX4_areOfThese yX4_areOfThese, .code yX4_haveSeconds cX4_haveSeconds 7 (some .boolean), .methodLink RX4 47 yX4_haveSeconds, .instanceMethod yX4_haveSeconds, .selects RX4 yX4_haveSeconds yX4_haveSeconds, .methodLink RX4 50 yX4_isUnderOath, .instanceMethod yX4_isUnderOath]
def B18 : List Cond := [.selects RX4 yX4_isUnderOath yX4_isUnderOath, .methodLink RX4 54 yX4_hasPeace, .instanceMethod yX4_hasPeace, .selects RX4 yX4_hasPeace yX4_hasPeace, .code yX4_waysFor cX4_waysFor 8 (some .int), .code yX4_since cX4_since 2 (some .int), .methodLink RX4 58 yX4_since, .instanceMethod yX4_since, .selects RX4 yX4_since yX4_since, .methodLink RX4 62 yX4_waysFor, .instanceMethod yX4_waysFor, .selects RX4 yX4_waysFor yX4_waysFor, .code yX4_waysOf cX4_waysOf 3 (some .int), .methodLink RX4 66 yX4_waysOf, .instanceMethod yX4_waysOf, .selects RX4 yX4_waysOf yX4_waysOf, .code yX4_reason cX4_reason 3 (some .int), .code yX4_skill cX4_skill 2 (some .int), .code yX4_winnerOf cX4_winnerOf 4 (some .int), .methodLink RX4 69 yX4_skill, .instanceMethod yX4_skill, .selects RX4 yX4_skill yX4_skill, .code yX4_tell cX4_tell 4 none, .code yX4_change cX4_change 5 none, .code yX4_oath cX4_oath 3 none]
def B19 : List Cond := [.code yX4_quarrelsThat cX4_quarrelsThat 4 (some .int), .code yX4_size cX4_size 3 (some .int), .methodLink RX4 72 yX4_reason, .instanceMethod yX4_reason, .selects RX4 yX4_reason yX4_reason, .code yX4_due cX4_due 3 (some .int), .code yX4_comes cX4_comes 4 (some .int), .code yX4_takes cX4_takes 4 (some .int), .methodLink RX4 75 yX4_isPerson, .instanceMethod yX4_isPerson, .selects RX4 yX4_isPerson yX4_isPerson, .code yX4_turns cX4_turns 2 (some .int), .code yX4_offends cX4_offends 5 (some .int), .methodLink RX4 79 yX4_tell, .instanceMethod yX4_tell, .selects RX4 yX4_tell yX4_tell, .methodLink RX4 83 yX4_isQuarrel, .instanceMethod yX4_isQuarrel, .selects RX4 yX4_isQuarrel yX4_isQuarrel, .methodLink RX4 86 yX4_change, .instanceMethod yX4_change, .selects RX4 yX4_change yX4_change, .methodLink RX4 90 yX4_quarrelsThat, .instanceMethod yX4_quarrelsThat, .selects RX4 yX4_quarrelsThat yX4_quarrelsThat]
def B20 : List Cond := [.methodLink RX4 93 yX4_size, .static yX4_size, .code yX4_settles cX4_settles 4 (some .int), .methodLink RX4 96 yX4_winnerOf, .instanceMethod yX4_winnerOf, .selects RX4 yX4_winnerOf yX4_winnerOf, .methodLink RX4 99 yX4_oath, .instanceMethod yX4_oath, .selects RX4 yX4_oath yX4_oath, .code yX4_fights cX4_fights 5 (some .int), .code yX4_swears cX4_swears 2 (some .int), .methodLink RX4 103 yX4_due, .instanceMethod yX4_due, .selects RX4 yX4_due yX4_due, .code yX4_passes cX4_passes 2 (some .int), .code yX4_set cX4_set 6 (some .int), .methodLink RX4 107 yX4_putAside, .instanceMethod yX4_putAside, .selects RX4 yX4_putAside yX4_putAside, .methodLink RX4 110 yX4_end, .instanceMethod yX4_end, .selects RX4 yX4_end yX4_end, .code yX4_person cX4_person 3 (some .int), .methodLink RX4 113 yX4_comes, .instanceMethod yX4_comes]
def B21 : List Cond := [.selects RX4 yX4_comes yX4_comes, .methodLink RX4 116 yX4_takes, .instanceMethod yX4_takes, .selects RX4 yX4_takes yX4_takes, .code yX4_second cX4_second 3 (some .int), .code yX4_allow cX4_allow 2 (some .int), .methodLink RX4 119 yX4_turns, .instanceMethod yX4_turns, .selects RX4 yX4_turns yX4_turns, .methodLink RX4 122 yX4_offends, .instanceMethod yX4_offends, .selects RX4 yX4_offends yX4_offends, .code yX4_insult cX4_insult 4 (some .int), .methodLink RX4 126 yX4_settles, .instanceMethod yX4_settles, .selects RX4 yX4_settles yX4_settles, .code yX4_settle cX4_settle 3 (some .int), .methodLink RX4 129 yX4_fights, .instanceMethod yX4_fights, .selects RX4 yX4_fights yX4_fights, .code yX4_fight cX4_fight 2 (some .int), .methodLink RX4 132 yX4_swears, .instanceMethod yX4_swears, .selects RX4 yX4_swears yX4_swears, .code yX4_swear cX4_swear 2 (some .int)]
def B22 : List Cond := [.methodLink RX4 135 yX4_passes, .instanceMethod yX4_passes, .selects RX4 yX4_passes yX4_passes, .code yX4_pass cX4_pass 2 (some .int), .code yX4_parts cX4_parts 7 (some .int), .code yX4_secondOf cX4_secondOf 4 (some .int), .code yX4_oathLeft cX4_oathLeft 3 (some .int), .methodLink RX4 138 yX4_oathLeft, .instanceMethod yX4_oathLeft, .selects RX4 yX4_oathLeft yX4_oathLeft, .methodLink RX4 141 yX4_parts, .instanceMethod yX4_parts, .selects RX4 yX4_parts yX4_parts, .methodLink RX4 144 yX4_secondOf, .instanceMethod yX4_secondOf, .selects RX4 yX4_secondOf yX4_secondOf, .code yX4_of cX4_of 3 (some .int), .code yX4_quarrel cX4_quarrel 3 (some .int), .code yX4_record cX4_record 3 (some .int), .code yX4_press cX4_press 2 (some .int), .code yX4_pressing cX4_pressing 6 (some .int), .methodLink RX4 147 yX4_press, .instanceMethod yX4_press, .selects RX4 yX4_press yX4_press, .code yX4_insults cX4_insults 4 (some .int)]
def B23 : List Cond := [.code yX4_sworn cX4_sworn 3 (some .int), .fieldLink RX4 153 "QuarrelWaysModel" "length" "I", .methodLink RX4 150 yX4_sworn, .instanceMethod yX4_sworn, .selects RX4 yX4_sworn yX4_sworn, .code yX4_count cX4_count 2 (some .int), .code yX4_why cX4_why 2 (some .int), .code yX4_firstWay cX4_firstWay 3 (some .int), .code yX4_opensIn cX4_opensIn 3 (some .int), .code yX4_dueIn cX4_dueIn 3 (some .int), .code yX4_ifInsulted cX4_ifInsulted 4 (some .int), .code yX4_ifFought cX4_ifFought 2 (some .int), .code yX4_code cX4_code 3 (some .int), .constantLong RX4 156 255, .code yX4_put cX4_put 5 (some .int), .methodLink RX4 158 yX4_code, .static yX4_code, .code yX4_wipe cX4_wipe 2 (some .int), .code yX4_sign cX4_sign 4 (some .int), .fieldLink RX4 162 "QuarrelWaysModel" "place" "I", .fieldLink RX4 165 "QuarrelWaysModel" "isWrong" "Z", .code yX4_digit cX4_digit 1 (some .int), .methodLink RX4 169 yX4_sign, .instanceMethod yX4_sign, .selects RX4 yX4_sign yX4_sign]
def B24 : List Cond := [.code yX4_number cX4_number 2 (some .int), .methodLink RX4 172 yX4_digit, .instanceMethod yX4_digit, .selects RX4 yX4_digit yX4_digit, .methodLink RX4 175 yX4_number, .instanceMethod yX4_number, .selects RX4 yX4_number yX4_number, .code yX4_order cX4_order 8 (some .int), .methodLink RX4 178 yX4_order, .instanceMethod yX4_order, .selects RX4 yX4_order yX4_order, .code yX4_go cX4_go 6 (some .int), .methodLink RX4 182 yX4_go, .instanceMethod yX4_go, .selects RX4 yX4_go yX4_go, .code yX4_fault cX4_fault 2 (some .int), .code yX4_carryOut cX4_carryOut 3 (some .int), .code yX4_undo cX4_undo 2 (some .int), .code yX4_save cX4_save 3 (some .int), .code yX4_restore cX4_restore 3 (some .int), .code yJ9_max_7cf53 cJ9_max_7cf53 2 (some .int), .code yJ9_min_7cf53 cJ9_min_7cf53 2 (some .int), .classLink RL 7 RX3, .instantiable RX3 4, .classLink RL 10 RX4]
def B25 : List Cond := [.instantiable RX4 10, .constantLong RL 100 4294967295, .methodLink RL 9 yX3_init, .instanceMethod yX3_init, .methodLink RL 12 yX4_init, .instanceMethod yX4_init, .methodLink RL 13 yX3_set, .instanceMethod yX3_set, .selects RX3 yX3_set yX3_set, .methodLink RL 17 yX4_set, .instanceMethod yX4_set, .selects RX4 yX4_set yX4_set, .methodLink RL 18 yX3_person, .instanceMethod yX3_person, .selects RX3 yX3_person yX3_person, .methodLink RL 21 yX4_person, .instanceMethod yX4_person, .selects RX4 yX4_person yX4_person, .methodLink RL 22 yX3_second, .instanceMethod yX3_second, .selects RX3 yX3_second yX3_second, .methodLink RL 25 yX4_second, .instanceMethod yX4_second, .selects RX4 yX4_second yX4_second, .methodLink RL 26 yX3_allow]
def B26 : List Cond := [.instanceMethod yX3_allow, .selects RX3 yX3_allow yX3_allow, .methodLink RL 30 yX4_allow, .instanceMethod yX4_allow, .selects RX4 yX4_allow yX4_allow, .methodLink RL 31 yX3_insult, .instanceMethod yX3_insult, .selects RX3 yX3_insult yX3_insult, .methodLink RL 35 yX4_insult, .instanceMethod yX4_insult, .selects RX4 yX4_insult yX4_insult, .methodLink RL 36 yX3_settle, .instanceMethod yX3_settle, .selects RX3 yX3_settle yX3_settle, .methodLink RL 39 yX4_settle, .instanceMethod yX4_settle, .selects RX4 yX4_settle yX4_settle, .methodLink RL 40 yX3_fight, .instanceMethod yX3_fight, .selects RX3 yX3_fight yX3_fight, .methodLink RL 43 yX4_fight, .instanceMethod yX4_fight, .selects RX4 yX4_fight yX4_fight, .methodLink RL 44 yX3_swear, .instanceMethod yX3_swear]
def B27 : List Cond := [.selects RX3 yX3_swear yX3_swear, .methodLink RL 47 yX4_swear, .instanceMethod yX4_swear, .selects RX4 yX4_swear yX4_swear, .methodLink RL 48 yX3_pass, .instanceMethod yX3_pass, .selects RX3 yX3_pass yX3_pass, .methodLink RL 51 yX4_pass, .instanceMethod yX4_pass, .selects RX4 yX4_pass yX4_pass, .methodLink RL 52 yX3_of, .instanceMethod yX3_of, .selects RX3 yX3_of yX3_of, .methodLink RL 55 yX4_of, .instanceMethod yX4_of, .selects RX4 yX4_of yX4_of, .methodLink RL 56 yX3_quarrel, .instanceMethod yX3_quarrel, .selects RX3 yX3_quarrel yX3_quarrel, .methodLink RL 59 yX4_quarrel, .instanceMethod yX4_quarrel, .selects RX4 yX4_quarrel yX4_quarrel, .methodLink RL 60 yX3_record, .instanceMethod yX3_record, .selects RX3 yX3_record yX3_record]
def B28 : List Cond := [.methodLink RL 63 yX4_record, .instanceMethod yX4_record, .selects RX4 yX4_record yX4_record, .methodLink RL 64 yX3_pressing, .instanceMethod yX3_pressing, .selects RX3 yX3_pressing yX3_pressing, .methodLink RL 67 yX4_pressing, .instanceMethod yX4_pressing, .selects RX4 yX4_pressing yX4_pressing, .methodLink RL 68 yX3_insults, .instanceMethod yX3_insults, .selects RX3 yX3_insults yX3_insults, .methodLink RL 71 yX4_insults, .instanceMethod yX4_insults, .selects RX4 yX4_insults yX4_insults, .methodLink RL 72 yX3_count, .instanceMethod yX3_count, .selects RX3 yX3_count yX3_count, .methodLink RL 75 yX4_count, .instanceMethod yX4_count, .selects RX4 yX4_count yX4_count, .methodLink RL 76 yX3_why, .instanceMethod yX3_why, .selects RX3 yX3_why yX3_why, .methodLink RL 79 yX4_why]
def B29 : List Cond := [.instanceMethod yX4_why, .selects RX4 yX4_why yX4_why, .methodLink RL 80 yX3_firstWay, .instanceMethod yX3_firstWay, .selects RX3 yX3_firstWay yX3_firstWay, .methodLink RL 83 yX4_firstWay, .instanceMethod yX4_firstWay, .selects RX4 yX4_firstWay yX4_firstWay, .methodLink RL 84 yX3_opensIn, .instanceMethod yX3_opensIn, .selects RX3 yX3_opensIn yX3_opensIn, .methodLink RL 87 yX4_opensIn, .instanceMethod yX4_opensIn, .selects RX4 yX4_opensIn yX4_opensIn, .methodLink RL 88 yX3_dueIn, .instanceMethod yX3_dueIn, .selects RX3 yX3_dueIn yX3_dueIn, .methodLink RL 91 yX4_dueIn, .instanceMethod yX4_dueIn, .selects RX4 yX4_dueIn yX4_dueIn, .methodLink RL 92 yX3_ifInsulted, .instanceMethod yX3_ifInsulted, .selects RX3 yX3_ifInsulted yX3_ifInsulted, .methodLink RL 95 yX4_ifInsulted, .instanceMethod yX4_ifInsulted]
def B30 : List Cond := [.selects RX4 yX4_ifInsulted yX4_ifInsulted, .methodLink RL 96 yX3_ifFought, .instanceMethod yX3_ifFought, .selects RX3 yX3_ifFought yX3_ifFought, .methodLink RL 99 yX4_ifFought, .instanceMethod yX4_ifFought, .selects RX4 yX4_ifFought yX4_ifFought, .methodLink RL 102 yX3_put, .instanceMethod yX3_put, .selects RX3 yX3_put yX3_put, .methodLink RL 106 yX4_put, .instanceMethod yX4_put, .selects RX4 yX4_put yX4_put, .methodLink RL 107 yX3_wipe, .instanceMethod yX3_wipe, .selects RX3 yX3_wipe yX3_wipe, .methodLink RL 111 yX4_wipe, .instanceMethod yX4_wipe, .selects RX4 yX4_wipe yX4_wipe, .methodLink RL 112 yX3_fault, .instanceMethod yX3_fault, .selects RX3 yX3_fault yX3_fault, .methodLink RL 115 yX4_fault, .instanceMethod yX4_fault, .selects RX4 yX4_fault yX4_fault]
def B31 : List Cond := [.methodLink RL 116 yX3_carryOut, .instanceMethod yX3_carryOut, .selects RX3 yX3_carryOut yX3_carryOut, .methodLink RL 119 yX4_carryOut, .instanceMethod yX4_carryOut, .selects RX4 yX4_carryOut yX4_carryOut, .methodLink RL 120 yX3_undo, .instanceMethod yX3_undo, .selects RX3 yX3_undo yX3_undo, .methodLink RL 123 yX4_undo, .instanceMethod yX4_undo, .selects RX4 yX4_undo yX4_undo, .methodLink RL 124 yX3_save, .instanceMethod yX3_save, .selects RX3 yX3_save yX3_save, .methodLink RL 127 yX4_save, .instanceMethod yX4_save, .selects RX4 yX4_save yX4_save, .methodLink RL 128 yX3_restore, .instanceMethod yX3_restore, .selects RX3 yX3_restore yX3_restore, .methodLink RL 131 yX4_restore, .instanceMethod yX4_restore, .selects RX4 yX4_restore yX4_restore]
def BW : List Cond := B0 ++ (B1 ++ (B2 ++ (B3 ++ (B4 ++ (B5 ++ (B6 ++ (B7 ++ (B8 ++ (B9 ++ (B10 ++ (B11 ++ (B12 ++ (B13 ++ (B14 ++ (B15 ++ (B16 ++ (B17 ++ (B18 ++ (B19 ++ (B20 ++ (B21 ++ (B22 ++ (B23 ++ (B24 ++ (B25 ++ (B26 ++ (B27 ++ (B28 ++ (B29 ++ (B30 ++ (B31 ++ (wsX00 ++ (wsX10 ++ (wsX20 ++ (wsX30 ++ (wsX40))))))))))))))))))))))))))))))))))))
theorem mb_0 {w : Cond} (h : w ∈ B0) : w ∈ BW := (List.mem_append_left _ h)
theorem mb_1 {w : Cond} (h : w ∈ B1) : w ∈ BW := (List.mem_append_right _ (List.mem_append_left _ h))
theorem mb_2 {w : Cond} (h : w ∈ B2) : w ∈ BW := (List.mem_append_right _ (List.mem_append_right _ (List.mem_append_left _ h)))
theorem mb_3 {w : Cond} (h : w ∈ B3) : w ∈ BW := (List.mem_append_right _ (List.mem_append_right _ (List.mem_append_right _ (List.mem_append_left _ h))))
theorem mb_4 {w : Cond} (h : w ∈ B4) : w ∈ BW := (List.mem_append_right _ (List.mem_append_right _ (List.mem_append_right _ (List.mem_append_right _ (List.mem_append_left _ h)))))
theorem mb_5 {w : Cond} (h : w ∈ B5) : w ∈ BW := (List.mem_append_right _ (List.mem_append_right _ (List.mem_append_right _ (List.mem_append_right _ (List.mem_append_right _ (List.mem_append_left _ h))))))
theorem mb_6 {w : Cond} (h : w ∈ B6) : w ∈ BW := (List.mem_append_right _ (List.mem_append_right _ (List.mem_append_right _ (List.mem_append_right _ (List.mem_append_right _ (List.mem_append_right _ (List.mem_append_left _ h)))))))
theorem mb_7 {w : Cond} (h : w ∈ B7) : w ∈ BW := (List.mem_append_right _ (List.mem_append_right _ (List.mem_append_right _ (List.mem_append_right _ (List.mem_append_right _ (List.mem_append_right _ (List.mem_append_right _ (List.mem_append_left _ h))))))))
theorem mb_8 {w : Cond} (h : w ∈ B8) : w ∈ BW := (List.mem_append_right _ (List.mem_append_right _ (List.mem_append_right _ (List.mem_append_right _ (List.mem_append_right _ (List.mem_append_right _ (List.mem_append_right _ (List.mem_append_right _ (List.mem_append_left _ h)))))))))
theorem mb_9 {w : Cond} (h : w ∈ B9) : w ∈ BW := (List.mem_append_right _ (List.mem_append_right _ (List.mem_append_right _ (List.mem_append_right _ (List.mem_append_right _ (List.mem_append_right _ (List.mem_append_right _ (List.mem_append_right _ (List.mem_append_right _ (List.mem_append_left _ h))))))))))
theorem mb_10 {w : Cond} (h : w ∈ B10) : w ∈ BW := (List.mem_append_right _ (List.mem_append_right _ (List.mem_append_right _ (List.mem_append_right _ (List.mem_append_right _ (List.mem_append_right _ (List.mem_append_right _ (List.mem_append_right _ (List.mem_append_right _ (List.mem_append_right _ (List.mem_append_left _ h)))))))))))
theorem mb_11 {w : Cond} (h : w ∈ B11) : w ∈ BW := (List.mem_append_right _ (List.mem_append_right _ (List.mem_append_right _ (List.mem_append_right _ (List.mem_append_right _ (List.mem_append_right _ (List.mem_append_right _ (List.mem_append_right _ (List.mem_append_right _ (List.mem_append_right _ (List.mem_append_right _ (List.mem_append_left _ h))))))))))))
theorem mb_12 {w : Cond} (h : w ∈ B12) : w ∈ BW := (List.mem_append_right _ (List.mem_append_right _ (List.mem_append_right _ (List.mem_append_right _ (List.mem_append_right _ (List.mem_append_right _ (List.mem_append_right _ (List.mem_append_right _ (List.mem_append_right _ (List.mem_append_right _ (List.mem_append_right _ (List.mem_append_right _ (List.mem_append_left _ h)))))))))))))
theorem mb_13 {w : Cond} (h : w ∈ B13) : w ∈ BW := (List.mem_append_right _ (List.mem_append_right _ (List.mem_append_right _ (List.mem_append_right _ (List.mem_append_right _ (List.mem_append_right _ (List.mem_append_right _ (List.mem_append_right _ (List.mem_append_right _ (List.mem_append_right _ (List.mem_append_right _ (List.mem_append_right _ (List.mem_append_right _ (List.mem_append_left _ h))))))))))))))
theorem mb_14 {w : Cond} (h : w ∈ B14) : w ∈ BW := (List.mem_append_right _ (List.mem_append_right _ (List.mem_append_right _ (List.mem_append_right _ (List.mem_append_right _ (List.mem_append_right _ (List.mem_append_right _ (List.mem_append_right _ (List.mem_append_right _ (List.mem_append_right _ (List.mem_append_right _ (List.mem_append_right _ (List.mem_append_right _ (List.mem_append_right _ (List.mem_append_left _ h)))))))))))))))
theorem mb_15 {w : Cond} (h : w ∈ B15) : w ∈ BW := (List.mem_append_right _ (List.mem_append_right _ (List.mem_append_right _ (List.mem_append_right _ (List.mem_append_right _ (List.mem_append_right _ (List.mem_append_right _ (List.mem_append_right _ (List.mem_append_right _ (List.mem_append_right _ (List.mem_append_right _ (List.mem_append_right _ (List.mem_append_right _ (List.mem_append_right _ (List.mem_append_right _ (List.mem_append_left _ h))))))))))))))))
theorem mb_16 {w : Cond} (h : w ∈ B16) : w ∈ BW := (List.mem_append_right _ (List.mem_append_right _ (List.mem_append_right _ (List.mem_append_right _ (List.mem_append_right _ (List.mem_append_right _ (List.mem_append_right _ (List.mem_append_right _ (List.mem_append_right _ (List.mem_append_right _ (List.mem_append_right _ (List.mem_append_right _ (List.mem_append_right _ (List.mem_append_right _ (List.mem_append_right _ (List.mem_append_right _ (List.mem_append_left _ h)))))))))))))))))
theorem mb_17 {w : Cond} (h : w ∈ B17) : w ∈ BW := (List.mem_append_right _ (List.mem_append_right _ (List.mem_append_right _ (List.mem_append_right _ (List.mem_append_right _ (List.mem_append_right _ (List.mem_append_right _ (List.mem_append_right _ (List.mem_append_right _ (List.mem_append_right _ (List.mem_append_right _ (List.mem_append_right _ (List.mem_append_right _ (List.mem_append_right _ (List.mem_append_right _ (List.mem_append_right _ (List.mem_append_right _ (List.mem_append_left _ h))))))))))))))))))
theorem mb_18 {w : Cond} (h : w ∈ B18) : w ∈ BW := (List.mem_append_right _ (List.mem_append_right _ (List.mem_append_right _ (List.mem_append_right _ (List.mem_append_right _ (List.mem_append_right _ (List.mem_append_right _ (List.mem_append_right _ (List.mem_append_right _ (List.mem_append_right _ (List.mem_append_right _ (List.mem_append_right _ (List.mem_append_right _ (List.mem_append_right _ (List.mem_append_right _ (List.mem_append_right _ (List.mem_append_right _ (List.mem_append_right _ (List.mem_append_left _ h)))))))))))))))))))
theorem mb_19 {w : Cond} (h : w ∈ B19) : w ∈ BW := (List.mem_append_right _ (List.mem_append_right _ (List.mem_append_right _ (List.mem_append_right _ (List.mem_append_right _ (List.mem_append_right _ (List.mem_append_right _ (List.mem_append_right _ (List.mem_append_right _ (List.mem_append_right _ (List.mem_append_right _ (List.mem_append_right _ (List.mem_append_right _ (List.mem_append_right _ (List.mem_append_right _ (List.mem_append_right _ (List.mem_append_right _ (List.mem_append_right _ (List.mem_append_right _ (List.mem_append_left _ h))))))))))))))))))))
theorem mb_20 {w : Cond} (h : w ∈ B20) : w ∈ BW := (List.mem_append_right _ (List.mem_append_right _ (List.mem_append_right _ (List.mem_append_right _ (List.mem_append_right _ (List.mem_append_right _ (List.mem_append_right _ (List.mem_append_right _ (List.mem_append_right _ (List.mem_append_right _ (List.mem_append_right _ (List.mem_append_right _ (List.mem_append_right _ (List.mem_append_right _ (List.mem_append_right _ (List.mem_append_right _ (List.mem_append_right _ (List.mem_append_right _ (List.mem_append_right _ (List.mem_append_right _ (List.mem_append_left _ h)))))))))))))))))))))
theorem mb_21 {w : Cond} (h : w ∈ B21) : w ∈ BW := (List.mem_append_right _ (List.mem_append_right _ (List.mem_append_right _ (List.mem_append_right _ (List.mem_append_right _ (List.mem_append_right _ (List.mem_append_right _ (List.mem_append_right _ (List.mem_append_right _ (List.mem_append_right _ (List.mem_append_right _ (List.mem_append_right _ (List.mem_append_right _ (List.mem_append_right _ (List.mem_append_right _ (List.mem_append_right _ (List.mem_append_right _ (List.mem_append_right _ (List.mem_append_right _ (List.mem_append_right _ (List.mem_append_right _ (List.mem_append_left _ h))))))))))))))))))))))
theorem mb_22 {w : Cond} (h : w ∈ B22) : w ∈ BW := (List.mem_append_right _ (List.mem_append_right _ (List.mem_append_right _ (List.mem_append_right _ (List.mem_append_right _ (List.mem_append_right _ (List.mem_append_right _ (List.mem_append_right _ (List.mem_append_right _ (List.mem_append_right _ (List.mem_append_right _ (List.mem_append_right _ (List.mem_append_right _ (List.mem_append_right _ (List.mem_append_right _ (List.mem_append_right _ (List.mem_append_right _ (List.mem_append_right _ (List.mem_append_right _ (List.mem_append_right _ (List.mem_append_right _ (List.mem_append_right _ (List.mem_append_left _ h)))))))))))))))))))))))
theorem mb_23 {w : Cond} (h : w ∈ B23) : w ∈ BW := (List.mem_append_right _ (List.mem_append_right _ (List.mem_append_right _ (List.mem_append_right _ (List.mem_append_right _ (List.mem_append_right _ (List.mem_append_right _ (List.mem_append_right _ (List.mem_append_right _ (List.mem_append_right _ (List.mem_append_right _ (List.mem_append_right _ (List.mem_append_right _ (List.mem_append_right _ (List.mem_append_right _ (List.mem_append_right _ (List.mem_append_right _ (List.mem_append_right _ (List.mem_append_right _ (List.mem_append_right _ (List.mem_append_right _ (List.mem_append_right _ (List.mem_append_right _ (List.mem_append_left _ h))))))))))))))))))))))))
theorem mb_24 {w : Cond} (h : w ∈ B24) : w ∈ BW := (List.mem_append_right _ (List.mem_append_right _ (List.mem_append_right _ (List.mem_append_right _ (List.mem_append_right _ (List.mem_append_right _ (List.mem_append_right _ (List.mem_append_right _ (List.mem_append_right _ (List.mem_append_right _ (List.mem_append_right _ (List.mem_append_right _ (List.mem_append_right _ (List.mem_append_right _ (List.mem_append_right _ (List.mem_append_right _ (List.mem_append_right _ (List.mem_append_right _ (List.mem_append_right _ (List.mem_append_right _ (List.mem_append_right _ (List.mem_append_right _ (List.mem_append_right _ (List.mem_append_right _ (List.mem_append_left _ h)))))))))))))))))))))))))
theorem mb_25 {w : Cond} (h : w ∈ B25) : w ∈ BW := (List.mem_append_right _ (List.mem_append_right _ (List.mem_append_right _ (List.mem_append_right _ (List.mem_append_right _ (List.mem_append_right _ (List.mem_append_right _ (List.mem_append_right _ (List.mem_append_right _ (List.mem_append_right _ (List.mem_append_right _ (List.mem_append_right _ (List.mem_append_right _ (List.mem_append_right _ (List.mem_append_right _ (List.mem_append_right _ (List.mem_append_right _ (List.mem_append_right _ (List.mem_append_right _ (List.mem_append_right _ (List.mem_append_right _ (List.mem_append_right _ (List.mem_append_right _ (List.mem_append_right _ (List.mem_append_right _ (List.mem_append_left _ h))))))))))))))))))))))))))
theorem mb_26 {w : Cond} (h : w ∈ B26) : w ∈ BW := (List.mem_append_right _ (List.mem_append_right _ (List.mem_append_right _ (List.mem_append_right _ (List.mem_append_right _ (List.mem_append_right _ (List.mem_append_right _ (List.mem_append_right _ (List.mem_append_right _ (List.mem_append_right _ (List.mem_append_right _ (List.mem_append_right _ (List.mem_append_right _ (List.mem_append_right _ (List.mem_append_right _ (List.mem_append_right _ (List.mem_append_right _ (List.mem_append_right _ (List.mem_append_right _ (List.mem_append_right _ (List.mem_append_right _ (List.mem_append_right _ (List.mem_append_right _ (List.mem_append_right _ (List.mem_append_right _ (List.mem_append_right _ (List.mem_append_left _ h)))))))))))))))))))))))))))
theorem mb_27 {w : Cond} (h : w ∈ B27) : w ∈ BW := (List.mem_append_right _ (List.mem_append_right _ (List.mem_append_right _ (List.mem_append_right _ (List.mem_append_right _ (List.mem_append_right _ (List.mem_append_right _ (List.mem_append_right _ (List.mem_append_right _ (List.mem_append_right _ (List.mem_append_right _ (List.mem_append_right _ (List.mem_append_right _ (List.mem_append_right _ (List.mem_append_right _ (List.mem_append_right _ (List.mem_append_right _ (List.mem_append_right _ (List.mem_append_right _ (List.mem_append_right _ (List.mem_append_right _ (List.mem_append_right _ (List.mem_append_right _ (List.mem_append_right _ (List.mem_append_right _ (List.mem_append_right _ (List.mem_append_right _ (List.mem_append_left _ h))))))))))))))))))))))))))))
theorem mb_28 {w : Cond} (h : w ∈ B28) : w ∈ BW := (List.mem_append_right _ (List.mem_append_right _ (List.mem_append_right _ (List.mem_append_right _ (List.mem_append_right _ (List.mem_append_right _ (List.mem_append_right _ (List.mem_append_right _ (List.mem_append_right _ (List.mem_append_right _ (List.mem_append_right _ (List.mem_append_right _ (List.mem_append_right _ (List.mem_append_right _ (List.mem_append_right _ (List.mem_append_right _ (List.mem_append_right _ (List.mem_append_right _ (List.mem_append_right _ (List.mem_append_right _ (List.mem_append_right _ (List.mem_append_right _ (List.mem_append_right _ (List.mem_append_right _ (List.mem_append_right _ (List.mem_append_right _ (List.mem_append_right _ (List.mem_append_right _ (List.mem_append_left _ h)))))))))))))))))))))))))))))
theorem mb_29 {w : Cond} (h : w ∈ B29) : w ∈ BW := (List.mem_append_right _ (List.mem_append_right _ (List.mem_append_right _ (List.mem_append_right _ (List.mem_append_right _ (List.mem_append_right _ (List.mem_append_right _ (List.mem_append_right _ (List.mem_append_right _ (List.mem_append_right _ (List.mem_append_right _ (List.mem_append_right _ (List.mem_append_right _ (List.mem_append_right _ (List.mem_append_right _ (List.mem_append_right _ (List.mem_append_right _ (List.mem_append_right _ (List.mem_append_right _ (List.mem_append_right _ (List.mem_append_right _ (List.mem_append_right _ (List.mem_append_right _ (List.mem_append_right _ (List.mem_append_right _ (List.mem_append_right _ (List.mem_append_right _ (List.mem_append_right _ (List.mem_append_right _ (List.mem_append_left _ h))))))))))))))))))))))))))))))
theorem mb_30 {w : Cond} (h : w ∈ B30) : w ∈ BW := (List.mem_append_right _ (List.mem_append_right _ (List.mem_append_right _ (List.mem_append_right _ (List.mem_append_right _ (List.mem_append_right _ (List.mem_append_right _ (List.mem_append_right _ (List.mem_append_right _ (List.mem_append_right _ (List.mem_append_right _ (List.mem_append_right _ (List.mem_append_right _ (List.mem_append_right _ (List.mem_append_right _ (List.mem_append_right _ (List.mem_append_right _ (List.mem_append_right _ (List.mem_append_right _ (List.mem_append_right _ (List.mem_append_right _ (List.mem_append_right _ (List.mem_append_right _ (List.mem_append_right _ (List.mem_append_right _ (List.mem_append_right _ (List.mem_append_right _ (List.mem_append_right _ (List.mem_append_right _ (List.mem_append_right _ (List.mem_append_left _ h)))))))))))))))))))))))))))))))
theorem mb_31 {w : Cond} (h : w ∈ B31) : w ∈ BW := (List.mem_append_right _ (List.mem_append_right _ (List.mem_append_right _ (List.mem_append_right _ (List.mem_append_right _ (List.mem_append_right _ (List.mem_append_right _ (List.mem_append_right _ (List.mem_append_right _ (List.mem_append_right _ (List.mem_append_right _ (List.mem_append_right _ (List.mem_append_right _ (List.mem_append_right _ (List.mem_append_right _ (List.mem_append_right _ (List.mem_append_right _ (List.mem_append_right _ (List.mem_append_right _ (List.mem_append_right _ (List.mem_append_right _ (List.mem_append_right _ (List.mem_append_right _ (List.mem_append_right _ (List.mem_append_right _ (List.mem_append_right _ (List.mem_append_right _ (List.mem_append_right _ (List.mem_append_right _ (List.mem_append_right _ (List.mem_append_right _ (List.mem_append_left _ h))))))))))))))))))))))))))))))))
theorem mb_32 {w : Cond} (h : w ∈ wsX00) : w ∈ BW := (List.mem_append_right _ (List.mem_append_right _ (List.mem_append_right _ (List.mem_append_right _ (List.mem_append_right _ (List.mem_append_right _ (List.mem_append_right _ (List.mem_append_right _ (List.mem_append_right _ (List.mem_append_right _ (List.mem_append_right _ (List.mem_append_right _ (List.mem_append_right _ (List.mem_append_right _ (List.mem_append_right _ (List.mem_append_right _ (List.mem_append_right _ (List.mem_append_right _ (List.mem_append_right _ (List.mem_append_right _ (List.mem_append_right _ (List.mem_append_right _ (List.mem_append_right _ (List.mem_append_right _ (List.mem_append_right _ (List.mem_append_right _ (List.mem_append_right _ (List.mem_append_right _ (List.mem_append_right _ (List.mem_append_right _ (List.mem_append_right _ (List.mem_append_right _ (List.mem_append_left _ h)))))))))))))))))))))))))))))))))
theorem mb_33 {w : Cond} (h : w ∈ wsX10) : w ∈ BW := (List.mem_append_right _ (List.mem_append_right _ (List.mem_append_right _ (List.mem_append_right _ (List.mem_append_right _ (List.mem_append_right _ (List.mem_append_right _ (List.mem_append_right _ (List.mem_append_right _ (List.mem_append_right _ (List.mem_append_right _ (List.mem_append_right _ (List.mem_append_right _ (List.mem_append_right _ (List.mem_append_right _ (List.mem_append_right _ (List.mem_append_right _ (List.mem_append_right _ (List.mem_append_right _ (List.mem_append_right _ (List.mem_append_right _ (List.mem_append_right _ (List.mem_append_right _ (List.mem_append_right _ (List.mem_append_right _ (List.mem_append_right _ (List.mem_append_right _ (List.mem_append_right _ (List.mem_append_right _ (List.mem_append_right _ (List.mem_append_right _ (List.mem_append_right _ (List.mem_append_right _ (List.mem_append_left _ h))))))))))))))))))))))))))))))))))
theorem mb_34 {w : Cond} (h : w ∈ wsX20) : w ∈ BW := (List.mem_append_right _ (List.mem_append_right _ (List.mem_append_right _ (List.mem_append_right _ (List.mem_append_right _ (List.mem_append_right _ (List.mem_append_right _ (List.mem_append_right _ (List.mem_append_right _ (List.mem_append_right _ (List.mem_append_right _ (List.mem_append_right _ (List.mem_append_right _ (List.mem_append_right _ (List.mem_append_right _ (List.mem_append_right _ (List.mem_append_right _ (List.mem_append_right _ (List.mem_append_right _ (List.mem_append_right _ (List.mem_append_right _ (List.mem_append_right _ (List.mem_append_right _ (List.mem_append_right _ (List.mem_append_right _ (List.mem_append_right _ (List.mem_append_right _ (List.mem_append_right _ (List.mem_append_right _ (List.mem_append_right _ (List.mem_append_right _ (List.mem_append_right _ (List.mem_append_right _ (List.mem_append_right _ (List.mem_append_left _ h)))))))))))))))))))))))))))))))))))
theorem mb_35 {w : Cond} (h : w ∈ wsX30) : w ∈ BW := (List.mem_append_right _ (List.mem_append_right _ (List.mem_append_right _ (List.mem_append_right _ (List.mem_append_right _ (List.mem_append_right _ (List.mem_append_right _ (List.mem_append_right _ (List.mem_append_right _ (List.mem_append_right _ (List.mem_append_right _ (List.mem_append_right _ (List.mem_append_right _ (List.mem_append_right _ (List.mem_append_right _ (List.mem_append_right _ (List.mem_append_right _ (List.mem_append_right _ (List.mem_append_right _ (List.mem_append_right _ (List.mem_append_right _ (List.mem_append_right _ (List.mem_append_right _ (List.mem_append_right _ (List.mem_append_right _ (List.mem_append_right _ (List.mem_append_right _ (List.mem_append_right _ (List.mem_append_right _ (List.mem_append_right _ (List.mem_append_right _ (List.mem_append_right _ (List.mem_append_right _ (List.mem_append_right _ (List.mem_append_right _ (List.mem_append_left _ h))))))))))))))))))))))))))))))))))))
theorem mb_36 {w : Cond} (h : w ∈ wsX40) : w ∈ BW := (List.mem_append_right _ (List.mem_append_right _ (List.mem_append_right _ (List.mem_append_right _ (List.mem_append_right _ (List.mem_append_right _ (List.mem_append_right _ (List.mem_append_right _ (List.mem_append_right _ (List.mem_append_right _ (List.mem_append_right _ (List.mem_append_right _ (List.mem_append_right _ (List.mem_append_right _ (List.mem_append_right _ (List.mem_append_right _ (List.mem_append_right _ (List.mem_append_right _ (List.mem_append_right _ (List.mem_append_right _ (List.mem_append_right _ (List.mem_append_right _ (List.mem_append_right _ (List.mem_append_right _ (List.mem_append_right _ (List.mem_append_right _ (List.mem_append_right _ (List.mem_append_right _ (List.mem_append_right _ (List.mem_append_right _ (List.mem_append_right _ (List.mem_append_right _ (List.mem_append_right _ (List.mem_append_right _ (List.mem_append_right _ (List.mem_append_right _ h))))))))))))))))))))))))))))))))))))
theorem mw_0 : .code yX2_write cX2_write 5 none ∈ BW := mb_0 (List.mem_of_getElem? (i := 0) rfl)
theorem mw_1 : .fieldLink RX2 27 "QuarrelWays$Town" "cells" "[I" ∈ BW := mb_0 (List.mem_of_getElem? (i := 1) rfl)
theorem mw_2 : .code yX2_init cX2_init 1 none ∈ BW := mb_0 (List.mem_of_getElem? (i := 2) rfl)
theorem mw_3 : .methodLink RX2 5 objectInit ∈ BW := mb_0 (List.mem_of_getElem? (i := 3) rfl)
theorem mw_4 : .instanceMethod objectInit ∈ BW := mb_0 (List.mem_of_getElem? (i := 4) rfl)
theorem mw_5 : .code objectInit ⟨#[0xb1]⟩ 1 none ∈ BW := mb_0 (List.mem_of_getElem? (i := 5) rfl)
theorem mw_6 : .fieldLink RX2 11 "QuarrelWays$Town" "hour" "I" ∈ BW := mb_0 (List.mem_of_getElem? (i := 6) rfl)
theorem mw_7 : .fieldLink RX2 15 "QuarrelWays$Town" "allowed" "I" ∈ BW := mb_0 (List.mem_of_getElem? (i := 7) rfl)
theorem mw_8 : .fieldLink RX2 18 "QuarrelWays$Town" "persons" "I" ∈ BW := mb_0 (List.mem_of_getElem? (i := 8) rfl)
theorem mw_9 : .fieldLink RX2 21 "QuarrelWays$Town" "quarrels" "I" ∈ BW := mb_0 (List.mem_of_getElem? (i := 9) rfl)
theorem mw_10 : .fieldLink RX2 24 "QuarrelWays$Town" "events" "I" ∈ BW := mb_0 (List.mem_of_getElem? (i := 10) rfl)
theorem mw_11 : .arrayClass .int ∈ BW := mb_0 (List.mem_of_getElem? (i := 11) rfl)
theorem mw_12 : .methodLink RX2 31 yX2_write ∈ BW := mb_0 (List.mem_of_getElem? (i := 12) rfl)
theorem mw_13 : .instanceMethod yX2_write ∈ BW := mb_0 (List.mem_of_getElem? (i := 13) rfl)
theorem mw_14 : .selects RX2 yX2_write yX2_write ∈ BW := mb_0 (List.mem_of_getElem? (i := 14) rfl)
theorem mw_15 : .initialized RX2 ∈ BW := mb_0 (List.mem_of_getElem? (i := 15) rfl)
theorem mw_16 : .code yX0_init cX0_init 2 none ∈ BW := mb_0 (List.mem_of_getElem? (i := 16) rfl)
theorem mw_17 : .methodLink RX0 3 objectInit ∈ BW := mb_0 (List.mem_of_getElem? (i := 17) rfl)
theorem mw_18 : .classLink RX0 9 RX2 ∈ BW := mb_0 (List.mem_of_getElem? (i := 18) rfl)
theorem mw_19 : .fieldLink RX0 11 "QuarrelWays$History" "states" "[LQuarrelWays$Town;" ∈ BW := mb_0 (List.mem_of_getElem? (i := 19) rfl)
theorem mw_20 : .fieldLink RX0 15 "QuarrelWays$History" "oldest" "I" ∈ BW := mb_0 (List.mem_of_getElem? (i := 20) rfl)
theorem mw_21 : .fieldLink RX0 19 "QuarrelWays$History" "size" "I" ∈ BW := mb_0 (List.mem_of_getElem? (i := 21) rfl)
theorem mw_22 : .instantiable RX2 6 ∈ BW := mb_0 (List.mem_of_getElem? (i := 22) rfl)
theorem mw_23 : .instanceMethod yX2_init ∈ BW := mb_0 (List.mem_of_getElem? (i := 23) rfl)
theorem mw_24 : .code yJ9_floorMod_7cf53 cJ9_floorMod_7cf53 3 (some .int) ∈ BW := mb_0 (List.mem_of_getElem? (i := 24) rfl)
theorem mw_25 : .code yX0_placeOf cX0_placeOf 2 (some .int) ∈ BW := mb_1 (List.mem_of_getElem? (i := 0) rfl)
theorem mw_26 : .methodLink RX0 41 yJ9_floorMod_7cf53 ∈ BW := mb_1 (List.mem_of_getElem? (i := 1) rfl)
theorem mw_27 : .static yJ9_floorMod_7cf53 ∈ BW := mb_1 (List.mem_of_getElem? (i := 2) rfl)
theorem mw_28 : .initialized RJ9 ∈ BW := mb_1 (List.mem_of_getElem? (i := 3) rfl)
theorem mw_29 : .code yX0_stateAt cX0_stateAt 3 (some (.object "QuarrelWays$Town")) ∈ BW := mb_1 (List.mem_of_getElem? (i := 4) rfl)
theorem mw_30 : .methodLink RX0 37 yX0_placeOf ∈ BW := mb_1 (List.mem_of_getElem? (i := 5) rfl)
theorem mw_31 : .instanceMethod yX0_placeOf ∈ BW := mb_1 (List.mem_of_getElem? (i := 6) rfl)
theorem mw_32 : .selects RX0 yX0_placeOf yX0_placeOf ∈ BW := mb_1 (List.mem_of_getElem? (i := 7) rfl)
theorem mw_33 : .initialized RX0 ∈ BW := mb_1 (List.mem_of_getElem? (i := 8) rfl)
theorem mw_34 : .code yX2_become cX2_become 2 none ∈ BW := mb_1 (List.mem_of_getElem? (i := 9) rfl)
theorem mw_35 : .methodLink RX2 35 Lib.Math.min.name ∈ BW := mb_1 (List.mem_of_getElem? (i := 10) rfl)
theorem mw_36 : .static Lib.Math.min.name ∈ BW := mb_1 (List.mem_of_getElem? (i := 11) rfl)
theorem mw_37 : .code Lib.Math.min.name Lib.Math.min.code 2 (some .int) ∈ BW := mb_1 (List.mem_of_getElem? (i := 12) rfl)
theorem mw_38 : .methodLink RX2 41 arraycopyName ∈ BW := mb_1 (List.mem_of_getElem? (i := 13) rfl)
theorem mw_39 : .native arraycopyName ∈ BW := mb_1 (List.mem_of_getElem? (i := 14) rfl)
theorem mw_40 : .static arraycopyName ∈ BW := mb_1 (List.mem_of_getElem? (i := 15) rfl)
theorem mw_41 : .initialized RJ10 ∈ BW := mb_1 (List.mem_of_getElem? (i := 16) rfl)
theorem mw_42 : .methodLink RX0 23 yX0_stateAt ∈ BW := mb_1 (List.mem_of_getElem? (i := 17) rfl)
theorem mw_43 : .instanceMethod yX0_stateAt ∈ BW := mb_1 (List.mem_of_getElem? (i := 18) rfl)
theorem mw_44 : .selects RX0 yX0_stateAt yX0_stateAt ∈ BW := mb_1 (List.mem_of_getElem? (i := 19) rfl)
theorem mw_45 : .instanceMethod yX2_become ∈ BW := mb_1 (List.mem_of_getElem? (i := 20) rfl)
theorem mw_46 : .selects RX2 yX2_become yX2_become ∈ BW := mb_1 (List.mem_of_getElem? (i := 21) rfl)
theorem mw_47 : .code yX0_note cX0_note 3 none ∈ BW := mb_1 (List.mem_of_getElem? (i := 22) rfl)
theorem mw_48 : .code yX3_isError cX3_isError 1 (some .boolean) ∈ BW := mb_1 (List.mem_of_getElem? (i := 23) rfl)
theorem mw_49 : .code yX0_keepUnlessError cX0_keepUnlessError 2 (some .int) ∈ BW := mb_1 (List.mem_of_getElem? (i := 24) rfl)
theorem mw_50 : .static yX3_isError ∈ BW := mb_2 (List.mem_of_getElem? (i := 0) rfl)
theorem mw_51 : .initialized RX3 ∈ BW := mb_2 (List.mem_of_getElem? (i := 1) rfl)
theorem mw_52 : .code yX0_goBack cX0_goBack 3 (some .boolean) ∈ BW := mb_2 (List.mem_of_getElem? (i := 2) rfl)
theorem mw_53 : .code yX1_init cX1_init 1 none ∈ BW := mb_2 (List.mem_of_getElem? (i := 3) rfl)
theorem mw_54 : .methodLink RX1 3 objectInit ∈ BW := mb_2 (List.mem_of_getElem? (i := 4) rfl)
theorem mw_55 : .fieldLink RX1 11 "QuarrelWays$Pad" "signs" "[I" ∈ BW := mb_2 (List.mem_of_getElem? (i := 5) rfl)
theorem mw_56 : .fieldLink RX1 15 "QuarrelWays$Pad" "length" "I" ∈ BW := mb_2 (List.mem_of_getElem? (i := 6) rfl)
theorem mw_57 : .fieldLink RX1 19 "QuarrelWays$Pad" "at" "I" ∈ BW := mb_2 (List.mem_of_getElem? (i := 7) rfl)
theorem mw_58 : .fieldLink RX1 22 "QuarrelWays$Pad" "order" "I" ∈ BW := mb_2 (List.mem_of_getElem? (i := 8) rfl)
theorem mw_59 : .fieldLink RX1 25 "QuarrelWays$Pad" "numbers" "[I" ∈ BW := mb_2 (List.mem_of_getElem? (i := 9) rfl)
theorem mw_60 : .fieldLink RX1 28 "QuarrelWays$Pad" "numbersRead" "I" ∈ BW := mb_2 (List.mem_of_getElem? (i := 10) rfl)
theorem mw_61 : .code yX1_signsIn cX1_signsIn 5 (some .int) ∈ BW := mb_2 (List.mem_of_getElem? (i := 11) rfl)
theorem mw_62 : .constantLong RX1 31 255 ∈ BW := mb_2 (List.mem_of_getElem? (i := 12) rfl)
theorem mw_63 : .constantLong RX1 33 33 ∈ BW := mb_2 (List.mem_of_getElem? (i := 13) rfl)
theorem mw_64 : .constantLong RX1 35 126 ∈ BW := mb_2 (List.mem_of_getElem? (i := 14) rfl)
theorem mw_65 : .code yX1_addSign cX1_addSign 2 none ∈ BW := mb_2 (List.mem_of_getElem? (i := 15) rfl)
theorem mw_66 : .code yX1_append cX1_append 5 (some .boolean) ∈ BW := mb_2 (List.mem_of_getElem? (i := 16) rfl)
theorem mw_67 : .methodLink RX1 37 yX1_addSign ∈ BW := mb_2 (List.mem_of_getElem? (i := 17) rfl)
theorem mw_68 : .instanceMethod yX1_addSign ∈ BW := mb_2 (List.mem_of_getElem? (i := 18) rfl)
theorem mw_69 : .selects RX1 yX1_addSign yX1_addSign ∈ BW := mb_2 (List.mem_of_getElem? (i := 19) rfl)
theorem mw_70 : .initialized RX1 ∈ BW := mb_2 (List.mem_of_getElem? (i := 20) rfl)
theorem mw_71 : .code yX1_signAt cX1_signAt 2 (some .int) ∈ BW := mb_2 (List.mem_of_getElem? (i := 21) rfl)
theorem mw_72 : .code yX1_number cX1_number 2 (some .int) ∈ BW := mb_2 (List.mem_of_getElem? (i := 22) rfl)
theorem mw_73 : .code yX1_formOf cX1_formOf 1 (some (.object "java/lang/String")) ∈ BW := mb_2 (List.mem_of_getElem? (i := 23) rfl)
theorem mw_74 : .code yJ0_isEmpty_aae02 cJ0_isEmpty_aae02 1 (some .boolean) ∈ BW := mb_2 (List.mem_of_getElem? (i := 24) rfl)
theorem mw_75 : .fieldLink RJ0 9 "java/lang/String" "value" "[B" ∈ BW := mb_3 (List.mem_of_getElem? (i := 0) rfl)
theorem mw_76 : .code yJ0_coder_7d493 cJ0_coder_7d493 1 (some .byte) ∈ BW := mb_3 (List.mem_of_getElem? (i := 1) rfl)
theorem mw_77 : .fieldLink RJ0 38 "java/lang/String" "COMPACT_STRINGS" "Z" ∈ BW := mb_3 (List.mem_of_getElem? (i := 2) rfl)
theorem mw_78 : .fieldLink RJ0 15 "java/lang/String" "coder" "B" ∈ BW := mb_3 (List.mem_of_getElem? (i := 3) rfl)
theorem mw_79 : .code yJ0_length_8abf5 cJ0_length_8abf5 1 (some .int) ∈ BW := mb_3 (List.mem_of_getElem? (i := 4) rfl)
theorem mw_80 : .methodLink RJ0 335 yJ0_coder_7d493 ∈ BW := mb_3 (List.mem_of_getElem? (i := 5) rfl)
theorem mw_81 : .instanceMethod yJ0_coder_7d493 ∈ BW := mb_3 (List.mem_of_getElem? (i := 6) rfl)
theorem mw_82 : .selects RJ0 yJ0_coder_7d493 yJ0_coder_7d493 ∈ BW := mb_3 (List.mem_of_getElem? (i := 7) rfl)
theorem mw_83 : .initialized RJ0 ∈ BW := mb_3 (List.mem_of_getElem? (i := 8) rfl)
theorem mw_84 : .code yJ0_isLatin1_aae02 cJ0_isLatin1_aae02 1 (some .boolean) ∈ BW := mb_3 (List.mem_of_getElem? (i := 9) rfl)
theorem mw_85 : .code yJ3_checkIndex_8e157 cJ3_checkIndex_8e157 3 (some .int) ∈ BW := mb_3 (List.mem_of_getElem? (i := 10) rfl)
theorem mw_86 : .code yJ0_checkIndex_df160 cJ0_checkIndex_df160 2 none ∈ BW := mb_3 (List.mem_of_getElem? (i := 11) rfl)
theorem mw_87 : .fieldLink RJ0 1053 "jdk/internal/util/Preconditions" "SIOOBE_FORMATTER" "Ljava/util/function/BiFunction;" ∈ BW := mb_3 (List.mem_of_getElem? (i := 12) rfl)
theorem mw_88 : .methodLink RJ0 1059 yJ3_checkIndex_8e157 ∈ BW := mb_3 (List.mem_of_getElem? (i := 13) rfl)
theorem mw_89 : .static yJ3_checkIndex_8e157 ∈ BW := mb_3 (List.mem_of_getElem? (i := 14) rfl)
theorem mw_90 : .initialized RJ3 ∈ BW := mb_3 (List.mem_of_getElem? (i := 15) rfl)
theorem mw_91 : .code yJ1_charAt_3b067 cJ1_charAt_3b067 2 (some .char) ∈ BW := mb_3 (List.mem_of_getElem? (i := 16) rfl)
theorem mw_92 : .methodLink RJ1 9 yJ0_checkIndex_df160 ∈ BW := mb_3 (List.mem_of_getElem? (i := 17) rfl)
theorem mw_93 : .static yJ0_checkIndex_df160 ∈ BW := mb_3 (List.mem_of_getElem? (i := 18) rfl)
theorem mw_94 : .code yJ2_length_9d52b cJ2_length_9d52b 1 (some .int) ∈ BW := mb_3 (List.mem_of_getElem? (i := 19) rfl)
theorem mw_95 : .code yJ2_checkIndex_2214a cJ2_checkIndex_2214a 2 none ∈ BW := mb_3 (List.mem_of_getElem? (i := 20) rfl)
theorem mw_96 : .methodLink RJ2 48 yJ2_length_9d52b ∈ BW := mb_3 (List.mem_of_getElem? (i := 21) rfl)
theorem mw_97 : .static yJ2_length_9d52b ∈ BW := mb_3 (List.mem_of_getElem? (i := 22) rfl)
theorem mw_98 : .initialized RJ2 ∈ BW := mb_3 (List.mem_of_getElem? (i := 23) rfl)
theorem mw_99 : .methodLink RJ2 414 yJ0_checkIndex_df160 ∈ BW := mb_3 (List.mem_of_getElem? (i := 24) rfl)
theorem mw_100 : .code yJ2_getChar_3b067 cJ2_getChar_3b067 2 (some .char) ∈ BW := mb_4 (List.mem_of_getElem? (i := 0) rfl)
theorem mw_101 : .fieldLink RJ2 44 "java/lang/StringUTF16" "$assertionsDisabled" "Z" ∈ BW := mb_4 (List.mem_of_getElem? (i := 1) rfl)
theorem mw_102 : .fieldLink RJ2 59 "java/lang/StringUTF16" "HI_BYTE_SHIFT" "I" ∈ BW := mb_4 (List.mem_of_getElem? (i := 2) rfl)
theorem mw_103 : .fieldLink RJ2 63 "java/lang/StringUTF16" "LO_BYTE_SHIFT" "I" ∈ BW := mb_4 (List.mem_of_getElem? (i := 3) rfl)
theorem mw_104 : .code yJ2_charAt_3b067 cJ2_charAt_3b067 2 (some .char) ∈ BW := mb_4 (List.mem_of_getElem? (i := 4) rfl)
theorem mw_105 : .methodLink RJ2 67 yJ2_checkIndex_2214a ∈ BW := mb_4 (List.mem_of_getElem? (i := 5) rfl)
theorem mw_106 : .static yJ2_checkIndex_2214a ∈ BW := mb_4 (List.mem_of_getElem? (i := 6) rfl)
theorem mw_107 : .methodLink RJ2 71 yJ2_getChar_3b067 ∈ BW := mb_4 (List.mem_of_getElem? (i := 7) rfl)
theorem mw_108 : .static yJ2_getChar_3b067 ∈ BW := mb_4 (List.mem_of_getElem? (i := 8) rfl)
theorem mw_109 : .methodLink RJ0 492 yJ0_isLatin1_aae02 ∈ BW := mb_4 (List.mem_of_getElem? (i := 9) rfl)
theorem mw_110 : .instanceMethod yJ0_isLatin1_aae02 ∈ BW := mb_4 (List.mem_of_getElem? (i := 10) rfl)
theorem mw_111 : .selects RJ0 yJ0_isLatin1_aae02 yJ0_isLatin1_aae02 ∈ BW := mb_4 (List.mem_of_getElem? (i := 11) rfl)
theorem mw_112 : .methodLink RJ0 495 yJ1_charAt_3b067 ∈ BW := mb_4 (List.mem_of_getElem? (i := 12) rfl)
theorem mw_113 : .static yJ1_charAt_3b067 ∈ BW := mb_4 (List.mem_of_getElem? (i := 13) rfl)
theorem mw_114 : .initialized RJ1 ∈ BW := mb_4 (List.mem_of_getElem? (i := 14) rfl)
theorem mw_115 : .methodLink RJ0 498 yJ2_charAt_3b067 ∈ BW := mb_4 (List.mem_of_getElem? (i := 15) rfl)
theorem mw_116 : .static yJ2_charAt_3b067 ∈ BW := mb_4 (List.mem_of_getElem? (i := 16) rfl)
theorem mw_117 : .code yJ0_charAt_5068e cJ0_charAt_5068e 2 (some .char) ∈ BW := mb_4 (List.mem_of_getElem? (i := 17) rfl)
theorem mw_118 : .code yX1_isDigit cX1_isDigit 1 (some .boolean) ∈ BW := mb_4 (List.mem_of_getElem? (i := 18) rfl)
theorem mw_119 : .code yX1_addNumber cX1_addNumber 2 none ∈ BW := mb_4 (List.mem_of_getElem? (i := 19) rfl)
theorem mw_120 : .code yX1_readNumber cX1_readNumber 3 (some .boolean) ∈ BW := mb_4 (List.mem_of_getElem? (i := 20) rfl)
theorem mw_121 : .methodLink RX1 45 yX1_signAt ∈ BW := mb_4 (List.mem_of_getElem? (i := 21) rfl)
theorem mw_122 : .instanceMethod yX1_signAt ∈ BW := mb_4 (List.mem_of_getElem? (i := 22) rfl)
theorem mw_123 : .selects RX1 yX1_signAt yX1_signAt ∈ BW := mb_4 (List.mem_of_getElem? (i := 23) rfl)
theorem mw_124 : .methodLink RX1 87 yX1_isDigit ∈ BW := mb_4 (List.mem_of_getElem? (i := 24) rfl)
theorem mw_125 : .static yX1_isDigit ∈ BW := mb_5 (List.mem_of_getElem? (i := 0) rfl)
theorem mw_126 : .methodLink RX1 90 yX1_addNumber ∈ BW := mb_5 (List.mem_of_getElem? (i := 1) rfl)
theorem mw_127 : .instanceMethod yX1_addNumber ∈ BW := mb_5 (List.mem_of_getElem? (i := 2) rfl)
theorem mw_128 : .selects RX1 yX1_addNumber yX1_addNumber ∈ BW := mb_5 (List.mem_of_getElem? (i := 3) rfl)
theorem mw_129 : .code yX1_readPart cX1_readPart 2 (some .boolean) ∈ BW := mb_5 (List.mem_of_getElem? (i := 4) rfl)
theorem mw_130 : .methodLink RX1 83 yX1_readNumber ∈ BW := mb_5 (List.mem_of_getElem? (i := 5) rfl)
theorem mw_131 : .instanceMethod yX1_readNumber ∈ BW := mb_5 (List.mem_of_getElem? (i := 6) rfl)
theorem mw_132 : .selects RX1 yX1_readNumber yX1_readNumber ∈ BW := mb_5 (List.mem_of_getElem? (i := 7) rfl)
theorem mw_133 : .methodLink RX1 63 yX1_formOf ∈ BW := mb_5 (List.mem_of_getElem? (i := 8) rfl)
theorem mw_134 : .static yX1_formOf ∈ BW := mb_5 (List.mem_of_getElem? (i := 9) rfl)
theorem mw_135 : .methodLink RX1 67 yJ0_isEmpty_aae02 ∈ BW := mb_5 (List.mem_of_getElem? (i := 10) rfl)
theorem mw_136 : .instanceMethod yJ0_isEmpty_aae02 ∈ BW := mb_5 (List.mem_of_getElem? (i := 11) rfl)
theorem mw_137 : .selects RJ0 yJ0_isEmpty_aae02 yJ0_isEmpty_aae02 ∈ BW := mb_5 (List.mem_of_getElem? (i := 12) rfl)
theorem mw_138 : .methodLink RX1 72 yJ0_length_8abf5 ∈ BW := mb_5 (List.mem_of_getElem? (i := 13) rfl)
theorem mw_139 : .instanceMethod yJ0_length_8abf5 ∈ BW := mb_5 (List.mem_of_getElem? (i := 14) rfl)
theorem mw_140 : .selects RJ0 yJ0_length_8abf5 yJ0_length_8abf5 ∈ BW := mb_5 (List.mem_of_getElem? (i := 15) rfl)
theorem mw_141 : .methodLink RX1 75 yJ0_charAt_5068e ∈ BW := mb_5 (List.mem_of_getElem? (i := 16) rfl)
theorem mw_142 : .instanceMethod yJ0_charAt_5068e ∈ BW := mb_5 (List.mem_of_getElem? (i := 17) rfl)
theorem mw_143 : .selects RJ0 yJ0_charAt_5068e yJ0_charAt_5068e ∈ BW := mb_5 (List.mem_of_getElem? (i := 18) rfl)
theorem mw_144 : .methodLink RX1 79 yX1_readPart ∈ BW := mb_5 (List.mem_of_getElem? (i := 19) rfl)
theorem mw_145 : .instanceMethod yX1_readPart ∈ BW := mb_5 (List.mem_of_getElem? (i := 20) rfl)
theorem mw_146 : .selects RX1 yX1_readPart yX1_readPart ∈ BW := mb_5 (List.mem_of_getElem? (i := 21) rfl)
theorem mw_147 : .code yX1_readOrder cX1_readOrder 3 (some .boolean) ∈ BW := mb_5 (List.mem_of_getElem? (i := 22) rfl)
theorem mw_148 : .methodLink RX1 41 yX1_readOrder ∈ BW := mb_5 (List.mem_of_getElem? (i := 23) rfl)
theorem mw_149 : .instanceMethod yX1_readOrder ∈ BW := mb_5 (List.mem_of_getElem? (i := 24) rfl)
theorem mw_150 : .selects RX1 yX1_readOrder yX1_readOrder ∈ BW := mb_6 (List.mem_of_getElem? (i := 0) rfl)
theorem mw_151 : .code yX1_firstFault cX1_firstFault 2 (some .int) ∈ BW := mb_6 (List.mem_of_getElem? (i := 1) rfl)
theorem mw_152 : .code yX1_stepOverSemicolon cX1_stepOverSemicolon 1 none ∈ BW := mb_6 (List.mem_of_getElem? (i := 2) rfl)
theorem mw_153 : .code yX2_read cX2_read 4 (some .int) ∈ BW := mb_6 (List.mem_of_getElem? (i := 3) rfl)
theorem mw_154 : .code yX2_hasPerson cX2_hasPerson 2 (some .boolean) ∈ BW := mb_6 (List.mem_of_getElem? (i := 4) rfl)
theorem mw_155 : .code yX2_hasQuarrel cX2_hasQuarrel 2 (some .boolean) ∈ BW := mb_6 (List.mem_of_getElem? (i := 5) rfl)
theorem mw_156 : .code yX2_isOpen cX2_isOpen 2 (some .boolean) ∈ BW := mb_6 (List.mem_of_getElem? (i := 6) rfl)
theorem mw_157 : .methodLink RX2 47 yX2_read ∈ BW := mb_6 (List.mem_of_getElem? (i := 7) rfl)
theorem mw_158 : .instanceMethod yX2_read ∈ BW := mb_6 (List.mem_of_getElem? (i := 8) rfl)
theorem mw_159 : .selects RX2 yX2_read yX2_read ∈ BW := mb_6 (List.mem_of_getElem? (i := 9) rfl)
theorem mw_160 : .code yX2_allows cX2_allows 2 (some .boolean) ∈ BW := mb_6 (List.mem_of_getElem? (i := 10) rfl)
theorem mw_161 : .code yX2_hoursSince cX2_hoursSince 2 (some .int) ∈ BW := mb_6 (List.mem_of_getElem? (i := 11) rfl)
theorem mw_162 : .code yX2_oathLeft cX2_oathLeft 2 (some .int) ∈ BW := mb_6 (List.mem_of_getElem? (i := 12) rfl)
theorem mw_163 : .methodLink RX2 50 Lib.Math.max.name ∈ BW := mb_6 (List.mem_of_getElem? (i := 13) rfl)
theorem mw_164 : .static Lib.Math.max.name ∈ BW := mb_6 (List.mem_of_getElem? (i := 14) rfl)
theorem mw_165 : .code Lib.Math.max.name Lib.Math.max.code 2 (some .int) ∈ BW := mb_6 (List.mem_of_getElem? (i := 15) rfl)
theorem mw_166 : .code yX2_isPoints cX2_isPoints 1 (some .boolean) ∈ BW := mb_6 (List.mem_of_getElem? (i := 16) rfl)
theorem mw_167 : .code yX2_isRank cX2_isRank 1 (some .boolean) ∈ BW := mb_6 (List.mem_of_getElem? (i := 17) rfl)
theorem mw_168 : .code yX2_areThese cX2_areThese 4 (some .boolean) ∈ BW := mb_6 (List.mem_of_getElem? (i := 18) rfl)
theorem mw_169 : .code yX2_changeSetting cX2_changeSetting 4 (some .int) ∈ BW := mb_6 (List.mem_of_getElem? (i := 19) rfl)
theorem mw_170 : .fieldLink RX2 53 "QuarrelWays$Town" "LOWEST" "[I" ∈ BW := mb_6 (List.mem_of_getElem? (i := 20) rfl)
theorem mw_171 : .fieldLink RX2 56 "QuarrelWays$Town" "HIGHEST" "[I" ∈ BW := mb_6 (List.mem_of_getElem? (i := 21) rfl)
theorem mw_172 : .code yX2_addPerson cX2_addPerson 4 (some .int) ∈ BW := mb_6 (List.mem_of_getElem? (i := 22) rfl)
theorem mw_173 : .methodLink RX2 59 yX2_isPoints ∈ BW := mb_6 (List.mem_of_getElem? (i := 23) rfl)
theorem mw_174 : .static yX2_isPoints ∈ BW := mb_6 (List.mem_of_getElem? (i := 24) rfl)
theorem mw_175 : .code yX2_takeSecond cX2_takeSecond 4 (some .int) ∈ BW := mb_7 (List.mem_of_getElem? (i := 0) rfl)
theorem mw_176 : .methodLink RX2 63 yX2_hasPerson ∈ BW := mb_7 (List.mem_of_getElem? (i := 1) rfl)
theorem mw_177 : .instanceMethod yX2_hasPerson ∈ BW := mb_7 (List.mem_of_getElem? (i := 2) rfl)
theorem mw_178 : .selects RX2 yX2_hasPerson yX2_hasPerson ∈ BW := mb_7 (List.mem_of_getElem? (i := 3) rfl)
theorem mw_179 : .code yX2_allowOrBar cX2_allowOrBar 2 (some .int) ∈ BW := mb_7 (List.mem_of_getElem? (i := 4) rfl)
theorem mw_180 : .code yX2_errorOfInsult cX2_errorOfInsult 4 (some .int) ∈ BW := mb_7 (List.mem_of_getElem? (i := 5) rfl)
theorem mw_181 : .methodLink RX2 66 yX2_isRank ∈ BW := mb_7 (List.mem_of_getElem? (i := 6) rfl)
theorem mw_182 : .static yX2_isRank ∈ BW := mb_7 (List.mem_of_getElem? (i := 7) rfl)
theorem mw_183 : .code yX2_haveOpenQuarrel cX2_haveOpenQuarrel 4 (some .boolean) ∈ BW := mb_7 (List.mem_of_getElem? (i := 8) rfl)
theorem mw_184 : .methodLink RX2 69 yX2_isOpen ∈ BW := mb_7 (List.mem_of_getElem? (i := 9) rfl)
theorem mw_185 : .instanceMethod yX2_isOpen ∈ BW := mb_7 (List.mem_of_getElem? (i := 10) rfl)
theorem mw_186 : .selects RX2 yX2_isOpen yX2_isOpen ∈ BW := mb_7 (List.mem_of_getElem? (i := 11) rfl)
theorem mw_187 : .methodLink RX2 72 yX2_areThese ∈ BW := mb_7 (List.mem_of_getElem? (i := 12) rfl)
theorem mw_188 : .static yX2_areThese ∈ BW := mb_7 (List.mem_of_getElem? (i := 13) rfl)
theorem mw_189 : .code yX2_addEvent cX2_addEvent 4 none ∈ BW := mb_7 (List.mem_of_getElem? (i := 14) rfl)
theorem mw_190 : .methodLink RX2 114 yJ9_floorMod_7cf53 ∈ BW := mb_7 (List.mem_of_getElem? (i := 15) rfl)
theorem mw_191 : .methodLink RX2 76 yX2_errorOfInsult ∈ BW := mb_7 (List.mem_of_getElem? (i := 16) rfl)
theorem mw_192 : .instanceMethod yX2_errorOfInsult ∈ BW := mb_7 (List.mem_of_getElem? (i := 17) rfl)
theorem mw_193 : .selects RX2 yX2_errorOfInsult yX2_errorOfInsult ∈ BW := mb_7 (List.mem_of_getElem? (i := 18) rfl)
theorem mw_194 : .methodLink RX2 80 yX2_haveOpenQuarrel ∈ BW := mb_7 (List.mem_of_getElem? (i := 19) rfl)
theorem mw_195 : .instanceMethod yX2_haveOpenQuarrel ∈ BW := mb_7 (List.mem_of_getElem? (i := 20) rfl)
theorem mw_196 : .selects RX2 yX2_haveOpenQuarrel yX2_haveOpenQuarrel ∈ BW := mb_7 (List.mem_of_getElem? (i := 21) rfl)
theorem mw_197 : .methodLink RX2 84 yX2_addEvent ∈ BW := mb_7 (List.mem_of_getElem? (i := 22) rfl)
theorem mw_198 : .instanceMethod yX2_addEvent ∈ BW := mb_7 (List.mem_of_getElem? (i := 23) rfl)
theorem mw_199 : .selects RX2 yX2_addEvent yX2_addEvent ∈ BW := mb_7 (List.mem_of_getElem? (i := 24) rfl)
theorem mw_200 : .code yX2_addQuarrel cX2_addQuarrel 6 (some .int) ∈ BW := mb_8 (List.mem_of_getElem? (i := 0) rfl)
theorem mw_201 : .code yX2_secondsCanSettle cX2_secondsCanSettle 6 (some .boolean) ∈ BW := mb_8 (List.mem_of_getElem? (i := 1) rfl)
theorem mw_202 : .code yX2_hoursToCool cX2_hoursToCool 2 (some .int) ∈ BW := mb_8 (List.mem_of_getElem? (i := 2) rfl)
theorem mw_203 : .code yX2_peaceLeft cX2_peaceLeft 5 (some .int) ∈ BW := mb_8 (List.mem_of_getElem? (i := 3) rfl)
theorem mw_204 : .methodLink RX2 124 yX2_secondsCanSettle ∈ BW := mb_8 (List.mem_of_getElem? (i := 4) rfl)
theorem mw_205 : .instanceMethod yX2_secondsCanSettle ∈ BW := mb_8 (List.mem_of_getElem? (i := 5) rfl)
theorem mw_206 : .selects RX2 yX2_secondsCanSettle yX2_secondsCanSettle ∈ BW := mb_8 (List.mem_of_getElem? (i := 6) rfl)
theorem mw_207 : .methodLink RX2 128 yX2_hoursToCool ∈ BW := mb_8 (List.mem_of_getElem? (i := 7) rfl)
theorem mw_208 : .instanceMethod yX2_hoursToCool ∈ BW := mb_8 (List.mem_of_getElem? (i := 8) rfl)
theorem mw_209 : .selects RX2 yX2_hoursToCool yX2_hoursToCool ∈ BW := mb_8 (List.mem_of_getElem? (i := 9) rfl)
theorem mw_210 : .methodLink RX2 111 yX2_oathLeft ∈ BW := mb_8 (List.mem_of_getElem? (i := 10) rfl)
theorem mw_211 : .instanceMethod yX2_oathLeft ∈ BW := mb_8 (List.mem_of_getElem? (i := 11) rfl)
theorem mw_212 : .selects RX2 yX2_oathLeft yX2_oathLeft ∈ BW := mb_8 (List.mem_of_getElem? (i := 12) rfl)
theorem mw_213 : .methodLink RX2 131 yX2_peaceLeft ∈ BW := mb_8 (List.mem_of_getElem? (i := 13) rfl)
theorem mw_214 : .instanceMethod yX2_peaceLeft ∈ BW := mb_8 (List.mem_of_getElem? (i := 14) rfl)
theorem mw_215 : .selects RX2 yX2_peaceLeft yX2_peaceLeft ∈ BW := mb_8 (List.mem_of_getElem? (i := 15) rfl)
theorem mw_216 : .code yX2_waysBetween cX2_waysBetween 6 (some .int) ∈ BW := mb_8 (List.mem_of_getElem? (i := 16) rfl)
theorem mw_217 : .methodLink RX2 117 yX2_hoursSince ∈ BW := mb_8 (List.mem_of_getElem? (i := 17) rfl)
theorem mw_218 : .instanceMethod yX2_hoursSince ∈ BW := mb_8 (List.mem_of_getElem? (i := 18) rfl)
theorem mw_219 : .selects RX2 yX2_hoursSince yX2_hoursSince ∈ BW := mb_8 (List.mem_of_getElem? (i := 19) rfl)
theorem mw_220 : .methodLink RX2 120 yX2_waysBetween ∈ BW := mb_8 (List.mem_of_getElem? (i := 20) rfl)
theorem mw_221 : .instanceMethod yX2_waysBetween ∈ BW := mb_8 (List.mem_of_getElem? (i := 21) rfl)
theorem mw_222 : .selects RX2 yX2_waysBetween yX2_waysBetween ∈ BW := mb_8 (List.mem_of_getElem? (i := 22) rfl)
theorem mw_223 : .code yX2_waysOf cX2_waysOf 2 (some .int) ∈ BW := mb_8 (List.mem_of_getElem? (i := 23) rfl)
theorem mw_224 : .code yX2_addPoints cX2_addPoints 5 none ∈ BW := mb_8 (List.mem_of_getElem? (i := 24) rfl)
theorem mw_225 : .code yX2_quarrelsWith cX2_quarrelsWith 5 (some .int) ∈ BW := mb_9 (List.mem_of_getElem? (i := 0) rfl)
theorem mw_226 : .methodLink RX2 88 yX2_hasQuarrel ∈ BW := mb_9 (List.mem_of_getElem? (i := 1) rfl)
theorem mw_227 : .instanceMethod yX2_hasQuarrel ∈ BW := mb_9 (List.mem_of_getElem? (i := 2) rfl)
theorem mw_228 : .selects RX2 yX2_hasQuarrel yX2_hasQuarrel ∈ BW := mb_9 (List.mem_of_getElem? (i := 3) rfl)
theorem mw_229 : .methodLink RX2 91 yX2_waysOf ∈ BW := mb_9 (List.mem_of_getElem? (i := 4) rfl)
theorem mw_230 : .instanceMethod yX2_waysOf ∈ BW := mb_9 (List.mem_of_getElem? (i := 5) rfl)
theorem mw_231 : .selects RX2 yX2_waysOf yX2_waysOf ∈ BW := mb_9 (List.mem_of_getElem? (i := 6) rfl)
theorem mw_232 : .methodLink RX2 95 yX2_addPoints ∈ BW := mb_9 (List.mem_of_getElem? (i := 7) rfl)
theorem mw_233 : .instanceMethod yX2_addPoints ∈ BW := mb_9 (List.mem_of_getElem? (i := 8) rfl)
theorem mw_234 : .selects RX2 yX2_addPoints yX2_addPoints ∈ BW := mb_9 (List.mem_of_getElem? (i := 9) rfl)
theorem mw_235 : .methodLink RX2 98 yX2_quarrelsWith ∈ BW := mb_9 (List.mem_of_getElem? (i := 10) rfl)
theorem mw_236 : .instanceMethod yX2_quarrelsWith ∈ BW := mb_9 (List.mem_of_getElem? (i := 11) rfl)
theorem mw_237 : .selects RX2 yX2_quarrelsWith yX2_quarrelsWith ∈ BW := mb_9 (List.mem_of_getElem? (i := 12) rfl)
theorem mw_238 : .code yX2_settleBy cX2_settleBy 3 (some .int) ∈ BW := mb_9 (List.mem_of_getElem? (i := 13) rfl)
theorem mw_239 : .code yX2_whyNotDue cX2_whyNotDue 3 (some .int) ∈ BW := mb_9 (List.mem_of_getElem? (i := 14) rfl)
theorem mw_240 : .code yX2_skillOf cX2_skillOf 2 (some .int) ∈ BW := mb_9 (List.mem_of_getElem? (i := 15) rfl)
theorem mw_241 : .code yX2_winnerOf cX2_winnerOf 4 (some .int) ∈ BW := mb_9 (List.mem_of_getElem? (i := 16) rfl)
theorem mw_242 : .methodLink RX2 143 yX2_skillOf ∈ BW := mb_9 (List.mem_of_getElem? (i := 17) rfl)
theorem mw_243 : .instanceMethod yX2_skillOf ∈ BW := mb_9 (List.mem_of_getElem? (i := 18) rfl)
theorem mw_244 : .selects RX2 yX2_skillOf yX2_skillOf ∈ BW := mb_9 (List.mem_of_getElem? (i := 19) rfl)
theorem mw_245 : .code yX2_bindByOath cX2_bindByOath 3 none ∈ BW := mb_9 (List.mem_of_getElem? (i := 20) rfl)
theorem mw_246 : .methodLink RX2 101 yX2_whyNotDue ∈ BW := mb_9 (List.mem_of_getElem? (i := 21) rfl)
theorem mw_247 : .instanceMethod yX2_whyNotDue ∈ BW := mb_9 (List.mem_of_getElem? (i := 22) rfl)
theorem mw_248 : .selects RX2 yX2_whyNotDue yX2_whyNotDue ∈ BW := mb_9 (List.mem_of_getElem? (i := 23) rfl)
theorem mw_249 : .methodLink RX2 104 yX2_winnerOf ∈ BW := mb_9 (List.mem_of_getElem? (i := 24) rfl)
theorem mw_250 : .instanceMethod yX2_winnerOf ∈ BW := mb_10 (List.mem_of_getElem? (i := 0) rfl)
theorem mw_251 : .selects RX2 yX2_winnerOf yX2_winnerOf ∈ BW := mb_10 (List.mem_of_getElem? (i := 1) rfl)
theorem mw_252 : .methodLink RX2 107 yX2_bindByOath ∈ BW := mb_10 (List.mem_of_getElem? (i := 2) rfl)
theorem mw_253 : .instanceMethod yX2_bindByOath ∈ BW := mb_10 (List.mem_of_getElem? (i := 3) rfl)
theorem mw_254 : .selects RX2 yX2_bindByOath yX2_bindByOath ∈ BW := mb_10 (List.mem_of_getElem? (i := 4) rfl)
theorem mw_255 : .code yX2_duel cX2_duel 5 (some .int) ∈ BW := mb_10 (List.mem_of_getElem? (i := 5) rfl)
theorem mw_256 : .code yX2_takeOath cX2_takeOath 2 (some .int) ∈ BW := mb_10 (List.mem_of_getElem? (i := 6) rfl)
theorem mw_257 : .code yX2_moveOn cX2_moveOn 3 (some .int) ∈ BW := mb_10 (List.mem_of_getElem? (i := 7) rfl)
theorem mw_258 : .code yX2_firstOf cX2_firstOf 2 (some .int) ∈ BW := mb_10 (List.mem_of_getElem? (i := 8) rfl)
theorem mw_259 : .code yX2_hoursUntilCool cX2_hoursUntilCool 2 (some .int) ∈ BW := mb_10 (List.mem_of_getElem? (i := 9) rfl)
theorem mw_260 : .code yX2_orNoneIfTooFar cX2_orNoneIfTooFar 1 (some .int) ∈ BW := mb_10 (List.mem_of_getElem? (i := 10) rfl)
theorem mw_261 : .methodLink RX2 134 yX2_allows ∈ BW := mb_10 (List.mem_of_getElem? (i := 11) rfl)
theorem mw_262 : .instanceMethod yX2_allows ∈ BW := mb_10 (List.mem_of_getElem? (i := 12) rfl)
theorem mw_263 : .selects RX2 yX2_allows yX2_allows ∈ BW := mb_10 (List.mem_of_getElem? (i := 13) rfl)
theorem mw_264 : .methodLink RX2 137 yX2_hoursUntilCool ∈ BW := mb_10 (List.mem_of_getElem? (i := 14) rfl)
theorem mw_265 : .instanceMethod yX2_hoursUntilCool ∈ BW := mb_10 (List.mem_of_getElem? (i := 15) rfl)
theorem mw_266 : .selects RX2 yX2_hoursUntilCool yX2_hoursUntilCool ∈ BW := mb_10 (List.mem_of_getElem? (i := 16) rfl)
theorem mw_267 : .methodLink RX2 140 yX2_orNoneIfTooFar ∈ BW := mb_10 (List.mem_of_getElem? (i := 17) rfl)
theorem mw_268 : .static yX2_orNoneIfTooFar ∈ BW := mb_10 (List.mem_of_getElem? (i := 18) rfl)
theorem mw_269 : .code yX2_hoursUntilWay cX2_hoursUntilWay 2 (some .int) ∈ BW := mb_10 (List.mem_of_getElem? (i := 19) rfl)
theorem mw_270 : .code yX2_hoursUntilDuel cX2_hoursUntilDuel 5 (some .int) ∈ BW := mb_10 (List.mem_of_getElem? (i := 20) rfl)
theorem mw_271 : .code yX2_duelsOf cX2_duelsOf 5 (some .int) ∈ BW := mb_10 (List.mem_of_getElem? (i := 21) rfl)
theorem mw_272 : .code yX2_personsWithSecond cX2_personsWithSecond 4 (some .int) ∈ BW := mb_10 (List.mem_of_getElem? (i := 22) rfl)
theorem mw_273 : .methodLink RX2 146 yX2_duelsOf ∈ BW := mb_10 (List.mem_of_getElem? (i := 23) rfl)
theorem mw_274 : .instanceMethod yX2_duelsOf ∈ BW := mb_10 (List.mem_of_getElem? (i := 24) rfl)
theorem mw_275 : .selects RX2 yX2_duelsOf yX2_duelsOf ∈ BW := mb_11 (List.mem_of_getElem? (i := 0) rfl)
theorem mw_276 : .methodLink RX2 149 yX2_personsWithSecond ∈ BW := mb_11 (List.mem_of_getElem? (i := 1) rfl)
theorem mw_277 : .instanceMethod yX2_personsWithSecond ∈ BW := mb_11 (List.mem_of_getElem? (i := 2) rfl)
theorem mw_278 : .selects RX2 yX2_personsWithSecond yX2_personsWithSecond ∈ BW := mb_11 (List.mem_of_getElem? (i := 3) rfl)
theorem mw_279 : .code yX2_tellPerson cX2_tellPerson 3 (some .int) ∈ BW := mb_11 (List.mem_of_getElem? (i := 4) rfl)
theorem mw_280 : .code yX2_tellQuarrel cX2_tellQuarrel 3 (some .int) ∈ BW := mb_11 (List.mem_of_getElem? (i := 5) rfl)
theorem mw_281 : .code yX2_tellEvent cX2_tellEvent 4 (some .int) ∈ BW := mb_11 (List.mem_of_getElem? (i := 6) rfl)
theorem mw_282 : .code yX2_pressureOf cX2_pressureOf 2 (some .int) ∈ BW := mb_11 (List.mem_of_getElem? (i := 7) rfl)
theorem mw_283 : .code yX2_quarrelsBefore cX2_quarrelsBefore 5 (some .int) ∈ BW := mb_11 (List.mem_of_getElem? (i := 8) rfl)
theorem mw_284 : .methodLink RX2 155 yX2_pressureOf ∈ BW := mb_11 (List.mem_of_getElem? (i := 9) rfl)
theorem mw_285 : .instanceMethod yX2_pressureOf ∈ BW := mb_11 (List.mem_of_getElem? (i := 10) rfl)
theorem mw_286 : .selects RX2 yX2_pressureOf yX2_pressureOf ∈ BW := mb_11 (List.mem_of_getElem? (i := 11) rfl)
theorem mw_287 : .code yX2_quarrelThatPresses cX2_quarrelThatPresses 3 (some .int) ∈ BW := mb_11 (List.mem_of_getElem? (i := 12) rfl)
theorem mw_288 : .methodLink RX2 152 yX2_quarrelsBefore ∈ BW := mb_11 (List.mem_of_getElem? (i := 13) rfl)
theorem mw_289 : .instanceMethod yX2_quarrelsBefore ∈ BW := mb_11 (List.mem_of_getElem? (i := 14) rfl)
theorem mw_290 : .selects RX2 yX2_quarrelsBefore yX2_quarrelsBefore ∈ BW := mb_11 (List.mem_of_getElem? (i := 15) rfl)
theorem mw_291 : .code yX2_insultsFrom cX2_insultsFrom 4 (some .int) ∈ BW := mb_11 (List.mem_of_getElem? (i := 16) rfl)
theorem mw_292 : .code yX2_openQuarrels cX2_openQuarrels 3 (some .int) ∈ BW := mb_11 (List.mem_of_getElem? (i := 17) rfl)
theorem mw_293 : .code yX2_dueQuarrels cX2_dueQuarrels 3 (some .int) ∈ BW := mb_11 (List.mem_of_getElem? (i := 18) rfl)
theorem mw_294 : .code yX2_personsUnderOath cX2_personsUnderOath 3 (some .int) ∈ BW := mb_11 (List.mem_of_getElem? (i := 19) rfl)
theorem mw_295 : .methodLink RX2 158 yX2_openQuarrels ∈ BW := mb_11 (List.mem_of_getElem? (i := 20) rfl)
theorem mw_296 : .instanceMethod yX2_openQuarrels ∈ BW := mb_11 (List.mem_of_getElem? (i := 21) rfl)
theorem mw_297 : .selects RX2 yX2_openQuarrels yX2_openQuarrels ∈ BW := mb_11 (List.mem_of_getElem? (i := 22) rfl)
theorem mw_298 : .methodLink RX2 162 yX2_dueQuarrels ∈ BW := mb_11 (List.mem_of_getElem? (i := 23) rfl)
theorem mw_299 : .instanceMethod yX2_dueQuarrels ∈ BW := mb_11 (List.mem_of_getElem? (i := 24) rfl)
theorem mw_300 : .selects RX2 yX2_dueQuarrels yX2_dueQuarrels ∈ BW := mb_12 (List.mem_of_getElem? (i := 0) rfl)
theorem mw_301 : .methodLink RX2 165 yX2_personsUnderOath ∈ BW := mb_12 (List.mem_of_getElem? (i := 1) rfl)
theorem mw_302 : .instanceMethod yX2_personsUnderOath ∈ BW := mb_12 (List.mem_of_getElem? (i := 2) rfl)
theorem mw_303 : .selects RX2 yX2_personsUnderOath yX2_personsUnderOath ∈ BW := mb_12 (List.mem_of_getElem? (i := 3) rfl)
theorem mw_304 : .code yX2_tellNumber cX2_tellNumber 2 (some .int) ∈ BW := mb_12 (List.mem_of_getElem? (i := 4) rfl)
theorem mw_305 : .methodLink RX3 1 objectInit ∈ BW := mb_12 (List.mem_of_getElem? (i := 5) rfl)
theorem mw_306 : .classLink RX3 7 RX2 ∈ BW := mb_12 (List.mem_of_getElem? (i := 6) rfl)
theorem mw_307 : .fieldLink RX3 10 "QuarrelWays" "town" "LQuarrelWays$Town;" ∈ BW := mb_12 (List.mem_of_getElem? (i := 7) rfl)
theorem mw_308 : .classLink RX3 16 RX0 ∈ BW := mb_12 (List.mem_of_getElem? (i := 8) rfl)
theorem mw_309 : .instantiable RX0 3 ∈ BW := mb_12 (List.mem_of_getElem? (i := 9) rfl)
theorem mw_310 : .fieldLink RX3 19 "QuarrelWays" "history" "LQuarrelWays$History;" ∈ BW := mb_12 (List.mem_of_getElem? (i := 10) rfl)
theorem mw_311 : .classLink RX3 23 RX1 ∈ BW := mb_12 (List.mem_of_getElem? (i := 11) rfl)
theorem mw_312 : .instantiable RX1 6 ∈ BW := mb_12 (List.mem_of_getElem? (i := 12) rfl)
theorem mw_313 : .fieldLink RX3 26 "QuarrelWays" "pad" "LQuarrelWays$Pad;" ∈ BW := mb_12 (List.mem_of_getElem? (i := 13) rfl)
theorem mw_314 : .fieldLink RX3 30 "QuarrelWays" "slots" "[LQuarrelWays$Town;" ∈ BW := mb_12 (List.mem_of_getElem? (i := 14) rfl)
theorem mw_315 : .instanceMethod yX0_init ∈ BW := mb_12 (List.mem_of_getElem? (i := 15) rfl)
theorem mw_316 : .instanceMethod yX1_init ∈ BW := mb_12 (List.mem_of_getElem? (i := 16) rfl)
theorem mw_317 : .code yX3_init cX3_init 1 none ∈ BW := mb_12 (List.mem_of_getElem? (i := 17) rfl)
theorem mw_318 : .instanceMethod yX0_note ∈ BW := mb_12 (List.mem_of_getElem? (i := 18) rfl)
theorem mw_319 : .selects RX0 yX0_note yX0_note ∈ BW := mb_12 (List.mem_of_getElem? (i := 19) rfl)
theorem mw_320 : .instanceMethod yX2_changeSetting ∈ BW := mb_12 (List.mem_of_getElem? (i := 20) rfl)
theorem mw_321 : .selects RX2 yX2_changeSetting yX2_changeSetting ∈ BW := mb_12 (List.mem_of_getElem? (i := 21) rfl)
theorem mw_322 : .instanceMethod yX0_keepUnlessError ∈ BW := mb_12 (List.mem_of_getElem? (i := 22) rfl)
theorem mw_323 : .selects RX0 yX0_keepUnlessError yX0_keepUnlessError ∈ BW := mb_12 (List.mem_of_getElem? (i := 23) rfl)
theorem mw_324 : .code yX3_set cX3_set 3 (some .int) ∈ BW := mb_12 (List.mem_of_getElem? (i := 24) rfl)
theorem mw_325 : .instanceMethod yX2_addPerson ∈ BW := mb_13 (List.mem_of_getElem? (i := 0) rfl)
theorem mw_326 : .selects RX2 yX2_addPerson yX2_addPerson ∈ BW := mb_13 (List.mem_of_getElem? (i := 1) rfl)
theorem mw_327 : .code yX3_person cX3_person 3 (some .int) ∈ BW := mb_13 (List.mem_of_getElem? (i := 2) rfl)
theorem mw_328 : .instanceMethod yX2_takeSecond ∈ BW := mb_13 (List.mem_of_getElem? (i := 3) rfl)
theorem mw_329 : .selects RX2 yX2_takeSecond yX2_takeSecond ∈ BW := mb_13 (List.mem_of_getElem? (i := 4) rfl)
theorem mw_330 : .code yX3_second cX3_second 3 (some .int) ∈ BW := mb_13 (List.mem_of_getElem? (i := 5) rfl)
theorem mw_331 : .instanceMethod yX2_allowOrBar ∈ BW := mb_13 (List.mem_of_getElem? (i := 6) rfl)
theorem mw_332 : .selects RX2 yX2_allowOrBar yX2_allowOrBar ∈ BW := mb_13 (List.mem_of_getElem? (i := 7) rfl)
theorem mw_333 : .code yX3_allow cX3_allow 2 (some .int) ∈ BW := mb_13 (List.mem_of_getElem? (i := 8) rfl)
theorem mw_334 : .instanceMethod yX2_addQuarrel ∈ BW := mb_13 (List.mem_of_getElem? (i := 9) rfl)
theorem mw_335 : .selects RX2 yX2_addQuarrel yX2_addQuarrel ∈ BW := mb_13 (List.mem_of_getElem? (i := 10) rfl)
theorem mw_336 : .code yX3_insult cX3_insult 4 (some .int) ∈ BW := mb_13 (List.mem_of_getElem? (i := 11) rfl)
theorem mw_337 : .instanceMethod yX2_settleBy ∈ BW := mb_13 (List.mem_of_getElem? (i := 12) rfl)
theorem mw_338 : .selects RX2 yX2_settleBy yX2_settleBy ∈ BW := mb_13 (List.mem_of_getElem? (i := 13) rfl)
theorem mw_339 : .code yX3_settle cX3_settle 3 (some .int) ∈ BW := mb_13 (List.mem_of_getElem? (i := 14) rfl)
theorem mw_340 : .instanceMethod yX2_duel ∈ BW := mb_13 (List.mem_of_getElem? (i := 15) rfl)
theorem mw_341 : .selects RX2 yX2_duel yX2_duel ∈ BW := mb_13 (List.mem_of_getElem? (i := 16) rfl)
theorem mw_342 : .code yX3_fight cX3_fight 2 (some .int) ∈ BW := mb_13 (List.mem_of_getElem? (i := 17) rfl)
theorem mw_343 : .instanceMethod yX2_takeOath ∈ BW := mb_13 (List.mem_of_getElem? (i := 18) rfl)
theorem mw_344 : .selects RX2 yX2_takeOath yX2_takeOath ∈ BW := mb_13 (List.mem_of_getElem? (i := 19) rfl)
theorem mw_345 : .code yX3_swear cX3_swear 2 (some .int) ∈ BW := mb_13 (List.mem_of_getElem? (i := 20) rfl)
theorem mw_346 : .code yJ6_bitCount_0f7a4 cJ6_bitCount_0f7a4 1 (some .int) ∈ BW := mb_13 (List.mem_of_getElem? (i := 21) rfl)
theorem mw_347 : .constant RJ6 265 1431655765 ∈ BW := mb_13 (List.mem_of_getElem? (i := 22) rfl)
theorem mw_348 : .constant RJ6 266 858993459 ∈ BW := mb_13 (List.mem_of_getElem? (i := 23) rfl)
theorem mw_349 : .constant RJ6 267 252645135 ∈ BW := mb_13 (List.mem_of_getElem? (i := 24) rfl)
theorem mw_350 : .instanceMethod yX2_moveOn ∈ BW := mb_14 (List.mem_of_getElem? (i := 0) rfl)
theorem mw_351 : .selects RX2 yX2_moveOn yX2_moveOn ∈ BW := mb_14 (List.mem_of_getElem? (i := 1) rfl)
theorem mw_352 : .methodLink RX3 71 yX3_isError ∈ BW := mb_14 (List.mem_of_getElem? (i := 2) rfl)
theorem mw_353 : .methodLink RX3 79 yJ6_bitCount_0f7a4 ∈ BW := mb_14 (List.mem_of_getElem? (i := 3) rfl)
theorem mw_354 : .static yJ6_bitCount_0f7a4 ∈ BW := mb_14 (List.mem_of_getElem? (i := 4) rfl)
theorem mw_355 : .initialized RJ6 ∈ BW := mb_14 (List.mem_of_getElem? (i := 5) rfl)
theorem mw_356 : .code yX3_pass cX3_pass 3 (some .int) ∈ BW := mb_14 (List.mem_of_getElem? (i := 6) rfl)
theorem mw_357 : .instanceMethod yX2_tellPerson ∈ BW := mb_14 (List.mem_of_getElem? (i := 7) rfl)
theorem mw_358 : .selects RX2 yX2_tellPerson yX2_tellPerson ∈ BW := mb_14 (List.mem_of_getElem? (i := 8) rfl)
theorem mw_359 : .code yX3_of cX3_of 3 (some .int) ∈ BW := mb_14 (List.mem_of_getElem? (i := 9) rfl)
theorem mw_360 : .instanceMethod yX2_tellQuarrel ∈ BW := mb_14 (List.mem_of_getElem? (i := 10) rfl)
theorem mw_361 : .selects RX2 yX2_tellQuarrel yX2_tellQuarrel ∈ BW := mb_14 (List.mem_of_getElem? (i := 11) rfl)
theorem mw_362 : .code yX3_quarrel cX3_quarrel 3 (some .int) ∈ BW := mb_14 (List.mem_of_getElem? (i := 12) rfl)
theorem mw_363 : .code yX3_record cX3_record 3 (some .int) ∈ BW := mb_14 (List.mem_of_getElem? (i := 13) rfl)
theorem mw_364 : .instanceMethod yX2_tellEvent ∈ BW := mb_14 (List.mem_of_getElem? (i := 14) rfl)
theorem mw_365 : .selects RX2 yX2_tellEvent yX2_tellEvent ∈ BW := mb_14 (List.mem_of_getElem? (i := 15) rfl)
theorem mw_366 : .instanceMethod yX2_quarrelThatPresses ∈ BW := mb_14 (List.mem_of_getElem? (i := 16) rfl)
theorem mw_367 : .selects RX2 yX2_quarrelThatPresses yX2_quarrelThatPresses ∈ BW := mb_14 (List.mem_of_getElem? (i := 17) rfl)
theorem mw_368 : .code yX3_pressing cX3_pressing 2 (some .int) ∈ BW := mb_14 (List.mem_of_getElem? (i := 18) rfl)
theorem mw_369 : .code yX3_insults cX3_insults 2 (some .int) ∈ BW := mb_14 (List.mem_of_getElem? (i := 19) rfl)
theorem mw_370 : .instanceMethod yX2_insultsFrom ∈ BW := mb_14 (List.mem_of_getElem? (i := 20) rfl)
theorem mw_371 : .selects RX2 yX2_insultsFrom yX2_insultsFrom ∈ BW := mb_14 (List.mem_of_getElem? (i := 21) rfl)
theorem mw_372 : .instanceMethod yX2_tellNumber ∈ BW := mb_14 (List.mem_of_getElem? (i := 22) rfl)
theorem mw_373 : .selects RX2 yX2_tellNumber yX2_tellNumber ∈ BW := mb_14 (List.mem_of_getElem? (i := 23) rfl)
theorem mw_374 : .code yX3_count cX3_count 2 (some .int) ∈ BW := mb_14 (List.mem_of_getElem? (i := 24) rfl)
theorem mw_375 : .code yX3_why cX3_why 2 (some .int) ∈ BW := mb_15 (List.mem_of_getElem? (i := 0) rfl)
theorem mw_376 : .static yX2_firstOf ∈ BW := mb_15 (List.mem_of_getElem? (i := 1) rfl)
theorem mw_377 : .code yX3_firstWay cX3_firstWay 2 (some .int) ∈ BW := mb_15 (List.mem_of_getElem? (i := 2) rfl)
theorem mw_378 : .instanceMethod yX2_hoursUntilWay ∈ BW := mb_15 (List.mem_of_getElem? (i := 3) rfl)
theorem mw_379 : .selects RX2 yX2_hoursUntilWay yX2_hoursUntilWay ∈ BW := mb_15 (List.mem_of_getElem? (i := 4) rfl)
theorem mw_380 : .code yX3_opensIn cX3_opensIn 2 (some .int) ∈ BW := mb_15 (List.mem_of_getElem? (i := 5) rfl)
theorem mw_381 : .instanceMethod yX2_hoursUntilDuel ∈ BW := mb_15 (List.mem_of_getElem? (i := 6) rfl)
theorem mw_382 : .selects RX2 yX2_hoursUntilDuel yX2_hoursUntilDuel ∈ BW := mb_15 (List.mem_of_getElem? (i := 7) rfl)
theorem mw_383 : .code yX3_dueIn cX3_dueIn 2 (some .int) ∈ BW := mb_15 (List.mem_of_getElem? (i := 8) rfl)
theorem mw_384 : .code yX3_ifInsulted cX3_ifInsulted 5 (some .int) ∈ BW := mb_15 (List.mem_of_getElem? (i := 9) rfl)
theorem mw_385 : .code yX3_ifFought cX3_ifFought 2 (some .int) ∈ BW := mb_15 (List.mem_of_getElem? (i := 10) rfl)
theorem mw_386 : .code yX3_put cX3_put 4 (some .int) ∈ BW := mb_15 (List.mem_of_getElem? (i := 11) rfl)
theorem mw_387 : .static yX1_signsIn ∈ BW := mb_15 (List.mem_of_getElem? (i := 12) rfl)
theorem mw_388 : .instanceMethod yX1_append ∈ BW := mb_15 (List.mem_of_getElem? (i := 13) rfl)
theorem mw_389 : .selects RX1 yX1_append yX1_append ∈ BW := mb_15 (List.mem_of_getElem? (i := 14) rfl)
theorem mw_390 : .code yX3_wipe cX3_wipe 2 (some .int) ∈ BW := mb_15 (List.mem_of_getElem? (i := 15) rfl)
theorem mw_391 : .instanceMethod yX1_firstFault ∈ BW := mb_15 (List.mem_of_getElem? (i := 16) rfl)
theorem mw_392 : .selects RX1 yX1_firstFault yX1_firstFault ∈ BW := mb_15 (List.mem_of_getElem? (i := 17) rfl)
theorem mw_393 : .code yX3_fault cX3_fault 1 (some .int) ∈ BW := mb_15 (List.mem_of_getElem? (i := 18) rfl)
theorem mw_394 : .instanceMethod yX1_number ∈ BW := mb_15 (List.mem_of_getElem? (i := 19) rfl)
theorem mw_395 : .selects RX1 yX1_number yX1_number ∈ BW := mb_15 (List.mem_of_getElem? (i := 20) rfl)
theorem mw_396 : .code yX3_carryOutOrder cX3_carryOutOrder 3 (some .int) ∈ BW := mb_15 (List.mem_of_getElem? (i := 21) rfl)
theorem mw_397 : .methodLink RX3 158 yX3_carryOutOrder ∈ BW := mb_15 (List.mem_of_getElem? (i := 22) rfl)
theorem mw_398 : .instanceMethod yX3_carryOutOrder ∈ BW := mb_15 (List.mem_of_getElem? (i := 23) rfl)
theorem mw_399 : .selects RX3 yX3_carryOutOrder yX3_carryOutOrder ∈ BW := mb_15 (List.mem_of_getElem? (i := 24) rfl)
theorem mw_400 : .instanceMethod yX1_stepOverSemicolon ∈ BW := mb_16 (List.mem_of_getElem? (i := 0) rfl)
theorem mw_401 : .selects RX1 yX1_stepOverSemicolon yX1_stepOverSemicolon ∈ BW := mb_16 (List.mem_of_getElem? (i := 1) rfl)
theorem mw_402 : .code yX3_carryOut cX3_carryOut 3 (some .int) ∈ BW := mb_16 (List.mem_of_getElem? (i := 2) rfl)
theorem mw_403 : .instanceMethod yX0_goBack ∈ BW := mb_16 (List.mem_of_getElem? (i := 3) rfl)
theorem mw_404 : .selects RX0 yX0_goBack yX0_goBack ∈ BW := mb_16 (List.mem_of_getElem? (i := 4) rfl)
theorem mw_405 : .code yX3_undo cX3_undo 1 (some .int) ∈ BW := mb_16 (List.mem_of_getElem? (i := 5) rfl)
theorem mw_406 : .code yX3_isSlot cX3_isSlot 2 (some .boolean) ∈ BW := mb_16 (List.mem_of_getElem? (i := 6) rfl)
theorem mw_407 : .methodLink RX3 168 yX3_isSlot ∈ BW := mb_16 (List.mem_of_getElem? (i := 7) rfl)
theorem mw_408 : .instanceMethod yX3_isSlot ∈ BW := mb_16 (List.mem_of_getElem? (i := 8) rfl)
theorem mw_409 : .selects RX3 yX3_isSlot yX3_isSlot ∈ BW := mb_16 (List.mem_of_getElem? (i := 9) rfl)
theorem mw_410 : .code yX3_save cX3_save 3 (some .int) ∈ BW := mb_16 (List.mem_of_getElem? (i := 10) rfl)
theorem mw_411 : .code yX3_restore cX3_restore 3 (some .int) ∈ BW := mb_16 (List.mem_of_getElem? (i := 11) rfl)
theorem mw_412 : .code yX4_init cX4_init 1 none ∈ BW := mb_16 (List.mem_of_getElem? (i := 12) rfl)
theorem mw_413 : .methodLink RX4 1 objectInit ∈ BW := mb_16 (List.mem_of_getElem? (i := 13) rfl)
theorem mw_414 : .fieldLink RX4 7 "QuarrelWaysModel" "s" "[I" ∈ BW := mb_16 (List.mem_of_getElem? (i := 14) rfl)
theorem mw_415 : .fieldLink RX4 13 "QuarrelWaysModel" "aside" "[I" ∈ BW := mb_16 (List.mem_of_getElem? (i := 15) rfl)
theorem mw_416 : .fieldLink RX4 16 "QuarrelWaysModel" "before" "[I" ∈ BW := mb_16 (List.mem_of_getElem? (i := 16) rfl)
theorem mw_417 : .fieldLink RX4 19 "QuarrelWaysModel" "kept" "[I" ∈ BW := mb_16 (List.mem_of_getElem? (i := 17) rfl)
theorem mw_418 : .arrayClass .boolean ∈ BW := mb_16 (List.mem_of_getElem? (i := 18) rfl)
theorem mw_419 : .fieldLink RX4 22 "QuarrelWaysModel" "isKept" "[Z" ∈ BW := mb_16 (List.mem_of_getElem? (i := 19) rfl)
theorem mw_420 : .fieldLink RX4 26 "QuarrelWaysModel" "pad" "[I" ∈ BW := mb_16 (List.mem_of_getElem? (i := 20) rfl)
theorem mw_421 : .code yX4_in cX4_in 3 (some .boolean) ∈ BW := mb_16 (List.mem_of_getElem? (i := 21) rfl)
theorem mw_422 : .code yX4_putAside cX4_putAside 2 none ∈ BW := mb_16 (List.mem_of_getElem? (i := 22) rfl)
theorem mw_423 : .code yX4_end cX4_end 3 (some .int) ∈ BW := mb_16 (List.mem_of_getElem? (i := 23) rfl)
theorem mw_424 : .fieldLink RX4 29 "QuarrelWaysModel" "known" "I" ∈ BW := mb_16 (List.mem_of_getElem? (i := 24) rfl)
theorem mw_425 : .code yX4_isPerson cX4_isPerson 2 (some .boolean) ∈ BW := mb_17 (List.mem_of_getElem? (i := 0) rfl)
theorem mw_426 : .methodLink RX4 33 yX4_in ∈ BW := mb_17 (List.mem_of_getElem? (i := 1) rfl)
theorem mw_427 : .static yX4_in ∈ BW := mb_17 (List.mem_of_getElem? (i := 2) rfl)
theorem mw_428 : .initialized RX4 ∈ BW := mb_17 (List.mem_of_getElem? (i := 3) rfl)
theorem mw_429 : .code yX4_isQuarrel cX4_isQuarrel 2 (some .boolean) ∈ BW := mb_17 (List.mem_of_getElem? (i := 4) rfl)
theorem mw_430 : .code yX4_person0 cX4_person0 3 (some .int) ∈ BW := mb_17 (List.mem_of_getElem? (i := 5) rfl)
theorem mw_431 : .code yX4_quarrel0 cX4_quarrel0 3 (some .int) ∈ BW := mb_17 (List.mem_of_getElem? (i := 6) rfl)
theorem mw_432 : .code yX4_isUnderOath cX4_isUnderOath 3 (some .boolean) ∈ BW := mb_17 (List.mem_of_getElem? (i := 7) rfl)
theorem mw_433 : .methodLink RX4 37 yX4_person0 ∈ BW := mb_17 (List.mem_of_getElem? (i := 8) rfl)
theorem mw_434 : .instanceMethod yX4_person0 ∈ BW := mb_17 (List.mem_of_getElem? (i := 9) rfl)
theorem mw_435 : .selects RX4 yX4_person0 yX4_person0 ∈ BW := mb_17 (List.mem_of_getElem? (i := 10) rfl)
theorem mw_436 : .code yX4_areOfThese cX4_areOfThese 6 (some .boolean) ∈ BW := mb_17 (List.mem_of_getElem? (i := 11) rfl)
theorem mw_437 : .methodLink RX4 41 yX4_quarrel0 ∈ BW := mb_17 (List.mem_of_getElem? (i := 12) rfl)
theorem mw_438 : .instanceMethod yX4_quarrel0 ∈ BW := mb_17 (List.mem_of_getElem? (i := 13) rfl)
theorem mw_439 : .selects RX4 yX4_quarrel0 yX4_quarrel0 ∈ BW := mb_17 (List.mem_of_getElem? (i := 14) rfl)
theorem mw_440 : .code yX4_hasPeace cX4_hasPeace 8 (some .boolean) ∈ BW := mb_17 (List.mem_of_getElem? (i := 15) rfl)
theorem mw_441 : .methodLink RX4 44 yX4_areOfThese ∈ BW := mb_17 (List.mem_of_getElem? (i := 16) rfl)
theorem mw_442 : .instanceMethod yX4_areOfThese ∈ BW := mb_17 (List.mem_of_getElem? (i := 17) rfl)
theorem mw_443 : .selects RX4 yX4_areOfThese yX4_areOfThese ∈ BW := mb_17 (List.mem_of_getElem? (i := 18) rfl)
theorem mw_444 : .code yX4_haveSeconds cX4_haveSeconds 7 (some .boolean) ∈ BW := mb_17 (List.mem_of_getElem? (i := 19) rfl)
theorem mw_445 : .methodLink RX4 47 yX4_haveSeconds ∈ BW := mb_17 (List.mem_of_getElem? (i := 20) rfl)
theorem mw_446 : .instanceMethod yX4_haveSeconds ∈ BW := mb_17 (List.mem_of_getElem? (i := 21) rfl)
theorem mw_447 : .selects RX4 yX4_haveSeconds yX4_haveSeconds ∈ BW := mb_17 (List.mem_of_getElem? (i := 22) rfl)
theorem mw_448 : .methodLink RX4 50 yX4_isUnderOath ∈ BW := mb_17 (List.mem_of_getElem? (i := 23) rfl)
theorem mw_449 : .instanceMethod yX4_isUnderOath ∈ BW := mb_17 (List.mem_of_getElem? (i := 24) rfl)
theorem mw_450 : .selects RX4 yX4_isUnderOath yX4_isUnderOath ∈ BW := mb_18 (List.mem_of_getElem? (i := 0) rfl)
theorem mw_451 : .methodLink RX4 54 yX4_hasPeace ∈ BW := mb_18 (List.mem_of_getElem? (i := 1) rfl)
theorem mw_452 : .instanceMethod yX4_hasPeace ∈ BW := mb_18 (List.mem_of_getElem? (i := 2) rfl)
theorem mw_453 : .selects RX4 yX4_hasPeace yX4_hasPeace ∈ BW := mb_18 (List.mem_of_getElem? (i := 3) rfl)
theorem mw_454 : .code yX4_waysFor cX4_waysFor 8 (some .int) ∈ BW := mb_18 (List.mem_of_getElem? (i := 4) rfl)
theorem mw_455 : .code yX4_since cX4_since 2 (some .int) ∈ BW := mb_18 (List.mem_of_getElem? (i := 5) rfl)
theorem mw_456 : .methodLink RX4 58 yX4_since ∈ BW := mb_18 (List.mem_of_getElem? (i := 6) rfl)
theorem mw_457 : .instanceMethod yX4_since ∈ BW := mb_18 (List.mem_of_getElem? (i := 7) rfl)
theorem mw_458 : .selects RX4 yX4_since yX4_since ∈ BW := mb_18 (List.mem_of_getElem? (i := 8) rfl)
theorem mw_459 : .methodLink RX4 62 yX4_waysFor ∈ BW := mb_18 (List.mem_of_getElem? (i := 9) rfl)
theorem mw_460 : .instanceMethod yX4_waysFor ∈ BW := mb_18 (List.mem_of_getElem? (i := 10) rfl)
theorem mw_461 : .selects RX4 yX4_waysFor yX4_waysFor ∈ BW := mb_18 (List.mem_of_getElem? (i := 11) rfl)
theorem mw_462 : .code yX4_waysOf cX4_waysOf 3 (some .int) ∈ BW := mb_18 (List.mem_of_getElem? (i := 12) rfl)
theorem mw_463 : .methodLink RX4 66 yX4_waysOf ∈ BW := mb_18 (List.mem_of_getElem? (i := 13) rfl)
theorem mw_464 : .instanceMethod yX4_waysOf ∈ BW := mb_18 (List.mem_of_getElem? (i := 14) rfl)
theorem mw_465 : .selects RX4 yX4_waysOf yX4_waysOf ∈ BW := mb_18 (List.mem_of_getElem? (i := 15) rfl)
theorem mw_466 : .code yX4_reason cX4_reason 3 (some .int) ∈ BW := mb_18 (List.mem_of_getElem? (i := 16) rfl)
theorem mw_467 : .code yX4_skill cX4_skill 2 (some .int) ∈ BW := mb_18 (List.mem_of_getElem? (i := 17) rfl)
theorem mw_468 : .code yX4_winnerOf cX4_winnerOf 4 (some .int) ∈ BW := mb_18 (List.mem_of_getElem? (i := 18) rfl)
theorem mw_469 : .methodLink RX4 69 yX4_skill ∈ BW := mb_18 (List.mem_of_getElem? (i := 19) rfl)
theorem mw_470 : .instanceMethod yX4_skill ∈ BW := mb_18 (List.mem_of_getElem? (i := 20) rfl)
theorem mw_471 : .selects RX4 yX4_skill yX4_skill ∈ BW := mb_18 (List.mem_of_getElem? (i := 21) rfl)
theorem mw_472 : .code yX4_tell cX4_tell 4 none ∈ BW := mb_18 (List.mem_of_getElem? (i := 22) rfl)
theorem mw_473 : .code yX4_change cX4_change 5 none ∈ BW := mb_18 (List.mem_of_getElem? (i := 23) rfl)
theorem mw_474 : .code yX4_oath cX4_oath 3 none ∈ BW := mb_18 (List.mem_of_getElem? (i := 24) rfl)
theorem mw_475 : .code yX4_quarrelsThat cX4_quarrelsThat 4 (some .int) ∈ BW := mb_19 (List.mem_of_getElem? (i := 0) rfl)
theorem mw_476 : .code yX4_size cX4_size 3 (some .int) ∈ BW := mb_19 (List.mem_of_getElem? (i := 1) rfl)
theorem mw_477 : .methodLink RX4 72 yX4_reason ∈ BW := mb_19 (List.mem_of_getElem? (i := 2) rfl)
theorem mw_478 : .instanceMethod yX4_reason ∈ BW := mb_19 (List.mem_of_getElem? (i := 3) rfl)
theorem mw_479 : .selects RX4 yX4_reason yX4_reason ∈ BW := mb_19 (List.mem_of_getElem? (i := 4) rfl)
theorem mw_480 : .code yX4_due cX4_due 3 (some .int) ∈ BW := mb_19 (List.mem_of_getElem? (i := 5) rfl)
theorem mw_481 : .code yX4_comes cX4_comes 4 (some .int) ∈ BW := mb_19 (List.mem_of_getElem? (i := 6) rfl)
theorem mw_482 : .code yX4_takes cX4_takes 4 (some .int) ∈ BW := mb_19 (List.mem_of_getElem? (i := 7) rfl)
theorem mw_483 : .methodLink RX4 75 yX4_isPerson ∈ BW := mb_19 (List.mem_of_getElem? (i := 8) rfl)
theorem mw_484 : .instanceMethod yX4_isPerson ∈ BW := mb_19 (List.mem_of_getElem? (i := 9) rfl)
theorem mw_485 : .selects RX4 yX4_isPerson yX4_isPerson ∈ BW := mb_19 (List.mem_of_getElem? (i := 10) rfl)
theorem mw_486 : .code yX4_turns cX4_turns 2 (some .int) ∈ BW := mb_19 (List.mem_of_getElem? (i := 11) rfl)
theorem mw_487 : .code yX4_offends cX4_offends 5 (some .int) ∈ BW := mb_19 (List.mem_of_getElem? (i := 12) rfl)
theorem mw_488 : .methodLink RX4 79 yX4_tell ∈ BW := mb_19 (List.mem_of_getElem? (i := 13) rfl)
theorem mw_489 : .instanceMethod yX4_tell ∈ BW := mb_19 (List.mem_of_getElem? (i := 14) rfl)
theorem mw_490 : .selects RX4 yX4_tell yX4_tell ∈ BW := mb_19 (List.mem_of_getElem? (i := 15) rfl)
theorem mw_491 : .methodLink RX4 83 yX4_isQuarrel ∈ BW := mb_19 (List.mem_of_getElem? (i := 16) rfl)
theorem mw_492 : .instanceMethod yX4_isQuarrel ∈ BW := mb_19 (List.mem_of_getElem? (i := 17) rfl)
theorem mw_493 : .selects RX4 yX4_isQuarrel yX4_isQuarrel ∈ BW := mb_19 (List.mem_of_getElem? (i := 18) rfl)
theorem mw_494 : .methodLink RX4 86 yX4_change ∈ BW := mb_19 (List.mem_of_getElem? (i := 19) rfl)
theorem mw_495 : .instanceMethod yX4_change ∈ BW := mb_19 (List.mem_of_getElem? (i := 20) rfl)
theorem mw_496 : .selects RX4 yX4_change yX4_change ∈ BW := mb_19 (List.mem_of_getElem? (i := 21) rfl)
theorem mw_497 : .methodLink RX4 90 yX4_quarrelsThat ∈ BW := mb_19 (List.mem_of_getElem? (i := 22) rfl)
theorem mw_498 : .instanceMethod yX4_quarrelsThat ∈ BW := mb_19 (List.mem_of_getElem? (i := 23) rfl)
theorem mw_499 : .selects RX4 yX4_quarrelsThat yX4_quarrelsThat ∈ BW := mb_19 (List.mem_of_getElem? (i := 24) rfl)
theorem mw_500 : .methodLink RX4 93 yX4_size ∈ BW := mb_20 (List.mem_of_getElem? (i := 0) rfl)
theorem mw_501 : .static yX4_size ∈ BW := mb_20 (List.mem_of_getElem? (i := 1) rfl)
theorem mw_502 : .code yX4_settles cX4_settles 4 (some .int) ∈ BW := mb_20 (List.mem_of_getElem? (i := 2) rfl)
theorem mw_503 : .methodLink RX4 96 yX4_winnerOf ∈ BW := mb_20 (List.mem_of_getElem? (i := 3) rfl)
theorem mw_504 : .instanceMethod yX4_winnerOf ∈ BW := mb_20 (List.mem_of_getElem? (i := 4) rfl)
theorem mw_505 : .selects RX4 yX4_winnerOf yX4_winnerOf ∈ BW := mb_20 (List.mem_of_getElem? (i := 5) rfl)
theorem mw_506 : .methodLink RX4 99 yX4_oath ∈ BW := mb_20 (List.mem_of_getElem? (i := 6) rfl)
theorem mw_507 : .instanceMethod yX4_oath ∈ BW := mb_20 (List.mem_of_getElem? (i := 7) rfl)
theorem mw_508 : .selects RX4 yX4_oath yX4_oath ∈ BW := mb_20 (List.mem_of_getElem? (i := 8) rfl)
theorem mw_509 : .code yX4_fights cX4_fights 5 (some .int) ∈ BW := mb_20 (List.mem_of_getElem? (i := 9) rfl)
theorem mw_510 : .code yX4_swears cX4_swears 2 (some .int) ∈ BW := mb_20 (List.mem_of_getElem? (i := 10) rfl)
theorem mw_511 : .methodLink RX4 103 yX4_due ∈ BW := mb_20 (List.mem_of_getElem? (i := 11) rfl)
theorem mw_512 : .instanceMethod yX4_due ∈ BW := mb_20 (List.mem_of_getElem? (i := 12) rfl)
theorem mw_513 : .selects RX4 yX4_due yX4_due ∈ BW := mb_20 (List.mem_of_getElem? (i := 13) rfl)
theorem mw_514 : .code yX4_passes cX4_passes 2 (some .int) ∈ BW := mb_20 (List.mem_of_getElem? (i := 14) rfl)
theorem mw_515 : .code yX4_set cX4_set 6 (some .int) ∈ BW := mb_20 (List.mem_of_getElem? (i := 15) rfl)
theorem mw_516 : .methodLink RX4 107 yX4_putAside ∈ BW := mb_20 (List.mem_of_getElem? (i := 16) rfl)
theorem mw_517 : .instanceMethod yX4_putAside ∈ BW := mb_20 (List.mem_of_getElem? (i := 17) rfl)
theorem mw_518 : .selects RX4 yX4_putAside yX4_putAside ∈ BW := mb_20 (List.mem_of_getElem? (i := 18) rfl)
theorem mw_519 : .methodLink RX4 110 yX4_end ∈ BW := mb_20 (List.mem_of_getElem? (i := 19) rfl)
theorem mw_520 : .instanceMethod yX4_end ∈ BW := mb_20 (List.mem_of_getElem? (i := 20) rfl)
theorem mw_521 : .selects RX4 yX4_end yX4_end ∈ BW := mb_20 (List.mem_of_getElem? (i := 21) rfl)
theorem mw_522 : .code yX4_person cX4_person 3 (some .int) ∈ BW := mb_20 (List.mem_of_getElem? (i := 22) rfl)
theorem mw_523 : .methodLink RX4 113 yX4_comes ∈ BW := mb_20 (List.mem_of_getElem? (i := 23) rfl)
theorem mw_524 : .instanceMethod yX4_comes ∈ BW := mb_20 (List.mem_of_getElem? (i := 24) rfl)
theorem mw_525 : .selects RX4 yX4_comes yX4_comes ∈ BW := mb_21 (List.mem_of_getElem? (i := 0) rfl)
theorem mw_526 : .methodLink RX4 116 yX4_takes ∈ BW := mb_21 (List.mem_of_getElem? (i := 1) rfl)
theorem mw_527 : .instanceMethod yX4_takes ∈ BW := mb_21 (List.mem_of_getElem? (i := 2) rfl)
theorem mw_528 : .selects RX4 yX4_takes yX4_takes ∈ BW := mb_21 (List.mem_of_getElem? (i := 3) rfl)
theorem mw_529 : .code yX4_second cX4_second 3 (some .int) ∈ BW := mb_21 (List.mem_of_getElem? (i := 4) rfl)
theorem mw_530 : .code yX4_allow cX4_allow 2 (some .int) ∈ BW := mb_21 (List.mem_of_getElem? (i := 5) rfl)
theorem mw_531 : .methodLink RX4 119 yX4_turns ∈ BW := mb_21 (List.mem_of_getElem? (i := 6) rfl)
theorem mw_532 : .instanceMethod yX4_turns ∈ BW := mb_21 (List.mem_of_getElem? (i := 7) rfl)
theorem mw_533 : .selects RX4 yX4_turns yX4_turns ∈ BW := mb_21 (List.mem_of_getElem? (i := 8) rfl)
theorem mw_534 : .methodLink RX4 122 yX4_offends ∈ BW := mb_21 (List.mem_of_getElem? (i := 9) rfl)
theorem mw_535 : .instanceMethod yX4_offends ∈ BW := mb_21 (List.mem_of_getElem? (i := 10) rfl)
theorem mw_536 : .selects RX4 yX4_offends yX4_offends ∈ BW := mb_21 (List.mem_of_getElem? (i := 11) rfl)
theorem mw_537 : .code yX4_insult cX4_insult 4 (some .int) ∈ BW := mb_21 (List.mem_of_getElem? (i := 12) rfl)
theorem mw_538 : .methodLink RX4 126 yX4_settles ∈ BW := mb_21 (List.mem_of_getElem? (i := 13) rfl)
theorem mw_539 : .instanceMethod yX4_settles ∈ BW := mb_21 (List.mem_of_getElem? (i := 14) rfl)
theorem mw_540 : .selects RX4 yX4_settles yX4_settles ∈ BW := mb_21 (List.mem_of_getElem? (i := 15) rfl)
theorem mw_541 : .code yX4_settle cX4_settle 3 (some .int) ∈ BW := mb_21 (List.mem_of_getElem? (i := 16) rfl)
theorem mw_542 : .methodLink RX4 129 yX4_fights ∈ BW := mb_21 (List.mem_of_getElem? (i := 17) rfl)
theorem mw_543 : .instanceMethod yX4_fights ∈ BW := mb_21 (List.mem_of_getElem? (i := 18) rfl)
theorem mw_544 : .selects RX4 yX4_fights yX4_fights ∈ BW := mb_21 (List.mem_of_getElem? (i := 19) rfl)
theorem mw_545 : .code yX4_fight cX4_fight 2 (some .int) ∈ BW := mb_21 (List.mem_of_getElem? (i := 20) rfl)
theorem mw_546 : .methodLink RX4 132 yX4_swears ∈ BW := mb_21 (List.mem_of_getElem? (i := 21) rfl)
theorem mw_547 : .instanceMethod yX4_swears ∈ BW := mb_21 (List.mem_of_getElem? (i := 22) rfl)
theorem mw_548 : .selects RX4 yX4_swears yX4_swears ∈ BW := mb_21 (List.mem_of_getElem? (i := 23) rfl)
theorem mw_549 : .code yX4_swear cX4_swear 2 (some .int) ∈ BW := mb_21 (List.mem_of_getElem? (i := 24) rfl)
theorem mw_550 : .methodLink RX4 135 yX4_passes ∈ BW := mb_22 (List.mem_of_getElem? (i := 0) rfl)
theorem mw_551 : .instanceMethod yX4_passes ∈ BW := mb_22 (List.mem_of_getElem? (i := 1) rfl)
theorem mw_552 : .selects RX4 yX4_passes yX4_passes ∈ BW := mb_22 (List.mem_of_getElem? (i := 2) rfl)
theorem mw_553 : .code yX4_pass cX4_pass 2 (some .int) ∈ BW := mb_22 (List.mem_of_getElem? (i := 3) rfl)
theorem mw_554 : .code yX4_parts cX4_parts 7 (some .int) ∈ BW := mb_22 (List.mem_of_getElem? (i := 4) rfl)
theorem mw_555 : .code yX4_secondOf cX4_secondOf 4 (some .int) ∈ BW := mb_22 (List.mem_of_getElem? (i := 5) rfl)
theorem mw_556 : .code yX4_oathLeft cX4_oathLeft 3 (some .int) ∈ BW := mb_22 (List.mem_of_getElem? (i := 6) rfl)
theorem mw_557 : .methodLink RX4 138 yX4_oathLeft ∈ BW := mb_22 (List.mem_of_getElem? (i := 7) rfl)
theorem mw_558 : .instanceMethod yX4_oathLeft ∈ BW := mb_22 (List.mem_of_getElem? (i := 8) rfl)
theorem mw_559 : .selects RX4 yX4_oathLeft yX4_oathLeft ∈ BW := mb_22 (List.mem_of_getElem? (i := 9) rfl)
theorem mw_560 : .methodLink RX4 141 yX4_parts ∈ BW := mb_22 (List.mem_of_getElem? (i := 10) rfl)
theorem mw_561 : .instanceMethod yX4_parts ∈ BW := mb_22 (List.mem_of_getElem? (i := 11) rfl)
theorem mw_562 : .selects RX4 yX4_parts yX4_parts ∈ BW := mb_22 (List.mem_of_getElem? (i := 12) rfl)
theorem mw_563 : .methodLink RX4 144 yX4_secondOf ∈ BW := mb_22 (List.mem_of_getElem? (i := 13) rfl)
theorem mw_564 : .instanceMethod yX4_secondOf ∈ BW := mb_22 (List.mem_of_getElem? (i := 14) rfl)
theorem mw_565 : .selects RX4 yX4_secondOf yX4_secondOf ∈ BW := mb_22 (List.mem_of_getElem? (i := 15) rfl)
theorem mw_566 : .code yX4_of cX4_of 3 (some .int) ∈ BW := mb_22 (List.mem_of_getElem? (i := 16) rfl)
theorem mw_567 : .code yX4_quarrel cX4_quarrel 3 (some .int) ∈ BW := mb_22 (List.mem_of_getElem? (i := 17) rfl)
theorem mw_568 : .code yX4_record cX4_record 3 (some .int) ∈ BW := mb_22 (List.mem_of_getElem? (i := 18) rfl)
theorem mw_569 : .code yX4_press cX4_press 2 (some .int) ∈ BW := mb_22 (List.mem_of_getElem? (i := 19) rfl)
theorem mw_570 : .code yX4_pressing cX4_pressing 6 (some .int) ∈ BW := mb_22 (List.mem_of_getElem? (i := 20) rfl)
theorem mw_571 : .methodLink RX4 147 yX4_press ∈ BW := mb_22 (List.mem_of_getElem? (i := 21) rfl)
theorem mw_572 : .instanceMethod yX4_press ∈ BW := mb_22 (List.mem_of_getElem? (i := 22) rfl)
theorem mw_573 : .selects RX4 yX4_press yX4_press ∈ BW := mb_22 (List.mem_of_getElem? (i := 23) rfl)
theorem mw_574 : .code yX4_insults cX4_insults 4 (some .int) ∈ BW := mb_22 (List.mem_of_getElem? (i := 24) rfl)
theorem mw_575 : .code yX4_sworn cX4_sworn 3 (some .int) ∈ BW := mb_23 (List.mem_of_getElem? (i := 0) rfl)
theorem mw_576 : .fieldLink RX4 153 "QuarrelWaysModel" "length" "I" ∈ BW := mb_23 (List.mem_of_getElem? (i := 1) rfl)
theorem mw_577 : .methodLink RX4 150 yX4_sworn ∈ BW := mb_23 (List.mem_of_getElem? (i := 2) rfl)
theorem mw_578 : .instanceMethod yX4_sworn ∈ BW := mb_23 (List.mem_of_getElem? (i := 3) rfl)
theorem mw_579 : .selects RX4 yX4_sworn yX4_sworn ∈ BW := mb_23 (List.mem_of_getElem? (i := 4) rfl)
theorem mw_580 : .code yX4_count cX4_count 2 (some .int) ∈ BW := mb_23 (List.mem_of_getElem? (i := 5) rfl)
theorem mw_581 : .code yX4_why cX4_why 2 (some .int) ∈ BW := mb_23 (List.mem_of_getElem? (i := 6) rfl)
theorem mw_582 : .code yX4_firstWay cX4_firstWay 3 (some .int) ∈ BW := mb_23 (List.mem_of_getElem? (i := 7) rfl)
theorem mw_583 : .code yX4_opensIn cX4_opensIn 3 (some .int) ∈ BW := mb_23 (List.mem_of_getElem? (i := 8) rfl)
theorem mw_584 : .code yX4_dueIn cX4_dueIn 3 (some .int) ∈ BW := mb_23 (List.mem_of_getElem? (i := 9) rfl)
theorem mw_585 : .code yX4_ifInsulted cX4_ifInsulted 4 (some .int) ∈ BW := mb_23 (List.mem_of_getElem? (i := 10) rfl)
theorem mw_586 : .code yX4_ifFought cX4_ifFought 2 (some .int) ∈ BW := mb_23 (List.mem_of_getElem? (i := 11) rfl)
theorem mw_587 : .code yX4_code cX4_code 3 (some .int) ∈ BW := mb_23 (List.mem_of_getElem? (i := 12) rfl)
theorem mw_588 : .constantLong RX4 156 255 ∈ BW := mb_23 (List.mem_of_getElem? (i := 13) rfl)
theorem mw_589 : .code yX4_put cX4_put 5 (some .int) ∈ BW := mb_23 (List.mem_of_getElem? (i := 14) rfl)
theorem mw_590 : .methodLink RX4 158 yX4_code ∈ BW := mb_23 (List.mem_of_getElem? (i := 15) rfl)
theorem mw_591 : .static yX4_code ∈ BW := mb_23 (List.mem_of_getElem? (i := 16) rfl)
theorem mw_592 : .code yX4_wipe cX4_wipe 2 (some .int) ∈ BW := mb_23 (List.mem_of_getElem? (i := 17) rfl)
theorem mw_593 : .code yX4_sign cX4_sign 4 (some .int) ∈ BW := mb_23 (List.mem_of_getElem? (i := 18) rfl)
theorem mw_594 : .fieldLink RX4 162 "QuarrelWaysModel" "place" "I" ∈ BW := mb_23 (List.mem_of_getElem? (i := 19) rfl)
theorem mw_595 : .fieldLink RX4 165 "QuarrelWaysModel" "isWrong" "Z" ∈ BW := mb_23 (List.mem_of_getElem? (i := 20) rfl)
theorem mw_596 : .code yX4_digit cX4_digit 1 (some .int) ∈ BW := mb_23 (List.mem_of_getElem? (i := 21) rfl)
theorem mw_597 : .methodLink RX4 169 yX4_sign ∈ BW := mb_23 (List.mem_of_getElem? (i := 22) rfl)
theorem mw_598 : .instanceMethod yX4_sign ∈ BW := mb_23 (List.mem_of_getElem? (i := 23) rfl)
theorem mw_599 : .selects RX4 yX4_sign yX4_sign ∈ BW := mb_23 (List.mem_of_getElem? (i := 24) rfl)
theorem mw_600 : .code yX4_number cX4_number 2 (some .int) ∈ BW := mb_24 (List.mem_of_getElem? (i := 0) rfl)
theorem mw_601 : .methodLink RX4 172 yX4_digit ∈ BW := mb_24 (List.mem_of_getElem? (i := 1) rfl)
theorem mw_602 : .instanceMethod yX4_digit ∈ BW := mb_24 (List.mem_of_getElem? (i := 2) rfl)
theorem mw_603 : .selects RX4 yX4_digit yX4_digit ∈ BW := mb_24 (List.mem_of_getElem? (i := 3) rfl)
theorem mw_604 : .methodLink RX4 175 yX4_number ∈ BW := mb_24 (List.mem_of_getElem? (i := 4) rfl)
theorem mw_605 : .instanceMethod yX4_number ∈ BW := mb_24 (List.mem_of_getElem? (i := 5) rfl)
theorem mw_606 : .selects RX4 yX4_number yX4_number ∈ BW := mb_24 (List.mem_of_getElem? (i := 6) rfl)
theorem mw_607 : .code yX4_order cX4_order 8 (some .int) ∈ BW := mb_24 (List.mem_of_getElem? (i := 7) rfl)
theorem mw_608 : .methodLink RX4 178 yX4_order ∈ BW := mb_24 (List.mem_of_getElem? (i := 8) rfl)
theorem mw_609 : .instanceMethod yX4_order ∈ BW := mb_24 (List.mem_of_getElem? (i := 9) rfl)
theorem mw_610 : .selects RX4 yX4_order yX4_order ∈ BW := mb_24 (List.mem_of_getElem? (i := 10) rfl)
theorem mw_611 : .code yX4_go cX4_go 6 (some .int) ∈ BW := mb_24 (List.mem_of_getElem? (i := 11) rfl)
theorem mw_612 : .methodLink RX4 182 yX4_go ∈ BW := mb_24 (List.mem_of_getElem? (i := 12) rfl)
theorem mw_613 : .instanceMethod yX4_go ∈ BW := mb_24 (List.mem_of_getElem? (i := 13) rfl)
theorem mw_614 : .selects RX4 yX4_go yX4_go ∈ BW := mb_24 (List.mem_of_getElem? (i := 14) rfl)
theorem mw_615 : .code yX4_fault cX4_fault 2 (some .int) ∈ BW := mb_24 (List.mem_of_getElem? (i := 15) rfl)
theorem mw_616 : .code yX4_carryOut cX4_carryOut 3 (some .int) ∈ BW := mb_24 (List.mem_of_getElem? (i := 16) rfl)
theorem mw_617 : .code yX4_undo cX4_undo 2 (some .int) ∈ BW := mb_24 (List.mem_of_getElem? (i := 17) rfl)
theorem mw_618 : .code yX4_save cX4_save 3 (some .int) ∈ BW := mb_24 (List.mem_of_getElem? (i := 18) rfl)
theorem mw_619 : .code yX4_restore cX4_restore 3 (some .int) ∈ BW := mb_24 (List.mem_of_getElem? (i := 19) rfl)
theorem mw_620 : .code yJ9_max_7cf53 cJ9_max_7cf53 2 (some .int) ∈ BW := mb_24 (List.mem_of_getElem? (i := 20) rfl)
theorem mw_621 : .code yJ9_min_7cf53 cJ9_min_7cf53 2 (some .int) ∈ BW := mb_24 (List.mem_of_getElem? (i := 21) rfl)
theorem mw_622 : .classLink RL 7 RX3 ∈ BW := mb_24 (List.mem_of_getElem? (i := 22) rfl)
theorem mw_623 : .instantiable RX3 4 ∈ BW := mb_24 (List.mem_of_getElem? (i := 23) rfl)
theorem mw_624 : .classLink RL 10 RX4 ∈ BW := mb_24 (List.mem_of_getElem? (i := 24) rfl)
theorem mw_625 : .instantiable RX4 10 ∈ BW := mb_25 (List.mem_of_getElem? (i := 0) rfl)
theorem mw_626 : .constantLong RL 100 4294967295 ∈ BW := mb_25 (List.mem_of_getElem? (i := 1) rfl)
theorem mw_627 : .methodLink RL 9 yX3_init ∈ BW := mb_25 (List.mem_of_getElem? (i := 2) rfl)
theorem mw_628 : .instanceMethod yX3_init ∈ BW := mb_25 (List.mem_of_getElem? (i := 3) rfl)
theorem mw_629 : .methodLink RL 12 yX4_init ∈ BW := mb_25 (List.mem_of_getElem? (i := 4) rfl)
theorem mw_630 : .instanceMethod yX4_init ∈ BW := mb_25 (List.mem_of_getElem? (i := 5) rfl)
theorem mw_631 : .methodLink RL 13 yX3_set ∈ BW := mb_25 (List.mem_of_getElem? (i := 6) rfl)
theorem mw_632 : .instanceMethod yX3_set ∈ BW := mb_25 (List.mem_of_getElem? (i := 7) rfl)
theorem mw_633 : .selects RX3 yX3_set yX3_set ∈ BW := mb_25 (List.mem_of_getElem? (i := 8) rfl)
theorem mw_634 : .methodLink RL 17 yX4_set ∈ BW := mb_25 (List.mem_of_getElem? (i := 9) rfl)
theorem mw_635 : .instanceMethod yX4_set ∈ BW := mb_25 (List.mem_of_getElem? (i := 10) rfl)
theorem mw_636 : .selects RX4 yX4_set yX4_set ∈ BW := mb_25 (List.mem_of_getElem? (i := 11) rfl)
theorem mw_637 : .methodLink RL 18 yX3_person ∈ BW := mb_25 (List.mem_of_getElem? (i := 12) rfl)
theorem mw_638 : .instanceMethod yX3_person ∈ BW := mb_25 (List.mem_of_getElem? (i := 13) rfl)
theorem mw_639 : .selects RX3 yX3_person yX3_person ∈ BW := mb_25 (List.mem_of_getElem? (i := 14) rfl)
theorem mw_640 : .methodLink RL 21 yX4_person ∈ BW := mb_25 (List.mem_of_getElem? (i := 15) rfl)
theorem mw_641 : .instanceMethod yX4_person ∈ BW := mb_25 (List.mem_of_getElem? (i := 16) rfl)
theorem mw_642 : .selects RX4 yX4_person yX4_person ∈ BW := mb_25 (List.mem_of_getElem? (i := 17) rfl)
theorem mw_643 : .methodLink RL 22 yX3_second ∈ BW := mb_25 (List.mem_of_getElem? (i := 18) rfl)
theorem mw_644 : .instanceMethod yX3_second ∈ BW := mb_25 (List.mem_of_getElem? (i := 19) rfl)
theorem mw_645 : .selects RX3 yX3_second yX3_second ∈ BW := mb_25 (List.mem_of_getElem? (i := 20) rfl)
theorem mw_646 : .methodLink RL 25 yX4_second ∈ BW := mb_25 (List.mem_of_getElem? (i := 21) rfl)
theorem mw_647 : .instanceMethod yX4_second ∈ BW := mb_25 (List.mem_of_getElem? (i := 22) rfl)
theorem mw_648 : .selects RX4 yX4_second yX4_second ∈ BW := mb_25 (List.mem_of_getElem? (i := 23) rfl)
theorem mw_649 : .methodLink RL 26 yX3_allow ∈ BW := mb_25 (List.mem_of_getElem? (i := 24) rfl)
theorem mw_650 : .instanceMethod yX3_allow ∈ BW := mb_26 (List.mem_of_getElem? (i := 0) rfl)
theorem mw_651 : .selects RX3 yX3_allow yX3_allow ∈ BW := mb_26 (List.mem_of_getElem? (i := 1) rfl)
theorem mw_652 : .methodLink RL 30 yX4_allow ∈ BW := mb_26 (List.mem_of_getElem? (i := 2) rfl)
theorem mw_653 : .instanceMethod yX4_allow ∈ BW := mb_26 (List.mem_of_getElem? (i := 3) rfl)
theorem mw_654 : .selects RX4 yX4_allow yX4_allow ∈ BW := mb_26 (List.mem_of_getElem? (i := 4) rfl)
theorem mw_655 : .methodLink RL 31 yX3_insult ∈ BW := mb_26 (List.mem_of_getElem? (i := 5) rfl)
theorem mw_656 : .instanceMethod yX3_insult ∈ BW := mb_26 (List.mem_of_getElem? (i := 6) rfl)
theorem mw_657 : .selects RX3 yX3_insult yX3_insult ∈ BW := mb_26 (List.mem_of_getElem? (i := 7) rfl)
theorem mw_658 : .methodLink RL 35 yX4_insult ∈ BW := mb_26 (List.mem_of_getElem? (i := 8) rfl)
theorem mw_659 : .instanceMethod yX4_insult ∈ BW := mb_26 (List.mem_of_getElem? (i := 9) rfl)
theorem mw_660 : .selects RX4 yX4_insult yX4_insult ∈ BW := mb_26 (List.mem_of_getElem? (i := 10) rfl)
theorem mw_661 : .methodLink RL 36 yX3_settle ∈ BW := mb_26 (List.mem_of_getElem? (i := 11) rfl)
theorem mw_662 : .instanceMethod yX3_settle ∈ BW := mb_26 (List.mem_of_getElem? (i := 12) rfl)
theorem mw_663 : .selects RX3 yX3_settle yX3_settle ∈ BW := mb_26 (List.mem_of_getElem? (i := 13) rfl)
theorem mw_664 : .methodLink RL 39 yX4_settle ∈ BW := mb_26 (List.mem_of_getElem? (i := 14) rfl)
theorem mw_665 : .instanceMethod yX4_settle ∈ BW := mb_26 (List.mem_of_getElem? (i := 15) rfl)
theorem mw_666 : .selects RX4 yX4_settle yX4_settle ∈ BW := mb_26 (List.mem_of_getElem? (i := 16) rfl)
theorem mw_667 : .methodLink RL 40 yX3_fight ∈ BW := mb_26 (List.mem_of_getElem? (i := 17) rfl)
theorem mw_668 : .instanceMethod yX3_fight ∈ BW := mb_26 (List.mem_of_getElem? (i := 18) rfl)
theorem mw_669 : .selects RX3 yX3_fight yX3_fight ∈ BW := mb_26 (List.mem_of_getElem? (i := 19) rfl)
theorem mw_670 : .methodLink RL 43 yX4_fight ∈ BW := mb_26 (List.mem_of_getElem? (i := 20) rfl)
theorem mw_671 : .instanceMethod yX4_fight ∈ BW := mb_26 (List.mem_of_getElem? (i := 21) rfl)
theorem mw_672 : .selects RX4 yX4_fight yX4_fight ∈ BW := mb_26 (List.mem_of_getElem? (i := 22) rfl)
theorem mw_673 : .methodLink RL 44 yX3_swear ∈ BW := mb_26 (List.mem_of_getElem? (i := 23) rfl)
theorem mw_674 : .instanceMethod yX3_swear ∈ BW := mb_26 (List.mem_of_getElem? (i := 24) rfl)
theorem mw_675 : .selects RX3 yX3_swear yX3_swear ∈ BW := mb_27 (List.mem_of_getElem? (i := 0) rfl)
theorem mw_676 : .methodLink RL 47 yX4_swear ∈ BW := mb_27 (List.mem_of_getElem? (i := 1) rfl)
theorem mw_677 : .instanceMethod yX4_swear ∈ BW := mb_27 (List.mem_of_getElem? (i := 2) rfl)
theorem mw_678 : .selects RX4 yX4_swear yX4_swear ∈ BW := mb_27 (List.mem_of_getElem? (i := 3) rfl)
theorem mw_679 : .methodLink RL 48 yX3_pass ∈ BW := mb_27 (List.mem_of_getElem? (i := 4) rfl)
theorem mw_680 : .instanceMethod yX3_pass ∈ BW := mb_27 (List.mem_of_getElem? (i := 5) rfl)
theorem mw_681 : .selects RX3 yX3_pass yX3_pass ∈ BW := mb_27 (List.mem_of_getElem? (i := 6) rfl)
theorem mw_682 : .methodLink RL 51 yX4_pass ∈ BW := mb_27 (List.mem_of_getElem? (i := 7) rfl)
theorem mw_683 : .instanceMethod yX4_pass ∈ BW := mb_27 (List.mem_of_getElem? (i := 8) rfl)
theorem mw_684 : .selects RX4 yX4_pass yX4_pass ∈ BW := mb_27 (List.mem_of_getElem? (i := 9) rfl)
theorem mw_685 : .methodLink RL 52 yX3_of ∈ BW := mb_27 (List.mem_of_getElem? (i := 10) rfl)
theorem mw_686 : .instanceMethod yX3_of ∈ BW := mb_27 (List.mem_of_getElem? (i := 11) rfl)
theorem mw_687 : .selects RX3 yX3_of yX3_of ∈ BW := mb_27 (List.mem_of_getElem? (i := 12) rfl)
theorem mw_688 : .methodLink RL 55 yX4_of ∈ BW := mb_27 (List.mem_of_getElem? (i := 13) rfl)
theorem mw_689 : .instanceMethod yX4_of ∈ BW := mb_27 (List.mem_of_getElem? (i := 14) rfl)
theorem mw_690 : .selects RX4 yX4_of yX4_of ∈ BW := mb_27 (List.mem_of_getElem? (i := 15) rfl)
theorem mw_691 : .methodLink RL 56 yX3_quarrel ∈ BW := mb_27 (List.mem_of_getElem? (i := 16) rfl)
theorem mw_692 : .instanceMethod yX3_quarrel ∈ BW := mb_27 (List.mem_of_getElem? (i := 17) rfl)
theorem mw_693 : .selects RX3 yX3_quarrel yX3_quarrel ∈ BW := mb_27 (List.mem_of_getElem? (i := 18) rfl)
theorem mw_694 : .methodLink RL 59 yX4_quarrel ∈ BW := mb_27 (List.mem_of_getElem? (i := 19) rfl)
theorem mw_695 : .instanceMethod yX4_quarrel ∈ BW := mb_27 (List.mem_of_getElem? (i := 20) rfl)
theorem mw_696 : .selects RX4 yX4_quarrel yX4_quarrel ∈ BW := mb_27 (List.mem_of_getElem? (i := 21) rfl)
theorem mw_697 : .methodLink RL 60 yX3_record ∈ BW := mb_27 (List.mem_of_getElem? (i := 22) rfl)
theorem mw_698 : .instanceMethod yX3_record ∈ BW := mb_27 (List.mem_of_getElem? (i := 23) rfl)
theorem mw_699 : .selects RX3 yX3_record yX3_record ∈ BW := mb_27 (List.mem_of_getElem? (i := 24) rfl)
theorem mw_700 : .methodLink RL 63 yX4_record ∈ BW := mb_28 (List.mem_of_getElem? (i := 0) rfl)
theorem mw_701 : .instanceMethod yX4_record ∈ BW := mb_28 (List.mem_of_getElem? (i := 1) rfl)
theorem mw_702 : .selects RX4 yX4_record yX4_record ∈ BW := mb_28 (List.mem_of_getElem? (i := 2) rfl)
theorem mw_703 : .methodLink RL 64 yX3_pressing ∈ BW := mb_28 (List.mem_of_getElem? (i := 3) rfl)
theorem mw_704 : .instanceMethod yX3_pressing ∈ BW := mb_28 (List.mem_of_getElem? (i := 4) rfl)
theorem mw_705 : .selects RX3 yX3_pressing yX3_pressing ∈ BW := mb_28 (List.mem_of_getElem? (i := 5) rfl)
theorem mw_706 : .methodLink RL 67 yX4_pressing ∈ BW := mb_28 (List.mem_of_getElem? (i := 6) rfl)
theorem mw_707 : .instanceMethod yX4_pressing ∈ BW := mb_28 (List.mem_of_getElem? (i := 7) rfl)
theorem mw_708 : .selects RX4 yX4_pressing yX4_pressing ∈ BW := mb_28 (List.mem_of_getElem? (i := 8) rfl)
theorem mw_709 : .methodLink RL 68 yX3_insults ∈ BW := mb_28 (List.mem_of_getElem? (i := 9) rfl)
theorem mw_710 : .instanceMethod yX3_insults ∈ BW := mb_28 (List.mem_of_getElem? (i := 10) rfl)
theorem mw_711 : .selects RX3 yX3_insults yX3_insults ∈ BW := mb_28 (List.mem_of_getElem? (i := 11) rfl)
theorem mw_712 : .methodLink RL 71 yX4_insults ∈ BW := mb_28 (List.mem_of_getElem? (i := 12) rfl)
theorem mw_713 : .instanceMethod yX4_insults ∈ BW := mb_28 (List.mem_of_getElem? (i := 13) rfl)
theorem mw_714 : .selects RX4 yX4_insults yX4_insults ∈ BW := mb_28 (List.mem_of_getElem? (i := 14) rfl)
theorem mw_715 : .methodLink RL 72 yX3_count ∈ BW := mb_28 (List.mem_of_getElem? (i := 15) rfl)
theorem mw_716 : .instanceMethod yX3_count ∈ BW := mb_28 (List.mem_of_getElem? (i := 16) rfl)
theorem mw_717 : .selects RX3 yX3_count yX3_count ∈ BW := mb_28 (List.mem_of_getElem? (i := 17) rfl)
theorem mw_718 : .methodLink RL 75 yX4_count ∈ BW := mb_28 (List.mem_of_getElem? (i := 18) rfl)
theorem mw_719 : .instanceMethod yX4_count ∈ BW := mb_28 (List.mem_of_getElem? (i := 19) rfl)
theorem mw_720 : .selects RX4 yX4_count yX4_count ∈ BW := mb_28 (List.mem_of_getElem? (i := 20) rfl)
theorem mw_721 : .methodLink RL 76 yX3_why ∈ BW := mb_28 (List.mem_of_getElem? (i := 21) rfl)
theorem mw_722 : .instanceMethod yX3_why ∈ BW := mb_28 (List.mem_of_getElem? (i := 22) rfl)
theorem mw_723 : .selects RX3 yX3_why yX3_why ∈ BW := mb_28 (List.mem_of_getElem? (i := 23) rfl)
theorem mw_724 : .methodLink RL 79 yX4_why ∈ BW := mb_28 (List.mem_of_getElem? (i := 24) rfl)
theorem mw_725 : .instanceMethod yX4_why ∈ BW := mb_29 (List.mem_of_getElem? (i := 0) rfl)
theorem mw_726 : .selects RX4 yX4_why yX4_why ∈ BW := mb_29 (List.mem_of_getElem? (i := 1) rfl)
theorem mw_727 : .methodLink RL 80 yX3_firstWay ∈ BW := mb_29 (List.mem_of_getElem? (i := 2) rfl)
theorem mw_728 : .instanceMethod yX3_firstWay ∈ BW := mb_29 (List.mem_of_getElem? (i := 3) rfl)
theorem mw_729 : .selects RX3 yX3_firstWay yX3_firstWay ∈ BW := mb_29 (List.mem_of_getElem? (i := 4) rfl)
theorem mw_730 : .methodLink RL 83 yX4_firstWay ∈ BW := mb_29 (List.mem_of_getElem? (i := 5) rfl)
theorem mw_731 : .instanceMethod yX4_firstWay ∈ BW := mb_29 (List.mem_of_getElem? (i := 6) rfl)
theorem mw_732 : .selects RX4 yX4_firstWay yX4_firstWay ∈ BW := mb_29 (List.mem_of_getElem? (i := 7) rfl)
theorem mw_733 : .methodLink RL 84 yX3_opensIn ∈ BW := mb_29 (List.mem_of_getElem? (i := 8) rfl)
theorem mw_734 : .instanceMethod yX3_opensIn ∈ BW := mb_29 (List.mem_of_getElem? (i := 9) rfl)
theorem mw_735 : .selects RX3 yX3_opensIn yX3_opensIn ∈ BW := mb_29 (List.mem_of_getElem? (i := 10) rfl)
theorem mw_736 : .methodLink RL 87 yX4_opensIn ∈ BW := mb_29 (List.mem_of_getElem? (i := 11) rfl)
theorem mw_737 : .instanceMethod yX4_opensIn ∈ BW := mb_29 (List.mem_of_getElem? (i := 12) rfl)
theorem mw_738 : .selects RX4 yX4_opensIn yX4_opensIn ∈ BW := mb_29 (List.mem_of_getElem? (i := 13) rfl)
theorem mw_739 : .methodLink RL 88 yX3_dueIn ∈ BW := mb_29 (List.mem_of_getElem? (i := 14) rfl)
theorem mw_740 : .instanceMethod yX3_dueIn ∈ BW := mb_29 (List.mem_of_getElem? (i := 15) rfl)
theorem mw_741 : .selects RX3 yX3_dueIn yX3_dueIn ∈ BW := mb_29 (List.mem_of_getElem? (i := 16) rfl)
theorem mw_742 : .methodLink RL 91 yX4_dueIn ∈ BW := mb_29 (List.mem_of_getElem? (i := 17) rfl)
theorem mw_743 : .instanceMethod yX4_dueIn ∈ BW := mb_29 (List.mem_of_getElem? (i := 18) rfl)
theorem mw_744 : .selects RX4 yX4_dueIn yX4_dueIn ∈ BW := mb_29 (List.mem_of_getElem? (i := 19) rfl)
theorem mw_745 : .methodLink RL 92 yX3_ifInsulted ∈ BW := mb_29 (List.mem_of_getElem? (i := 20) rfl)
theorem mw_746 : .instanceMethod yX3_ifInsulted ∈ BW := mb_29 (List.mem_of_getElem? (i := 21) rfl)
theorem mw_747 : .selects RX3 yX3_ifInsulted yX3_ifInsulted ∈ BW := mb_29 (List.mem_of_getElem? (i := 22) rfl)
theorem mw_748 : .methodLink RL 95 yX4_ifInsulted ∈ BW := mb_29 (List.mem_of_getElem? (i := 23) rfl)
theorem mw_749 : .instanceMethod yX4_ifInsulted ∈ BW := mb_29 (List.mem_of_getElem? (i := 24) rfl)
theorem mw_750 : .selects RX4 yX4_ifInsulted yX4_ifInsulted ∈ BW := mb_30 (List.mem_of_getElem? (i := 0) rfl)
theorem mw_751 : .methodLink RL 96 yX3_ifFought ∈ BW := mb_30 (List.mem_of_getElem? (i := 1) rfl)
theorem mw_752 : .instanceMethod yX3_ifFought ∈ BW := mb_30 (List.mem_of_getElem? (i := 2) rfl)
theorem mw_753 : .selects RX3 yX3_ifFought yX3_ifFought ∈ BW := mb_30 (List.mem_of_getElem? (i := 3) rfl)
theorem mw_754 : .methodLink RL 99 yX4_ifFought ∈ BW := mb_30 (List.mem_of_getElem? (i := 4) rfl)
theorem mw_755 : .instanceMethod yX4_ifFought ∈ BW := mb_30 (List.mem_of_getElem? (i := 5) rfl)
theorem mw_756 : .selects RX4 yX4_ifFought yX4_ifFought ∈ BW := mb_30 (List.mem_of_getElem? (i := 6) rfl)
theorem mw_757 : .methodLink RL 102 yX3_put ∈ BW := mb_30 (List.mem_of_getElem? (i := 7) rfl)
theorem mw_758 : .instanceMethod yX3_put ∈ BW := mb_30 (List.mem_of_getElem? (i := 8) rfl)
theorem mw_759 : .selects RX3 yX3_put yX3_put ∈ BW := mb_30 (List.mem_of_getElem? (i := 9) rfl)
theorem mw_760 : .methodLink RL 106 yX4_put ∈ BW := mb_30 (List.mem_of_getElem? (i := 10) rfl)
theorem mw_761 : .instanceMethod yX4_put ∈ BW := mb_30 (List.mem_of_getElem? (i := 11) rfl)
theorem mw_762 : .selects RX4 yX4_put yX4_put ∈ BW := mb_30 (List.mem_of_getElem? (i := 12) rfl)
theorem mw_763 : .methodLink RL 107 yX3_wipe ∈ BW := mb_30 (List.mem_of_getElem? (i := 13) rfl)
theorem mw_764 : .instanceMethod yX3_wipe ∈ BW := mb_30 (List.mem_of_getElem? (i := 14) rfl)
theorem mw_765 : .selects RX3 yX3_wipe yX3_wipe ∈ BW := mb_30 (List.mem_of_getElem? (i := 15) rfl)
theorem mw_766 : .methodLink RL 111 yX4_wipe ∈ BW := mb_30 (List.mem_of_getElem? (i := 16) rfl)
theorem mw_767 : .instanceMethod yX4_wipe ∈ BW := mb_30 (List.mem_of_getElem? (i := 17) rfl)
theorem mw_768 : .selects RX4 yX4_wipe yX4_wipe ∈ BW := mb_30 (List.mem_of_getElem? (i := 18) rfl)
theorem mw_769 : .methodLink RL 112 yX3_fault ∈ BW := mb_30 (List.mem_of_getElem? (i := 19) rfl)
theorem mw_770 : .instanceMethod yX3_fault ∈ BW := mb_30 (List.mem_of_getElem? (i := 20) rfl)
theorem mw_771 : .selects RX3 yX3_fault yX3_fault ∈ BW := mb_30 (List.mem_of_getElem? (i := 21) rfl)
theorem mw_772 : .methodLink RL 115 yX4_fault ∈ BW := mb_30 (List.mem_of_getElem? (i := 22) rfl)
theorem mw_773 : .instanceMethod yX4_fault ∈ BW := mb_30 (List.mem_of_getElem? (i := 23) rfl)
theorem mw_774 : .selects RX4 yX4_fault yX4_fault ∈ BW := mb_30 (List.mem_of_getElem? (i := 24) rfl)
theorem mw_775 : .methodLink RL 116 yX3_carryOut ∈ BW := mb_31 (List.mem_of_getElem? (i := 0) rfl)
theorem mw_776 : .instanceMethod yX3_carryOut ∈ BW := mb_31 (List.mem_of_getElem? (i := 1) rfl)
theorem mw_777 : .selects RX3 yX3_carryOut yX3_carryOut ∈ BW := mb_31 (List.mem_of_getElem? (i := 2) rfl)
theorem mw_778 : .methodLink RL 119 yX4_carryOut ∈ BW := mb_31 (List.mem_of_getElem? (i := 3) rfl)
theorem mw_779 : .instanceMethod yX4_carryOut ∈ BW := mb_31 (List.mem_of_getElem? (i := 4) rfl)
theorem mw_780 : .selects RX4 yX4_carryOut yX4_carryOut ∈ BW := mb_31 (List.mem_of_getElem? (i := 5) rfl)
theorem mw_781 : .methodLink RL 120 yX3_undo ∈ BW := mb_31 (List.mem_of_getElem? (i := 6) rfl)
theorem mw_782 : .instanceMethod yX3_undo ∈ BW := mb_31 (List.mem_of_getElem? (i := 7) rfl)
theorem mw_783 : .selects RX3 yX3_undo yX3_undo ∈ BW := mb_31 (List.mem_of_getElem? (i := 8) rfl)
theorem mw_784 : .methodLink RL 123 yX4_undo ∈ BW := mb_31 (List.mem_of_getElem? (i := 9) rfl)
theorem mw_785 : .instanceMethod yX4_undo ∈ BW := mb_31 (List.mem_of_getElem? (i := 10) rfl)
theorem mw_786 : .selects RX4 yX4_undo yX4_undo ∈ BW := mb_31 (List.mem_of_getElem? (i := 11) rfl)
theorem mw_787 : .methodLink RL 124 yX3_save ∈ BW := mb_31 (List.mem_of_getElem? (i := 12) rfl)
theorem mw_788 : .instanceMethod yX3_save ∈ BW := mb_31 (List.mem_of_getElem? (i := 13) rfl)
theorem mw_789 : .selects RX3 yX3_save yX3_save ∈ BW := mb_31 (List.mem_of_getElem? (i := 14) rfl)
theorem mw_790 : .methodLink RL 127 yX4_save ∈ BW := mb_31 (List.mem_of_getElem? (i := 15) rfl)
theorem mw_791 : .instanceMethod yX4_save ∈ BW := mb_31 (List.mem_of_getElem? (i := 16) rfl)
theorem mw_792 : .selects RX4 yX4_save yX4_save ∈ BW := mb_31 (List.mem_of_getElem? (i := 17) rfl)
theorem mw_793 : .methodLink RL 128 yX3_restore ∈ BW := mb_31 (List.mem_of_getElem? (i := 18) rfl)
theorem mw_794 : .instanceMethod yX3_restore ∈ BW := mb_31 (List.mem_of_getElem? (i := 19) rfl)
theorem mw_795 : .selects RX3 yX3_restore yX3_restore ∈ BW := mb_31 (List.mem_of_getElem? (i := 20) rfl)
theorem mw_796 : .methodLink RL 131 yX4_restore ∈ BW := mb_31 (List.mem_of_getElem? (i := 21) rfl)
theorem mw_797 : .instanceMethod yX4_restore ∈ BW := mb_31 (List.mem_of_getElem? (i := 22) rfl)
theorem mw_798 : .selects RX4 yX4_restore yX4_restore ∈ BW := mb_31 (List.mem_of_getElem? (i := 23) rfl)
theorem bi_0 : ∀ w ∈ B0, w ∈ lw_tbl := List.forall_mem_cons.mpr ⟨(List.mem_append_right _ (List.mem_append_left _ (List.mem_of_getElem? (i := 30) rfl))), List.forall_mem_cons.mpr ⟨(List.mem_append_right _ (List.mem_append_left _ (List.mem_of_getElem? (i := 37) rfl))), List.forall_mem_cons.mpr ⟨(List.mem_append_right _ (List.mem_append_left _ (List.mem_of_getElem? (i := 25) rfl))), List.forall_mem_cons.mpr ⟨(List.mem_append_right _ (List.mem_append_left _ (List.mem_of_getElem? (i := 26) rfl))), List.forall_mem_cons.mpr ⟨(List.mem_append_right _ (List.mem_append_left _ (List.mem_of_getElem? (i := 19) rfl))), List.forall_mem_cons.mpr ⟨(List.mem_append_right _ (List.mem_append_left _ (List.mem_of_getElem? (i := 20) rfl))), List.forall_mem_cons.mpr ⟨(List.mem_append_right _ (List.mem_append_left _ (List.mem_of_getElem? (i := 31) rfl))), List.forall_mem_cons.mpr ⟨(List.mem_append_right _ (List.mem_append_left _ (List.mem_of_getElem? (i := 32) rfl))), List.forall_mem_cons.mpr ⟨(List.mem_append_right _ (List.mem_append_left _ (List.mem_of_getElem? (i := 33) rfl))), List.forall_mem_cons.mpr ⟨(List.mem_append_right _ (List.mem_append_left _ (List.mem_of_getElem? (i := 34) rfl))), List.forall_mem_cons.mpr ⟨(List.mem_append_right _ (List.mem_append_left _ (List.mem_of_getElem? (i := 36) rfl))), List.forall_mem_cons.mpr ⟨(List.mem_append_right _ (List.mem_append_left _ (List.mem_of_getElem? (i := 51) rfl))), List.forall_mem_cons.mpr ⟨(List.mem_append_right _ (List.mem_append_left _ (List.mem_of_getElem? (i := 27) rfl))), List.forall_mem_cons.mpr ⟨(List.mem_append_right _ (List.mem_append_left _ (List.mem_of_getElem? (i := 29) rfl))), List.forall_mem_cons.mpr ⟨(List.mem_append_left _ (List.mem_of_getElem? (i := 0) rfl)), List.forall_mem_cons.mpr ⟨(List.mem_append_right _ (List.mem_append_left _ (List.mem_of_getElem? (i := 2) rfl))), List.forall_mem_cons.mpr ⟨(List.mem_append_right _ (List.mem_append_left _ (List.mem_of_getElem? (i := 56) rfl))), List.forall_mem_cons.mpr ⟨(List.mem_append_right _ (List.mem_append_left _ (List.mem_of_getElem? (i := 57) rfl))), List.forall_mem_cons.mpr ⟨(List.mem_append_right _ (List.mem_append_left _ (List.mem_of_getElem? (i := 58) rfl))), List.forall_mem_cons.mpr ⟨(List.mem_append_right _ (List.mem_append_left _ (List.mem_of_getElem? (i := 61) rfl))), List.forall_mem_cons.mpr ⟨(List.mem_append_right _ (List.mem_append_left _ (List.mem_of_getElem? (i := 62) rfl))), List.forall_mem_cons.mpr ⟨(List.mem_append_right _ (List.mem_append_left _ (List.mem_of_getElem? (i := 63) rfl))), List.forall_mem_cons.mpr ⟨(List.mem_append_right _ (List.mem_append_left _ (List.mem_of_getElem? (i := 22) rfl))), List.forall_mem_cons.mpr ⟨(List.mem_append_right _ (List.mem_append_left _ (List.mem_of_getElem? (i := 24) rfl))), List.forall_mem_cons.mpr ⟨(List.mem_append_right _ (List.mem_append_left _ (List.mem_of_getElem? (i := 131) rfl))), fun _ h => absurd h List.not_mem_nil⟩⟩⟩⟩⟩⟩⟩⟩⟩⟩⟩⟩⟩⟩⟩⟩⟩⟩⟩⟩⟩⟩⟩⟩⟩
theorem bg_0 : B0.all goodWord = true := by decide +kernel
theorem bi_1 : ∀ w ∈ B1, w ∈ lw_tbl := List.forall_mem_cons.mpr ⟨(List.mem_append_right _ (List.mem_append_left _ (List.mem_of_getElem? (i := 128) rfl))), List.forall_mem_cons.mpr ⟨(List.mem_append_right _ (List.mem_append_left _ (List.mem_of_getElem? (i := 129) rfl))), List.forall_mem_cons.mpr ⟨(List.mem_append_right _ (List.mem_append_left _ (List.mem_of_getElem? (i := 130) rfl))), List.forall_mem_cons.mpr ⟨(List.mem_append_right _ (List.mem_append_left _ (List.mem_of_getElem? (i := 6) rfl))), List.forall_mem_cons.mpr ⟨(List.mem_append_right _ (List.mem_append_left _ (List.mem_of_getElem? (i := 124) rfl))), List.forall_mem_cons.mpr ⟨(List.mem_append_right _ (List.mem_append_left _ (List.mem_of_getElem? (i := 125) rfl))), List.forall_mem_cons.mpr ⟨(List.mem_append_right _ (List.mem_append_left _ (List.mem_of_getElem? (i := 127) rfl))), List.forall_mem_cons.mpr ⟨(List.mem_append_left _ (List.mem_of_getElem? (i := 3) rfl)), List.forall_mem_cons.mpr ⟨(List.mem_append_right _ (List.mem_append_left _ (List.mem_of_getElem? (i := 3) rfl))), List.forall_mem_cons.mpr ⟨(List.mem_append_right _ (List.mem_append_left _ (List.mem_of_getElem? (i := 135) rfl))), List.forall_mem_cons.mpr ⟨(List.mem_append_right _ (List.mem_append_left _ (List.mem_of_getElem? (i := 136) rfl))), List.forall_mem_cons.mpr ⟨(List.mem_append_right _ (List.mem_append_left _ (List.mem_of_getElem? (i := 137) rfl))), List.forall_mem_cons.mpr ⟨(List.mem_append_right _ (List.mem_append_left _ (List.mem_of_getElem? (i := 138) rfl))), List.forall_mem_cons.mpr ⟨(List.mem_append_right _ (List.mem_append_left _ (List.mem_of_getElem? (i := 139) rfl))), List.forall_mem_cons.mpr ⟨(List.mem_append_right _ (List.mem_append_left _ (List.mem_of_getElem? (i := 141) rfl))), List.forall_mem_cons.mpr ⟨(List.mem_append_right _ (List.mem_append_left _ (List.mem_of_getElem? (i := 140) rfl))), List.forall_mem_cons.mpr ⟨(List.mem_append_right _ (List.mem_append_left _ (List.mem_of_getElem? (i := 7) rfl))), List.forall_mem_cons.mpr ⟨(List.mem_append_right _ (List.mem_append_left _ (List.mem_of_getElem? (i := 121) rfl))), List.forall_mem_cons.mpr ⟨(List.mem_append_right _ (List.mem_append_left _ (List.mem_of_getElem? (i := 123) rfl))), List.forall_mem_cons.mpr ⟨(List.mem_append_left _ (List.mem_of_getElem? (i := 2) rfl)), List.forall_mem_cons.mpr ⟨(List.mem_append_right _ (List.mem_append_left _ (List.mem_of_getElem? (i := 134) rfl))), List.forall_mem_cons.mpr ⟨(List.mem_append_left _ (List.mem_of_getElem? (i := 4) rfl)), List.forall_mem_cons.mpr ⟨(List.mem_append_right _ (List.mem_append_left _ (List.mem_of_getElem? (i := 120) rfl))), List.forall_mem_cons.mpr ⟨(List.mem_append_right _ (List.mem_append_left _ (List.mem_of_getElem? (i := 160) rfl))), List.forall_mem_cons.mpr ⟨(List.mem_append_right _ (List.mem_append_left _ (List.mem_of_getElem? (i := 157) rfl))), fun _ h => absurd h List.not_mem_nil⟩⟩⟩⟩⟩⟩⟩⟩⟩⟩⟩⟩⟩⟩⟩⟩⟩⟩⟩⟩⟩⟩⟩⟩⟩
theorem bg_1 : B1.all goodWord = true := by decide +kernel
theorem bi_2 : ∀ w ∈ B2, w ∈ lw_tbl := List.forall_mem_cons.mpr ⟨(List.mem_append_right _ (List.mem_append_left _ (List.mem_of_getElem? (i := 159) rfl))), List.forall_mem_cons.mpr ⟨(List.mem_append_right _ (List.mem_append_left _ (List.mem_of_getElem? (i := 1) rfl))), List.forall_mem_cons.mpr ⟨(List.mem_append_right _ (List.mem_append_right _ (List.mem_append_right _ (List.mem_append_left _ (List.mem_of_getElem? (i := 111) rfl))))), List.forall_mem_cons.mpr ⟨(List.mem_append_right _ (List.mem_append_left _ (List.mem_of_getElem? (i := 76) rfl))), List.forall_mem_cons.mpr ⟨(List.mem_append_right _ (List.mem_append_left _ (List.mem_of_getElem? (i := 77) rfl))), List.forall_mem_cons.mpr ⟨(List.mem_append_right _ (List.mem_append_left _ (List.mem_of_getElem? (i := 78) rfl))), List.forall_mem_cons.mpr ⟨(List.mem_append_right _ (List.mem_append_left _ (List.mem_of_getElem? (i := 79) rfl))), List.forall_mem_cons.mpr ⟨(List.mem_append_right _ (List.mem_append_left _ (List.mem_of_getElem? (i := 81) rfl))), List.forall_mem_cons.mpr ⟨(List.mem_append_right _ (List.mem_append_left _ (List.mem_of_getElem? (i := 83) rfl))), List.forall_mem_cons.mpr ⟨(List.mem_append_right _ (List.mem_append_left _ (List.mem_of_getElem? (i := 85) rfl))), List.forall_mem_cons.mpr ⟨(List.mem_append_right _ (List.mem_append_left _ (List.mem_of_getElem? (i := 86) rfl))), List.forall_mem_cons.mpr ⟨(List.mem_append_right _ (List.mem_append_right _ (List.mem_append_left _ (List.mem_of_getElem? (i := 217) rfl)))), List.forall_mem_cons.mpr ⟨(List.mem_append_right _ (List.mem_append_right _ (List.mem_append_left _ (List.mem_of_getElem? (i := 218) rfl)))), List.forall_mem_cons.mpr ⟨(List.mem_append_right _ (List.mem_append_right _ (List.mem_append_left _ (List.mem_of_getElem? (i := 219) rfl)))), List.forall_mem_cons.mpr ⟨(List.mem_append_right _ (List.mem_append_right _ (List.mem_append_left _ (List.mem_of_getElem? (i := 220) rfl)))), List.forall_mem_cons.mpr ⟨(List.mem_append_right _ (List.mem_append_right _ (List.mem_append_left _ (List.mem_of_getElem? (i := 228) rfl)))), List.forall_mem_cons.mpr ⟨(List.mem_append_right _ (List.mem_append_right _ (List.mem_append_left _ (List.mem_of_getElem? (i := 224) rfl)))), List.forall_mem_cons.mpr ⟨(List.mem_append_right _ (List.mem_append_right _ (List.mem_append_left _ (List.mem_of_getElem? (i := 225) rfl)))), List.forall_mem_cons.mpr ⟨(List.mem_append_right _ (List.mem_append_right _ (List.mem_append_left _ (List.mem_of_getElem? (i := 227) rfl)))), List.forall_mem_cons.mpr ⟨(List.mem_append_left _ (List.mem_of_getElem? (i := 53) rfl)), List.forall_mem_cons.mpr ⟨(List.mem_append_right _ (List.mem_append_left _ (List.mem_of_getElem? (i := 4) rfl))), List.forall_mem_cons.mpr ⟨(List.mem_append_right _ (List.mem_append_right _ (List.mem_append_right _ (List.mem_append_left _ (List.mem_of_getElem? (i := 8) rfl))))), List.forall_mem_cons.mpr ⟨(List.mem_append_right _ (List.mem_append_right _ (List.mem_append_right _ (List.mem_append_left _ (List.mem_of_getElem? (i := 99) rfl))))), List.forall_mem_cons.mpr ⟨(List.mem_append_right _ (List.mem_append_right _ (List.mem_append_right _ (List.mem_append_left _ (List.mem_of_getElem? (i := 11) rfl))))), List.forall_mem_cons.mpr ⟨(List.mem_append_right _ (List.mem_append_right _ (List.mem_append_right _ (List.mem_append_left _ (List.mem_of_getElem? (i := 22) rfl))))), fun _ h => absurd h List.not_mem_nil⟩⟩⟩⟩⟩⟩⟩⟩⟩⟩⟩⟩⟩⟩⟩⟩⟩⟩⟩⟩⟩⟩⟩⟩⟩
theorem bg_2 : B2.all goodWord = true := by decide +kernel
theorem bi_3 : ∀ w ∈ B3, w ∈ lw_tbl := List.forall_mem_cons.mpr ⟨(List.mem_append_right _ (List.mem_append_right _ (List.mem_append_right _ (List.mem_append_right _ (List.mem_of_getElem? (i := 202) rfl))))), List.forall_mem_cons.mpr ⟨(List.mem_append_right _ (List.mem_append_right _ (List.mem_append_right _ (List.mem_append_left _ (List.mem_of_getElem? (i := 30) rfl))))), List.forall_mem_cons.mpr ⟨(List.mem_append_right _ (List.mem_append_right _ (List.mem_append_right _ (List.mem_append_left _ (List.mem_of_getElem? (i := 31) rfl))))), List.forall_mem_cons.mpr ⟨(List.mem_append_right _ (List.mem_append_right _ (List.mem_append_right _ (List.mem_append_right _ (List.mem_of_getElem? (i := 203) rfl))))), List.forall_mem_cons.mpr ⟨(List.mem_append_right _ (List.mem_append_right _ (List.mem_append_right _ (List.mem_append_left _ (List.mem_of_getElem? (i := 26) rfl))))), List.forall_mem_cons.mpr ⟨(List.mem_append_right _ (List.mem_append_right _ (List.mem_append_right _ (List.mem_append_left _ (List.mem_of_getElem? (i := 27) rfl))))), List.forall_mem_cons.mpr ⟨(List.mem_append_right _ (List.mem_append_right _ (List.mem_append_right _ (List.mem_append_left _ (List.mem_of_getElem? (i := 28) rfl))))), List.forall_mem_cons.mpr ⟨(List.mem_append_right _ (List.mem_append_right _ (List.mem_append_right _ (List.mem_append_left _ (List.mem_of_getElem? (i := 29) rfl))))), List.forall_mem_cons.mpr ⟨(List.mem_append_right _ (List.mem_append_left _ (List.mem_of_getElem? (i := 9) rfl))), List.forall_mem_cons.mpr ⟨(List.mem_append_right _ (List.mem_append_right _ (List.mem_append_right _ (List.mem_append_left _ (List.mem_of_getElem? (i := 40) rfl))))), List.forall_mem_cons.mpr ⟨(List.mem_append_right _ (List.mem_append_right _ (List.mem_append_right _ (List.mem_append_left _ (List.mem_of_getElem? (i := 51) rfl))))), List.forall_mem_cons.mpr ⟨(List.mem_append_right _ (List.mem_append_right _ (List.mem_append_right _ (List.mem_append_left _ (List.mem_of_getElem? (i := 46) rfl))))), List.forall_mem_cons.mpr ⟨(List.mem_append_right _ (List.mem_append_right _ (List.mem_append_right _ (List.mem_append_left _ (List.mem_of_getElem? (i := 47) rfl))))), List.forall_mem_cons.mpr ⟨(List.mem_append_right _ (List.mem_append_right _ (List.mem_append_right _ (List.mem_append_left _ (List.mem_of_getElem? (i := 49) rfl))))), List.forall_mem_cons.mpr ⟨(List.mem_append_right _ (List.mem_append_right _ (List.mem_append_right _ (List.mem_append_left _ (List.mem_of_getElem? (i := 50) rfl))))), List.forall_mem_cons.mpr ⟨(List.mem_append_right _ (List.mem_append_left _ (List.mem_of_getElem? (i := 11) rfl))), List.forall_mem_cons.mpr ⟨(List.mem_append_right _ (List.mem_append_right _ (List.mem_append_right _ (List.mem_append_left _ (List.mem_of_getElem? (i := 43) rfl))))), List.forall_mem_cons.mpr ⟨(List.mem_append_right _ (List.mem_append_right _ (List.mem_append_right _ (List.mem_append_left _ (List.mem_of_getElem? (i := 44) rfl))))), List.forall_mem_cons.mpr ⟨(List.mem_append_right _ (List.mem_append_right _ (List.mem_append_right _ (List.mem_append_left _ (List.mem_of_getElem? (i := 45) rfl))))), List.forall_mem_cons.mpr ⟨(List.mem_append_right _ (List.mem_append_right _ (List.mem_append_right _ (List.mem_append_left _ (List.mem_of_getElem? (i := 60) rfl))))), List.forall_mem_cons.mpr ⟨(List.mem_append_right _ (List.mem_append_right _ (List.mem_append_right _ (List.mem_append_left _ (List.mem_of_getElem? (i := 57) rfl))))), List.forall_mem_cons.mpr ⟨(List.mem_append_right _ (List.mem_append_right _ (List.mem_append_right _ (List.mem_append_left _ (List.mem_of_getElem? (i := 58) rfl))))), List.forall_mem_cons.mpr ⟨(List.mem_append_right _ (List.mem_append_right _ (List.mem_append_right _ (List.mem_append_left _ (List.mem_of_getElem? (i := 59) rfl))))), List.forall_mem_cons.mpr ⟨(List.mem_append_right _ (List.mem_append_left _ (List.mem_of_getElem? (i := 12) rfl))), List.forall_mem_cons.mpr ⟨(List.mem_append_right _ (List.mem_append_right _ (List.mem_append_right _ (List.mem_append_left _ (List.mem_of_getElem? (i := 61) rfl))))), fun _ h => absurd h List.not_mem_nil⟩⟩⟩⟩⟩⟩⟩⟩⟩⟩⟩⟩⟩⟩⟩⟩⟩⟩⟩⟩⟩⟩⟩⟩⟩
theorem bg_3 : B3.all goodWord = true := by decide +kernel
theorem bi_4 : ∀ w ∈ B4, w ∈ lw_tbl := List.forall_mem_cons.mpr ⟨(List.mem_append_right _ (List.mem_append_right _ (List.mem_append_right _ (List.mem_append_left _ (List.mem_of_getElem? (i := 64) rfl))))), List.forall_mem_cons.mpr ⟨(List.mem_append_right _ (List.mem_append_right _ (List.mem_append_right _ (List.mem_append_left _ (List.mem_of_getElem? (i := 65) rfl))))), List.forall_mem_cons.mpr ⟨(List.mem_append_right _ (List.mem_append_right _ (List.mem_append_right _ (List.mem_append_left _ (List.mem_of_getElem? (i := 67) rfl))))), List.forall_mem_cons.mpr ⟨(List.mem_append_right _ (List.mem_append_right _ (List.mem_append_right _ (List.mem_append_left _ (List.mem_of_getElem? (i := 69) rfl))))), List.forall_mem_cons.mpr ⟨(List.mem_append_right _ (List.mem_append_right _ (List.mem_append_right _ (List.mem_append_left _ (List.mem_of_getElem? (i := 54) rfl))))), List.forall_mem_cons.mpr ⟨(List.mem_append_right _ (List.mem_append_right _ (List.mem_append_right _ (List.mem_append_left _ (List.mem_of_getElem? (i := 55) rfl))))), List.forall_mem_cons.mpr ⟨(List.mem_append_right _ (List.mem_append_right _ (List.mem_append_right _ (List.mem_append_left _ (List.mem_of_getElem? (i := 56) rfl))))), List.forall_mem_cons.mpr ⟨(List.mem_append_right _ (List.mem_append_right _ (List.mem_append_right _ (List.mem_append_left _ (List.mem_of_getElem? (i := 62) rfl))))), List.forall_mem_cons.mpr ⟨(List.mem_append_right _ (List.mem_append_right _ (List.mem_append_right _ (List.mem_append_left _ (List.mem_of_getElem? (i := 63) rfl))))), List.forall_mem_cons.mpr ⟨(List.mem_append_right _ (List.mem_append_right _ (List.mem_append_right _ (List.mem_append_left _ (List.mem_of_getElem? (i := 37) rfl))))), List.forall_mem_cons.mpr ⟨(List.mem_append_right _ (List.mem_append_right _ (List.mem_append_right _ (List.mem_append_left _ (List.mem_of_getElem? (i := 38) rfl))))), List.forall_mem_cons.mpr ⟨(List.mem_append_right _ (List.mem_append_right _ (List.mem_append_right _ (List.mem_append_left _ (List.mem_of_getElem? (i := 39) rfl))))), List.forall_mem_cons.mpr ⟨(List.mem_append_right _ (List.mem_append_right _ (List.mem_append_right _ (List.mem_append_left _ (List.mem_of_getElem? (i := 41) rfl))))), List.forall_mem_cons.mpr ⟨(List.mem_append_right _ (List.mem_append_right _ (List.mem_append_right _ (List.mem_append_left _ (List.mem_of_getElem? (i := 42) rfl))))), List.forall_mem_cons.mpr ⟨(List.mem_append_right _ (List.mem_append_left _ (List.mem_of_getElem? (i := 10) rfl))), List.forall_mem_cons.mpr ⟨(List.mem_append_right _ (List.mem_append_right _ (List.mem_append_right _ (List.mem_append_left _ (List.mem_of_getElem? (i := 52) rfl))))), List.forall_mem_cons.mpr ⟨(List.mem_append_right _ (List.mem_append_right _ (List.mem_append_right _ (List.mem_append_left _ (List.mem_of_getElem? (i := 53) rfl))))), List.forall_mem_cons.mpr ⟨(List.mem_append_right _ (List.mem_append_right _ (List.mem_append_right _ (List.mem_append_left _ (List.mem_of_getElem? (i := 36) rfl))))), List.forall_mem_cons.mpr ⟨(List.mem_append_right _ (List.mem_append_right _ (List.mem_append_right _ (List.mem_append_left _ (List.mem_of_getElem? (i := 81) rfl))))), List.forall_mem_cons.mpr ⟨(List.mem_append_right _ (List.mem_append_right _ (List.mem_append_right _ (List.mem_append_left _ (List.mem_of_getElem? (i := 85) rfl))))), List.forall_mem_cons.mpr ⟨(List.mem_append_right _ (List.mem_append_right _ (List.mem_append_right _ (List.mem_append_left _ (List.mem_of_getElem? (i := 78) rfl))))), List.forall_mem_cons.mpr ⟨(List.mem_append_right _ (List.mem_append_right _ (List.mem_append_right _ (List.mem_append_left _ (List.mem_of_getElem? (i := 5) rfl))))), List.forall_mem_cons.mpr ⟨(List.mem_append_right _ (List.mem_append_right _ (List.mem_append_right _ (List.mem_append_left _ (List.mem_of_getElem? (i := 7) rfl))))), List.forall_mem_cons.mpr ⟨(List.mem_append_left _ (List.mem_of_getElem? (i := 56) rfl)), List.forall_mem_cons.mpr ⟨(List.mem_append_right _ (List.mem_append_right _ (List.mem_append_right _ (List.mem_append_left _ (List.mem_of_getElem? (i := 79) rfl))))), fun _ h => absurd h List.not_mem_nil⟩⟩⟩⟩⟩⟩⟩⟩⟩⟩⟩⟩⟩⟩⟩⟩⟩⟩⟩⟩⟩⟩⟩⟩⟩
theorem bg_4 : B4.all goodWord = true := by decide +kernel
theorem bi_5 : ∀ w ∈ B5, w ∈ lw_tbl := List.forall_mem_cons.mpr ⟨(List.mem_append_right _ (List.mem_append_right _ (List.mem_append_right _ (List.mem_append_left _ (List.mem_of_getElem? (i := 80) rfl))))), List.forall_mem_cons.mpr ⟨(List.mem_append_right _ (List.mem_append_right _ (List.mem_append_right _ (List.mem_append_left _ (List.mem_of_getElem? (i := 82) rfl))))), List.forall_mem_cons.mpr ⟨(List.mem_append_right _ (List.mem_append_right _ (List.mem_append_right _ (List.mem_append_left _ (List.mem_of_getElem? (i := 84) rfl))))), List.forall_mem_cons.mpr ⟨(List.mem_append_left _ (List.mem_of_getElem? (i := 59) rfl)), List.forall_mem_cons.mpr ⟨(List.mem_append_right _ (List.mem_append_right _ (List.mem_append_right _ (List.mem_append_left _ (List.mem_of_getElem? (i := 74) rfl))))), List.forall_mem_cons.mpr ⟨(List.mem_append_right _ (List.mem_append_right _ (List.mem_append_right _ (List.mem_append_left _ (List.mem_of_getElem? (i := 75) rfl))))), List.forall_mem_cons.mpr ⟨(List.mem_append_right _ (List.mem_append_right _ (List.mem_append_right _ (List.mem_append_left _ (List.mem_of_getElem? (i := 77) rfl))))), List.forall_mem_cons.mpr ⟨(List.mem_append_left _ (List.mem_of_getElem? (i := 58) rfl)), List.forall_mem_cons.mpr ⟨(List.mem_append_right _ (List.mem_append_right _ (List.mem_append_right _ (List.mem_append_left _ (List.mem_of_getElem? (i := 9) rfl))))), List.forall_mem_cons.mpr ⟨(List.mem_append_right _ (List.mem_append_right _ (List.mem_append_right _ (List.mem_append_left _ (List.mem_of_getElem? (i := 10) rfl))))), List.forall_mem_cons.mpr ⟨(List.mem_append_right _ (List.mem_append_right _ (List.mem_append_right _ (List.mem_append_left _ (List.mem_of_getElem? (i := 19) rfl))))), List.forall_mem_cons.mpr ⟨(List.mem_append_right _ (List.mem_append_right _ (List.mem_append_right _ (List.mem_append_left _ (List.mem_of_getElem? (i := 20) rfl))))), List.forall_mem_cons.mpr ⟨(List.mem_append_right _ (List.mem_append_right _ (List.mem_append_right _ (List.mem_append_left _ (List.mem_of_getElem? (i := 21) rfl))))), List.forall_mem_cons.mpr ⟨(List.mem_append_right _ (List.mem_append_right _ (List.mem_append_right _ (List.mem_append_left _ (List.mem_of_getElem? (i := 23) rfl))))), List.forall_mem_cons.mpr ⟨(List.mem_append_right _ (List.mem_append_right _ (List.mem_append_right _ (List.mem_append_left _ (List.mem_of_getElem? (i := 24) rfl))))), List.forall_mem_cons.mpr ⟨(List.mem_append_right _ (List.mem_append_right _ (List.mem_append_right _ (List.mem_append_left _ (List.mem_of_getElem? (i := 25) rfl))))), List.forall_mem_cons.mpr ⟨(List.mem_append_right _ (List.mem_append_right _ (List.mem_append_right _ (List.mem_append_left _ (List.mem_of_getElem? (i := 33) rfl))))), List.forall_mem_cons.mpr ⟨(List.mem_append_right _ (List.mem_append_right _ (List.mem_append_right _ (List.mem_append_left _ (List.mem_of_getElem? (i := 34) rfl))))), List.forall_mem_cons.mpr ⟨(List.mem_append_right _ (List.mem_append_right _ (List.mem_append_right _ (List.mem_append_left _ (List.mem_of_getElem? (i := 35) rfl))))), List.forall_mem_cons.mpr ⟨(List.mem_append_right _ (List.mem_append_right _ (List.mem_append_right _ (List.mem_append_left _ (List.mem_of_getElem? (i := 71) rfl))))), List.forall_mem_cons.mpr ⟨(List.mem_append_right _ (List.mem_append_right _ (List.mem_append_right _ (List.mem_append_left _ (List.mem_of_getElem? (i := 73) rfl))))), List.forall_mem_cons.mpr ⟨(List.mem_append_left _ (List.mem_of_getElem? (i := 57) rfl)), List.forall_mem_cons.mpr ⟨(List.mem_append_right _ (List.mem_append_right _ (List.mem_append_right _ (List.mem_append_left _ (List.mem_of_getElem? (i := 4) rfl))))), List.forall_mem_cons.mpr ⟨(List.mem_append_right _ (List.mem_append_right _ (List.mem_append_right _ (List.mem_append_left _ (List.mem_of_getElem? (i := 1) rfl))))), List.forall_mem_cons.mpr ⟨(List.mem_append_right _ (List.mem_append_right _ (List.mem_append_right _ (List.mem_append_left _ (List.mem_of_getElem? (i := 3) rfl))))), fun _ h => absurd h List.not_mem_nil⟩⟩⟩⟩⟩⟩⟩⟩⟩⟩⟩⟩⟩⟩⟩⟩⟩⟩⟩⟩⟩⟩⟩⟩⟩
theorem bg_5 : B5.all goodWord = true := by decide +kernel
theorem bi_6 : ∀ w ∈ B6, w ∈ lw_tbl := List.forall_mem_cons.mpr ⟨(List.mem_append_left _ (List.mem_of_getElem? (i := 55) rfl)), List.forall_mem_cons.mpr ⟨(List.mem_append_right _ (List.mem_append_right _ (List.mem_append_right _ (List.mem_append_left _ (List.mem_of_getElem? (i := 0) rfl))))), List.forall_mem_cons.mpr ⟨(List.mem_append_right _ (List.mem_append_right _ (List.mem_append_right _ (List.mem_append_left _ (List.mem_of_getElem? (i := 103) rfl))))), List.forall_mem_cons.mpr ⟨(List.mem_append_right _ (List.mem_append_left _ (List.mem_of_getElem? (i := 153) rfl))), List.forall_mem_cons.mpr ⟨(List.mem_append_right _ (List.mem_append_left _ (List.mem_of_getElem? (i := 183) rfl))), List.forall_mem_cons.mpr ⟨(List.mem_append_right _ (List.mem_append_left _ (List.mem_of_getElem? (i := 234) rfl))), List.forall_mem_cons.mpr ⟨(List.mem_append_right _ (List.mem_append_left _ (List.mem_of_getElem? (i := 214) rfl))), List.forall_mem_cons.mpr ⟨(List.mem_append_right _ (List.mem_append_left _ (List.mem_of_getElem? (i := 150) rfl))), List.forall_mem_cons.mpr ⟨(List.mem_append_right _ (List.mem_append_left _ (List.mem_of_getElem? (i := 152) rfl))), List.forall_mem_cons.mpr ⟨(List.mem_append_left _ (List.mem_of_getElem? (i := 6) rfl)), List.forall_mem_cons.mpr ⟨(List.mem_append_right _ (List.mem_append_right _ (List.mem_append_left _ (List.mem_of_getElem? (i := 184) rfl)))), List.forall_mem_cons.mpr ⟨(List.mem_append_right _ (List.mem_append_right _ (List.mem_append_left _ (List.mem_of_getElem? (i := 2) rfl)))), List.forall_mem_cons.mpr ⟨(List.mem_append_right _ (List.mem_append_right _ (List.mem_append_left _ (List.mem_of_getElem? (i := 18) rfl)))), List.forall_mem_cons.mpr ⟨(List.mem_append_right _ (List.mem_append_right _ (List.mem_append_left _ (List.mem_of_getElem? (i := 19) rfl)))), List.forall_mem_cons.mpr ⟨(List.mem_append_right _ (List.mem_append_right _ (List.mem_append_left _ (List.mem_of_getElem? (i := 20) rfl)))), List.forall_mem_cons.mpr ⟨(List.mem_append_right _ (List.mem_append_right _ (List.mem_append_left _ (List.mem_of_getElem? (i := 21) rfl)))), List.forall_mem_cons.mpr ⟨(List.mem_append_right _ (List.mem_append_left _ (List.mem_of_getElem? (i := 171) rfl))), List.forall_mem_cons.mpr ⟨(List.mem_append_right _ (List.mem_append_left _ (List.mem_of_getElem? (i := 206) rfl))), List.forall_mem_cons.mpr ⟨(List.mem_append_right _ (List.mem_append_left _ (List.mem_of_getElem? (i := 217) rfl))), List.forall_mem_cons.mpr ⟨(List.mem_append_right _ (List.mem_append_left _ (List.mem_of_getElem? (i := 145) rfl))), List.forall_mem_cons.mpr ⟨(List.mem_append_right _ (List.mem_append_left _ (List.mem_of_getElem? (i := 146) rfl))), List.forall_mem_cons.mpr ⟨(List.mem_append_right _ (List.mem_append_left _ (List.mem_of_getElem? (i := 148) rfl))), List.forall_mem_cons.mpr ⟨(List.mem_append_right _ (List.mem_append_left _ (List.mem_of_getElem? (i := 168) rfl))), List.forall_mem_cons.mpr ⟨(List.mem_append_right _ (List.mem_append_left _ (List.mem_of_getElem? (i := 169) rfl))), List.forall_mem_cons.mpr ⟨(List.mem_append_right _ (List.mem_append_left _ (List.mem_of_getElem? (i := 170) rfl))), fun _ h => absurd h List.not_mem_nil⟩⟩⟩⟩⟩⟩⟩⟩⟩⟩⟩⟩⟩⟩⟩⟩⟩⟩⟩⟩⟩⟩⟩⟩⟩
theorem bg_6 : B6.all goodWord = true := by decide +kernel
theorem bi_7 : ∀ w ∈ B7, w ∈ lw_tbl := List.forall_mem_cons.mpr ⟨(List.mem_append_right _ (List.mem_append_left _ (List.mem_of_getElem? (i := 179) rfl))), List.forall_mem_cons.mpr ⟨(List.mem_append_right _ (List.mem_append_left _ (List.mem_of_getElem? (i := 180) rfl))), List.forall_mem_cons.mpr ⟨(List.mem_append_right _ (List.mem_append_left _ (List.mem_of_getElem? (i := 182) rfl))), List.forall_mem_cons.mpr ⟨(List.mem_append_left _ (List.mem_of_getElem? (i := 10) rfl)), List.forall_mem_cons.mpr ⟨(List.mem_append_right _ (List.mem_append_left _ (List.mem_of_getElem? (i := 191) rfl))), List.forall_mem_cons.mpr ⟨(List.mem_append_right _ (List.mem_append_left _ (List.mem_of_getElem? (i := 203) rfl))), List.forall_mem_cons.mpr ⟨(List.mem_append_right _ (List.mem_append_left _ (List.mem_of_getElem? (i := 204) rfl))), List.forall_mem_cons.mpr ⟨(List.mem_append_right _ (List.mem_append_left _ (List.mem_of_getElem? (i := 205) rfl))), List.forall_mem_cons.mpr ⟨(List.mem_append_right _ (List.mem_append_left _ (List.mem_of_getElem? (i := 210) rfl))), List.forall_mem_cons.mpr ⟨(List.mem_append_right _ (List.mem_append_left _ (List.mem_of_getElem? (i := 211) rfl))), List.forall_mem_cons.mpr ⟨(List.mem_append_right _ (List.mem_append_left _ (List.mem_of_getElem? (i := 213) rfl))), List.forall_mem_cons.mpr ⟨(List.mem_append_left _ (List.mem_of_getElem? (i := 15) rfl)), List.forall_mem_cons.mpr ⟨(List.mem_append_right _ (List.mem_append_left _ (List.mem_of_getElem? (i := 215) rfl))), List.forall_mem_cons.mpr ⟨(List.mem_append_right _ (List.mem_append_left _ (List.mem_of_getElem? (i := 216) rfl))), List.forall_mem_cons.mpr ⟨(List.mem_append_right _ (List.mem_append_left _ (List.mem_of_getElem? (i := 221) rfl))), List.forall_mem_cons.mpr ⟨(List.mem_append_right _ (List.mem_append_left _ (List.mem_of_getElem? (i := 222) rfl))), List.forall_mem_cons.mpr ⟨(List.mem_append_right _ (List.mem_append_left _ (List.mem_of_getElem? (i := 200) rfl))), List.forall_mem_cons.mpr ⟨(List.mem_append_right _ (List.mem_append_left _ (List.mem_of_getElem? (i := 202) rfl))), List.forall_mem_cons.mpr ⟨(List.mem_append_left _ (List.mem_of_getElem? (i := 13) rfl)), List.forall_mem_cons.mpr ⟨(List.mem_append_right _ (List.mem_append_left _ (List.mem_of_getElem? (i := 207) rfl))), List.forall_mem_cons.mpr ⟨(List.mem_append_right _ (List.mem_append_left _ (List.mem_of_getElem? (i := 209) rfl))), List.forall_mem_cons.mpr ⟨(List.mem_append_left _ (List.mem_of_getElem? (i := 14) rfl)), List.forall_mem_cons.mpr ⟨(List.mem_append_right _ (List.mem_append_left _ (List.mem_of_getElem? (i := 218) rfl))), List.forall_mem_cons.mpr ⟨(List.mem_append_right _ (List.mem_append_left _ (List.mem_of_getElem? (i := 220) rfl))), List.forall_mem_cons.mpr ⟨(List.mem_append_left _ (List.mem_of_getElem? (i := 16) rfl)), fun _ h => absurd h List.not_mem_nil⟩⟩⟩⟩⟩⟩⟩⟩⟩⟩⟩⟩⟩⟩⟩⟩⟩⟩⟩⟩⟩⟩⟩⟩⟩
theorem bg_7 : B7.all goodWord = true := by decide +kernel
theorem bi_8 : ∀ w ∈ B8, w ∈ lw_tbl := List.forall_mem_cons.mpr ⟨(List.mem_append_right _ (List.mem_append_left _ (List.mem_of_getElem? (i := 199) rfl))), List.forall_mem_cons.mpr ⟨(List.mem_append_right _ (List.mem_append_right _ (List.mem_append_left _ (List.mem_of_getElem? (i := 10) rfl)))), List.forall_mem_cons.mpr ⟨(List.mem_append_right _ (List.mem_append_right _ (List.mem_append_left _ (List.mem_of_getElem? (i := 14) rfl)))), List.forall_mem_cons.mpr ⟨(List.mem_append_right _ (List.mem_append_right _ (List.mem_append_left _ (List.mem_of_getElem? (i := 25) rfl)))), List.forall_mem_cons.mpr ⟨(List.mem_append_right _ (List.mem_append_right _ (List.mem_append_left _ (List.mem_of_getElem? (i := 7) rfl)))), List.forall_mem_cons.mpr ⟨(List.mem_append_right _ (List.mem_append_right _ (List.mem_append_left _ (List.mem_of_getElem? (i := 9) rfl)))), List.forall_mem_cons.mpr ⟨(List.mem_append_left _ (List.mem_of_getElem? (i := 22) rfl)), List.forall_mem_cons.mpr ⟨(List.mem_append_right _ (List.mem_append_right _ (List.mem_append_left _ (List.mem_of_getElem? (i := 11) rfl)))), List.forall_mem_cons.mpr ⟨(List.mem_append_right _ (List.mem_append_right _ (List.mem_append_left _ (List.mem_of_getElem? (i := 13) rfl)))), List.forall_mem_cons.mpr ⟨(List.mem_append_left _ (List.mem_of_getElem? (i := 23) rfl)), List.forall_mem_cons.mpr ⟨(List.mem_append_right _ (List.mem_append_right _ (List.mem_append_left _ (List.mem_of_getElem? (i := 15) rfl)))), List.forall_mem_cons.mpr ⟨(List.mem_append_right _ (List.mem_append_right _ (List.mem_append_left _ (List.mem_of_getElem? (i := 17) rfl)))), List.forall_mem_cons.mpr ⟨(List.mem_append_left _ (List.mem_of_getElem? (i := 24) rfl)), List.forall_mem_cons.mpr ⟨(List.mem_append_right _ (List.mem_append_right _ (List.mem_append_left _ (List.mem_of_getElem? (i := 22) rfl)))), List.forall_mem_cons.mpr ⟨(List.mem_append_right _ (List.mem_append_right _ (List.mem_append_left _ (List.mem_of_getElem? (i := 24) rfl)))), List.forall_mem_cons.mpr ⟨(List.mem_append_left _ (List.mem_of_getElem? (i := 25) rfl)), List.forall_mem_cons.mpr ⟨(List.mem_append_right _ (List.mem_append_right _ (List.mem_append_left _ (List.mem_of_getElem? (i := 6) rfl)))), List.forall_mem_cons.mpr ⟨(List.mem_append_right _ (List.mem_append_left _ (List.mem_of_getElem? (i := 239) rfl))), List.forall_mem_cons.mpr ⟨(List.mem_append_right _ (List.mem_append_right _ (List.mem_append_left _ (List.mem_of_getElem? (i := 1) rfl)))), List.forall_mem_cons.mpr ⟨(List.mem_append_left _ (List.mem_of_getElem? (i := 20) rfl)), List.forall_mem_cons.mpr ⟨(List.mem_append_right _ (List.mem_append_right _ (List.mem_append_left _ (List.mem_of_getElem? (i := 3) rfl)))), List.forall_mem_cons.mpr ⟨(List.mem_append_right _ (List.mem_append_right _ (List.mem_append_left _ (List.mem_of_getElem? (i := 5) rfl)))), List.forall_mem_cons.mpr ⟨(List.mem_append_left _ (List.mem_of_getElem? (i := 21) rfl)), List.forall_mem_cons.mpr ⟨(List.mem_append_right _ (List.mem_append_left _ (List.mem_of_getElem? (i := 238) rfl))), List.forall_mem_cons.mpr ⟨(List.mem_append_right _ (List.mem_append_right _ (List.mem_append_left _ (List.mem_of_getElem? (i := 29) rfl)))), fun _ h => absurd h List.not_mem_nil⟩⟩⟩⟩⟩⟩⟩⟩⟩⟩⟩⟩⟩⟩⟩⟩⟩⟩⟩⟩⟩⟩⟩⟩⟩
theorem bg_8 : B8.all goodWord = true := by decide +kernel
theorem bi_9 : ∀ w ∈ B9, w ∈ lw_tbl := List.forall_mem_cons.mpr ⟨(List.mem_append_right _ (List.mem_append_right _ (List.mem_append_left _ (List.mem_of_getElem? (i := 33) rfl)))), List.forall_mem_cons.mpr ⟨(List.mem_append_right _ (List.mem_append_left _ (List.mem_of_getElem? (i := 231) rfl))), List.forall_mem_cons.mpr ⟨(List.mem_append_right _ (List.mem_append_left _ (List.mem_of_getElem? (i := 233) rfl))), List.forall_mem_cons.mpr ⟨(List.mem_append_left _ (List.mem_of_getElem? (i := 18) rfl)), List.forall_mem_cons.mpr ⟨(List.mem_append_right _ (List.mem_append_left _ (List.mem_of_getElem? (i := 235) rfl))), List.forall_mem_cons.mpr ⟨(List.mem_append_right _ (List.mem_append_left _ (List.mem_of_getElem? (i := 237) rfl))), List.forall_mem_cons.mpr ⟨(List.mem_append_left _ (List.mem_of_getElem? (i := 19) rfl)), List.forall_mem_cons.mpr ⟨(List.mem_append_right _ (List.mem_append_right _ (List.mem_append_left _ (List.mem_of_getElem? (i := 26) rfl)))), List.forall_mem_cons.mpr ⟨(List.mem_append_right _ (List.mem_append_right _ (List.mem_append_left _ (List.mem_of_getElem? (i := 28) rfl)))), List.forall_mem_cons.mpr ⟨(List.mem_append_left _ (List.mem_of_getElem? (i := 26) rfl)), List.forall_mem_cons.mpr ⟨(List.mem_append_right _ (List.mem_append_right _ (List.mem_append_left _ (List.mem_of_getElem? (i := 30) rfl)))), List.forall_mem_cons.mpr ⟨(List.mem_append_right _ (List.mem_append_right _ (List.mem_append_left _ (List.mem_of_getElem? (i := 32) rfl)))), List.forall_mem_cons.mpr ⟨(List.mem_append_left _ (List.mem_of_getElem? (i := 27) rfl)), List.forall_mem_cons.mpr ⟨(List.mem_append_right _ (List.mem_append_left _ (List.mem_of_getElem? (i := 230) rfl))), List.forall_mem_cons.mpr ⟨(List.mem_append_right _ (List.mem_append_right _ (List.mem_append_left _ (List.mem_of_getElem? (i := 45) rfl)))), List.forall_mem_cons.mpr ⟨(List.mem_append_right _ (List.mem_append_right _ (List.mem_append_left _ (List.mem_of_getElem? (i := 53) rfl)))), List.forall_mem_cons.mpr ⟨(List.mem_append_right _ (List.mem_append_right _ (List.mem_append_left _ (List.mem_of_getElem? (i := 49) rfl)))), List.forall_mem_cons.mpr ⟨(List.mem_append_right _ (List.mem_append_right _ (List.mem_append_left _ (List.mem_of_getElem? (i := 50) rfl)))), List.forall_mem_cons.mpr ⟨(List.mem_append_right _ (List.mem_append_right _ (List.mem_append_left _ (List.mem_of_getElem? (i := 52) rfl)))), List.forall_mem_cons.mpr ⟨(List.mem_append_left _ (List.mem_of_getElem? (i := 31) rfl)), List.forall_mem_cons.mpr ⟨(List.mem_append_right _ (List.mem_append_right _ (List.mem_append_left _ (List.mem_of_getElem? (i := 57) rfl)))), List.forall_mem_cons.mpr ⟨(List.mem_append_right _ (List.mem_append_right _ (List.mem_append_left _ (List.mem_of_getElem? (i := 42) rfl)))), List.forall_mem_cons.mpr ⟨(List.mem_append_right _ (List.mem_append_right _ (List.mem_append_left _ (List.mem_of_getElem? (i := 44) rfl)))), List.forall_mem_cons.mpr ⟨(List.mem_append_left _ (List.mem_of_getElem? (i := 29) rfl)), List.forall_mem_cons.mpr ⟨(List.mem_append_right _ (List.mem_append_right _ (List.mem_append_left _ (List.mem_of_getElem? (i := 46) rfl)))), fun _ h => absurd h List.not_mem_nil⟩⟩⟩⟩⟩⟩⟩⟩⟩⟩⟩⟩⟩⟩⟩⟩⟩⟩⟩⟩⟩⟩⟩⟩⟩
theorem bg_9 : B9.all goodWord = true := by decide +kernel
theorem bi_10 : ∀ w ∈ B10, w ∈ lw_tbl := List.forall_mem_cons.mpr ⟨(List.mem_append_right _ (List.mem_append_right _ (List.mem_append_left _ (List.mem_of_getElem? (i := 48) rfl)))), List.forall_mem_cons.mpr ⟨(List.mem_append_left _ (List.mem_of_getElem? (i := 30) rfl)), List.forall_mem_cons.mpr ⟨(List.mem_append_right _ (List.mem_append_right _ (List.mem_append_left _ (List.mem_of_getElem? (i := 54) rfl)))), List.forall_mem_cons.mpr ⟨(List.mem_append_right _ (List.mem_append_right _ (List.mem_append_left _ (List.mem_of_getElem? (i := 56) rfl)))), List.forall_mem_cons.mpr ⟨(List.mem_append_left _ (List.mem_of_getElem? (i := 32) rfl)), List.forall_mem_cons.mpr ⟨(List.mem_append_right _ (List.mem_append_right _ (List.mem_append_left _ (List.mem_of_getElem? (i := 41) rfl)))), List.forall_mem_cons.mpr ⟨(List.mem_append_right _ (List.mem_append_right _ (List.mem_append_left _ (List.mem_of_getElem? (i := 65) rfl)))), List.forall_mem_cons.mpr ⟨(List.mem_append_right _ (List.mem_append_right _ (List.mem_append_left _ (List.mem_of_getElem? (i := 73) rfl)))), List.forall_mem_cons.mpr ⟨(List.mem_append_right _ (List.mem_append_right _ (List.mem_append_left _ (List.mem_of_getElem? (i := 171) rfl)))), List.forall_mem_cons.mpr ⟨(List.mem_append_right _ (List.mem_append_right _ (List.mem_append_left _ (List.mem_of_getElem? (i := 188) rfl)))), List.forall_mem_cons.mpr ⟨(List.mem_append_right _ (List.mem_append_right _ (List.mem_append_left _ (List.mem_of_getElem? (i := 191) rfl)))), List.forall_mem_cons.mpr ⟨(List.mem_append_right _ (List.mem_append_right _ (List.mem_append_left _ (List.mem_of_getElem? (i := 181) rfl)))), List.forall_mem_cons.mpr ⟨(List.mem_append_right _ (List.mem_append_right _ (List.mem_append_left _ (List.mem_of_getElem? (i := 183) rfl)))), List.forall_mem_cons.mpr ⟨(List.mem_append_left _ (List.mem_of_getElem? (i := 49) rfl)), List.forall_mem_cons.mpr ⟨(List.mem_append_right _ (List.mem_append_right _ (List.mem_append_left _ (List.mem_of_getElem? (i := 185) rfl)))), List.forall_mem_cons.mpr ⟨(List.mem_append_right _ (List.mem_append_right _ (List.mem_append_left _ (List.mem_of_getElem? (i := 187) rfl)))), List.forall_mem_cons.mpr ⟨(List.mem_append_left _ (List.mem_of_getElem? (i := 50) rfl)), List.forall_mem_cons.mpr ⟨(List.mem_append_right _ (List.mem_append_right _ (List.mem_append_left _ (List.mem_of_getElem? (i := 189) rfl)))), List.forall_mem_cons.mpr ⟨(List.mem_append_right _ (List.mem_append_right _ (List.mem_append_left _ (List.mem_of_getElem? (i := 190) rfl)))), List.forall_mem_cons.mpr ⟨(List.mem_append_right _ (List.mem_append_right _ (List.mem_append_left _ (List.mem_of_getElem? (i := 180) rfl)))), List.forall_mem_cons.mpr ⟨(List.mem_append_right _ (List.mem_append_right _ (List.mem_append_left _ (List.mem_of_getElem? (i := 199) rfl)))), List.forall_mem_cons.mpr ⟨(List.mem_append_right _ (List.mem_append_right _ (List.mem_append_left _ (List.mem_of_getElem? (i := 96) rfl)))), List.forall_mem_cons.mpr ⟨(List.mem_append_right _ (List.mem_append_right _ (List.mem_append_left _ (List.mem_of_getElem? (i := 100) rfl)))), List.forall_mem_cons.mpr ⟨(List.mem_append_right _ (List.mem_append_right _ (List.mem_append_left _ (List.mem_of_getElem? (i := 93) rfl)))), List.forall_mem_cons.mpr ⟨(List.mem_append_right _ (List.mem_append_right _ (List.mem_append_left _ (List.mem_of_getElem? (i := 95) rfl)))), fun _ h => absurd h List.not_mem_nil⟩⟩⟩⟩⟩⟩⟩⟩⟩⟩⟩⟩⟩⟩⟩⟩⟩⟩⟩⟩⟩⟩⟩⟩⟩
theorem bg_10 : B10.all goodWord = true := by decide +kernel
theorem bi_11 : ∀ w ∈ B11, w ∈ lw_tbl := List.forall_mem_cons.mpr ⟨(List.mem_append_left _ (List.mem_of_getElem? (i := 37) rfl)), List.forall_mem_cons.mpr ⟨(List.mem_append_right _ (List.mem_append_right _ (List.mem_append_left _ (List.mem_of_getElem? (i := 97) rfl)))), List.forall_mem_cons.mpr ⟨(List.mem_append_right _ (List.mem_append_right _ (List.mem_append_left _ (List.mem_of_getElem? (i := 99) rfl)))), List.forall_mem_cons.mpr ⟨(List.mem_append_left _ (List.mem_of_getElem? (i := 38) rfl)), List.forall_mem_cons.mpr ⟨(List.mem_append_right _ (List.mem_append_right _ (List.mem_append_left _ (List.mem_of_getElem? (i := 92) rfl)))), List.forall_mem_cons.mpr ⟨(List.mem_append_right _ (List.mem_append_right _ (List.mem_append_left _ (List.mem_of_getElem? (i := 108) rfl)))), List.forall_mem_cons.mpr ⟨(List.mem_append_right _ (List.mem_append_right _ (List.mem_append_left _ (List.mem_of_getElem? (i := 116) rfl)))), List.forall_mem_cons.mpr ⟨(List.mem_append_right _ (List.mem_append_right _ (List.mem_append_left _ (List.mem_of_getElem? (i := 132) rfl)))), List.forall_mem_cons.mpr ⟨(List.mem_append_right _ (List.mem_append_right _ (List.mem_append_left _ (List.mem_of_getElem? (i := 128) rfl)))), List.forall_mem_cons.mpr ⟨(List.mem_append_right _ (List.mem_append_right _ (List.mem_append_left _ (List.mem_of_getElem? (i := 129) rfl)))), List.forall_mem_cons.mpr ⟨(List.mem_append_right _ (List.mem_append_right _ (List.mem_append_left _ (List.mem_of_getElem? (i := 131) rfl)))), List.forall_mem_cons.mpr ⟨(List.mem_append_left _ (List.mem_of_getElem? (i := 43) rfl)), List.forall_mem_cons.mpr ⟨(List.mem_append_right _ (List.mem_append_right _ (List.mem_append_left _ (List.mem_of_getElem? (i := 124) rfl)))), List.forall_mem_cons.mpr ⟨(List.mem_append_right _ (List.mem_append_right _ (List.mem_append_left _ (List.mem_of_getElem? (i := 125) rfl)))), List.forall_mem_cons.mpr ⟨(List.mem_append_right _ (List.mem_append_right _ (List.mem_append_left _ (List.mem_of_getElem? (i := 127) rfl)))), List.forall_mem_cons.mpr ⟨(List.mem_append_left _ (List.mem_of_getElem? (i := 42) rfl)), List.forall_mem_cons.mpr ⟨(List.mem_append_right _ (List.mem_append_right _ (List.mem_append_left _ (List.mem_of_getElem? (i := 140) rfl)))), List.forall_mem_cons.mpr ⟨(List.mem_append_right _ (List.mem_append_right _ (List.mem_append_left _ (List.mem_of_getElem? (i := 152) rfl)))), List.forall_mem_cons.mpr ⟨(List.mem_append_right _ (List.mem_append_right _ (List.mem_append_left _ (List.mem_of_getElem? (i := 78) rfl)))), List.forall_mem_cons.mpr ⟨(List.mem_append_right _ (List.mem_append_right _ (List.mem_append_left _ (List.mem_of_getElem? (i := 157) rfl)))), List.forall_mem_cons.mpr ⟨(List.mem_append_right _ (List.mem_append_right _ (List.mem_append_left _ (List.mem_of_getElem? (i := 149) rfl)))), List.forall_mem_cons.mpr ⟨(List.mem_append_right _ (List.mem_append_right _ (List.mem_append_left _ (List.mem_of_getElem? (i := 151) rfl)))), List.forall_mem_cons.mpr ⟨(List.mem_append_left _ (List.mem_of_getElem? (i := 46) rfl)), List.forall_mem_cons.mpr ⟨(List.mem_append_right _ (List.mem_append_right _ (List.mem_append_left _ (List.mem_of_getElem? (i := 153) rfl)))), List.forall_mem_cons.mpr ⟨(List.mem_append_right _ (List.mem_append_right _ (List.mem_append_left _ (List.mem_of_getElem? (i := 77) rfl)))), fun _ h => absurd h List.not_mem_nil⟩⟩⟩⟩⟩⟩⟩⟩⟩⟩⟩⟩⟩⟩⟩⟩⟩⟩⟩⟩⟩⟩⟩⟩⟩
theorem bg_11 : B11.all goodWord = true := by decide +kernel
theorem bi_12 : ∀ w ∈ B12, w ∈ lw_tbl := List.forall_mem_cons.mpr ⟨(List.mem_append_left _ (List.mem_of_getElem? (i := 35) rfl)), List.forall_mem_cons.mpr ⟨(List.mem_append_right _ (List.mem_append_right _ (List.mem_append_left _ (List.mem_of_getElem? (i := 154) rfl)))), List.forall_mem_cons.mpr ⟨(List.mem_append_right _ (List.mem_append_right _ (List.mem_append_left _ (List.mem_of_getElem? (i := 156) rfl)))), List.forall_mem_cons.mpr ⟨(List.mem_append_left _ (List.mem_of_getElem? (i := 47) rfl)), List.forall_mem_cons.mpr ⟨(List.mem_append_right _ (List.mem_append_right _ (List.mem_append_left _ (List.mem_of_getElem? (i := 148) rfl)))), List.forall_mem_cons.mpr ⟨(List.mem_append_right _ (List.mem_append_left _ (List.mem_of_getElem? (i := 18) rfl))), List.forall_mem_cons.mpr ⟨(List.mem_append_right _ (List.mem_append_left _ (List.mem_of_getElem? (i := 21) rfl))), List.forall_mem_cons.mpr ⟨(List.mem_append_right _ (List.mem_append_left _ (List.mem_of_getElem? (i := 100) rfl))), List.forall_mem_cons.mpr ⟨(List.mem_append_right _ (List.mem_append_left _ (List.mem_of_getElem? (i := 52) rfl))), List.forall_mem_cons.mpr ⟨(List.mem_append_right _ (List.mem_append_left _ (List.mem_of_getElem? (i := 53) rfl))), List.forall_mem_cons.mpr ⟨(List.mem_append_right _ (List.mem_append_left _ (List.mem_of_getElem? (i := 101) rfl))), List.forall_mem_cons.mpr ⟨(List.mem_append_right _ (List.mem_append_left _ (List.mem_of_getElem? (i := 72) rfl))), List.forall_mem_cons.mpr ⟨(List.mem_append_right _ (List.mem_append_left _ (List.mem_of_getElem? (i := 73) rfl))), List.forall_mem_cons.mpr ⟨(List.mem_append_right _ (List.mem_append_left _ (List.mem_of_getElem? (i := 102) rfl))), List.forall_mem_cons.mpr ⟨(List.mem_append_right _ (List.mem_append_left _ (List.mem_of_getElem? (i := 103) rfl))), List.forall_mem_cons.mpr ⟨(List.mem_append_right _ (List.mem_append_left _ (List.mem_of_getElem? (i := 55) rfl))), List.forall_mem_cons.mpr ⟨(List.mem_append_right _ (List.mem_append_left _ (List.mem_of_getElem? (i := 75) rfl))), List.forall_mem_cons.mpr ⟨(List.mem_append_right _ (List.mem_append_left _ (List.mem_of_getElem? (i := 17) rfl))), List.forall_mem_cons.mpr ⟨(List.mem_append_right _ (List.mem_append_left _ (List.mem_of_getElem? (i := 119) rfl))), List.forall_mem_cons.mpr ⟨(List.mem_append_left _ (List.mem_of_getElem? (i := 1) rfl)), List.forall_mem_cons.mpr ⟨(List.mem_append_right _ (List.mem_append_left _ (List.mem_of_getElem? (i := 144) rfl))), List.forall_mem_cons.mpr ⟨(List.mem_append_left _ (List.mem_of_getElem? (i := 5) rfl)), List.forall_mem_cons.mpr ⟨(List.mem_append_right _ (List.mem_append_left _ (List.mem_of_getElem? (i := 156) rfl))), List.forall_mem_cons.mpr ⟨(List.mem_append_left _ (List.mem_of_getElem? (i := 7) rfl)), List.forall_mem_cons.mpr ⟨(List.mem_append_right _ (List.mem_append_left _ (List.mem_of_getElem? (i := 116) rfl))), fun _ h => absurd h List.not_mem_nil⟩⟩⟩⟩⟩⟩⟩⟩⟩⟩⟩⟩⟩⟩⟩⟩⟩⟩⟩⟩⟩⟩⟩⟩⟩
theorem bg_12 : B12.all goodWord = true := by decide +kernel
theorem bi_13 : ∀ w ∈ B13, w ∈ lw_tbl := List.forall_mem_cons.mpr ⟨(List.mem_append_right _ (List.mem_append_left _ (List.mem_of_getElem? (i := 167) rfl))), List.forall_mem_cons.mpr ⟨(List.mem_append_left _ (List.mem_of_getElem? (i := 8) rfl)), List.forall_mem_cons.mpr ⟨(List.mem_append_right _ (List.mem_append_left _ (List.mem_of_getElem? (i := 164) rfl))), List.forall_mem_cons.mpr ⟨(List.mem_append_right _ (List.mem_append_left _ (List.mem_of_getElem? (i := 178) rfl))), List.forall_mem_cons.mpr ⟨(List.mem_append_left _ (List.mem_of_getElem? (i := 9) rfl)), List.forall_mem_cons.mpr ⟨(List.mem_append_right _ (List.mem_append_left _ (List.mem_of_getElem? (i := 175) rfl))), List.forall_mem_cons.mpr ⟨(List.mem_append_right _ (List.mem_append_left _ (List.mem_of_getElem? (i := 190) rfl))), List.forall_mem_cons.mpr ⟨(List.mem_append_left _ (List.mem_of_getElem? (i := 11) rfl)), List.forall_mem_cons.mpr ⟨(List.mem_append_right _ (List.mem_append_left _ (List.mem_of_getElem? (i := 187) rfl))), List.forall_mem_cons.mpr ⟨(List.mem_append_right _ (List.mem_append_left _ (List.mem_of_getElem? (i := 198) rfl))), List.forall_mem_cons.mpr ⟨(List.mem_append_left _ (List.mem_of_getElem? (i := 12) rfl)), List.forall_mem_cons.mpr ⟨(List.mem_append_right _ (List.mem_append_left _ (List.mem_of_getElem? (i := 195) rfl))), List.forall_mem_cons.mpr ⟨(List.mem_append_right _ (List.mem_append_left _ (List.mem_of_getElem? (i := 229) rfl))), List.forall_mem_cons.mpr ⟨(List.mem_append_left _ (List.mem_of_getElem? (i := 17) rfl)), List.forall_mem_cons.mpr ⟨(List.mem_append_right _ (List.mem_append_left _ (List.mem_of_getElem? (i := 226) rfl))), List.forall_mem_cons.mpr ⟨(List.mem_append_right _ (List.mem_append_right _ (List.mem_append_left _ (List.mem_of_getElem? (i := 40) rfl)))), List.forall_mem_cons.mpr ⟨(List.mem_append_left _ (List.mem_of_getElem? (i := 28) rfl)), List.forall_mem_cons.mpr ⟨(List.mem_append_right _ (List.mem_append_right _ (List.mem_append_left _ (List.mem_of_getElem? (i := 37) rfl)))), List.forall_mem_cons.mpr ⟨(List.mem_append_right _ (List.mem_append_right _ (List.mem_append_left _ (List.mem_of_getElem? (i := 64) rfl)))), List.forall_mem_cons.mpr ⟨(List.mem_append_left _ (List.mem_of_getElem? (i := 33) rfl)), List.forall_mem_cons.mpr ⟨(List.mem_append_right _ (List.mem_append_right _ (List.mem_append_left _ (List.mem_of_getElem? (i := 61) rfl)))), List.forall_mem_cons.mpr ⟨(List.mem_append_right _ (List.mem_append_right _ (List.mem_append_left _ (List.mem_of_getElem? (i := 81) rfl)))), List.forall_mem_cons.mpr ⟨(List.mem_append_right _ (List.mem_append_right _ (List.mem_append_left _ (List.mem_of_getElem? (i := 82) rfl)))), List.forall_mem_cons.mpr ⟨(List.mem_append_right _ (List.mem_append_right _ (List.mem_append_left _ (List.mem_of_getElem? (i := 83) rfl)))), List.forall_mem_cons.mpr ⟨(List.mem_append_right _ (List.mem_append_right _ (List.mem_append_left _ (List.mem_of_getElem? (i := 84) rfl)))), fun _ h => absurd h List.not_mem_nil⟩⟩⟩⟩⟩⟩⟩⟩⟩⟩⟩⟩⟩⟩⟩⟩⟩⟩⟩⟩⟩⟩⟩⟩⟩
theorem bg_13 : B13.all goodWord = true := by decide +kernel
theorem bi_14 : ∀ w ∈ B14, w ∈ lw_tbl := List.forall_mem_cons.mpr ⟨(List.mem_append_right _ (List.mem_append_right _ (List.mem_append_left _ (List.mem_of_getElem? (i := 72) rfl)))), List.forall_mem_cons.mpr ⟨(List.mem_append_left _ (List.mem_of_getElem? (i := 34) rfl)), List.forall_mem_cons.mpr ⟨(List.mem_append_right _ (List.mem_append_right _ (List.mem_append_left _ (List.mem_of_getElem? (i := 74) rfl)))), List.forall_mem_cons.mpr ⟨(List.mem_append_right _ (List.mem_append_right _ (List.mem_append_left _ (List.mem_of_getElem? (i := 79) rfl)))), List.forall_mem_cons.mpr ⟨(List.mem_append_right _ (List.mem_append_right _ (List.mem_append_left _ (List.mem_of_getElem? (i := 80) rfl)))), List.forall_mem_cons.mpr ⟨(List.mem_append_right _ (List.mem_append_left _ (List.mem_of_getElem? (i := 8) rfl))), List.forall_mem_cons.mpr ⟨(List.mem_append_right _ (List.mem_append_right _ (List.mem_append_left _ (List.mem_of_getElem? (i := 69) rfl)))), List.forall_mem_cons.mpr ⟨(List.mem_append_right _ (List.mem_append_right _ (List.mem_append_left _ (List.mem_of_getElem? (i := 91) rfl)))), List.forall_mem_cons.mpr ⟨(List.mem_append_left _ (List.mem_of_getElem? (i := 36) rfl)), List.forall_mem_cons.mpr ⟨(List.mem_append_right _ (List.mem_append_right _ (List.mem_append_left _ (List.mem_of_getElem? (i := 88) rfl)))), List.forall_mem_cons.mpr ⟨(List.mem_append_right _ (List.mem_append_right _ (List.mem_append_left _ (List.mem_of_getElem? (i := 107) rfl)))), List.forall_mem_cons.mpr ⟨(List.mem_append_left _ (List.mem_of_getElem? (i := 39) rfl)), List.forall_mem_cons.mpr ⟨(List.mem_append_right _ (List.mem_append_right _ (List.mem_append_left _ (List.mem_of_getElem? (i := 104) rfl)))), List.forall_mem_cons.mpr ⟨(List.mem_append_right _ (List.mem_append_right _ (List.mem_append_left _ (List.mem_of_getElem? (i := 112) rfl)))), List.forall_mem_cons.mpr ⟨(List.mem_append_right _ (List.mem_append_right _ (List.mem_append_left _ (List.mem_of_getElem? (i := 115) rfl)))), List.forall_mem_cons.mpr ⟨(List.mem_append_left _ (List.mem_of_getElem? (i := 40) rfl)), List.forall_mem_cons.mpr ⟨(List.mem_append_right _ (List.mem_append_right _ (List.mem_append_left _ (List.mem_of_getElem? (i := 123) rfl)))), List.forall_mem_cons.mpr ⟨(List.mem_append_left _ (List.mem_of_getElem? (i := 41) rfl)), List.forall_mem_cons.mpr ⟨(List.mem_append_right _ (List.mem_append_right _ (List.mem_append_left _ (List.mem_of_getElem? (i := 120) rfl)))), List.forall_mem_cons.mpr ⟨(List.mem_append_right _ (List.mem_append_right _ (List.mem_append_left _ (List.mem_of_getElem? (i := 136) rfl)))), List.forall_mem_cons.mpr ⟨(List.mem_append_right _ (List.mem_append_right _ (List.mem_append_left _ (List.mem_of_getElem? (i := 139) rfl)))), List.forall_mem_cons.mpr ⟨(List.mem_append_left _ (List.mem_of_getElem? (i := 44) rfl)), List.forall_mem_cons.mpr ⟨(List.mem_append_right _ (List.mem_append_right _ (List.mem_append_left _ (List.mem_of_getElem? (i := 147) rfl)))), List.forall_mem_cons.mpr ⟨(List.mem_append_left _ (List.mem_of_getElem? (i := 45) rfl)), List.forall_mem_cons.mpr ⟨(List.mem_append_right _ (List.mem_append_right _ (List.mem_append_left _ (List.mem_of_getElem? (i := 144) rfl)))), fun _ h => absurd h List.not_mem_nil⟩⟩⟩⟩⟩⟩⟩⟩⟩⟩⟩⟩⟩⟩⟩⟩⟩⟩⟩⟩⟩⟩⟩⟩⟩
theorem bg_14 : B14.all goodWord = true := by decide +kernel
theorem bi_15 : ∀ w ∈ B15, w ∈ lw_tbl := List.forall_mem_cons.mpr ⟨(List.mem_append_right _ (List.mem_append_right _ (List.mem_append_left _ (List.mem_of_getElem? (i := 161) rfl)))), List.forall_mem_cons.mpr ⟨(List.mem_append_right _ (List.mem_append_right _ (List.mem_append_left _ (List.mem_of_getElem? (i := 170) rfl)))), List.forall_mem_cons.mpr ⟨(List.mem_append_right _ (List.mem_append_right _ (List.mem_append_left _ (List.mem_of_getElem? (i := 168) rfl)))), List.forall_mem_cons.mpr ⟨(List.mem_append_right _ (List.mem_append_right _ (List.mem_append_left _ (List.mem_of_getElem? (i := 179) rfl)))), List.forall_mem_cons.mpr ⟨(List.mem_append_left _ (List.mem_of_getElem? (i := 48) rfl)), List.forall_mem_cons.mpr ⟨(List.mem_append_right _ (List.mem_append_right _ (List.mem_append_left _ (List.mem_of_getElem? (i := 175) rfl)))), List.forall_mem_cons.mpr ⟨(List.mem_append_right _ (List.mem_append_right _ (List.mem_append_left _ (List.mem_of_getElem? (i := 198) rfl)))), List.forall_mem_cons.mpr ⟨(List.mem_append_left _ (List.mem_of_getElem? (i := 51) rfl)), List.forall_mem_cons.mpr ⟨(List.mem_append_right _ (List.mem_append_right _ (List.mem_append_left _ (List.mem_of_getElem? (i := 195) rfl)))), List.forall_mem_cons.mpr ⟨(List.mem_append_right _ (List.mem_append_right _ (List.mem_append_left _ (List.mem_of_getElem? (i := 203) rfl)))), List.forall_mem_cons.mpr ⟨(List.mem_append_right _ (List.mem_append_right _ (List.mem_append_left _ (List.mem_of_getElem? (i := 209) rfl)))), List.forall_mem_cons.mpr ⟨(List.mem_append_right _ (List.mem_append_right _ (List.mem_append_left _ (List.mem_of_getElem? (i := 214) rfl)))), List.forall_mem_cons.mpr ⟨(List.mem_append_right _ (List.mem_append_right _ (List.mem_append_left _ (List.mem_of_getElem? (i := 216) rfl)))), List.forall_mem_cons.mpr ⟨(List.mem_append_right _ (List.mem_append_right _ (List.mem_append_left _ (List.mem_of_getElem? (i := 223) rfl)))), List.forall_mem_cons.mpr ⟨(List.mem_append_left _ (List.mem_of_getElem? (i := 52) rfl)), List.forall_mem_cons.mpr ⟨(List.mem_append_right _ (List.mem_append_right _ (List.mem_append_left _ (List.mem_of_getElem? (i := 232) rfl)))), List.forall_mem_cons.mpr ⟨(List.mem_append_right _ (List.mem_append_right _ (List.mem_append_left _ (List.mem_of_getElem? (i := 239) rfl)))), List.forall_mem_cons.mpr ⟨(List.mem_append_left _ (List.mem_of_getElem? (i := 54) rfl)), List.forall_mem_cons.mpr ⟨(List.mem_append_right _ (List.mem_append_right _ (List.mem_append_left _ (List.mem_of_getElem? (i := 236) rfl)))), List.forall_mem_cons.mpr ⟨(List.mem_append_right _ (List.mem_append_right _ (List.mem_append_right _ (List.mem_append_left _ (List.mem_of_getElem? (i := 98) rfl))))), List.forall_mem_cons.mpr ⟨(List.mem_append_left _ (List.mem_of_getElem? (i := 61) rfl)), List.forall_mem_cons.mpr ⟨(List.mem_append_right _ (List.mem_append_right _ (List.mem_append_right _ (List.mem_append_left _ (List.mem_of_getElem? (i := 95) rfl))))), List.forall_mem_cons.mpr ⟨(List.mem_append_right _ (List.mem_append_right _ (List.mem_append_right _ (List.mem_append_left _ (List.mem_of_getElem? (i := 92) rfl))))), List.forall_mem_cons.mpr ⟨(List.mem_append_right _ (List.mem_append_right _ (List.mem_append_right _ (List.mem_append_left _ (List.mem_of_getElem? (i := 94) rfl))))), List.forall_mem_cons.mpr ⟨(List.mem_append_left _ (List.mem_of_getElem? (i := 60) rfl)), fun _ h => absurd h List.not_mem_nil⟩⟩⟩⟩⟩⟩⟩⟩⟩⟩⟩⟩⟩⟩⟩⟩⟩⟩⟩⟩⟩⟩⟩⟩⟩
theorem bg_15 : B15.all goodWord = true := by decide +kernel
theorem bi_16 : ∀ w ∈ B16, w ∈ lw_tbl := List.forall_mem_cons.mpr ⟨(List.mem_append_right _ (List.mem_append_right _ (List.mem_append_right _ (List.mem_append_left _ (List.mem_of_getElem? (i := 102) rfl))))), List.forall_mem_cons.mpr ⟨(List.mem_append_left _ (List.mem_of_getElem? (i := 62) rfl)), List.forall_mem_cons.mpr ⟨(List.mem_append_right _ (List.mem_append_right _ (List.mem_append_right _ (List.mem_append_left _ (List.mem_of_getElem? (i := 90) rfl))))), List.forall_mem_cons.mpr ⟨(List.mem_append_right _ (List.mem_append_right _ (List.mem_append_right _ (List.mem_append_left _ (List.mem_of_getElem? (i := 110) rfl))))), List.forall_mem_cons.mpr ⟨(List.mem_append_left _ (List.mem_of_getElem? (i := 63) rfl)), List.forall_mem_cons.mpr ⟨(List.mem_append_right _ (List.mem_append_right _ (List.mem_append_right _ (List.mem_append_left _ (List.mem_of_getElem? (i := 107) rfl))))), List.forall_mem_cons.mpr ⟨(List.mem_append_right _ (List.mem_append_right _ (List.mem_append_right _ (List.mem_append_left _ (List.mem_of_getElem? (i := 119) rfl))))), List.forall_mem_cons.mpr ⟨(List.mem_append_right _ (List.mem_append_right _ (List.mem_append_right _ (List.mem_append_left _ (List.mem_of_getElem? (i := 116) rfl))))), List.forall_mem_cons.mpr ⟨(List.mem_append_right _ (List.mem_append_right _ (List.mem_append_right _ (List.mem_append_left _ (List.mem_of_getElem? (i := 118) rfl))))), List.forall_mem_cons.mpr ⟨(List.mem_append_left _ (List.mem_of_getElem? (i := 64) rfl)), List.forall_mem_cons.mpr ⟨(List.mem_append_right _ (List.mem_append_right _ (List.mem_append_right _ (List.mem_append_left _ (List.mem_of_getElem? (i := 115) rfl))))), List.forall_mem_cons.mpr ⟨(List.mem_append_right _ (List.mem_append_right _ (List.mem_append_right _ (List.mem_append_left _ (List.mem_of_getElem? (i := 124) rfl))))), List.forall_mem_cons.mpr ⟨(List.mem_append_right _ (List.mem_append_right _ (List.mem_append_right _ (List.mem_append_left _ (List.mem_of_getElem? (i := 129) rfl))))), List.forall_mem_cons.mpr ⟨(List.mem_append_right _ (List.mem_append_right _ (List.mem_append_right _ (List.mem_append_left _ (List.mem_of_getElem? (i := 130) rfl))))), List.forall_mem_cons.mpr ⟨(List.mem_append_right _ (List.mem_append_right _ (List.mem_append_right _ (List.mem_append_left _ (List.mem_of_getElem? (i := 131) rfl))))), List.forall_mem_cons.mpr ⟨(List.mem_append_right _ (List.mem_append_right _ (List.mem_append_right _ (List.mem_append_left _ (List.mem_of_getElem? (i := 132) rfl))))), List.forall_mem_cons.mpr ⟨(List.mem_append_right _ (List.mem_append_right _ (List.mem_append_right _ (List.mem_append_left _ (List.mem_of_getElem? (i := 133) rfl))))), List.forall_mem_cons.mpr ⟨(List.mem_append_right _ (List.mem_append_right _ (List.mem_append_right _ (List.mem_append_left _ (List.mem_of_getElem? (i := 135) rfl))))), List.forall_mem_cons.mpr ⟨(List.mem_append_right _ (List.mem_append_right _ (List.mem_append_right _ (List.mem_append_left _ (List.mem_of_getElem? (i := 162) rfl))))), List.forall_mem_cons.mpr ⟨(List.mem_append_right _ (List.mem_append_right _ (List.mem_append_right _ (List.mem_append_left _ (List.mem_of_getElem? (i := 136) rfl))))), List.forall_mem_cons.mpr ⟨(List.mem_append_right _ (List.mem_append_right _ (List.mem_append_right _ (List.mem_append_left _ (List.mem_of_getElem? (i := 137) rfl))))), List.forall_mem_cons.mpr ⟨(List.mem_append_right _ (List.mem_append_right _ (List.mem_append_right _ (List.mem_append_left _ (List.mem_of_getElem? (i := 169) rfl))))), List.forall_mem_cons.mpr ⟨(List.mem_append_right _ (List.mem_append_right _ (List.mem_append_right _ (List.mem_append_left _ (List.mem_of_getElem? (i := 173) rfl))))), List.forall_mem_cons.mpr ⟨(List.mem_append_right _ (List.mem_append_right _ (List.mem_append_right _ (List.mem_append_left _ (List.mem_of_getElem? (i := 177) rfl))))), List.forall_mem_cons.mpr ⟨(List.mem_append_right _ (List.mem_append_right _ (List.mem_append_right _ (List.mem_append_left _ (List.mem_of_getElem? (i := 134) rfl))))), fun _ h => absurd h List.not_mem_nil⟩⟩⟩⟩⟩⟩⟩⟩⟩⟩⟩⟩⟩⟩⟩⟩⟩⟩⟩⟩⟩⟩⟩⟩⟩
theorem bg_16 : B16.all goodWord = true := by decide +kernel
theorem bi_17 : ∀ w ∈ B17, w ∈ lw_tbl := List.forall_mem_cons.mpr ⟨(List.mem_append_right _ (List.mem_append_right _ (List.mem_append_right _ (List.mem_append_left _ (List.mem_of_getElem? (i := 197) rfl))))), List.forall_mem_cons.mpr ⟨(List.mem_append_right _ (List.mem_append_right _ (List.mem_append_right _ (List.mem_append_left _ (List.mem_of_getElem? (i := 167) rfl))))), List.forall_mem_cons.mpr ⟨(List.mem_append_right _ (List.mem_append_right _ (List.mem_append_right _ (List.mem_append_left _ (List.mem_of_getElem? (i := 168) rfl))))), List.forall_mem_cons.mpr ⟨(List.mem_append_right _ (List.mem_append_left _ (List.mem_of_getElem? (i := 5) rfl))), List.forall_mem_cons.mpr ⟨(List.mem_append_right _ (List.mem_append_right _ (List.mem_append_right _ (List.mem_append_right _ (List.mem_of_getElem? (i := 1) rfl))))), List.forall_mem_cons.mpr ⟨(List.mem_append_right _ (List.mem_append_right _ (List.mem_append_right _ (List.mem_append_left _ (List.mem_of_getElem? (i := 201) rfl))))), List.forall_mem_cons.mpr ⟨(List.mem_append_right _ (List.mem_append_right _ (List.mem_append_right _ (List.mem_append_left _ (List.mem_of_getElem? (i := 225) rfl))))), List.forall_mem_cons.mpr ⟨(List.mem_append_right _ (List.mem_append_right _ (List.mem_append_right _ (List.mem_append_right _ (List.mem_of_getElem? (i := 21) rfl))))), List.forall_mem_cons.mpr ⟨(List.mem_append_right _ (List.mem_append_right _ (List.mem_append_right _ (List.mem_append_left _ (List.mem_of_getElem? (i := 198) rfl))))), List.forall_mem_cons.mpr ⟨(List.mem_append_right _ (List.mem_append_right _ (List.mem_append_right _ (List.mem_append_left _ (List.mem_of_getElem? (i := 200) rfl))))), List.forall_mem_cons.mpr ⟨(List.mem_append_left _ (List.mem_of_getElem? (i := 70) rfl)), List.forall_mem_cons.mpr ⟨(List.mem_append_right _ (List.mem_append_right _ (List.mem_append_right _ (List.mem_append_left _ (List.mem_of_getElem? (i := 221) rfl))))), List.forall_mem_cons.mpr ⟨(List.mem_append_right _ (List.mem_append_right _ (List.mem_append_right _ (List.mem_append_left _ (List.mem_of_getElem? (i := 222) rfl))))), List.forall_mem_cons.mpr ⟨(List.mem_append_right _ (List.mem_append_right _ (List.mem_append_right _ (List.mem_append_left _ (List.mem_of_getElem? (i := 224) rfl))))), List.forall_mem_cons.mpr ⟨(List.mem_append_left _ (List.mem_of_getElem? (i := 74) rfl)), List.forall_mem_cons.mpr ⟨(List.mem_append_right _ (List.mem_append_right _ (List.mem_append_right _ (List.mem_append_right _ (List.mem_of_getElem? (i := 25) rfl))))), List.forall_mem_cons.mpr ⟨(List.mem_append_right _ (List.mem_append_right _ (List.mem_append_right _ (List.mem_append_left _ (List.mem_of_getElem? (i := 218) rfl))))), List.forall_mem_cons.mpr ⟨(List.mem_append_right _ (List.mem_append_right _ (List.mem_append_right _ (List.mem_append_left _ (List.mem_of_getElem? (i := 220) rfl))))), List.forall_mem_cons.mpr ⟨(List.mem_append_left _ (List.mem_of_getElem? (i := 73) rfl)), List.forall_mem_cons.mpr ⟨(List.mem_append_right _ (List.mem_append_right _ (List.mem_append_right _ (List.mem_append_right _ (List.mem_of_getElem? (i := 17) rfl))))), List.forall_mem_cons.mpr ⟨(List.mem_append_right _ (List.mem_append_right _ (List.mem_append_right _ (List.mem_append_right _ (List.mem_of_getElem? (i := 14) rfl))))), List.forall_mem_cons.mpr ⟨(List.mem_append_right _ (List.mem_append_right _ (List.mem_append_right _ (List.mem_append_right _ (List.mem_of_getElem? (i := 16) rfl))))), List.forall_mem_cons.mpr ⟨(List.mem_append_left _ (List.mem_of_getElem? (i := 81) rfl)), List.forall_mem_cons.mpr ⟨(List.mem_append_right _ (List.mem_append_right _ (List.mem_append_right _ (List.mem_append_right _ (List.mem_of_getElem? (i := 18) rfl))))), List.forall_mem_cons.mpr ⟨(List.mem_append_right _ (List.mem_append_right _ (List.mem_append_right _ (List.mem_append_right _ (List.mem_of_getElem? (i := 20) rfl))))), fun _ h => absurd h List.not_mem_nil⟩⟩⟩⟩⟩⟩⟩⟩⟩⟩⟩⟩⟩⟩⟩⟩⟩⟩⟩⟩⟩⟩⟩⟩⟩
theorem bg_17 : B17.all goodWord = true := by decide +kernel
theorem bi_18 : ∀ w ∈ B18, w ∈ lw_tbl := List.forall_mem_cons.mpr ⟨(List.mem_append_left _ (List.mem_of_getElem? (i := 82) rfl)), List.forall_mem_cons.mpr ⟨(List.mem_append_right _ (List.mem_append_right _ (List.mem_append_right _ (List.mem_append_right _ (List.mem_of_getElem? (i := 22) rfl))))), List.forall_mem_cons.mpr ⟨(List.mem_append_right _ (List.mem_append_right _ (List.mem_append_right _ (List.mem_append_right _ (List.mem_of_getElem? (i := 24) rfl))))), List.forall_mem_cons.mpr ⟨(List.mem_append_left _ (List.mem_of_getElem? (i := 83) rfl)), List.forall_mem_cons.mpr ⟨(List.mem_append_right _ (List.mem_append_right _ (List.mem_append_right _ (List.mem_append_right _ (List.mem_of_getElem? (i := 13) rfl))))), List.forall_mem_cons.mpr ⟨(List.mem_append_right _ (List.mem_append_right _ (List.mem_append_right _ (List.mem_append_right _ (List.mem_of_getElem? (i := 9) rfl))))), List.forall_mem_cons.mpr ⟨(List.mem_append_right _ (List.mem_append_right _ (List.mem_append_right _ (List.mem_append_right _ (List.mem_of_getElem? (i := 6) rfl))))), List.forall_mem_cons.mpr ⟨(List.mem_append_right _ (List.mem_append_right _ (List.mem_append_right _ (List.mem_append_right _ (List.mem_of_getElem? (i := 8) rfl))))), List.forall_mem_cons.mpr ⟨(List.mem_append_left _ (List.mem_of_getElem? (i := 79) rfl)), List.forall_mem_cons.mpr ⟨(List.mem_append_right _ (List.mem_append_right _ (List.mem_append_right _ (List.mem_append_right _ (List.mem_of_getElem? (i := 10) rfl))))), List.forall_mem_cons.mpr ⟨(List.mem_append_right _ (List.mem_append_right _ (List.mem_append_right _ (List.mem_append_right _ (List.mem_of_getElem? (i := 12) rfl))))), List.forall_mem_cons.mpr ⟨(List.mem_append_left _ (List.mem_of_getElem? (i := 80) rfl)), List.forall_mem_cons.mpr ⟨(List.mem_append_right _ (List.mem_append_right _ (List.mem_append_right _ (List.mem_append_right _ (List.mem_of_getElem? (i := 5) rfl))))), List.forall_mem_cons.mpr ⟨(List.mem_append_right _ (List.mem_append_right _ (List.mem_append_right _ (List.mem_append_right _ (List.mem_of_getElem? (i := 2) rfl))))), List.forall_mem_cons.mpr ⟨(List.mem_append_right _ (List.mem_append_right _ (List.mem_append_right _ (List.mem_append_right _ (List.mem_of_getElem? (i := 4) rfl))))), List.forall_mem_cons.mpr ⟨(List.mem_append_left _ (List.mem_of_getElem? (i := 78) rfl)), List.forall_mem_cons.mpr ⟨(List.mem_append_right _ (List.mem_append_right _ (List.mem_append_right _ (List.mem_append_right _ (List.mem_of_getElem? (i := 48) rfl))))), List.forall_mem_cons.mpr ⟨(List.mem_append_right _ (List.mem_append_right _ (List.mem_append_right _ (List.mem_append_right _ (List.mem_of_getElem? (i := 56) rfl))))), List.forall_mem_cons.mpr ⟨(List.mem_append_right _ (List.mem_append_right _ (List.mem_append_right _ (List.mem_append_right _ (List.mem_of_getElem? (i := 52) rfl))))), List.forall_mem_cons.mpr ⟨(List.mem_append_right _ (List.mem_append_right _ (List.mem_append_right _ (List.mem_append_right _ (List.mem_of_getElem? (i := 53) rfl))))), List.forall_mem_cons.mpr ⟨(List.mem_append_right _ (List.mem_append_right _ (List.mem_append_right _ (List.mem_append_right _ (List.mem_of_getElem? (i := 55) rfl))))), List.forall_mem_cons.mpr ⟨(List.mem_append_left _ (List.mem_of_getElem? (i := 89) rfl)), List.forall_mem_cons.mpr ⟨(List.mem_append_right _ (List.mem_append_right _ (List.mem_append_right _ (List.mem_append_left _ (List.mem_of_getElem? (i := 229) rfl))))), List.forall_mem_cons.mpr ⟨(List.mem_append_right _ (List.mem_append_right _ (List.mem_append_right _ (List.mem_append_right _ (List.mem_of_getElem? (i := 29) rfl))))), List.forall_mem_cons.mpr ⟨(List.mem_append_right _ (List.mem_append_right _ (List.mem_append_right _ (List.mem_append_right _ (List.mem_of_getElem? (i := 60) rfl))))), fun _ h => absurd h List.not_mem_nil⟩⟩⟩⟩⟩⟩⟩⟩⟩⟩⟩⟩⟩⟩⟩⟩⟩⟩⟩⟩⟩⟩⟩⟩⟩
theorem bg_18 : B18.all goodWord = true := by decide +kernel
theorem bi_19 : ∀ w ∈ B19, w ∈ lw_tbl := List.forall_mem_cons.mpr ⟨(List.mem_append_right _ (List.mem_append_right _ (List.mem_append_right _ (List.mem_append_right _ (List.mem_of_getElem? (i := 33) rfl))))), List.forall_mem_cons.mpr ⟨(List.mem_append_right _ (List.mem_append_right _ (List.mem_append_right _ (List.mem_append_right _ (List.mem_of_getElem? (i := 36) rfl))))), List.forall_mem_cons.mpr ⟨(List.mem_append_right _ (List.mem_append_right _ (List.mem_append_right _ (List.mem_append_right _ (List.mem_of_getElem? (i := 45) rfl))))), List.forall_mem_cons.mpr ⟨(List.mem_append_right _ (List.mem_append_right _ (List.mem_append_right _ (List.mem_append_right _ (List.mem_of_getElem? (i := 47) rfl))))), List.forall_mem_cons.mpr ⟨(List.mem_append_left _ (List.mem_of_getElem? (i := 87) rfl)), List.forall_mem_cons.mpr ⟨(List.mem_append_right _ (List.mem_append_right _ (List.mem_append_right _ (List.mem_append_right _ (List.mem_of_getElem? (i := 80) rfl))))), List.forall_mem_cons.mpr ⟨(List.mem_append_right _ (List.mem_append_right _ (List.mem_append_right _ (List.mem_append_left _ (List.mem_of_getElem? (i := 185) rfl))))), List.forall_mem_cons.mpr ⟨(List.mem_append_right _ (List.mem_append_right _ (List.mem_append_right _ (List.mem_append_left _ (List.mem_of_getElem? (i := 193) rfl))))), List.forall_mem_cons.mpr ⟨(List.mem_append_right _ (List.mem_append_right _ (List.mem_append_right _ (List.mem_append_left _ (List.mem_of_getElem? (i := 194) rfl))))), List.forall_mem_cons.mpr ⟨(List.mem_append_right _ (List.mem_append_right _ (List.mem_append_right _ (List.mem_append_left _ (List.mem_of_getElem? (i := 196) rfl))))), List.forall_mem_cons.mpr ⟨(List.mem_append_left _ (List.mem_of_getElem? (i := 69) rfl)), List.forall_mem_cons.mpr ⟨(List.mem_append_right _ (List.mem_append_right _ (List.mem_append_right _ (List.mem_append_left _ (List.mem_of_getElem? (i := 209) rfl))))), List.forall_mem_cons.mpr ⟨(List.mem_append_right _ (List.mem_append_right _ (List.mem_append_right _ (List.mem_append_left _ (List.mem_of_getElem? (i := 217) rfl))))), List.forall_mem_cons.mpr ⟨(List.mem_append_right _ (List.mem_append_right _ (List.mem_append_right _ (List.mem_append_left _ (List.mem_of_getElem? (i := 226) rfl))))), List.forall_mem_cons.mpr ⟨(List.mem_append_right _ (List.mem_append_right _ (List.mem_append_right _ (List.mem_append_left _ (List.mem_of_getElem? (i := 228) rfl))))), List.forall_mem_cons.mpr ⟨(List.mem_append_left _ (List.mem_of_getElem? (i := 75) rfl)), List.forall_mem_cons.mpr ⟨(List.mem_append_right _ (List.mem_append_right _ (List.mem_append_right _ (List.mem_append_left _ (List.mem_of_getElem? (i := 238) rfl))))), List.forall_mem_cons.mpr ⟨(List.mem_append_right _ (List.mem_append_right _ (List.mem_append_right _ (List.mem_append_right _ (List.mem_of_getElem? (i := 0) rfl))))), List.forall_mem_cons.mpr ⟨(List.mem_append_left _ (List.mem_of_getElem? (i := 77) rfl)), List.forall_mem_cons.mpr ⟨(List.mem_append_right _ (List.mem_append_right _ (List.mem_append_right _ (List.mem_append_right _ (List.mem_of_getElem? (i := 26) rfl))))), List.forall_mem_cons.mpr ⟨(List.mem_append_right _ (List.mem_append_right _ (List.mem_append_right _ (List.mem_append_right _ (List.mem_of_getElem? (i := 28) rfl))))), List.forall_mem_cons.mpr ⟨(List.mem_append_left _ (List.mem_of_getElem? (i := 84) rfl)), List.forall_mem_cons.mpr ⟨(List.mem_append_right _ (List.mem_append_right _ (List.mem_append_right _ (List.mem_append_right _ (List.mem_of_getElem? (i := 30) rfl))))), List.forall_mem_cons.mpr ⟨(List.mem_append_right _ (List.mem_append_right _ (List.mem_append_right _ (List.mem_append_right _ (List.mem_of_getElem? (i := 32) rfl))))), List.forall_mem_cons.mpr ⟨(List.mem_append_left _ (List.mem_of_getElem? (i := 85) rfl)), fun _ h => absurd h List.not_mem_nil⟩⟩⟩⟩⟩⟩⟩⟩⟩⟩⟩⟩⟩⟩⟩⟩⟩⟩⟩⟩⟩⟩⟩⟩⟩
theorem bg_19 : B19.all goodWord = true := by decide +kernel
theorem bi_20 : ∀ w ∈ B20, w ∈ lw_tbl := List.forall_mem_cons.mpr ⟨(List.mem_append_right _ (List.mem_append_right _ (List.mem_append_right _ (List.mem_append_right _ (List.mem_of_getElem? (i := 34) rfl))))), List.forall_mem_cons.mpr ⟨(List.mem_append_right _ (List.mem_append_right _ (List.mem_append_right _ (List.mem_append_right _ (List.mem_of_getElem? (i := 35) rfl))))), List.forall_mem_cons.mpr ⟨(List.mem_append_right _ (List.mem_append_right _ (List.mem_append_right _ (List.mem_append_left _ (List.mem_of_getElem? (i := 237) rfl))))), List.forall_mem_cons.mpr ⟨(List.mem_append_right _ (List.mem_append_right _ (List.mem_append_right _ (List.mem_append_right _ (List.mem_of_getElem? (i := 49) rfl))))), List.forall_mem_cons.mpr ⟨(List.mem_append_right _ (List.mem_append_right _ (List.mem_append_right _ (List.mem_append_right _ (List.mem_of_getElem? (i := 51) rfl))))), List.forall_mem_cons.mpr ⟨(List.mem_append_left _ (List.mem_of_getElem? (i := 88) rfl)), List.forall_mem_cons.mpr ⟨(List.mem_append_right _ (List.mem_append_right _ (List.mem_append_right _ (List.mem_append_right _ (List.mem_of_getElem? (i := 57) rfl))))), List.forall_mem_cons.mpr ⟨(List.mem_append_right _ (List.mem_append_right _ (List.mem_append_right _ (List.mem_append_right _ (List.mem_of_getElem? (i := 59) rfl))))), List.forall_mem_cons.mpr ⟨(List.mem_append_left _ (List.mem_of_getElem? (i := 90) rfl)), List.forall_mem_cons.mpr ⟨(List.mem_append_right _ (List.mem_append_right _ (List.mem_append_right _ (List.mem_append_right _ (List.mem_of_getElem? (i := 44) rfl))))), List.forall_mem_cons.mpr ⟨(List.mem_append_right _ (List.mem_append_right _ (List.mem_append_right _ (List.mem_append_right _ (List.mem_of_getElem? (i := 68) rfl))))), List.forall_mem_cons.mpr ⟨(List.mem_append_right _ (List.mem_append_right _ (List.mem_append_right _ (List.mem_append_right _ (List.mem_of_getElem? (i := 77) rfl))))), List.forall_mem_cons.mpr ⟨(List.mem_append_right _ (List.mem_append_right _ (List.mem_append_right _ (List.mem_append_right _ (List.mem_of_getElem? (i := 79) rfl))))), List.forall_mem_cons.mpr ⟨(List.mem_append_left _ (List.mem_of_getElem? (i := 93) rfl)), List.forall_mem_cons.mpr ⟨(List.mem_append_right _ (List.mem_append_right _ (List.mem_append_right _ (List.mem_append_right _ (List.mem_of_getElem? (i := 76) rfl))))), List.forall_mem_cons.mpr ⟨(List.mem_append_right _ (List.mem_append_right _ (List.mem_append_right _ (List.mem_append_left _ (List.mem_of_getElem? (i := 166) rfl))))), List.forall_mem_cons.mpr ⟨(List.mem_append_right _ (List.mem_append_right _ (List.mem_append_right _ (List.mem_append_left _ (List.mem_of_getElem? (i := 170) rfl))))), List.forall_mem_cons.mpr ⟨(List.mem_append_right _ (List.mem_append_right _ (List.mem_append_right _ (List.mem_append_left _ (List.mem_of_getElem? (i := 172) rfl))))), List.forall_mem_cons.mpr ⟨(List.mem_append_left _ (List.mem_of_getElem? (i := 65) rfl)), List.forall_mem_cons.mpr ⟨(List.mem_append_right _ (List.mem_append_right _ (List.mem_append_right _ (List.mem_append_left _ (List.mem_of_getElem? (i := 174) rfl))))), List.forall_mem_cons.mpr ⟨(List.mem_append_right _ (List.mem_append_right _ (List.mem_append_right _ (List.mem_append_left _ (List.mem_of_getElem? (i := 176) rfl))))), List.forall_mem_cons.mpr ⟨(List.mem_append_left _ (List.mem_of_getElem? (i := 66) rfl)), List.forall_mem_cons.mpr ⟨(List.mem_append_right _ (List.mem_append_right _ (List.mem_append_right _ (List.mem_append_left _ (List.mem_of_getElem? (i := 181) rfl))))), List.forall_mem_cons.mpr ⟨(List.mem_append_right _ (List.mem_append_right _ (List.mem_append_right _ (List.mem_append_left _ (List.mem_of_getElem? (i := 182) rfl))))), List.forall_mem_cons.mpr ⟨(List.mem_append_right _ (List.mem_append_right _ (List.mem_append_right _ (List.mem_append_left _ (List.mem_of_getElem? (i := 184) rfl))))), fun _ h => absurd h List.not_mem_nil⟩⟩⟩⟩⟩⟩⟩⟩⟩⟩⟩⟩⟩⟩⟩⟩⟩⟩⟩⟩⟩⟩⟩⟩⟩
theorem bg_20 : B20.all goodWord = true := by decide +kernel
theorem bi_21 : ∀ w ∈ B21, w ∈ lw_tbl := List.forall_mem_cons.mpr ⟨(List.mem_append_left _ (List.mem_of_getElem? (i := 67) rfl)), List.forall_mem_cons.mpr ⟨(List.mem_append_right _ (List.mem_append_right _ (List.mem_append_right _ (List.mem_append_left _ (List.mem_of_getElem? (i := 190) rfl))))), List.forall_mem_cons.mpr ⟨(List.mem_append_right _ (List.mem_append_right _ (List.mem_append_right _ (List.mem_append_left _ (List.mem_of_getElem? (i := 192) rfl))))), List.forall_mem_cons.mpr ⟨(List.mem_append_left _ (List.mem_of_getElem? (i := 68) rfl)), List.forall_mem_cons.mpr ⟨(List.mem_append_right _ (List.mem_append_right _ (List.mem_append_right _ (List.mem_append_left _ (List.mem_of_getElem? (i := 189) rfl))))), List.forall_mem_cons.mpr ⟨(List.mem_append_right _ (List.mem_append_right _ (List.mem_append_right _ (List.mem_append_left _ (List.mem_of_getElem? (i := 205) rfl))))), List.forall_mem_cons.mpr ⟨(List.mem_append_right _ (List.mem_append_right _ (List.mem_append_right _ (List.mem_append_left _ (List.mem_of_getElem? (i := 206) rfl))))), List.forall_mem_cons.mpr ⟨(List.mem_append_right _ (List.mem_append_right _ (List.mem_append_right _ (List.mem_append_left _ (List.mem_of_getElem? (i := 208) rfl))))), List.forall_mem_cons.mpr ⟨(List.mem_append_left _ (List.mem_of_getElem? (i := 71) rfl)), List.forall_mem_cons.mpr ⟨(List.mem_append_right _ (List.mem_append_right _ (List.mem_append_right _ (List.mem_append_left _ (List.mem_of_getElem? (i := 214) rfl))))), List.forall_mem_cons.mpr ⟨(List.mem_append_right _ (List.mem_append_right _ (List.mem_append_right _ (List.mem_append_left _ (List.mem_of_getElem? (i := 216) rfl))))), List.forall_mem_cons.mpr ⟨(List.mem_append_left _ (List.mem_of_getElem? (i := 72) rfl)), List.forall_mem_cons.mpr ⟨(List.mem_append_right _ (List.mem_append_right _ (List.mem_append_right _ (List.mem_append_left _ (List.mem_of_getElem? (i := 213) rfl))))), List.forall_mem_cons.mpr ⟨(List.mem_append_right _ (List.mem_append_right _ (List.mem_append_right _ (List.mem_append_left _ (List.mem_of_getElem? (i := 234) rfl))))), List.forall_mem_cons.mpr ⟨(List.mem_append_right _ (List.mem_append_right _ (List.mem_append_right _ (List.mem_append_left _ (List.mem_of_getElem? (i := 236) rfl))))), List.forall_mem_cons.mpr ⟨(List.mem_append_left _ (List.mem_of_getElem? (i := 76) rfl)), List.forall_mem_cons.mpr ⟨(List.mem_append_right _ (List.mem_append_right _ (List.mem_append_right _ (List.mem_append_left _ (List.mem_of_getElem? (i := 233) rfl))))), List.forall_mem_cons.mpr ⟨(List.mem_append_right _ (List.mem_append_right _ (List.mem_append_right _ (List.mem_append_right _ (List.mem_of_getElem? (i := 41) rfl))))), List.forall_mem_cons.mpr ⟨(List.mem_append_right _ (List.mem_append_right _ (List.mem_append_right _ (List.mem_append_right _ (List.mem_of_getElem? (i := 43) rfl))))), List.forall_mem_cons.mpr ⟨(List.mem_append_left _ (List.mem_of_getElem? (i := 86) rfl)), List.forall_mem_cons.mpr ⟨(List.mem_append_right _ (List.mem_append_right _ (List.mem_append_right _ (List.mem_append_right _ (List.mem_of_getElem? (i := 40) rfl))))), List.forall_mem_cons.mpr ⟨(List.mem_append_right _ (List.mem_append_right _ (List.mem_append_right _ (List.mem_append_right _ (List.mem_of_getElem? (i := 65) rfl))))), List.forall_mem_cons.mpr ⟨(List.mem_append_right _ (List.mem_append_right _ (List.mem_append_right _ (List.mem_append_right _ (List.mem_of_getElem? (i := 67) rfl))))), List.forall_mem_cons.mpr ⟨(List.mem_append_left _ (List.mem_of_getElem? (i := 91) rfl)), List.forall_mem_cons.mpr ⟨(List.mem_append_right _ (List.mem_append_right _ (List.mem_append_right _ (List.mem_append_right _ (List.mem_of_getElem? (i := 64) rfl))))), fun _ h => absurd h List.not_mem_nil⟩⟩⟩⟩⟩⟩⟩⟩⟩⟩⟩⟩⟩⟩⟩⟩⟩⟩⟩⟩⟩⟩⟩⟩⟩
theorem bg_21 : B21.all goodWord = true := by decide +kernel
theorem bi_22 : ∀ w ∈ B22, w ∈ lw_tbl := List.forall_mem_cons.mpr ⟨(List.mem_append_right _ (List.mem_append_right _ (List.mem_append_right _ (List.mem_append_right _ (List.mem_of_getElem? (i := 73) rfl))))), List.forall_mem_cons.mpr ⟨(List.mem_append_right _ (List.mem_append_right _ (List.mem_append_right _ (List.mem_append_right _ (List.mem_of_getElem? (i := 75) rfl))))), List.forall_mem_cons.mpr ⟨(List.mem_append_left _ (List.mem_of_getElem? (i := 92) rfl)), List.forall_mem_cons.mpr ⟨(List.mem_append_right _ (List.mem_append_right _ (List.mem_append_right _ (List.mem_append_right _ (List.mem_of_getElem? (i := 72) rfl))))), List.forall_mem_cons.mpr ⟨(List.mem_append_right _ (List.mem_append_right _ (List.mem_append_right _ (List.mem_append_right _ (List.mem_of_getElem? (i := 92) rfl))))), List.forall_mem_cons.mpr ⟨(List.mem_append_right _ (List.mem_append_right _ (List.mem_append_right _ (List.mem_append_right _ (List.mem_of_getElem? (i := 96) rfl))))), List.forall_mem_cons.mpr ⟨(List.mem_append_right _ (List.mem_append_right _ (List.mem_append_right _ (List.mem_append_right _ (List.mem_of_getElem? (i := 88) rfl))))), List.forall_mem_cons.mpr ⟨(List.mem_append_right _ (List.mem_append_right _ (List.mem_append_right _ (List.mem_append_right _ (List.mem_of_getElem? (i := 85) rfl))))), List.forall_mem_cons.mpr ⟨(List.mem_append_right _ (List.mem_append_right _ (List.mem_append_right _ (List.mem_append_right _ (List.mem_of_getElem? (i := 87) rfl))))), List.forall_mem_cons.mpr ⟨(List.mem_append_left _ (List.mem_of_getElem? (i := 94) rfl)), List.forall_mem_cons.mpr ⟨(List.mem_append_right _ (List.mem_append_right _ (List.mem_append_right _ (List.mem_append_right _ (List.mem_of_getElem? (i := 89) rfl))))), List.forall_mem_cons.mpr ⟨(List.mem_append_right _ (List.mem_append_right _ (List.mem_append_right _ (List.mem_append_right _ (List.mem_of_getElem? (i := 91) rfl))))), List.forall_mem_cons.mpr ⟨(List.mem_append_left _ (List.mem_of_getElem? (i := 95) rfl)), List.forall_mem_cons.mpr ⟨(List.mem_append_right _ (List.mem_append_right _ (List.mem_append_right _ (List.mem_append_right _ (List.mem_of_getElem? (i := 93) rfl))))), List.forall_mem_cons.mpr ⟨(List.mem_append_right _ (List.mem_append_right _ (List.mem_append_right _ (List.mem_append_right _ (List.mem_of_getElem? (i := 95) rfl))))), List.forall_mem_cons.mpr ⟨(List.mem_append_left _ (List.mem_of_getElem? (i := 96) rfl)), List.forall_mem_cons.mpr ⟨(List.mem_append_right _ (List.mem_append_right _ (List.mem_append_right _ (List.mem_append_right _ (List.mem_of_getElem? (i := 84) rfl))))), List.forall_mem_cons.mpr ⟨(List.mem_append_right _ (List.mem_append_right _ (List.mem_append_right _ (List.mem_append_right _ (List.mem_of_getElem? (i := 100) rfl))))), List.forall_mem_cons.mpr ⟨(List.mem_append_right _ (List.mem_append_right _ (List.mem_append_right _ (List.mem_append_right _ (List.mem_of_getElem? (i := 104) rfl))))), List.forall_mem_cons.mpr ⟨(List.mem_append_right _ (List.mem_append_right _ (List.mem_append_right _ (List.mem_append_right _ (List.mem_of_getElem? (i := 112) rfl))))), List.forall_mem_cons.mpr ⟨(List.mem_append_right _ (List.mem_append_right _ (List.mem_append_right _ (List.mem_append_right _ (List.mem_of_getElem? (i := 108) rfl))))), List.forall_mem_cons.mpr ⟨(List.mem_append_right _ (List.mem_append_right _ (List.mem_append_right _ (List.mem_append_right _ (List.mem_of_getElem? (i := 109) rfl))))), List.forall_mem_cons.mpr ⟨(List.mem_append_right _ (List.mem_append_right _ (List.mem_append_right _ (List.mem_append_right _ (List.mem_of_getElem? (i := 111) rfl))))), List.forall_mem_cons.mpr ⟨(List.mem_append_left _ (List.mem_of_getElem? (i := 97) rfl)), List.forall_mem_cons.mpr ⟨(List.mem_append_right _ (List.mem_append_right _ (List.mem_append_right _ (List.mem_append_right _ (List.mem_of_getElem? (i := 116) rfl))))), fun _ h => absurd h List.not_mem_nil⟩⟩⟩⟩⟩⟩⟩⟩⟩⟩⟩⟩⟩⟩⟩⟩⟩⟩⟩⟩⟩⟩⟩⟩⟩
theorem bg_22 : B22.all goodWord = true := by decide +kernel
theorem bi_23 : ∀ w ∈ B23, w ∈ lw_tbl := List.forall_mem_cons.mpr ⟨(List.mem_append_right _ (List.mem_append_right _ (List.mem_append_right _ (List.mem_append_right _ (List.mem_of_getElem? (i := 124) rfl))))), List.forall_mem_cons.mpr ⟨(List.mem_append_right _ (List.mem_append_right _ (List.mem_append_right _ (List.mem_append_left _ (List.mem_of_getElem? (i := 138) rfl))))), List.forall_mem_cons.mpr ⟨(List.mem_append_right _ (List.mem_append_right _ (List.mem_append_right _ (List.mem_append_right _ (List.mem_of_getElem? (i := 121) rfl))))), List.forall_mem_cons.mpr ⟨(List.mem_append_right _ (List.mem_append_right _ (List.mem_append_right _ (List.mem_append_right _ (List.mem_of_getElem? (i := 123) rfl))))), List.forall_mem_cons.mpr ⟨(List.mem_append_left _ (List.mem_of_getElem? (i := 98) rfl)), List.forall_mem_cons.mpr ⟨(List.mem_append_right _ (List.mem_append_right _ (List.mem_append_right _ (List.mem_append_right _ (List.mem_of_getElem? (i := 120) rfl))))), List.forall_mem_cons.mpr ⟨(List.mem_append_right _ (List.mem_append_right _ (List.mem_append_right _ (List.mem_append_right _ (List.mem_of_getElem? (i := 128) rfl))))), List.forall_mem_cons.mpr ⟨(List.mem_append_right _ (List.mem_append_right _ (List.mem_append_right _ (List.mem_append_right _ (List.mem_of_getElem? (i := 132) rfl))))), List.forall_mem_cons.mpr ⟨(List.mem_append_right _ (List.mem_append_right _ (List.mem_append_right _ (List.mem_append_right _ (List.mem_of_getElem? (i := 136) rfl))))), List.forall_mem_cons.mpr ⟨(List.mem_append_right _ (List.mem_append_right _ (List.mem_append_right _ (List.mem_append_right _ (List.mem_of_getElem? (i := 140) rfl))))), List.forall_mem_cons.mpr ⟨(List.mem_append_right _ (List.mem_append_right _ (List.mem_append_right _ (List.mem_append_right _ (List.mem_of_getElem? (i := 144) rfl))))), List.forall_mem_cons.mpr ⟨(List.mem_append_right _ (List.mem_append_right _ (List.mem_append_right _ (List.mem_append_right _ (List.mem_of_getElem? (i := 148) rfl))))), List.forall_mem_cons.mpr ⟨(List.mem_append_right _ (List.mem_append_right _ (List.mem_append_right _ (List.mem_append_right _ (List.mem_of_getElem? (i := 155) rfl))))), List.forall_mem_cons.mpr ⟨(List.mem_append_right _ (List.mem_append_right _ (List.mem_append_right _ (List.mem_append_right _ (List.mem_of_getElem? (i := 156) rfl))))), List.forall_mem_cons.mpr ⟨(List.mem_append_right _ (List.mem_append_right _ (List.mem_append_right _ (List.mem_append_right _ (List.mem_of_getElem? (i := 152) rfl))))), List.forall_mem_cons.mpr ⟨(List.mem_append_right _ (List.mem_append_right _ (List.mem_append_right _ (List.mem_append_right _ (List.mem_of_getElem? (i := 153) rfl))))), List.forall_mem_cons.mpr ⟨(List.mem_append_right _ (List.mem_append_right _ (List.mem_append_right _ (List.mem_append_right _ (List.mem_of_getElem? (i := 154) rfl))))), List.forall_mem_cons.mpr ⟨(List.mem_append_right _ (List.mem_append_right _ (List.mem_append_right _ (List.mem_append_right _ (List.mem_of_getElem? (i := 160) rfl))))), List.forall_mem_cons.mpr ⟨(List.mem_append_right _ (List.mem_append_right _ (List.mem_append_right _ (List.mem_append_right _ (List.mem_of_getElem? (i := 184) rfl))))), List.forall_mem_cons.mpr ⟨(List.mem_append_right _ (List.mem_append_right _ (List.mem_append_right _ (List.mem_append_left _ (List.mem_of_getElem? (i := 139) rfl))))), List.forall_mem_cons.mpr ⟨(List.mem_append_right _ (List.mem_append_right _ (List.mem_append_right _ (List.mem_append_left _ (List.mem_of_getElem? (i := 140) rfl))))), List.forall_mem_cons.mpr ⟨(List.mem_append_right _ (List.mem_append_right _ (List.mem_append_right _ (List.mem_append_right _ (List.mem_of_getElem? (i := 180) rfl))))), List.forall_mem_cons.mpr ⟨(List.mem_append_right _ (List.mem_append_right _ (List.mem_append_right _ (List.mem_append_right _ (List.mem_of_getElem? (i := 181) rfl))))), List.forall_mem_cons.mpr ⟨(List.mem_append_right _ (List.mem_append_right _ (List.mem_append_right _ (List.mem_append_right _ (List.mem_of_getElem? (i := 183) rfl))))), List.forall_mem_cons.mpr ⟨(List.mem_append_left _ (List.mem_of_getElem? (i := 103) rfl)), fun _ h => absurd h List.not_mem_nil⟩⟩⟩⟩⟩⟩⟩⟩⟩⟩⟩⟩⟩⟩⟩⟩⟩⟩⟩⟩⟩⟩⟩⟩⟩
theorem bg_23 : B23.all goodWord = true := by decide +kernel
theorem bi_24 : ∀ w ∈ B24, w ∈ lw_tbl := List.forall_mem_cons.mpr ⟨(List.mem_append_right _ (List.mem_append_right _ (List.mem_append_right _ (List.mem_append_right _ (List.mem_of_getElem? (i := 176) rfl))))), List.forall_mem_cons.mpr ⟨(List.mem_append_right _ (List.mem_append_right _ (List.mem_append_right _ (List.mem_append_right _ (List.mem_of_getElem? (i := 177) rfl))))), List.forall_mem_cons.mpr ⟨(List.mem_append_right _ (List.mem_append_right _ (List.mem_append_right _ (List.mem_append_right _ (List.mem_of_getElem? (i := 179) rfl))))), List.forall_mem_cons.mpr ⟨(List.mem_append_left _ (List.mem_of_getElem? (i := 102) rfl)), List.forall_mem_cons.mpr ⟨(List.mem_append_right _ (List.mem_append_right _ (List.mem_append_right _ (List.mem_append_right _ (List.mem_of_getElem? (i := 173) rfl))))), List.forall_mem_cons.mpr ⟨(List.mem_append_right _ (List.mem_append_right _ (List.mem_append_right _ (List.mem_append_right _ (List.mem_of_getElem? (i := 175) rfl))))), List.forall_mem_cons.mpr ⟨(List.mem_append_left _ (List.mem_of_getElem? (i := 101) rfl)), List.forall_mem_cons.mpr ⟨(List.mem_append_right _ (List.mem_append_right _ (List.mem_append_right _ (List.mem_append_right _ (List.mem_of_getElem? (i := 172) rfl))))), List.forall_mem_cons.mpr ⟨(List.mem_append_right _ (List.mem_append_right _ (List.mem_append_right _ (List.mem_append_right _ (List.mem_of_getElem? (i := 169) rfl))))), List.forall_mem_cons.mpr ⟨(List.mem_append_right _ (List.mem_append_right _ (List.mem_append_right _ (List.mem_append_right _ (List.mem_of_getElem? (i := 171) rfl))))), List.forall_mem_cons.mpr ⟨(List.mem_append_left _ (List.mem_of_getElem? (i := 100) rfl)), List.forall_mem_cons.mpr ⟨(List.mem_append_right _ (List.mem_append_right _ (List.mem_append_right _ (List.mem_append_right _ (List.mem_of_getElem? (i := 168) rfl))))), List.forall_mem_cons.mpr ⟨(List.mem_append_right _ (List.mem_append_right _ (List.mem_append_right _ (List.mem_append_right _ (List.mem_of_getElem? (i := 165) rfl))))), List.forall_mem_cons.mpr ⟨(List.mem_append_right _ (List.mem_append_right _ (List.mem_append_right _ (List.mem_append_right _ (List.mem_of_getElem? (i := 167) rfl))))), List.forall_mem_cons.mpr ⟨(List.mem_append_left _ (List.mem_of_getElem? (i := 99) rfl)), List.forall_mem_cons.mpr ⟨(List.mem_append_right _ (List.mem_append_right _ (List.mem_append_right _ (List.mem_append_right _ (List.mem_of_getElem? (i := 164) rfl))))), List.forall_mem_cons.mpr ⟨(List.mem_append_right _ (List.mem_append_right _ (List.mem_append_right _ (List.mem_append_right _ (List.mem_of_getElem? (i := 188) rfl))))), List.forall_mem_cons.mpr ⟨(List.mem_append_right _ (List.mem_append_right _ (List.mem_append_right _ (List.mem_append_right _ (List.mem_of_getElem? (i := 192) rfl))))), List.forall_mem_cons.mpr ⟨(List.mem_append_right _ (List.mem_append_right _ (List.mem_append_right _ (List.mem_append_right _ (List.mem_of_getElem? (i := 196) rfl))))), List.forall_mem_cons.mpr ⟨(List.mem_append_right _ (List.mem_append_right _ (List.mem_append_right _ (List.mem_append_right _ (List.mem_of_getElem? (i := 200) rfl))))), List.forall_mem_cons.mpr ⟨(List.mem_append_right _ (List.mem_append_right _ (List.mem_append_left _ (List.mem_of_getElem? (i := 21) rfl)))), List.forall_mem_cons.mpr ⟨(List.mem_append_right _ (List.mem_append_left _ (List.mem_of_getElem? (i := 138) rfl))), List.forall_mem_cons.mpr ⟨(List.mem_append_right _ (List.mem_append_left _ (List.mem_of_getElem? (i := 13) rfl))), List.forall_mem_cons.mpr ⟨(List.mem_append_right _ (List.mem_append_left _ (List.mem_of_getElem? (i := 14) rfl))), List.forall_mem_cons.mpr ⟨(List.mem_append_right _ (List.mem_append_right _ (List.mem_append_right _ (List.mem_append_left _ (List.mem_of_getElem? (i := 125) rfl))))), fun _ h => absurd h List.not_mem_nil⟩⟩⟩⟩⟩⟩⟩⟩⟩⟩⟩⟩⟩⟩⟩⟩⟩⟩⟩⟩⟩⟩⟩⟩⟩
theorem bg_24 : B24.all goodWord = true := by decide +kernel
theorem bi_25 : ∀ w ∈ B25, w ∈ lw_tbl := List.forall_mem_cons.mpr ⟨(List.mem_append_right _ (List.mem_append_right _ (List.mem_append_right _ (List.mem_append_left _ (List.mem_of_getElem? (i := 126) rfl))))), List.forall_mem_cons.mpr ⟨(List.mem_append_right _ (List.mem_append_right _ (List.mem_append_right _ (List.mem_append_right _ (List.mem_of_getElem? (i := 201) rfl))))), List.forall_mem_cons.mpr ⟨(List.mem_append_right _ (List.mem_append_left _ (List.mem_of_getElem? (i := 15) rfl))), List.forall_mem_cons.mpr ⟨(List.mem_append_right _ (List.mem_append_left _ (List.mem_of_getElem? (i := 16) rfl))), List.forall_mem_cons.mpr ⟨(List.mem_append_right _ (List.mem_append_right _ (List.mem_append_right _ (List.mem_append_left _ (List.mem_of_getElem? (i := 127) rfl))))), List.forall_mem_cons.mpr ⟨(List.mem_append_right _ (List.mem_append_right _ (List.mem_append_right _ (List.mem_append_left _ (List.mem_of_getElem? (i := 128) rfl))))), List.forall_mem_cons.mpr ⟨(List.mem_append_right _ (List.mem_append_left _ (List.mem_of_getElem? (i := 113) rfl))), List.forall_mem_cons.mpr ⟨(List.mem_append_right _ (List.mem_append_left _ (List.mem_of_getElem? (i := 114) rfl))), List.forall_mem_cons.mpr ⟨(List.mem_append_right _ (List.mem_append_left _ (List.mem_of_getElem? (i := 115) rfl))), List.forall_mem_cons.mpr ⟨(List.mem_append_right _ (List.mem_append_right _ (List.mem_append_right _ (List.mem_append_left _ (List.mem_of_getElem? (i := 163) rfl))))), List.forall_mem_cons.mpr ⟨(List.mem_append_right _ (List.mem_append_right _ (List.mem_append_right _ (List.mem_append_left _ (List.mem_of_getElem? (i := 164) rfl))))), List.forall_mem_cons.mpr ⟨(List.mem_append_right _ (List.mem_append_right _ (List.mem_append_right _ (List.mem_append_left _ (List.mem_of_getElem? (i := 165) rfl))))), List.forall_mem_cons.mpr ⟨(List.mem_append_right _ (List.mem_append_left _ (List.mem_of_getElem? (i := 161) rfl))), List.forall_mem_cons.mpr ⟨(List.mem_append_right _ (List.mem_append_left _ (List.mem_of_getElem? (i := 162) rfl))), List.forall_mem_cons.mpr ⟨(List.mem_append_right _ (List.mem_append_left _ (List.mem_of_getElem? (i := 163) rfl))), List.forall_mem_cons.mpr ⟨(List.mem_append_right _ (List.mem_append_right _ (List.mem_append_right _ (List.mem_append_left _ (List.mem_of_getElem? (i := 178) rfl))))), List.forall_mem_cons.mpr ⟨(List.mem_append_right _ (List.mem_append_right _ (List.mem_append_right _ (List.mem_append_left _ (List.mem_of_getElem? (i := 179) rfl))))), List.forall_mem_cons.mpr ⟨(List.mem_append_right _ (List.mem_append_right _ (List.mem_append_right _ (List.mem_append_left _ (List.mem_of_getElem? (i := 180) rfl))))), List.forall_mem_cons.mpr ⟨(List.mem_append_right _ (List.mem_append_left _ (List.mem_of_getElem? (i := 172) rfl))), List.forall_mem_cons.mpr ⟨(List.mem_append_right _ (List.mem_append_left _ (List.mem_of_getElem? (i := 173) rfl))), List.forall_mem_cons.mpr ⟨(List.mem_append_right _ (List.mem_append_left _ (List.mem_of_getElem? (i := 174) rfl))), List.forall_mem_cons.mpr ⟨(List.mem_append_right _ (List.mem_append_right _ (List.mem_append_right _ (List.mem_append_left _ (List.mem_of_getElem? (i := 186) rfl))))), List.forall_mem_cons.mpr ⟨(List.mem_append_right _ (List.mem_append_right _ (List.mem_append_right _ (List.mem_append_left _ (List.mem_of_getElem? (i := 187) rfl))))), List.forall_mem_cons.mpr ⟨(List.mem_append_right _ (List.mem_append_right _ (List.mem_append_right _ (List.mem_append_left _ (List.mem_of_getElem? (i := 188) rfl))))), List.forall_mem_cons.mpr ⟨(List.mem_append_right _ (List.mem_append_left _ (List.mem_of_getElem? (i := 184) rfl))), fun _ h => absurd h List.not_mem_nil⟩⟩⟩⟩⟩⟩⟩⟩⟩⟩⟩⟩⟩⟩⟩⟩⟩⟩⟩⟩⟩⟩⟩⟩⟩
theorem bg_25 : B25.all goodWord = true := by decide +kernel
theorem bi_26 : ∀ w ∈ B26, w ∈ lw_tbl := List.forall_mem_cons.mpr ⟨(List.mem_append_right _ (List.mem_append_left _ (List.mem_of_getElem? (i := 185) rfl))), List.forall_mem_cons.mpr ⟨(List.mem_append_right _ (List.mem_append_left _ (List.mem_of_getElem? (i := 186) rfl))), List.forall_mem_cons.mpr ⟨(List.mem_append_right _ (List.mem_append_right _ (List.mem_append_right _ (List.mem_append_left _ (List.mem_of_getElem? (i := 202) rfl))))), List.forall_mem_cons.mpr ⟨(List.mem_append_right _ (List.mem_append_right _ (List.mem_append_right _ (List.mem_append_left _ (List.mem_of_getElem? (i := 203) rfl))))), List.forall_mem_cons.mpr ⟨(List.mem_append_right _ (List.mem_append_right _ (List.mem_append_right _ (List.mem_append_left _ (List.mem_of_getElem? (i := 204) rfl))))), List.forall_mem_cons.mpr ⟨(List.mem_append_right _ (List.mem_append_left _ (List.mem_of_getElem? (i := 192) rfl))), List.forall_mem_cons.mpr ⟨(List.mem_append_right _ (List.mem_append_left _ (List.mem_of_getElem? (i := 193) rfl))), List.forall_mem_cons.mpr ⟨(List.mem_append_right _ (List.mem_append_left _ (List.mem_of_getElem? (i := 194) rfl))), List.forall_mem_cons.mpr ⟨(List.mem_append_right _ (List.mem_append_right _ (List.mem_append_right _ (List.mem_append_left _ (List.mem_of_getElem? (i := 210) rfl))))), List.forall_mem_cons.mpr ⟨(List.mem_append_right _ (List.mem_append_right _ (List.mem_append_right _ (List.mem_append_left _ (List.mem_of_getElem? (i := 211) rfl))))), List.forall_mem_cons.mpr ⟨(List.mem_append_right _ (List.mem_append_right _ (List.mem_append_right _ (List.mem_append_left _ (List.mem_of_getElem? (i := 212) rfl))))), List.forall_mem_cons.mpr ⟨(List.mem_append_right _ (List.mem_append_left _ (List.mem_of_getElem? (i := 223) rfl))), List.forall_mem_cons.mpr ⟨(List.mem_append_right _ (List.mem_append_left _ (List.mem_of_getElem? (i := 224) rfl))), List.forall_mem_cons.mpr ⟨(List.mem_append_right _ (List.mem_append_left _ (List.mem_of_getElem? (i := 225) rfl))), List.forall_mem_cons.mpr ⟨(List.mem_append_right _ (List.mem_append_right _ (List.mem_append_right _ (List.mem_append_left _ (List.mem_of_getElem? (i := 230) rfl))))), List.forall_mem_cons.mpr ⟨(List.mem_append_right _ (List.mem_append_right _ (List.mem_append_right _ (List.mem_append_left _ (List.mem_of_getElem? (i := 231) rfl))))), List.forall_mem_cons.mpr ⟨(List.mem_append_right _ (List.mem_append_right _ (List.mem_append_right _ (List.mem_append_left _ (List.mem_of_getElem? (i := 232) rfl))))), List.forall_mem_cons.mpr ⟨(List.mem_append_right _ (List.mem_append_right _ (List.mem_append_left _ (List.mem_of_getElem? (i := 34) rfl)))), List.forall_mem_cons.mpr ⟨(List.mem_append_right _ (List.mem_append_right _ (List.mem_append_left _ (List.mem_of_getElem? (i := 35) rfl)))), List.forall_mem_cons.mpr ⟨(List.mem_append_right _ (List.mem_append_right _ (List.mem_append_left _ (List.mem_of_getElem? (i := 36) rfl)))), List.forall_mem_cons.mpr ⟨(List.mem_append_right _ (List.mem_append_right _ (List.mem_append_right _ (List.mem_append_right _ (List.mem_of_getElem? (i := 37) rfl))))), List.forall_mem_cons.mpr ⟨(List.mem_append_right _ (List.mem_append_right _ (List.mem_append_right _ (List.mem_append_right _ (List.mem_of_getElem? (i := 38) rfl))))), List.forall_mem_cons.mpr ⟨(List.mem_append_right _ (List.mem_append_right _ (List.mem_append_right _ (List.mem_append_right _ (List.mem_of_getElem? (i := 39) rfl))))), List.forall_mem_cons.mpr ⟨(List.mem_append_right _ (List.mem_append_right _ (List.mem_append_left _ (List.mem_of_getElem? (i := 58) rfl)))), List.forall_mem_cons.mpr ⟨(List.mem_append_right _ (List.mem_append_right _ (List.mem_append_left _ (List.mem_of_getElem? (i := 59) rfl)))), fun _ h => absurd h List.not_mem_nil⟩⟩⟩⟩⟩⟩⟩⟩⟩⟩⟩⟩⟩⟩⟩⟩⟩⟩⟩⟩⟩⟩⟩⟩⟩
theorem bg_26 : B26.all goodWord = true := by decide +kernel
theorem bi_27 : ∀ w ∈ B27, w ∈ lw_tbl := List.forall_mem_cons.mpr ⟨(List.mem_append_right _ (List.mem_append_right _ (List.mem_append_left _ (List.mem_of_getElem? (i := 60) rfl)))), List.forall_mem_cons.mpr ⟨(List.mem_append_right _ (List.mem_append_right _ (List.mem_append_right _ (List.mem_append_right _ (List.mem_of_getElem? (i := 61) rfl))))), List.forall_mem_cons.mpr ⟨(List.mem_append_right _ (List.mem_append_right _ (List.mem_append_right _ (List.mem_append_right _ (List.mem_of_getElem? (i := 62) rfl))))), List.forall_mem_cons.mpr ⟨(List.mem_append_right _ (List.mem_append_right _ (List.mem_append_right _ (List.mem_append_right _ (List.mem_of_getElem? (i := 63) rfl))))), List.forall_mem_cons.mpr ⟨(List.mem_append_right _ (List.mem_append_right _ (List.mem_append_left _ (List.mem_of_getElem? (i := 66) rfl)))), List.forall_mem_cons.mpr ⟨(List.mem_append_right _ (List.mem_append_right _ (List.mem_append_left _ (List.mem_of_getElem? (i := 67) rfl)))), List.forall_mem_cons.mpr ⟨(List.mem_append_right _ (List.mem_append_right _ (List.mem_append_left _ (List.mem_of_getElem? (i := 68) rfl)))), List.forall_mem_cons.mpr ⟨(List.mem_append_right _ (List.mem_append_right _ (List.mem_append_right _ (List.mem_append_right _ (List.mem_of_getElem? (i := 69) rfl))))), List.forall_mem_cons.mpr ⟨(List.mem_append_right _ (List.mem_append_right _ (List.mem_append_right _ (List.mem_append_right _ (List.mem_of_getElem? (i := 70) rfl))))), List.forall_mem_cons.mpr ⟨(List.mem_append_right _ (List.mem_append_right _ (List.mem_append_right _ (List.mem_append_right _ (List.mem_of_getElem? (i := 71) rfl))))), List.forall_mem_cons.mpr ⟨(List.mem_append_right _ (List.mem_append_right _ (List.mem_append_left _ (List.mem_of_getElem? (i := 85) rfl)))), List.forall_mem_cons.mpr ⟨(List.mem_append_right _ (List.mem_append_right _ (List.mem_append_left _ (List.mem_of_getElem? (i := 86) rfl)))), List.forall_mem_cons.mpr ⟨(List.mem_append_right _ (List.mem_append_right _ (List.mem_append_left _ (List.mem_of_getElem? (i := 87) rfl)))), List.forall_mem_cons.mpr ⟨(List.mem_append_right _ (List.mem_append_right _ (List.mem_append_right _ (List.mem_append_right _ (List.mem_of_getElem? (i := 81) rfl))))), List.forall_mem_cons.mpr ⟨(List.mem_append_right _ (List.mem_append_right _ (List.mem_append_right _ (List.mem_append_right _ (List.mem_of_getElem? (i := 82) rfl))))), List.forall_mem_cons.mpr ⟨(List.mem_append_right _ (List.mem_append_right _ (List.mem_append_right _ (List.mem_append_right _ (List.mem_of_getElem? (i := 83) rfl))))), List.forall_mem_cons.mpr ⟨(List.mem_append_right _ (List.mem_append_right _ (List.mem_append_left _ (List.mem_of_getElem? (i := 101) rfl)))), List.forall_mem_cons.mpr ⟨(List.mem_append_right _ (List.mem_append_right _ (List.mem_append_left _ (List.mem_of_getElem? (i := 102) rfl)))), List.forall_mem_cons.mpr ⟨(List.mem_append_right _ (List.mem_append_right _ (List.mem_append_left _ (List.mem_of_getElem? (i := 103) rfl)))), List.forall_mem_cons.mpr ⟨(List.mem_append_right _ (List.mem_append_right _ (List.mem_append_right _ (List.mem_append_right _ (List.mem_of_getElem? (i := 97) rfl))))), List.forall_mem_cons.mpr ⟨(List.mem_append_right _ (List.mem_append_right _ (List.mem_append_right _ (List.mem_append_right _ (List.mem_of_getElem? (i := 98) rfl))))), List.forall_mem_cons.mpr ⟨(List.mem_append_right _ (List.mem_append_right _ (List.mem_append_right _ (List.mem_append_right _ (List.mem_of_getElem? (i := 99) rfl))))), List.forall_mem_cons.mpr ⟨(List.mem_append_right _ (List.mem_append_right _ (List.mem_append_left _ (List.mem_of_getElem? (i := 109) rfl)))), List.forall_mem_cons.mpr ⟨(List.mem_append_right _ (List.mem_append_right _ (List.mem_append_left _ (List.mem_of_getElem? (i := 110) rfl)))), List.forall_mem_cons.mpr ⟨(List.mem_append_right _ (List.mem_append_right _ (List.mem_append_left _ (List.mem_of_getElem? (i := 111) rfl)))), fun _ h => absurd h List.not_mem_nil⟩⟩⟩⟩⟩⟩⟩⟩⟩⟩⟩⟩⟩⟩⟩⟩⟩⟩⟩⟩⟩⟩⟩⟩⟩
theorem bg_27 : B27.all goodWord = true := by decide +kernel
theorem bi_28 : ∀ w ∈ B28, w ∈ lw_tbl := List.forall_mem_cons.mpr ⟨(List.mem_append_right _ (List.mem_append_right _ (List.mem_append_right _ (List.mem_append_right _ (List.mem_of_getElem? (i := 101) rfl))))), List.forall_mem_cons.mpr ⟨(List.mem_append_right _ (List.mem_append_right _ (List.mem_append_right _ (List.mem_append_right _ (List.mem_of_getElem? (i := 102) rfl))))), List.forall_mem_cons.mpr ⟨(List.mem_append_right _ (List.mem_append_right _ (List.mem_append_right _ (List.mem_append_right _ (List.mem_of_getElem? (i := 103) rfl))))), List.forall_mem_cons.mpr ⟨(List.mem_append_right _ (List.mem_append_right _ (List.mem_append_left _ (List.mem_of_getElem? (i := 117) rfl)))), List.forall_mem_cons.mpr ⟨(List.mem_append_right _ (List.mem_append_right _ (List.mem_append_left _ (List.mem_of_getElem? (i := 118) rfl)))), List.forall_mem_cons.mpr ⟨(List.mem_append_right _ (List.mem_append_right _ (List.mem_append_left _ (List.mem_of_getElem? (i := 119) rfl)))), List.forall_mem_cons.mpr ⟨(List.mem_append_right _ (List.mem_append_right _ (List.mem_append_right _ (List.mem_append_right _ (List.mem_of_getElem? (i := 105) rfl))))), List.forall_mem_cons.mpr ⟨(List.mem_append_right _ (List.mem_append_right _ (List.mem_append_right _ (List.mem_append_right _ (List.mem_of_getElem? (i := 106) rfl))))), List.forall_mem_cons.mpr ⟨(List.mem_append_right _ (List.mem_append_right _ (List.mem_append_right _ (List.mem_append_right _ (List.mem_of_getElem? (i := 107) rfl))))), List.forall_mem_cons.mpr ⟨(List.mem_append_right _ (List.mem_append_right _ (List.mem_append_left _ (List.mem_of_getElem? (i := 133) rfl)))), List.forall_mem_cons.mpr ⟨(List.mem_append_right _ (List.mem_append_right _ (List.mem_append_left _ (List.mem_of_getElem? (i := 134) rfl)))), List.forall_mem_cons.mpr ⟨(List.mem_append_right _ (List.mem_append_right _ (List.mem_append_left _ (List.mem_of_getElem? (i := 135) rfl)))), List.forall_mem_cons.mpr ⟨(List.mem_append_right _ (List.mem_append_right _ (List.mem_append_right _ (List.mem_append_right _ (List.mem_of_getElem? (i := 113) rfl))))), List.forall_mem_cons.mpr ⟨(List.mem_append_right _ (List.mem_append_right _ (List.mem_append_right _ (List.mem_append_right _ (List.mem_of_getElem? (i := 114) rfl))))), List.forall_mem_cons.mpr ⟨(List.mem_append_right _ (List.mem_append_right _ (List.mem_append_right _ (List.mem_append_right _ (List.mem_of_getElem? (i := 115) rfl))))), List.forall_mem_cons.mpr ⟨(List.mem_append_right _ (List.mem_append_right _ (List.mem_append_left _ (List.mem_of_getElem? (i := 141) rfl)))), List.forall_mem_cons.mpr ⟨(List.mem_append_right _ (List.mem_append_right _ (List.mem_append_left _ (List.mem_of_getElem? (i := 142) rfl)))), List.forall_mem_cons.mpr ⟨(List.mem_append_right _ (List.mem_append_right _ (List.mem_append_left _ (List.mem_of_getElem? (i := 143) rfl)))), List.forall_mem_cons.mpr ⟨(List.mem_append_right _ (List.mem_append_right _ (List.mem_append_right _ (List.mem_append_right _ (List.mem_of_getElem? (i := 117) rfl))))), List.forall_mem_cons.mpr ⟨(List.mem_append_right _ (List.mem_append_right _ (List.mem_append_right _ (List.mem_append_right _ (List.mem_of_getElem? (i := 118) rfl))))), List.forall_mem_cons.mpr ⟨(List.mem_append_right _ (List.mem_append_right _ (List.mem_append_right _ (List.mem_append_right _ (List.mem_of_getElem? (i := 119) rfl))))), List.forall_mem_cons.mpr ⟨(List.mem_append_right _ (List.mem_append_right _ (List.mem_append_left _ (List.mem_of_getElem? (i := 158) rfl)))), List.forall_mem_cons.mpr ⟨(List.mem_append_right _ (List.mem_append_right _ (List.mem_append_left _ (List.mem_of_getElem? (i := 159) rfl)))), List.forall_mem_cons.mpr ⟨(List.mem_append_right _ (List.mem_append_right _ (List.mem_append_left _ (List.mem_of_getElem? (i := 160) rfl)))), List.forall_mem_cons.mpr ⟨(List.mem_append_right _ (List.mem_append_right _ (List.mem_append_right _ (List.mem_append_right _ (List.mem_of_getElem? (i := 125) rfl))))), fun _ h => absurd h List.not_mem_nil⟩⟩⟩⟩⟩⟩⟩⟩⟩⟩⟩⟩⟩⟩⟩⟩⟩⟩⟩⟩⟩⟩⟩⟩⟩
theorem bg_28 : B28.all goodWord = true := by decide +kernel
theorem bi_29 : ∀ w ∈ B29, w ∈ lw_tbl := List.forall_mem_cons.mpr ⟨(List.mem_append_right _ (List.mem_append_right _ (List.mem_append_right _ (List.mem_append_right _ (List.mem_of_getElem? (i := 126) rfl))))), List.forall_mem_cons.mpr ⟨(List.mem_append_right _ (List.mem_append_right _ (List.mem_append_right _ (List.mem_append_right _ (List.mem_of_getElem? (i := 127) rfl))))), List.forall_mem_cons.mpr ⟨(List.mem_append_right _ (List.mem_append_right _ (List.mem_append_left _ (List.mem_of_getElem? (i := 165) rfl)))), List.forall_mem_cons.mpr ⟨(List.mem_append_right _ (List.mem_append_right _ (List.mem_append_left _ (List.mem_of_getElem? (i := 166) rfl)))), List.forall_mem_cons.mpr ⟨(List.mem_append_right _ (List.mem_append_right _ (List.mem_append_left _ (List.mem_of_getElem? (i := 167) rfl)))), List.forall_mem_cons.mpr ⟨(List.mem_append_right _ (List.mem_append_right _ (List.mem_append_right _ (List.mem_append_right _ (List.mem_of_getElem? (i := 129) rfl))))), List.forall_mem_cons.mpr ⟨(List.mem_append_right _ (List.mem_append_right _ (List.mem_append_right _ (List.mem_append_right _ (List.mem_of_getElem? (i := 130) rfl))))), List.forall_mem_cons.mpr ⟨(List.mem_append_right _ (List.mem_append_right _ (List.mem_append_right _ (List.mem_append_right _ (List.mem_of_getElem? (i := 131) rfl))))), List.forall_mem_cons.mpr ⟨(List.mem_append_right _ (List.mem_append_right _ (List.mem_append_left _ (List.mem_of_getElem? (i := 172) rfl)))), List.forall_mem_cons.mpr ⟨(List.mem_append_right _ (List.mem_append_right _ (List.mem_append_left _ (List.mem_of_getElem? (i := 173) rfl)))), List.forall_mem_cons.mpr ⟨(List.mem_append_right _ (List.mem_append_right _ (List.mem_append_left _ (List.mem_of_getElem? (i := 174) rfl)))), List.forall_mem_cons.mpr ⟨(List.mem_append_right _ (List.mem_append_right _ (List.mem_append_right _ (List.mem_append_right _ (List.mem_of_getElem? (i := 133) rfl))))), List.forall_mem_cons.mpr ⟨(List.mem_append_right _ (List.mem_append_right _ (List.mem_append_right _ (List.mem_append_right _ (List.mem_of_getElem? (i := 134) rfl))))), List.forall_mem_cons.mpr ⟨(List.mem_append_right _ (List.mem_append_right _ (List.mem_append_right _ (List.mem_append_right _ (List.mem_of_getElem? (i := 135) rfl))))), List.forall_mem_cons.mpr ⟨(List.mem_append_right _ (List.mem_append_right _ (List.mem_append_left _ (List.mem_of_getElem? (i := 192) rfl)))), List.forall_mem_cons.mpr ⟨(List.mem_append_right _ (List.mem_append_right _ (List.mem_append_left _ (List.mem_of_getElem? (i := 193) rfl)))), List.forall_mem_cons.mpr ⟨(List.mem_append_right _ (List.mem_append_right _ (List.mem_append_left _ (List.mem_of_getElem? (i := 194) rfl)))), List.forall_mem_cons.mpr ⟨(List.mem_append_right _ (List.mem_append_right _ (List.mem_append_right _ (List.mem_append_right _ (List.mem_of_getElem? (i := 137) rfl))))), List.forall_mem_cons.mpr ⟨(List.mem_append_right _ (List.mem_append_right _ (List.mem_append_right _ (List.mem_append_right _ (List.mem_of_getElem? (i := 138) rfl))))), List.forall_mem_cons.mpr ⟨(List.mem_append_right _ (List.mem_append_right _ (List.mem_append_right _ (List.mem_append_right _ (List.mem_of_getElem? (i := 139) rfl))))), List.forall_mem_cons.mpr ⟨(List.mem_append_right _ (List.mem_append_right _ (List.mem_append_left _ (List.mem_of_getElem? (i := 200) rfl)))), List.forall_mem_cons.mpr ⟨(List.mem_append_right _ (List.mem_append_right _ (List.mem_append_left _ (List.mem_of_getElem? (i := 201) rfl)))), List.forall_mem_cons.mpr ⟨(List.mem_append_right _ (List.mem_append_right _ (List.mem_append_left _ (List.mem_of_getElem? (i := 202) rfl)))), List.forall_mem_cons.mpr ⟨(List.mem_append_right _ (List.mem_append_right _ (List.mem_append_right _ (List.mem_append_right _ (List.mem_of_getElem? (i := 141) rfl))))), List.forall_mem_cons.mpr ⟨(List.mem_append_right _ (List.mem_append_right _ (List.mem_append_right _ (List.mem_append_right _ (List.mem_of_getElem? (i := 142) rfl))))), fun _ h => absurd h List.not_mem_nil⟩⟩⟩⟩⟩⟩⟩⟩⟩⟩⟩⟩⟩⟩⟩⟩⟩⟩⟩⟩⟩⟩⟩⟩⟩
theorem bg_29 : B29.all goodWord = true := by decide +kernel
theorem bi_30 : ∀ w ∈ B30, w ∈ lw_tbl := List.forall_mem_cons.mpr ⟨(List.mem_append_right _ (List.mem_append_right _ (List.mem_append_right _ (List.mem_append_right _ (List.mem_of_getElem? (i := 143) rfl))))), List.forall_mem_cons.mpr ⟨(List.mem_append_right _ (List.mem_append_right _ (List.mem_append_left _ (List.mem_of_getElem? (i := 206) rfl)))), List.forall_mem_cons.mpr ⟨(List.mem_append_right _ (List.mem_append_right _ (List.mem_append_left _ (List.mem_of_getElem? (i := 207) rfl)))), List.forall_mem_cons.mpr ⟨(List.mem_append_right _ (List.mem_append_right _ (List.mem_append_left _ (List.mem_of_getElem? (i := 208) rfl)))), List.forall_mem_cons.mpr ⟨(List.mem_append_right _ (List.mem_append_right _ (List.mem_append_right _ (List.mem_append_right _ (List.mem_of_getElem? (i := 145) rfl))))), List.forall_mem_cons.mpr ⟨(List.mem_append_right _ (List.mem_append_right _ (List.mem_append_right _ (List.mem_append_right _ (List.mem_of_getElem? (i := 146) rfl))))), List.forall_mem_cons.mpr ⟨(List.mem_append_right _ (List.mem_append_right _ (List.mem_append_right _ (List.mem_append_right _ (List.mem_of_getElem? (i := 147) rfl))))), List.forall_mem_cons.mpr ⟨(List.mem_append_right _ (List.mem_append_right _ (List.mem_append_left _ (List.mem_of_getElem? (i := 211) rfl)))), List.forall_mem_cons.mpr ⟨(List.mem_append_right _ (List.mem_append_right _ (List.mem_append_left _ (List.mem_of_getElem? (i := 212) rfl)))), List.forall_mem_cons.mpr ⟨(List.mem_append_right _ (List.mem_append_right _ (List.mem_append_left _ (List.mem_of_getElem? (i := 213) rfl)))), List.forall_mem_cons.mpr ⟨(List.mem_append_right _ (List.mem_append_right _ (List.mem_append_right _ (List.mem_append_right _ (List.mem_of_getElem? (i := 149) rfl))))), List.forall_mem_cons.mpr ⟨(List.mem_append_right _ (List.mem_append_right _ (List.mem_append_right _ (List.mem_append_right _ (List.mem_of_getElem? (i := 150) rfl))))), List.forall_mem_cons.mpr ⟨(List.mem_append_right _ (List.mem_append_right _ (List.mem_append_right _ (List.mem_append_right _ (List.mem_of_getElem? (i := 151) rfl))))), List.forall_mem_cons.mpr ⟨(List.mem_append_right _ (List.mem_append_right _ (List.mem_append_left _ (List.mem_of_getElem? (i := 229) rfl)))), List.forall_mem_cons.mpr ⟨(List.mem_append_right _ (List.mem_append_right _ (List.mem_append_left _ (List.mem_of_getElem? (i := 230) rfl)))), List.forall_mem_cons.mpr ⟨(List.mem_append_right _ (List.mem_append_right _ (List.mem_append_left _ (List.mem_of_getElem? (i := 231) rfl)))), List.forall_mem_cons.mpr ⟨(List.mem_append_right _ (List.mem_append_right _ (List.mem_append_right _ (List.mem_append_right _ (List.mem_of_getElem? (i := 157) rfl))))), List.forall_mem_cons.mpr ⟨(List.mem_append_right _ (List.mem_append_right _ (List.mem_append_right _ (List.mem_append_right _ (List.mem_of_getElem? (i := 158) rfl))))), List.forall_mem_cons.mpr ⟨(List.mem_append_right _ (List.mem_append_right _ (List.mem_append_right _ (List.mem_append_right _ (List.mem_of_getElem? (i := 159) rfl))))), List.forall_mem_cons.mpr ⟨(List.mem_append_right _ (List.mem_append_right _ (List.mem_append_left _ (List.mem_of_getElem? (i := 233) rfl)))), List.forall_mem_cons.mpr ⟨(List.mem_append_right _ (List.mem_append_right _ (List.mem_append_left _ (List.mem_of_getElem? (i := 234) rfl)))), List.forall_mem_cons.mpr ⟨(List.mem_append_right _ (List.mem_append_right _ (List.mem_append_left _ (List.mem_of_getElem? (i := 235) rfl)))), List.forall_mem_cons.mpr ⟨(List.mem_append_right _ (List.mem_append_right _ (List.mem_append_right _ (List.mem_append_right _ (List.mem_of_getElem? (i := 161) rfl))))), List.forall_mem_cons.mpr ⟨(List.mem_append_right _ (List.mem_append_right _ (List.mem_append_right _ (List.mem_append_right _ (List.mem_of_getElem? (i := 162) rfl))))), List.forall_mem_cons.mpr ⟨(List.mem_append_right _ (List.mem_append_right _ (List.mem_append_right _ (List.mem_append_right _ (List.mem_of_getElem? (i := 163) rfl))))), fun _ h => absurd h List.not_mem_nil⟩⟩⟩⟩⟩⟩⟩⟩⟩⟩⟩⟩⟩⟩⟩⟩⟩⟩⟩⟩⟩⟩⟩⟩⟩
theorem bg_30 : B30.all goodWord = true := by decide +kernel
theorem bi_31 : ∀ w ∈ B31, w ∈ lw_tbl := List.forall_mem_cons.mpr ⟨(List.mem_append_right _ (List.mem_append_right _ (List.mem_append_right _ (List.mem_append_left _ (List.mem_of_getElem? (i := 87) rfl))))), List.forall_mem_cons.mpr ⟨(List.mem_append_right _ (List.mem_append_right _ (List.mem_append_right _ (List.mem_append_left _ (List.mem_of_getElem? (i := 88) rfl))))), List.forall_mem_cons.mpr ⟨(List.mem_append_right _ (List.mem_append_right _ (List.mem_append_right _ (List.mem_append_left _ (List.mem_of_getElem? (i := 89) rfl))))), List.forall_mem_cons.mpr ⟨(List.mem_append_right _ (List.mem_append_right _ (List.mem_append_right _ (List.mem_append_right _ (List.mem_of_getElem? (i := 185) rfl))))), List.forall_mem_cons.mpr ⟨(List.mem_append_right _ (List.mem_append_right _ (List.mem_append_right _ (List.mem_append_right _ (List.mem_of_getElem? (i := 186) rfl))))), List.forall_mem_cons.mpr ⟨(List.mem_append_right _ (List.mem_append_right _ (List.mem_append_right _ (List.mem_append_right _ (List.mem_of_getElem? (i := 187) rfl))))), List.forall_mem_cons.mpr ⟨(List.mem_append_right _ (List.mem_append_right _ (List.mem_append_right _ (List.mem_append_left _ (List.mem_of_getElem? (i := 104) rfl))))), List.forall_mem_cons.mpr ⟨(List.mem_append_right _ (List.mem_append_right _ (List.mem_append_right _ (List.mem_append_left _ (List.mem_of_getElem? (i := 105) rfl))))), List.forall_mem_cons.mpr ⟨(List.mem_append_right _ (List.mem_append_right _ (List.mem_append_right _ (List.mem_append_left _ (List.mem_of_getElem? (i := 106) rfl))))), List.forall_mem_cons.mpr ⟨(List.mem_append_right _ (List.mem_append_right _ (List.mem_append_right _ (List.mem_append_right _ (List.mem_of_getElem? (i := 189) rfl))))), List.forall_mem_cons.mpr ⟨(List.mem_append_right _ (List.mem_append_right _ (List.mem_append_right _ (List.mem_append_right _ (List.mem_of_getElem? (i := 190) rfl))))), List.forall_mem_cons.mpr ⟨(List.mem_append_right _ (List.mem_append_right _ (List.mem_append_right _ (List.mem_append_right _ (List.mem_of_getElem? (i := 191) rfl))))), List.forall_mem_cons.mpr ⟨(List.mem_append_right _ (List.mem_append_right _ (List.mem_append_right _ (List.mem_append_left _ (List.mem_of_getElem? (i := 112) rfl))))), List.forall_mem_cons.mpr ⟨(List.mem_append_right _ (List.mem_append_right _ (List.mem_append_right _ (List.mem_append_left _ (List.mem_of_getElem? (i := 113) rfl))))), List.forall_mem_cons.mpr ⟨(List.mem_append_right _ (List.mem_append_right _ (List.mem_append_right _ (List.mem_append_left _ (List.mem_of_getElem? (i := 114) rfl))))), List.forall_mem_cons.mpr ⟨(List.mem_append_right _ (List.mem_append_right _ (List.mem_append_right _ (List.mem_append_right _ (List.mem_of_getElem? (i := 193) rfl))))), List.forall_mem_cons.mpr ⟨(List.mem_append_right _ (List.mem_append_right _ (List.mem_append_right _ (List.mem_append_right _ (List.mem_of_getElem? (i := 194) rfl))))), List.forall_mem_cons.mpr ⟨(List.mem_append_right _ (List.mem_append_right _ (List.mem_append_right _ (List.mem_append_right _ (List.mem_of_getElem? (i := 195) rfl))))), List.forall_mem_cons.mpr ⟨(List.mem_append_right _ (List.mem_append_right _ (List.mem_append_right _ (List.mem_append_left _ (List.mem_of_getElem? (i := 121) rfl))))), List.forall_mem_cons.mpr ⟨(List.mem_append_right _ (List.mem_append_right _ (List.mem_append_right _ (List.mem_append_left _ (List.mem_of_getElem? (i := 122) rfl))))), List.forall_mem_cons.mpr ⟨(List.mem_append_right _ (List.mem_append_right _ (List.mem_append_right _ (List.mem_append_left _ (List.mem_of_getElem? (i := 123) rfl))))), List.forall_mem_cons.mpr ⟨(List.mem_append_right _ (List.mem_append_right _ (List.mem_append_right _ (List.mem_append_right _ (List.mem_of_getElem? (i := 197) rfl))))), List.forall_mem_cons.mpr ⟨(List.mem_append_right _ (List.mem_append_right _ (List.mem_append_right _ (List.mem_append_right _ (List.mem_of_getElem? (i := 198) rfl))))), List.forall_mem_cons.mpr ⟨(List.mem_append_right _ (List.mem_append_right _ (List.mem_append_right _ (List.mem_append_right _ (List.mem_of_getElem? (i := 199) rfl))))), fun _ h => absurd h List.not_mem_nil⟩⟩⟩⟩⟩⟩⟩⟩⟩⟩⟩⟩⟩⟩⟩⟩⟩⟩⟩⟩⟩⟩⟩⟩
theorem bg_31 : B31.all goodWord = true := by decide +kernel
theorem bi_32 : ∀ w ∈ wsX00, w ∈ lw_tbl := by
  intro w hw
  obtain ⟨k, hk, rfl⟩ := List.mem_map.mp hw
  have hk := List.mem_range.mp hk
  rcases (show k = 0 ∨ k = 1 ∨ k = 2 by omega) with rfl | rfl | rfl
  · exact (List.mem_append_right _ (List.mem_append_left _ (List.mem_of_getElem? (i := 65) rfl)))
  · exact (List.mem_append_right _ (List.mem_append_left _ (List.mem_of_getElem? (i := 67) rfl)))
  · exact (List.mem_append_right _ (List.mem_append_left _ (List.mem_of_getElem? (i := 69) rfl)))
theorem bg_32 : (wsX00).all goodWord = true := by decide +kernel
theorem bi_33 : ∀ w ∈ wsX10, w ∈ lw_tbl := by
  intro w hw
  obtain ⟨k, hk, rfl⟩ := List.mem_map.mp hw
  have hk := List.mem_range.mp hk
  rcases (show k = 0 ∨ k = 1 ∨ k = 2 ∨ k = 3 ∨ k = 4 ∨ k = 5 by omega) with rfl | rfl | rfl | rfl | rfl | rfl
  · exact (List.mem_append_right _ (List.mem_append_left _ (List.mem_of_getElem? (i := 87) rfl)))
  · exact (List.mem_append_right _ (List.mem_append_left _ (List.mem_of_getElem? (i := 89) rfl)))
  · exact (List.mem_append_right _ (List.mem_append_left _ (List.mem_of_getElem? (i := 91) rfl)))
  · exact (List.mem_append_right _ (List.mem_append_left _ (List.mem_of_getElem? (i := 93) rfl)))
  · exact (List.mem_append_right _ (List.mem_append_left _ (List.mem_of_getElem? (i := 95) rfl)))
  · exact (List.mem_append_right _ (List.mem_append_left _ (List.mem_of_getElem? (i := 97) rfl)))
theorem bg_33 : (wsX10).all goodWord = true := by decide +kernel
theorem bi_34 : ∀ w ∈ wsX20, w ∈ lw_tbl := by
  intro w hw
  obtain ⟨k, hk, rfl⟩ := List.mem_map.mp hw
  have hk := List.mem_range.mp hk
  rcases (show k = 0 ∨ k = 1 ∨ k = 2 ∨ k = 3 ∨ k = 4 ∨ k = 5 by omega) with rfl | rfl | rfl | rfl | rfl | rfl
  · exact (List.mem_append_right _ (List.mem_append_left _ (List.mem_of_getElem? (i := 38) rfl)))
  · exact (List.mem_append_right _ (List.mem_append_left _ (List.mem_of_getElem? (i := 40) rfl)))
  · exact (List.mem_append_right _ (List.mem_append_left _ (List.mem_of_getElem? (i := 42) rfl)))
  · exact (List.mem_append_right _ (List.mem_append_left _ (List.mem_of_getElem? (i := 44) rfl)))
  · exact (List.mem_append_right _ (List.mem_append_left _ (List.mem_of_getElem? (i := 46) rfl)))
  · exact (List.mem_append_right _ (List.mem_append_left _ (List.mem_of_getElem? (i := 48) rfl)))
theorem bg_34 : (wsX20).all goodWord = true := by decide +kernel
theorem bi_35 : ∀ w ∈ wsX30, w ∈ lw_tbl := by
  intro w hw
  obtain ⟨k, hk, rfl⟩ := List.mem_map.mp hw
  have hk := List.mem_range.mp hk
  rcases (show k = 0 ∨ k = 1 ∨ k = 2 ∨ k = 3 by omega) with rfl | rfl | rfl | rfl
  · exact (List.mem_append_right _ (List.mem_append_left _ (List.mem_of_getElem? (i := 104) rfl)))
  · exact (List.mem_append_right _ (List.mem_append_left _ (List.mem_of_getElem? (i := 106) rfl)))
  · exact (List.mem_append_right _ (List.mem_append_left _ (List.mem_of_getElem? (i := 108) rfl)))
  · exact (List.mem_append_right _ (List.mem_append_left _ (List.mem_of_getElem? (i := 110) rfl)))
theorem bg_35 : (wsX30).all goodWord = true := by decide +kernel
theorem bi_36 : ∀ w ∈ wsX40, w ∈ lw_tbl := by
  intro w hw
  obtain ⟨k, hk, rfl⟩ := List.mem_map.mp hw
  have hk := List.mem_range.mp hk
  rcases (show k = 0 ∨ k = 1 ∨ k = 2 ∨ k = 3 ∨ k = 4 ∨ k = 5 ∨ k = 6 ∨ k = 7 ∨ k = 8 ∨ k = 9 by omega) with rfl | rfl | rfl | rfl | rfl | rfl | rfl | rfl | rfl | rfl
  · exact (List.mem_append_right _ (List.mem_append_right _ (List.mem_append_right _ (List.mem_append_left _ (List.mem_of_getElem? (i := 141) rfl)))))
  · exact (List.mem_append_right _ (List.mem_append_right _ (List.mem_append_right _ (List.mem_append_left _ (List.mem_of_getElem? (i := 143) rfl)))))
  · exact (List.mem_append_right _ (List.mem_append_right _ (List.mem_append_right _ (List.mem_append_left _ (List.mem_of_getElem? (i := 145) rfl)))))
  · exact (List.mem_append_right _ (List.mem_append_right _ (List.mem_append_right _ (List.mem_append_left _ (List.mem_of_getElem? (i := 147) rfl)))))
  · exact (List.mem_append_right _ (List.mem_append_right _ (List.mem_append_right _ (List.mem_append_left _ (List.mem_of_getElem? (i := 149) rfl)))))
  · exact (List.mem_append_right _ (List.mem_append_right _ (List.mem_append_right _ (List.mem_append_left _ (List.mem_of_getElem? (i := 151) rfl)))))
  · exact (List.mem_append_right _ (List.mem_append_right _ (List.mem_append_right _ (List.mem_append_left _ (List.mem_of_getElem? (i := 153) rfl)))))
  · exact (List.mem_append_right _ (List.mem_append_right _ (List.mem_append_right _ (List.mem_append_left _ (List.mem_of_getElem? (i := 155) rfl)))))
  · exact (List.mem_append_right _ (List.mem_append_right _ (List.mem_append_right _ (List.mem_append_left _ (List.mem_of_getElem? (i := 157) rfl)))))
  · exact (List.mem_append_right _ (List.mem_append_right _ (List.mem_append_right _ (List.mem_append_left _ (List.mem_of_getElem? (i := 159) rfl)))))
theorem bg_36 : (wsX40).all goodWord = true := by decide +kernel
theorem BW_in : ∀ w ∈ BW, w ∈ lw_tbl := fun w h => ((List.mem_append.mp h).elim (bi_0 w) (fun h => ((List.mem_append.mp h).elim (bi_1 w) (fun h => ((List.mem_append.mp h).elim (bi_2 w) (fun h => ((List.mem_append.mp h).elim (bi_3 w) (fun h => ((List.mem_append.mp h).elim (bi_4 w) (fun h => ((List.mem_append.mp h).elim (bi_5 w) (fun h => ((List.mem_append.mp h).elim (bi_6 w) (fun h => ((List.mem_append.mp h).elim (bi_7 w) (fun h => ((List.mem_append.mp h).elim (bi_8 w) (fun h => ((List.mem_append.mp h).elim (bi_9 w) (fun h => ((List.mem_append.mp h).elim (bi_10 w) (fun h => ((List.mem_append.mp h).elim (bi_11 w) (fun h => ((List.mem_append.mp h).elim (bi_12 w) (fun h => ((List.mem_append.mp h).elim (bi_13 w) (fun h => ((List.mem_append.mp h).elim (bi_14 w) (fun h => ((List.mem_append.mp h).elim (bi_15 w) (fun h => ((List.mem_append.mp h).elim (bi_16 w) (fun h => ((List.mem_append.mp h).elim (bi_17 w) (fun h => ((List.mem_append.mp h).elim (bi_18 w) (fun h => ((List.mem_append.mp h).elim (bi_19 w) (fun h => ((List.mem_append.mp h).elim (bi_20 w) (fun h => ((List.mem_append.mp h).elim (bi_21 w) (fun h => ((List.mem_append.mp h).elim (bi_22 w) (fun h => ((List.mem_append.mp h).elim (bi_23 w) (fun h => ((List.mem_append.mp h).elim (bi_24 w) (fun h => ((List.mem_append.mp h).elim (bi_25 w) (fun h => ((List.mem_append.mp h).elim (bi_26 w) (fun h => ((List.mem_append.mp h).elim (bi_27 w) (fun h => ((List.mem_append.mp h).elim (bi_28 w) (fun h => ((List.mem_append.mp h).elim (bi_29 w) (fun h => ((List.mem_append.mp h).elim (bi_30 w) (fun h => ((List.mem_append.mp h).elim (bi_31 w) (fun h => ((List.mem_append.mp h).elim (bi_32 w) (fun h => ((List.mem_append.mp h).elim (bi_33 w) (fun h => ((List.mem_append.mp h).elim (bi_34 w) (fun h => ((List.mem_append.mp h).elim (bi_35 w) (fun h => (bi_36 w h)))))))))))))))))))))))))))))))))))))))))))))))))))))))))))))))))))))))))
theorem BW_good : ∀ w ∈ BW, goodWord w = true := fun w h => ((List.mem_append.mp h).elim (List.all_eq_true.mp bg_0 w) (fun h => ((List.mem_append.mp h).elim (List.all_eq_true.mp bg_1 w) (fun h => ((List.mem_append.mp h).elim (List.all_eq_true.mp bg_2 w) (fun h => ((List.mem_append.mp h).elim (List.all_eq_true.mp bg_3 w) (fun h => ((List.mem_append.mp h).elim (List.all_eq_true.mp bg_4 w) (fun h => ((List.mem_append.mp h).elim (List.all_eq_true.mp bg_5 w) (fun h => ((List.mem_append.mp h).elim (List.all_eq_true.mp bg_6 w) (fun h => ((List.mem_append.mp h).elim (List.all_eq_true.mp bg_7 w) (fun h => ((List.mem_append.mp h).elim (List.all_eq_true.mp bg_8 w) (fun h => ((List.mem_append.mp h).elim (List.all_eq_true.mp bg_9 w) (fun h => ((List.mem_append.mp h).elim (List.all_eq_true.mp bg_10 w) (fun h => ((List.mem_append.mp h).elim (List.all_eq_true.mp bg_11 w) (fun h => ((List.mem_append.mp h).elim (List.all_eq_true.mp bg_12 w) (fun h => ((List.mem_append.mp h).elim (List.all_eq_true.mp bg_13 w) (fun h => ((List.mem_append.mp h).elim (List.all_eq_true.mp bg_14 w) (fun h => ((List.mem_append.mp h).elim (List.all_eq_true.mp bg_15 w) (fun h => ((List.mem_append.mp h).elim (List.all_eq_true.mp bg_16 w) (fun h => ((List.mem_append.mp h).elim (List.all_eq_true.mp bg_17 w) (fun h => ((List.mem_append.mp h).elim (List.all_eq_true.mp bg_18 w) (fun h => ((List.mem_append.mp h).elim (List.all_eq_true.mp bg_19 w) (fun h => ((List.mem_append.mp h).elim (List.all_eq_true.mp bg_20 w) (fun h => ((List.mem_append.mp h).elim (List.all_eq_true.mp bg_21 w) (fun h => ((List.mem_append.mp h).elim (List.all_eq_true.mp bg_22 w) (fun h => ((List.mem_append.mp h).elim (List.all_eq_true.mp bg_23 w) (fun h => ((List.mem_append.mp h).elim (List.all_eq_true.mp bg_24 w) (fun h => ((List.mem_append.mp h).elim (List.all_eq_true.mp bg_25 w) (fun h => ((List.mem_append.mp h).elim (List.all_eq_true.mp bg_26 w) (fun h => ((List.mem_append.mp h).elim (List.all_eq_true.mp bg_27 w) (fun h => ((List.mem_append.mp h).elim (List.all_eq_true.mp bg_28 w) (fun h => ((List.mem_append.mp h).elim (List.all_eq_true.mp bg_29 w) (fun h => ((List.mem_append.mp h).elim (List.all_eq_true.mp bg_30 w) (fun h => ((List.mem_append.mp h).elim (List.all_eq_true.mp bg_31 w) (fun h => ((List.mem_append.mp h).elim (List.all_eq_true.mp bg_32 w) (fun h => ((List.mem_append.mp h).elim (List.all_eq_true.mp bg_33 w) (fun h => ((List.mem_append.mp h).elim (List.all_eq_true.mp bg_34 w) (fun h => ((List.mem_append.mp h).elim (List.all_eq_true.mp bg_35 w) (fun h => (List.all_eq_true.mp bg_36 w h)))))))))))))))))))))))))))))))))))))))))))))))))))))))))))))))))))))))))
theorem iw_X0 : ∀ w ∈ wsX00, w ∈ BW := fun _ h => mb_32 h
theorem iw_X1 : ∀ w ∈ wsX10, w ∈ BW := fun _ h => mb_33 h
theorem iw_X2 : ∀ w ∈ wsX20, w ∈ BW := fun _ h => mb_34 h
theorem iw_X3 : ∀ w ∈ wsX30, w ∈ BW := fun _ h => mb_35 h
theorem iw_X4 : ∀ w ∈ wsX40, w ∈ BW := fun _ h => mb_36 h
/-- the words of a method: its code, and all -/
abbrev wq (y : MethodName) (cc : ByteArray) (n : Nat) (ret : Option FieldType) : List Cond := .code y cc n ret :: BW
theorem gq {y : MethodName} {cc : ByteArray} {n : Nat} {ret : Option FieldType} (h : Cond.code y cc n ret ∈ BW) : GoodIn BW (wq y cc n ret) := fun w hw => by
  rcases List.mem_cons.mp hw with rfl | hw
  · exact ⟨h, good_of_word (BW_good _ h)⟩
  · exact ⟨hw, good_of_word (BW_good _ hw)⟩
theorem gqV {y : MethodName} {cc : ByteArray} {n : Nat} {ret : Option FieldType} {own C : String} {i : Nat} (h1 : Cond.methodLink own i y ∈ BW) (h2 : Cond.instanceMethod y ∈ BW) (h3 : Cond.selects C y y ∈ BW) (h4 : Cond.initialized C ∈ BW) (h : Cond.code y cc n ret ∈ BW) : GoodIn BW (wsV own i C y (wq y cc n ret)) := by
  refine goodIn_app (fun w hw => ?_) (gq h)
  simp only [List.mem_cons, List.not_mem_nil, or_false] at hw
  rcases hw with rfl | rfl | rfl | rfl
  · exact ⟨h1, good_of_word (BW_good _ h1)⟩
  · exact ⟨h2, good_of_word (BW_good _ h2)⟩
  · exact ⟨h3, good_of_word (BW_good _ h3)⟩
  · exact ⟨h4, good_of_word (BW_good _ h4)⟩
theorem gqS {y : MethodName} {cc : ByteArray} {n : Nat} {ret : Option FieldType} {own : String} {i : Nat} (h1 : Cond.methodLink own i y ∈ BW) (h2 : Cond.static y ∈ BW) (h4 : Cond.initialized y.cls ∈ BW) (h : Cond.code y cc n ret ∈ BW) : GoodIn BW (va_wsS own i y (wq y cc n ret)) := by
  refine goodIn_app (fun w hw => ?_) (gq h)
  simp only [List.mem_cons, List.not_mem_nil, or_false] at hw
  rcases hw with rfl | rfl | rfl
  · exact ⟨h1, good_of_word (BW_good _ h1)⟩
  · exact ⟨h2, good_of_word (BW_good _ h2)⟩
  · exact ⟨h4, good_of_word (BW_good _ h4)⟩
end
section
theorem dX0_init_0 : decode cX0_init 0 = .ok (.aload_n 0, 1) := by decide +kernel
theorem dX0_init_1 : decode cX0_init 1 = .ok (.invokespecial 3, 3) := by decide +kernel
theorem dX0_init_4 : decode cX0_init 4 = .ok (.aload_n 0, 1) := by decide +kernel
theorem dX0_init_5 : decode cX0_init 5 = .ok (.bipush 7, 2) := by decide +kernel
theorem dX0_init_7 : decode cX0_init 7 = .ok (.anewarray 9, 3) := by decide +kernel
theorem dX0_init_10 : decode cX0_init 10 = .ok (.putfield 11, 3) := by decide +kernel
theorem dX0_init_13 : decode cX0_init 13 = .ok (.aload_n 0, 1) := by decide +kernel
theorem dX0_init_14 : decode cX0_init 14 = .ok (.iconst 0, 1) := by decide +kernel
theorem dX0_init_15 : decode cX0_init 15 = .ok (.putfield 15, 3) := by decide +kernel
theorem dX0_init_18 : decode cX0_init 18 = .ok (.aload_n 0, 1) := by decide +kernel
theorem dX0_init_19 : decode cX0_init 19 = .ok (.iconst 0, 1) := by decide +kernel
theorem dX0_init_20 : decode cX0_init 20 = .ok (.putfield 19, 3) := by decide +kernel
theorem dX0_init_23 : decode cX0_init 23 = .ok (.iconst 0, 1) := by decide +kernel
theorem dX0_init_24 : decode cX0_init 24 = .ok (.istore_n 1, 1) := by decide +kernel
theorem dX0_init_25 : decode cX0_init 25 = .ok (.iload_n 1, 1) := by decide +kernel
theorem dX0_init_26 : decode cX0_init 26 = .ok (.aload_n 0, 1) := by decide +kernel
theorem dX0_init_27 : decode cX0_init 27 = .ok (.getfield 11, 3) := by decide +kernel
theorem dX0_init_30 : decode cX0_init 30 = .ok (.arraylength, 1) := by decide +kernel
theorem dX0_init_31 : decode cX0_init 31 = .ok (.if_icmp .ge 22, 3) := by decide +kernel
theorem dX0_init_34 : decode cX0_init 34 = .ok (.aload_n 0, 1) := by decide +kernel
theorem dX0_init_35 : decode cX0_init 35 = .ok (.getfield 11, 3) := by decide +kernel
theorem dX0_init_38 : decode cX0_init 38 = .ok (.iload_n 1, 1) := by decide +kernel
theorem dX0_init_39 : decode cX0_init 39 = .ok (.new 9, 3) := by decide +kernel
theorem dX0_init_42 : decode cX0_init 42 = .ok (.dup, 1) := by decide +kernel
theorem dX0_init_43 : decode cX0_init 43 = .ok (.invokespecial 22, 3) := by decide +kernel
theorem dX0_init_46 : decode cX0_init 46 = .ok (.aastore, 1) := by decide +kernel
theorem dX0_init_47 : decode cX0_init 47 = .ok (.iinc 1 1, 3) := by decide +kernel
theorem dX0_init_50 : decode cX0_init 50 = .ok (.goto (-25), 3) := by decide +kernel
theorem dX0_init_53 : decode cX0_init 53 = .ok (.return_, 1) := by decide +kernel
theorem dX0_note_0 : decode cX0_note 0 = .ok (.aload_n 0, 1) := by decide +kernel
theorem dX0_note_1 : decode cX0_note 1 = .ok (.aload_n 0, 1) := by decide +kernel
theorem dX0_note_2 : decode cX0_note 2 = .ok (.getfield 19, 3) := by decide +kernel
theorem dX0_note_5 : decode cX0_note 5 = .ok (.invokevirtual 23, 3) := by decide +kernel
theorem dX0_note_8 : decode cX0_note 8 = .ok (.astore_n 2, 1) := by decide +kernel
theorem dX0_note_9 : decode cX0_note 9 = .ok (.aload_n 2, 1) := by decide +kernel
theorem dX0_note_10 : decode cX0_note 10 = .ok (.ifnull 8, 3) := by decide +kernel
theorem dX0_note_13 : decode cX0_note 13 = .ok (.aload_n 2, 1) := by decide +kernel
theorem dX0_note_14 : decode cX0_note 14 = .ok (.aload_n 1, 1) := by decide +kernel
theorem dX0_note_15 : decode cX0_note 15 = .ok (.invokevirtual 27, 3) := by decide +kernel
theorem dX0_note_18 : decode cX0_note 18 = .ok (.return_, 1) := by decide +kernel
theorem dX0_keepUnlessError_0 : decode cX0_keepUnlessError 0 = .ok (.iload_n 1, 1) := by decide +kernel
theorem dX0_keepUnlessError_1 : decode cX0_keepUnlessError 1 = .ok (.invokestatic 31, 3) := by decide +kernel
theorem dX0_keepUnlessError_4 : decode cX0_keepUnlessError 4 = .ok (.ifCond .eq 5, 3) := by decide +kernel
theorem dX0_keepUnlessError_7 : decode cX0_keepUnlessError 7 = .ok (.iload_n 1, 1) := by decide +kernel
theorem dX0_keepUnlessError_8 : decode cX0_keepUnlessError 8 = .ok (.ireturn, 1) := by decide +kernel
theorem dX0_keepUnlessError_9 : decode cX0_keepUnlessError 9 = .ok (.aload_n 0, 1) := by decide +kernel
theorem dX0_keepUnlessError_10 : decode cX0_keepUnlessError 10 = .ok (.getfield 19, 3) := by decide +kernel
theorem dX0_keepUnlessError_13 : decode cX0_keepUnlessError 13 = .ok (.bipush 6, 2) := by decide +kernel
theorem dX0_keepUnlessError_15 : decode cX0_keepUnlessError 15 = .ok (.if_icmp .ge 16, 3) := by decide +kernel
theorem dX0_keepUnlessError_18 : decode cX0_keepUnlessError 18 = .ok (.aload_n 0, 1) := by decide +kernel
theorem dX0_keepUnlessError_19 : decode cX0_keepUnlessError 19 = .ok (.dup, 1) := by decide +kernel
theorem dX0_keepUnlessError_20 : decode cX0_keepUnlessError 20 = .ok (.getfield 19, 3) := by decide +kernel
theorem dX0_keepUnlessError_23 : decode cX0_keepUnlessError 23 = .ok (.iconst 1, 1) := by decide +kernel
theorem dX0_keepUnlessError_24 : decode cX0_keepUnlessError 24 = .ok (.iadd, 1) := by decide +kernel
theorem dX0_keepUnlessError_25 : decode cX0_keepUnlessError 25 = .ok (.putfield 19, 3) := by decide +kernel
theorem dX0_keepUnlessError_28 : decode cX0_keepUnlessError 28 = .ok (.goto 12, 3) := by decide +kernel
theorem dX0_keepUnlessError_31 : decode cX0_keepUnlessError 31 = .ok (.aload_n 0, 1) := by decide +kernel
theorem dX0_keepUnlessError_32 : decode cX0_keepUnlessError 32 = .ok (.aload_n 0, 1) := by decide +kernel
theorem dX0_keepUnlessError_33 : decode cX0_keepUnlessError 33 = .ok (.iconst 1, 1) := by decide +kernel
theorem dX0_keepUnlessError_34 : decode cX0_keepUnlessError 34 = .ok (.invokevirtual 37, 3) := by decide +kernel
theorem dX0_keepUnlessError_37 : decode cX0_keepUnlessError 37 = .ok (.putfield 15, 3) := by decide +kernel
theorem dX0_keepUnlessError_40 : decode cX0_keepUnlessError 40 = .ok (.iload_n 1, 1) := by decide +kernel
theorem dX0_keepUnlessError_41 : decode cX0_keepUnlessError 41 = .ok (.ireturn, 1) := by decide +kernel
theorem dX0_goBack_0 : decode cX0_goBack 0 = .ok (.aload_n 0, 1) := by decide +kernel
theorem dX0_goBack_1 : decode cX0_goBack 1 = .ok (.aload_n 0, 1) := by decide +kernel
theorem dX0_goBack_2 : decode cX0_goBack 2 = .ok (.getfield 19, 3) := by decide +kernel
theorem dX0_goBack_5 : decode cX0_goBack 5 = .ok (.iconst 1, 1) := by decide +kernel
theorem dX0_goBack_6 : decode cX0_goBack 6 = .ok (.isub, 1) := by decide +kernel
theorem dX0_goBack_7 : decode cX0_goBack 7 = .ok (.invokevirtual 23, 3) := by decide +kernel
theorem dX0_goBack_10 : decode cX0_goBack 10 = .ok (.astore_n 2, 1) := by decide +kernel
theorem dX0_goBack_11 : decode cX0_goBack 11 = .ok (.aload_n 0, 1) := by decide +kernel
theorem dX0_goBack_12 : decode cX0_goBack 12 = .ok (.getfield 19, 3) := by decide +kernel
theorem dX0_goBack_15 : decode cX0_goBack 15 = .ok (.ifCond .eq 7, 3) := by decide +kernel
theorem dX0_goBack_18 : decode cX0_goBack 18 = .ok (.aload_n 2, 1) := by decide +kernel
theorem dX0_goBack_19 : decode cX0_goBack 19 = .ok (.ifnonnull 5, 3) := by decide +kernel
theorem dX0_goBack_22 : decode cX0_goBack 22 = .ok (.iconst 0, 1) := by decide +kernel
theorem dX0_goBack_23 : decode cX0_goBack 23 = .ok (.ireturn, 1) := by decide +kernel
theorem dX0_goBack_24 : decode cX0_goBack 24 = .ok (.aload_n 1, 1) := by decide +kernel
theorem dX0_goBack_25 : decode cX0_goBack 25 = .ok (.aload_n 2, 1) := by decide +kernel
theorem dX0_goBack_26 : decode cX0_goBack 26 = .ok (.invokevirtual 27, 3) := by decide +kernel
theorem dX0_goBack_29 : decode cX0_goBack 29 = .ok (.aload_n 0, 1) := by decide +kernel
theorem dX0_goBack_30 : decode cX0_goBack 30 = .ok (.dup, 1) := by decide +kernel
theorem dX0_goBack_31 : decode cX0_goBack 31 = .ok (.getfield 19, 3) := by decide +kernel
theorem dX0_goBack_34 : decode cX0_goBack 34 = .ok (.iconst 1, 1) := by decide +kernel
theorem dX0_goBack_35 : decode cX0_goBack 35 = .ok (.isub, 1) := by decide +kernel
theorem dX0_goBack_36 : decode cX0_goBack 36 = .ok (.putfield 19, 3) := by decide +kernel
theorem dX0_goBack_39 : decode cX0_goBack 39 = .ok (.iconst 1, 1) := by decide +kernel
theorem dX0_goBack_40 : decode cX0_goBack 40 = .ok (.ireturn, 1) := by decide +kernel
theorem dX0_stateAt_0 : decode cX0_stateAt 0 = .ok (.aload_n 0, 1) := by decide +kernel
theorem dX0_stateAt_1 : decode cX0_stateAt 1 = .ok (.iload_n 1, 1) := by decide +kernel
theorem dX0_stateAt_2 : decode cX0_stateAt 2 = .ok (.invokevirtual 37, 3) := by decide +kernel
theorem dX0_stateAt_5 : decode cX0_stateAt 5 = .ok (.istore_n 2, 1) := by decide +kernel
theorem dX0_stateAt_6 : decode cX0_stateAt 6 = .ok (.iload_n 2, 1) := by decide +kernel
theorem dX0_stateAt_7 : decode cX0_stateAt 7 = .ok (.ifCond .lt 21, 3) := by decide +kernel
theorem dX0_stateAt_10 : decode cX0_stateAt 10 = .ok (.iload_n 2, 1) := by decide +kernel
theorem dX0_stateAt_11 : decode cX0_stateAt 11 = .ok (.aload_n 0, 1) := by decide +kernel
theorem dX0_stateAt_12 : decode cX0_stateAt 12 = .ok (.getfield 11, 3) := by decide +kernel
theorem dX0_stateAt_15 : decode cX0_stateAt 15 = .ok (.arraylength, 1) := by decide +kernel
theorem dX0_stateAt_16 : decode cX0_stateAt 16 = .ok (.if_icmp .ge 12, 3) := by decide +kernel
theorem dX0_stateAt_19 : decode cX0_stateAt 19 = .ok (.aload_n 0, 1) := by decide +kernel
theorem dX0_stateAt_20 : decode cX0_stateAt 20 = .ok (.getfield 11, 3) := by decide +kernel
theorem dX0_stateAt_23 : decode cX0_stateAt 23 = .ok (.iload_n 2, 1) := by decide +kernel
theorem dX0_stateAt_24 : decode cX0_stateAt 24 = .ok (.aaload, 1) := by decide +kernel
theorem dX0_stateAt_25 : decode cX0_stateAt 25 = .ok (.goto 4, 3) := by decide +kernel
theorem dX0_stateAt_28 : decode cX0_stateAt 28 = .ok (.aconst_null, 1) := by decide +kernel
theorem dX0_stateAt_29 : decode cX0_stateAt 29 = .ok (.areturn, 1) := by decide +kernel
theorem dX0_placeOf_0 : decode cX0_placeOf 0 = .ok (.aload_n 0, 1) := by decide +kernel
theorem dX0_placeOf_1 : decode cX0_placeOf 1 = .ok (.getfield 15, 3) := by decide +kernel
theorem dX0_placeOf_4 : decode cX0_placeOf 4 = .ok (.iload_n 1, 1) := by decide +kernel
theorem dX0_placeOf_5 : decode cX0_placeOf 5 = .ok (.iadd, 1) := by decide +kernel
theorem dX0_placeOf_6 : decode cX0_placeOf 6 = .ok (.bipush 7, 2) := by decide +kernel
theorem dX0_placeOf_8 : decode cX0_placeOf 8 = .ok (.invokestatic 41, 3) := by decide +kernel
theorem dX0_placeOf_11 : decode cX0_placeOf 11 = .ok (.ireturn, 1) := by decide +kernel
theorem dX1_init_0 : decode cX1_init 0 = .ok (.aload_n 0, 1) := by decide +kernel
theorem dX1_init_1 : decode cX1_init 1 = .ok (.invokespecial 3, 3) := by decide +kernel
theorem dX1_init_4 : decode cX1_init 4 = .ok (.aload_n 0, 1) := by decide +kernel
theorem dX1_init_5 : decode cX1_init 5 = .ok (.bipush 80, 2) := by decide +kernel
theorem dX1_init_7 : decode cX1_init 7 = .ok (.newarray .int, 2) := by decide +kernel
theorem dX1_init_9 : decode cX1_init 9 = .ok (.putfield 11, 3) := by decide +kernel
theorem dX1_init_12 : decode cX1_init 12 = .ok (.aload_n 0, 1) := by decide +kernel
theorem dX1_init_13 : decode cX1_init 13 = .ok (.iconst 0, 1) := by decide +kernel
theorem dX1_init_14 : decode cX1_init 14 = .ok (.putfield 15, 3) := by decide +kernel
theorem dX1_init_17 : decode cX1_init 17 = .ok (.aload_n 0, 1) := by decide +kernel
theorem dX1_init_18 : decode cX1_init 18 = .ok (.iconst 0, 1) := by decide +kernel
theorem dX1_init_19 : decode cX1_init 19 = .ok (.putfield 19, 3) := by decide +kernel
theorem dX1_init_22 : decode cX1_init 22 = .ok (.aload_n 0, 1) := by decide +kernel
theorem dX1_init_23 : decode cX1_init 23 = .ok (.iconst 0, 1) := by decide +kernel
theorem dX1_init_24 : decode cX1_init 24 = .ok (.putfield 22, 3) := by decide +kernel
theorem dX1_init_27 : decode cX1_init 27 = .ok (.aload_n 0, 1) := by decide +kernel
theorem dX1_init_28 : decode cX1_init 28 = .ok (.iconst 3, 1) := by decide +kernel
theorem dX1_init_29 : decode cX1_init 29 = .ok (.newarray .int, 2) := by decide +kernel
theorem dX1_init_31 : decode cX1_init 31 = .ok (.putfield 25, 3) := by decide +kernel
theorem dX1_init_34 : decode cX1_init 34 = .ok (.aload_n 0, 1) := by decide +kernel
theorem dX1_init_35 : decode cX1_init 35 = .ok (.iconst 0, 1) := by decide +kernel
theorem dX1_init_36 : decode cX1_init 36 = .ok (.putfield 28, 3) := by decide +kernel
theorem dX1_init_39 : decode cX1_init 39 = .ok (.return_, 1) := by decide +kernel
theorem dX1_signsIn_0 : decode cX1_signsIn 0 = .ok (.lload_n 0, 1) := by decide +kernel
theorem dX1_signsIn_1 : decode cX1_signsIn 1 = .ok (.lstore_n 2, 1) := by decide +kernel
theorem dX1_signsIn_2 : decode cX1_signsIn 2 = .ok (.iconst 0, 1) := by decide +kernel
theorem dX1_signsIn_3 : decode cX1_signsIn 3 = .ok (.istore 4, 2) := by decide +kernel
theorem dX1_signsIn_5 : decode cX1_signsIn 5 = .ok (.iload 4, 2) := by decide +kernel
theorem dX1_signsIn_7 : decode cX1_signsIn 7 = .ok (.bipush 8, 2) := by decide +kernel
theorem dX1_signsIn_9 : decode cX1_signsIn 9 = .ok (.if_icmp .ge 50, 3) := by decide +kernel
theorem dX1_signsIn_12 : decode cX1_signsIn 12 = .ok (.lload_n 2, 1) := by decide +kernel
theorem dX1_signsIn_13 : decode cX1_signsIn 13 = .ok (.ldc2_w 31, 3) := by decide +kernel
theorem dX1_signsIn_16 : decode cX1_signsIn 16 = .ok (.land, 1) := by decide +kernel
theorem dX1_signsIn_17 : decode cX1_signsIn 17 = .ok (.lconst 0, 1) := by decide +kernel
theorem dX1_signsIn_18 : decode cX1_signsIn 18 = .ok (.lcmp, 1) := by decide +kernel
theorem dX1_signsIn_19 : decode cX1_signsIn 19 = .ok (.ifCond .eq 40, 3) := by decide +kernel
theorem dX1_signsIn_22 : decode cX1_signsIn 22 = .ok (.lload_n 2, 1) := by decide +kernel
theorem dX1_signsIn_23 : decode cX1_signsIn 23 = .ok (.ldc2_w 31, 3) := by decide +kernel
theorem dX1_signsIn_26 : decode cX1_signsIn 26 = .ok (.land, 1) := by decide +kernel
theorem dX1_signsIn_27 : decode cX1_signsIn 27 = .ok (.ldc2_w 33, 3) := by decide +kernel
theorem dX1_signsIn_30 : decode cX1_signsIn 30 = .ok (.lcmp, 1) := by decide +kernel
theorem dX1_signsIn_31 : decode cX1_signsIn 31 = .ok (.ifCond .lt 15, 3) := by decide +kernel
theorem dX1_signsIn_34 : decode cX1_signsIn 34 = .ok (.lload_n 2, 1) := by decide +kernel
theorem dX1_signsIn_35 : decode cX1_signsIn 35 = .ok (.ldc2_w 31, 3) := by decide +kernel
theorem dX1_signsIn_38 : decode cX1_signsIn 38 = .ok (.land, 1) := by decide +kernel
theorem dX1_signsIn_39 : decode cX1_signsIn 39 = .ok (.ldc2_w 35, 3) := by decide +kernel
theorem dX1_signsIn_42 : decode cX1_signsIn 42 = .ok (.lcmp, 1) := by decide +kernel
theorem dX1_signsIn_43 : decode cX1_signsIn 43 = .ok (.ifCond .le 5, 3) := by decide +kernel
theorem dX1_signsIn_46 : decode cX1_signsIn 46 = .ok (.iconst 0, 1) := by decide +kernel
theorem dX1_signsIn_47 : decode cX1_signsIn 47 = .ok (.ireturn, 1) := by decide +kernel
theorem dX1_signsIn_48 : decode cX1_signsIn 48 = .ok (.lload_n 2, 1) := by decide +kernel
theorem dX1_signsIn_49 : decode cX1_signsIn 49 = .ok (.bipush 8, 2) := by decide +kernel
theorem dX1_signsIn_51 : decode cX1_signsIn 51 = .ok (.lushr, 1) := by decide +kernel
theorem dX1_signsIn_52 : decode cX1_signsIn 52 = .ok (.lstore_n 2, 1) := by decide +kernel
theorem dX1_signsIn_53 : decode cX1_signsIn 53 = .ok (.iinc 4 1, 3) := by decide +kernel
theorem dX1_signsIn_56 : decode cX1_signsIn 56 = .ok (.goto (-51), 3) := by decide +kernel
theorem dX1_signsIn_59 : decode cX1_signsIn 59 = .ok (.lload_n 2, 1) := by decide +kernel
theorem dX1_signsIn_60 : decode cX1_signsIn 60 = .ok (.lconst 0, 1) := by decide +kernel
theorem dX1_signsIn_61 : decode cX1_signsIn 61 = .ok (.lcmp, 1) := by decide +kernel
theorem dX1_signsIn_62 : decode cX1_signsIn 62 = .ok (.ifCond .ne 8, 3) := by decide +kernel
theorem dX1_signsIn_65 : decode cX1_signsIn 65 = .ok (.iload 4, 2) := by decide +kernel
theorem dX1_signsIn_67 : decode cX1_signsIn 67 = .ok (.goto 4, 3) := by decide +kernel
theorem dX1_signsIn_70 : decode cX1_signsIn 70 = .ok (.iconst 0, 1) := by decide +kernel
theorem dX1_signsIn_71 : decode cX1_signsIn 71 = .ok (.ireturn, 1) := by decide +kernel
theorem dX1_append_0 : decode cX1_append 0 = .ok (.iload_n 3, 1) := by decide +kernel
theorem dX1_append_1 : decode cX1_append 1 = .ok (.ifCond .lt 20, 3) := by decide +kernel
theorem dX1_append_4 : decode cX1_append 4 = .ok (.iload_n 3, 1) := by decide +kernel
theorem dX1_append_5 : decode cX1_append 5 = .ok (.bipush 8, 2) := by decide +kernel
theorem dX1_append_7 : decode cX1_append 7 = .ok (.if_icmp .gt 14, 3) := by decide +kernel
theorem dX1_append_10 : decode cX1_append 10 = .ok (.aload_n 0, 1) := by decide +kernel
theorem dX1_append_11 : decode cX1_append 11 = .ok (.getfield 15, 3) := by decide +kernel
theorem dX1_append_14 : decode cX1_append 14 = .ok (.iload_n 3, 1) := by decide +kernel
theorem dX1_append_15 : decode cX1_append 15 = .ok (.iadd, 1) := by decide +kernel
theorem dX1_append_16 : decode cX1_append 16 = .ok (.bipush 80, 2) := by decide +kernel
theorem dX1_append_18 : decode cX1_append 18 = .ok (.if_icmp .le 5, 3) := by decide +kernel
theorem dX1_append_21 : decode cX1_append 21 = .ok (.iconst 0, 1) := by decide +kernel
theorem dX1_append_22 : decode cX1_append 22 = .ok (.ireturn, 1) := by decide +kernel
theorem dX1_append_23 : decode cX1_append 23 = .ok (.iload_n 3, 1) := by decide +kernel
theorem dX1_append_24 : decode cX1_append 24 = .ok (.iconst 1, 1) := by decide +kernel
theorem dX1_append_25 : decode cX1_append 25 = .ok (.isub, 1) := by decide +kernel
theorem dX1_append_26 : decode cX1_append 26 = .ok (.istore 4, 2) := by decide +kernel
theorem dX1_append_28 : decode cX1_append 28 = .ok (.iload 4, 2) := by decide +kernel
theorem dX1_append_30 : decode cX1_append 30 = .ok (.ifCond .lt 25, 3) := by decide +kernel
theorem dX1_append_33 : decode cX1_append 33 = .ok (.aload_n 0, 1) := by decide +kernel
theorem dX1_append_34 : decode cX1_append 34 = .ok (.lload_n 1, 1) := by decide +kernel
theorem dX1_append_35 : decode cX1_append 35 = .ok (.bipush 8, 2) := by decide +kernel
theorem dX1_append_37 : decode cX1_append 37 = .ok (.iload 4, 2) := by decide +kernel
theorem dX1_append_39 : decode cX1_append 39 = .ok (.imul, 1) := by decide +kernel
theorem dX1_append_40 : decode cX1_append 40 = .ok (.lushr, 1) := by decide +kernel
theorem dX1_append_41 : decode cX1_append 41 = .ok (.ldc2_w 31, 3) := by decide +kernel
theorem dX1_append_44 : decode cX1_append 44 = .ok (.land, 1) := by decide +kernel
theorem dX1_append_45 : decode cX1_append 45 = .ok (.l2i, 1) := by decide +kernel
theorem dX1_append_46 : decode cX1_append 46 = .ok (.invokevirtual 37, 3) := by decide +kernel
theorem dX1_append_49 : decode cX1_append 49 = .ok (.iinc 4 (-1), 3) := by decide +kernel
theorem dX1_append_52 : decode cX1_append 52 = .ok (.goto (-24), 3) := by decide +kernel
theorem dX1_append_55 : decode cX1_append 55 = .ok (.iconst 1, 1) := by decide +kernel
theorem dX1_append_56 : decode cX1_append 56 = .ok (.ireturn, 1) := by decide +kernel
theorem dX1_addSign_0 : decode cX1_addSign 0 = .ok (.aload_n 0, 1) := by decide +kernel
theorem dX1_addSign_1 : decode cX1_addSign 1 = .ok (.getfield 15, 3) := by decide +kernel
theorem dX1_addSign_4 : decode cX1_addSign 4 = .ok (.ifCond .lt 35, 3) := by decide +kernel
theorem dX1_addSign_7 : decode cX1_addSign 7 = .ok (.aload_n 0, 1) := by decide +kernel
theorem dX1_addSign_8 : decode cX1_addSign 8 = .ok (.getfield 15, 3) := by decide +kernel
theorem dX1_addSign_11 : decode cX1_addSign 11 = .ok (.aload_n 0, 1) := by decide +kernel
theorem dX1_addSign_12 : decode cX1_addSign 12 = .ok (.getfield 11, 3) := by decide +kernel
theorem dX1_addSign_15 : decode cX1_addSign 15 = .ok (.arraylength, 1) := by decide +kernel
theorem dX1_addSign_16 : decode cX1_addSign 16 = .ok (.if_icmp .ge 23, 3) := by decide +kernel
theorem dX1_addSign_19 : decode cX1_addSign 19 = .ok (.aload_n 0, 1) := by decide +kernel
theorem dX1_addSign_20 : decode cX1_addSign 20 = .ok (.getfield 11, 3) := by decide +kernel
theorem dX1_addSign_23 : decode cX1_addSign 23 = .ok (.aload_n 0, 1) := by decide +kernel
theorem dX1_addSign_24 : decode cX1_addSign 24 = .ok (.getfield 15, 3) := by decide +kernel
theorem dX1_addSign_27 : decode cX1_addSign 27 = .ok (.iload_n 1, 1) := by decide +kernel
theorem dX1_addSign_28 : decode cX1_addSign 28 = .ok (.iastore, 1) := by decide +kernel
theorem dX1_addSign_29 : decode cX1_addSign 29 = .ok (.aload_n 0, 1) := by decide +kernel
theorem dX1_addSign_30 : decode cX1_addSign 30 = .ok (.dup, 1) := by decide +kernel
theorem dX1_addSign_31 : decode cX1_addSign 31 = .ok (.getfield 15, 3) := by decide +kernel
theorem dX1_addSign_34 : decode cX1_addSign 34 = .ok (.iconst 1, 1) := by decide +kernel
theorem dX1_addSign_35 : decode cX1_addSign 35 = .ok (.iadd, 1) := by decide +kernel
theorem dX1_addSign_36 : decode cX1_addSign 36 = .ok (.putfield 15, 3) := by decide +kernel
theorem dX1_addSign_39 : decode cX1_addSign 39 = .ok (.return_, 1) := by decide +kernel
theorem dX1_signAt_0 : decode cX1_signAt 0 = .ok (.iload_n 1, 1) := by decide +kernel
theorem dX1_signAt_1 : decode cX1_signAt 1 = .ok (.ifCond .lt 29, 3) := by decide +kernel
theorem dX1_signAt_4 : decode cX1_signAt 4 = .ok (.iload_n 1, 1) := by decide +kernel
theorem dX1_signAt_5 : decode cX1_signAt 5 = .ok (.aload_n 0, 1) := by decide +kernel
theorem dX1_signAt_6 : decode cX1_signAt 6 = .ok (.getfield 15, 3) := by decide +kernel
theorem dX1_signAt_9 : decode cX1_signAt 9 = .ok (.if_icmp .ge 21, 3) := by decide +kernel
theorem dX1_signAt_12 : decode cX1_signAt 12 = .ok (.iload_n 1, 1) := by decide +kernel
theorem dX1_signAt_13 : decode cX1_signAt 13 = .ok (.aload_n 0, 1) := by decide +kernel
theorem dX1_signAt_14 : decode cX1_signAt 14 = .ok (.getfield 11, 3) := by decide +kernel
theorem dX1_signAt_17 : decode cX1_signAt 17 = .ok (.arraylength, 1) := by decide +kernel
theorem dX1_signAt_18 : decode cX1_signAt 18 = .ok (.if_icmp .ge 12, 3) := by decide +kernel
theorem dX1_signAt_21 : decode cX1_signAt 21 = .ok (.aload_n 0, 1) := by decide +kernel
theorem dX1_signAt_22 : decode cX1_signAt 22 = .ok (.getfield 11, 3) := by decide +kernel
theorem dX1_signAt_25 : decode cX1_signAt 25 = .ok (.iload_n 1, 1) := by decide +kernel
theorem dX1_signAt_26 : decode cX1_signAt 26 = .ok (.iaload, 1) := by decide +kernel
theorem dX1_signAt_27 : decode cX1_signAt 27 = .ok (.goto 4, 3) := by decide +kernel
theorem dX1_signAt_30 : decode cX1_signAt 30 = .ok (.iconst 0, 1) := by decide +kernel
theorem dX1_signAt_31 : decode cX1_signAt 31 = .ok (.ireturn, 1) := by decide +kernel
theorem dX1_number_0 : decode cX1_number 0 = .ok (.iload_n 1, 1) := by decide +kernel
theorem dX1_number_1 : decode cX1_number 1 = .ok (.ifCond .lt 29, 3) := by decide +kernel
theorem dX1_number_4 : decode cX1_number 4 = .ok (.iload_n 1, 1) := by decide +kernel
theorem dX1_number_5 : decode cX1_number 5 = .ok (.aload_n 0, 1) := by decide +kernel
theorem dX1_number_6 : decode cX1_number 6 = .ok (.getfield 28, 3) := by decide +kernel
theorem dX1_number_9 : decode cX1_number 9 = .ok (.if_icmp .ge 21, 3) := by decide +kernel
theorem dX1_number_12 : decode cX1_number 12 = .ok (.iload_n 1, 1) := by decide +kernel
theorem dX1_number_13 : decode cX1_number 13 = .ok (.aload_n 0, 1) := by decide +kernel
theorem dX1_number_14 : decode cX1_number 14 = .ok (.getfield 25, 3) := by decide +kernel
theorem dX1_number_17 : decode cX1_number 17 = .ok (.arraylength, 1) := by decide +kernel
theorem dX1_number_18 : decode cX1_number 18 = .ok (.if_icmp .ge 12, 3) := by decide +kernel
theorem dX1_number_21 : decode cX1_number 21 = .ok (.aload_n 0, 1) := by decide +kernel
theorem dX1_number_22 : decode cX1_number 22 = .ok (.getfield 25, 3) := by decide +kernel
theorem dX1_number_25 : decode cX1_number 25 = .ok (.iload_n 1, 1) := by decide +kernel
theorem dX1_number_26 : decode cX1_number 26 = .ok (.iaload, 1) := by decide +kernel
theorem dX1_number_27 : decode cX1_number 27 = .ok (.goto 4, 3) := by decide +kernel
theorem dX1_number_30 : decode cX1_number 30 = .ok (.iconst 0, 1) := by decide +kernel
theorem dX1_number_31 : decode cX1_number 31 = .ok (.ireturn, 1) := by decide +kernel
theorem dX1_firstFault_0 : decode cX1_firstFault 0 = .ok (.aload_n 0, 1) := by decide +kernel
theorem dX1_firstFault_1 : decode cX1_firstFault 1 = .ok (.iconst 0, 1) := by decide +kernel
theorem dX1_firstFault_2 : decode cX1_firstFault 2 = .ok (.putfield 19, 3) := by decide +kernel
theorem dX1_firstFault_5 : decode cX1_firstFault 5 = .ok (.iconst 0, 1) := by decide +kernel
theorem dX1_firstFault_6 : decode cX1_firstFault 6 = .ok (.istore_n 1, 1) := by decide +kernel
theorem dX1_firstFault_7 : decode cX1_firstFault 7 = .ok (.iload_n 1, 1) := by decide +kernel
theorem dX1_firstFault_8 : decode cX1_firstFault 8 = .ok (.bipush 80, 2) := by decide +kernel
theorem dX1_firstFault_10 : decode cX1_firstFault 10 = .ok (.if_icmp .ge 58, 3) := by decide +kernel
theorem dX1_firstFault_13 : decode cX1_firstFault 13 = .ok (.aload_n 0, 1) := by decide +kernel
theorem dX1_firstFault_14 : decode cX1_firstFault 14 = .ok (.invokevirtual 41, 3) := by decide +kernel
theorem dX1_firstFault_17 : decode cX1_firstFault 17 = .ok (.ifCond .eq 51, 3) := by decide +kernel
theorem dX1_firstFault_20 : decode cX1_firstFault 20 = .ok (.aload_n 0, 1) := by decide +kernel
theorem dX1_firstFault_21 : decode cX1_firstFault 21 = .ok (.getfield 19, 3) := by decide +kernel
theorem dX1_firstFault_24 : decode cX1_firstFault 24 = .ok (.aload_n 0, 1) := by decide +kernel
theorem dX1_firstFault_25 : decode cX1_firstFault 25 = .ok (.getfield 15, 3) := by decide +kernel
theorem dX1_firstFault_28 : decode cX1_firstFault 28 = .ok (.if_icmp .lt 6, 3) := by decide +kernel
theorem dX1_firstFault_31 : decode cX1_firstFault 31 = .ok (.bipush (-6), 2) := by decide +kernel
theorem dX1_firstFault_33 : decode cX1_firstFault 33 = .ok (.ireturn, 1) := by decide +kernel
theorem dX1_firstFault_34 : decode cX1_firstFault 34 = .ok (.aload_n 0, 1) := by decide +kernel
theorem dX1_firstFault_35 : decode cX1_firstFault 35 = .ok (.aload_n 0, 1) := by decide +kernel
theorem dX1_firstFault_36 : decode cX1_firstFault 36 = .ok (.getfield 19, 3) := by decide +kernel
theorem dX1_firstFault_39 : decode cX1_firstFault 39 = .ok (.invokevirtual 45, 3) := by decide +kernel
theorem dX1_firstFault_42 : decode cX1_firstFault 42 = .ok (.bipush 59, 2) := by decide +kernel
theorem dX1_firstFault_44 : decode cX1_firstFault 44 = .ok (.if_icmp .eq 8, 3) := by decide +kernel
theorem dX1_firstFault_47 : decode cX1_firstFault 47 = .ok (.aload_n 0, 1) := by decide +kernel
theorem dX1_firstFault_48 : decode cX1_firstFault 48 = .ok (.getfield 19, 3) := by decide +kernel
theorem dX1_firstFault_51 : decode cX1_firstFault 51 = .ok (.ireturn, 1) := by decide +kernel
theorem dX1_firstFault_52 : decode cX1_firstFault 52 = .ok (.aload_n 0, 1) := by decide +kernel
theorem dX1_firstFault_53 : decode cX1_firstFault 53 = .ok (.dup, 1) := by decide +kernel
theorem dX1_firstFault_54 : decode cX1_firstFault 54 = .ok (.getfield 19, 3) := by decide +kernel
theorem dX1_firstFault_57 : decode cX1_firstFault 57 = .ok (.iconst 1, 1) := by decide +kernel
theorem dX1_firstFault_58 : decode cX1_firstFault 58 = .ok (.iadd, 1) := by decide +kernel
theorem dX1_firstFault_59 : decode cX1_firstFault 59 = .ok (.putfield 19, 3) := by decide +kernel
theorem dX1_firstFault_62 : decode cX1_firstFault 62 = .ok (.iinc 1 1, 3) := by decide +kernel
theorem dX1_firstFault_65 : decode cX1_firstFault 65 = .ok (.goto (-58), 3) := by decide +kernel
theorem dX1_firstFault_68 : decode cX1_firstFault 68 = .ok (.aload_n 0, 1) := by decide +kernel
theorem dX1_firstFault_69 : decode cX1_firstFault 69 = .ok (.getfield 19, 3) := by decide +kernel
theorem dX1_firstFault_72 : decode cX1_firstFault 72 = .ok (.ireturn, 1) := by decide +kernel
theorem dX1_stepOverSemicolon_0 : decode cX1_stepOverSemicolon 0 = .ok (.aload_n 0, 1) := by decide +kernel
theorem dX1_stepOverSemicolon_1 : decode cX1_stepOverSemicolon 1 = .ok (.aload_n 0, 1) := by decide +kernel
theorem dX1_stepOverSemicolon_2 : decode cX1_stepOverSemicolon 2 = .ok (.getfield 19, 3) := by decide +kernel
theorem dX1_stepOverSemicolon_5 : decode cX1_stepOverSemicolon 5 = .ok (.invokevirtual 45, 3) := by decide +kernel
theorem dX1_stepOverSemicolon_8 : decode cX1_stepOverSemicolon 8 = .ok (.bipush 59, 2) := by decide +kernel
theorem dX1_stepOverSemicolon_10 : decode cX1_stepOverSemicolon 10 = .ok (.if_icmp .ne 13, 3) := by decide +kernel
theorem dX1_stepOverSemicolon_13 : decode cX1_stepOverSemicolon 13 = .ok (.aload_n 0, 1) := by decide +kernel
theorem dX1_stepOverSemicolon_14 : decode cX1_stepOverSemicolon 14 = .ok (.dup, 1) := by decide +kernel
theorem dX1_stepOverSemicolon_15 : decode cX1_stepOverSemicolon 15 = .ok (.getfield 19, 3) := by decide +kernel
theorem dX1_stepOverSemicolon_18 : decode cX1_stepOverSemicolon 18 = .ok (.iconst 1, 1) := by decide +kernel
theorem dX1_stepOverSemicolon_19 : decode cX1_stepOverSemicolon 19 = .ok (.iadd, 1) := by decide +kernel
theorem dX1_stepOverSemicolon_20 : decode cX1_stepOverSemicolon 20 = .ok (.putfield 19, 3) := by decide +kernel
theorem dX1_stepOverSemicolon_23 : decode cX1_stepOverSemicolon 23 = .ok (.return_, 1) := by decide +kernel
theorem dX1_formOf_0 : decode cX1_formOf 0 = .ok (.iload_n 0, 1) := by decide +kernel
theorem dX1_formOf_1 : decode cX1_formOf 1 = .ok (.tableswitch 131 97 119 #[128, 131, 131, 131, 131, 119, 131, 131, 113, 131, 131, 131, 131, 131, 122, 107, 131, 131, 110, 125, 131, 131, 116], 107) := by decide +kernel
theorem dX1_formOf_108 : decode cX1_formOf 108 = .ok (.ldc 49, 2) := by decide +kernel
theorem dX1_formOf_110 : decode cX1_formOf 110 = .ok (.areturn, 1) := by decide +kernel
theorem dX1_formOf_111 : decode cX1_formOf 111 = .ok (.ldc 51, 2) := by decide +kernel
theorem dX1_formOf_113 : decode cX1_formOf 113 = .ok (.areturn, 1) := by decide +kernel
theorem dX1_formOf_114 : decode cX1_formOf 114 = .ok (.ldc 53, 2) := by decide +kernel
theorem dX1_formOf_116 : decode cX1_formOf 116 = .ok (.areturn, 1) := by decide +kernel
theorem dX1_formOf_117 : decode cX1_formOf 117 = .ok (.ldc 55, 2) := by decide +kernel
theorem dX1_formOf_119 : decode cX1_formOf 119 = .ok (.areturn, 1) := by decide +kernel
theorem dX1_formOf_120 : decode cX1_formOf 120 = .ok (.ldc 57, 2) := by decide +kernel
theorem dX1_formOf_122 : decode cX1_formOf 122 = .ok (.areturn, 1) := by decide +kernel
theorem dX1_formOf_123 : decode cX1_formOf 123 = .ok (.ldc 59, 2) := by decide +kernel
theorem dX1_formOf_125 : decode cX1_formOf 125 = .ok (.areturn, 1) := by decide +kernel
theorem dX1_formOf_126 : decode cX1_formOf 126 = .ok (.ldc 57, 2) := by decide +kernel
theorem dX1_formOf_128 : decode cX1_formOf 128 = .ok (.areturn, 1) := by decide +kernel
theorem dX1_formOf_129 : decode cX1_formOf 129 = .ok (.ldc 59, 2) := by decide +kernel
theorem dX1_formOf_131 : decode cX1_formOf 131 = .ok (.areturn, 1) := by decide +kernel
theorem dX1_formOf_132 : decode cX1_formOf 132 = .ok (.ldc 61, 2) := by decide +kernel
theorem dX1_formOf_134 : decode cX1_formOf 134 = .ok (.areturn, 1) := by decide +kernel
theorem dX1_readOrder_0 : decode cX1_readOrder 0 = .ok (.aload_n 0, 1) := by decide +kernel
theorem dX1_readOrder_1 : decode cX1_readOrder 1 = .ok (.aload_n 0, 1) := by decide +kernel
theorem dX1_readOrder_2 : decode cX1_readOrder 2 = .ok (.aload_n 0, 1) := by decide +kernel
theorem dX1_readOrder_3 : decode cX1_readOrder 3 = .ok (.getfield 19, 3) := by decide +kernel
theorem dX1_readOrder_6 : decode cX1_readOrder 6 = .ok (.invokevirtual 45, 3) := by decide +kernel
theorem dX1_readOrder_9 : decode cX1_readOrder 9 = .ok (.putfield 22, 3) := by decide +kernel
theorem dX1_readOrder_12 : decode cX1_readOrder 12 = .ok (.aload_n 0, 1) := by decide +kernel
theorem dX1_readOrder_13 : decode cX1_readOrder 13 = .ok (.iconst 0, 1) := by decide +kernel
theorem dX1_readOrder_14 : decode cX1_readOrder 14 = .ok (.putfield 28, 3) := by decide +kernel
theorem dX1_readOrder_17 : decode cX1_readOrder 17 = .ok (.aload_n 0, 1) := by decide +kernel
theorem dX1_readOrder_18 : decode cX1_readOrder 18 = .ok (.getfield 22, 3) := by decide +kernel
theorem dX1_readOrder_21 : decode cX1_readOrder 21 = .ok (.invokestatic 63, 3) := by decide +kernel
theorem dX1_readOrder_24 : decode cX1_readOrder 24 = .ok (.astore_n 1, 1) := by decide +kernel
theorem dX1_readOrder_25 : decode cX1_readOrder 25 = .ok (.aload_n 1, 1) := by decide +kernel
theorem dX1_readOrder_26 : decode cX1_readOrder 26 = .ok (.invokevirtual 67, 3) := by decide +kernel
theorem dX1_readOrder_29 : decode cX1_readOrder 29 = .ok (.ifCond .eq 5, 3) := by decide +kernel
theorem dX1_readOrder_32 : decode cX1_readOrder 32 = .ok (.iconst 0, 1) := by decide +kernel
theorem dX1_readOrder_33 : decode cX1_readOrder 33 = .ok (.ireturn, 1) := by decide +kernel
theorem dX1_readOrder_34 : decode cX1_readOrder 34 = .ok (.aload_n 0, 1) := by decide +kernel
theorem dX1_readOrder_35 : decode cX1_readOrder 35 = .ok (.dup, 1) := by decide +kernel
theorem dX1_readOrder_36 : decode cX1_readOrder 36 = .ok (.getfield 19, 3) := by decide +kernel
theorem dX1_readOrder_39 : decode cX1_readOrder 39 = .ok (.iconst 1, 1) := by decide +kernel
theorem dX1_readOrder_40 : decode cX1_readOrder 40 = .ok (.iadd, 1) := by decide +kernel
theorem dX1_readOrder_41 : decode cX1_readOrder 41 = .ok (.putfield 19, 3) := by decide +kernel
theorem dX1_readOrder_44 : decode cX1_readOrder 44 = .ok (.iconst 0, 1) := by decide +kernel
theorem dX1_readOrder_45 : decode cX1_readOrder 45 = .ok (.istore_n 2, 1) := by decide +kernel
theorem dX1_readOrder_46 : decode cX1_readOrder 46 = .ok (.iload_n 2, 1) := by decide +kernel
theorem dX1_readOrder_47 : decode cX1_readOrder 47 = .ok (.aload_n 1, 1) := by decide +kernel
theorem dX1_readOrder_48 : decode cX1_readOrder 48 = .ok (.invokevirtual 72, 3) := by decide +kernel
theorem dX1_readOrder_51 : decode cX1_readOrder 51 = .ok (.if_icmp .ge 23, 3) := by decide +kernel
theorem dX1_readOrder_54 : decode cX1_readOrder 54 = .ok (.aload_n 0, 1) := by decide +kernel
theorem dX1_readOrder_55 : decode cX1_readOrder 55 = .ok (.aload_n 1, 1) := by decide +kernel
theorem dX1_readOrder_56 : decode cX1_readOrder 56 = .ok (.iload_n 2, 1) := by decide +kernel
theorem dX1_readOrder_57 : decode cX1_readOrder 57 = .ok (.invokevirtual 75, 3) := by decide +kernel
theorem dX1_readOrder_60 : decode cX1_readOrder 60 = .ok (.invokevirtual 79, 3) := by decide +kernel
theorem dX1_readOrder_63 : decode cX1_readOrder 63 = .ok (.ifCond .ne 5, 3) := by decide +kernel
theorem dX1_readOrder_66 : decode cX1_readOrder 66 = .ok (.iconst 0, 1) := by decide +kernel
theorem dX1_readOrder_67 : decode cX1_readOrder 67 = .ok (.ireturn, 1) := by decide +kernel
theorem dX1_readOrder_68 : decode cX1_readOrder 68 = .ok (.iinc 2 1, 3) := by decide +kernel
theorem dX1_readOrder_71 : decode cX1_readOrder 71 = .ok (.goto (-25), 3) := by decide +kernel
theorem dX1_readOrder_74 : decode cX1_readOrder 74 = .ok (.iconst 1, 1) := by decide +kernel
theorem dX1_readOrder_75 : decode cX1_readOrder 75 = .ok (.ireturn, 1) := by decide +kernel
theorem dX1_readPart_0 : decode cX1_readPart 0 = .ok (.iload_n 1, 1) := by decide +kernel
theorem dX1_readPart_1 : decode cX1_readPart 1 = .ok (.bipush 100, 2) := by decide +kernel
theorem dX1_readPart_3 : decode cX1_readPart 3 = .ok (.if_icmp .eq 9, 3) := by decide +kernel
theorem dX1_readPart_6 : decode cX1_readPart 6 = .ok (.iload_n 1, 1) := by decide +kernel
theorem dX1_readPart_7 : decode cX1_readPart 7 = .ok (.bipush 110, 2) := by decide +kernel
theorem dX1_readPart_9 : decode cX1_readPart 9 = .ok (.if_icmp .ne 19, 3) := by decide +kernel
theorem dX1_readPart_12 : decode cX1_readPart 12 = .ok (.aload_n 0, 1) := by decide +kernel
theorem dX1_readPart_13 : decode cX1_readPart 13 = .ok (.iload_n 1, 1) := by decide +kernel
theorem dX1_readPart_14 : decode cX1_readPart 14 = .ok (.bipush 110, 2) := by decide +kernel
theorem dX1_readPart_16 : decode cX1_readPart 16 = .ok (.if_icmp .ne 7, 3) := by decide +kernel
theorem dX1_readPart_19 : decode cX1_readPart 19 = .ok (.iconst 2, 1) := by decide +kernel
theorem dX1_readPart_20 : decode cX1_readPart 20 = .ok (.goto 4, 3) := by decide +kernel
theorem dX1_readPart_23 : decode cX1_readPart 23 = .ok (.iconst 1, 1) := by decide +kernel
theorem dX1_readPart_24 : decode cX1_readPart 24 = .ok (.invokevirtual 83, 3) := by decide +kernel
theorem dX1_readPart_27 : decode cX1_readPart 27 = .ok (.ireturn, 1) := by decide +kernel
theorem dX1_readPart_28 : decode cX1_readPart 28 = .ok (.aload_n 0, 1) := by decide +kernel
theorem dX1_readPart_29 : decode cX1_readPart 29 = .ok (.aload_n 0, 1) := by decide +kernel
theorem dX1_readPart_30 : decode cX1_readPart 30 = .ok (.getfield 19, 3) := by decide +kernel
theorem dX1_readPart_33 : decode cX1_readPart 33 = .ok (.invokevirtual 45, 3) := by decide +kernel
theorem dX1_readPart_36 : decode cX1_readPart 36 = .ok (.iload_n 1, 1) := by decide +kernel
theorem dX1_readPart_37 : decode cX1_readPart 37 = .ok (.if_icmp .eq 5, 3) := by decide +kernel
theorem dX1_readPart_40 : decode cX1_readPart 40 = .ok (.iconst 0, 1) := by decide +kernel
theorem dX1_readPart_41 : decode cX1_readPart 41 = .ok (.ireturn, 1) := by decide +kernel
theorem dX1_readPart_42 : decode cX1_readPart 42 = .ok (.aload_n 0, 1) := by decide +kernel
theorem dX1_readPart_43 : decode cX1_readPart 43 = .ok (.dup, 1) := by decide +kernel
theorem dX1_readPart_44 : decode cX1_readPart 44 = .ok (.getfield 19, 3) := by decide +kernel
theorem dX1_readPart_47 : decode cX1_readPart 47 = .ok (.iconst 1, 1) := by decide +kernel
theorem dX1_readPart_48 : decode cX1_readPart 48 = .ok (.iadd, 1) := by decide +kernel
theorem dX1_readPart_49 : decode cX1_readPart 49 = .ok (.putfield 19, 3) := by decide +kernel
theorem dX1_readPart_52 : decode cX1_readPart 52 = .ok (.iconst 1, 1) := by decide +kernel
theorem dX1_readPart_53 : decode cX1_readPart 53 = .ok (.ireturn, 1) := by decide +kernel
theorem dX1_readNumber_0 : decode cX1_readNumber 0 = .ok (.aload_n 0, 1) := by decide +kernel
theorem dX1_readNumber_1 : decode cX1_readNumber 1 = .ok (.aload_n 0, 1) := by decide +kernel
theorem dX1_readNumber_2 : decode cX1_readNumber 2 = .ok (.getfield 19, 3) := by decide +kernel
theorem dX1_readNumber_5 : decode cX1_readNumber 5 = .ok (.invokevirtual 45, 3) := by decide +kernel
theorem dX1_readNumber_8 : decode cX1_readNumber 8 = .ok (.invokestatic 87, 3) := by decide +kernel
theorem dX1_readNumber_11 : decode cX1_readNumber 11 = .ok (.ifCond .ne 5, 3) := by decide +kernel
theorem dX1_readNumber_14 : decode cX1_readNumber 14 = .ok (.iconst 0, 1) := by decide +kernel
theorem dX1_readNumber_15 : decode cX1_readNumber 15 = .ok (.ireturn, 1) := by decide +kernel
theorem dX1_readNumber_16 : decode cX1_readNumber 16 = .ok (.aload_n 0, 1) := by decide +kernel
theorem dX1_readNumber_17 : decode cX1_readNumber 17 = .ok (.aload_n 0, 1) := by decide +kernel
theorem dX1_readNumber_18 : decode cX1_readNumber 18 = .ok (.getfield 19, 3) := by decide +kernel
theorem dX1_readNumber_21 : decode cX1_readNumber 21 = .ok (.invokevirtual 45, 3) := by decide +kernel
theorem dX1_readNumber_24 : decode cX1_readNumber 24 = .ok (.bipush 48, 2) := by decide +kernel
theorem dX1_readNumber_26 : decode cX1_readNumber 26 = .ok (.isub, 1) := by decide +kernel
theorem dX1_readNumber_27 : decode cX1_readNumber 27 = .ok (.istore_n 2, 1) := by decide +kernel
theorem dX1_readNumber_28 : decode cX1_readNumber 28 = .ok (.aload_n 0, 1) := by decide +kernel
theorem dX1_readNumber_29 : decode cX1_readNumber 29 = .ok (.dup, 1) := by decide +kernel
theorem dX1_readNumber_30 : decode cX1_readNumber 30 = .ok (.getfield 19, 3) := by decide +kernel
theorem dX1_readNumber_33 : decode cX1_readNumber 33 = .ok (.iconst 1, 1) := by decide +kernel
theorem dX1_readNumber_34 : decode cX1_readNumber 34 = .ok (.iadd, 1) := by decide +kernel
theorem dX1_readNumber_35 : decode cX1_readNumber 35 = .ok (.putfield 19, 3) := by decide +kernel
theorem dX1_readNumber_38 : decode cX1_readNumber 38 = .ok (.iload_n 1, 1) := by decide +kernel
theorem dX1_readNumber_39 : decode cX1_readNumber 39 = .ok (.iconst 1, 1) := by decide +kernel
theorem dX1_readNumber_40 : decode cX1_readNumber 40 = .ok (.if_icmp .le 48, 3) := by decide +kernel
theorem dX1_readNumber_43 : decode cX1_readNumber 43 = .ok (.iload_n 2, 1) := by decide +kernel
theorem dX1_readNumber_44 : decode cX1_readNumber 44 = .ok (.ifCond .le 44, 3) := by decide +kernel
theorem dX1_readNumber_47 : decode cX1_readNumber 47 = .ok (.aload_n 0, 1) := by decide +kernel
theorem dX1_readNumber_48 : decode cX1_readNumber 48 = .ok (.aload_n 0, 1) := by decide +kernel
theorem dX1_readNumber_49 : decode cX1_readNumber 49 = .ok (.getfield 19, 3) := by decide +kernel
theorem dX1_readNumber_52 : decode cX1_readNumber 52 = .ok (.invokevirtual 45, 3) := by decide +kernel
theorem dX1_readNumber_55 : decode cX1_readNumber 55 = .ok (.invokestatic 87, 3) := by decide +kernel
theorem dX1_readNumber_58 : decode cX1_readNumber 58 = .ok (.ifCond .eq 30, 3) := by decide +kernel
theorem dX1_readNumber_61 : decode cX1_readNumber 61 = .ok (.bipush 10, 2) := by decide +kernel
theorem dX1_readNumber_63 : decode cX1_readNumber 63 = .ok (.iload_n 2, 1) := by decide +kernel
theorem dX1_readNumber_64 : decode cX1_readNumber 64 = .ok (.imul, 1) := by decide +kernel
theorem dX1_readNumber_65 : decode cX1_readNumber 65 = .ok (.aload_n 0, 1) := by decide +kernel
theorem dX1_readNumber_66 : decode cX1_readNumber 66 = .ok (.aload_n 0, 1) := by decide +kernel
theorem dX1_readNumber_67 : decode cX1_readNumber 67 = .ok (.getfield 19, 3) := by decide +kernel
theorem dX1_readNumber_70 : decode cX1_readNumber 70 = .ok (.invokevirtual 45, 3) := by decide +kernel
theorem dX1_readNumber_73 : decode cX1_readNumber 73 = .ok (.iadd, 1) := by decide +kernel
theorem dX1_readNumber_74 : decode cX1_readNumber 74 = .ok (.bipush 48, 2) := by decide +kernel
theorem dX1_readNumber_76 : decode cX1_readNumber 76 = .ok (.isub, 1) := by decide +kernel
theorem dX1_readNumber_77 : decode cX1_readNumber 77 = .ok (.istore_n 2, 1) := by decide +kernel
theorem dX1_readNumber_78 : decode cX1_readNumber 78 = .ok (.aload_n 0, 1) := by decide +kernel
theorem dX1_readNumber_79 : decode cX1_readNumber 79 = .ok (.dup, 1) := by decide +kernel
theorem dX1_readNumber_80 : decode cX1_readNumber 80 = .ok (.getfield 19, 3) := by decide +kernel
theorem dX1_readNumber_83 : decode cX1_readNumber 83 = .ok (.iconst 1, 1) := by decide +kernel
theorem dX1_readNumber_84 : decode cX1_readNumber 84 = .ok (.iadd, 1) := by decide +kernel
theorem dX1_readNumber_85 : decode cX1_readNumber 85 = .ok (.putfield 19, 3) := by decide +kernel
theorem dX1_readNumber_88 : decode cX1_readNumber 88 = .ok (.aload_n 0, 1) := by decide +kernel
theorem dX1_readNumber_89 : decode cX1_readNumber 89 = .ok (.iload_n 2, 1) := by decide +kernel
theorem dX1_readNumber_90 : decode cX1_readNumber 90 = .ok (.invokevirtual 90, 3) := by decide +kernel
theorem dX1_readNumber_93 : decode cX1_readNumber 93 = .ok (.iconst 1, 1) := by decide +kernel
theorem dX1_readNumber_94 : decode cX1_readNumber 94 = .ok (.ireturn, 1) := by decide +kernel
theorem dX1_addNumber_0 : decode cX1_addNumber 0 = .ok (.aload_n 0, 1) := by decide +kernel
theorem dX1_addNumber_1 : decode cX1_addNumber 1 = .ok (.getfield 28, 3) := by decide +kernel
theorem dX1_addNumber_4 : decode cX1_addNumber 4 = .ok (.ifCond .lt 35, 3) := by decide +kernel
theorem dX1_addNumber_7 : decode cX1_addNumber 7 = .ok (.aload_n 0, 1) := by decide +kernel
theorem dX1_addNumber_8 : decode cX1_addNumber 8 = .ok (.getfield 28, 3) := by decide +kernel
theorem dX1_addNumber_11 : decode cX1_addNumber 11 = .ok (.aload_n 0, 1) := by decide +kernel
theorem dX1_addNumber_12 : decode cX1_addNumber 12 = .ok (.getfield 25, 3) := by decide +kernel
theorem dX1_addNumber_15 : decode cX1_addNumber 15 = .ok (.arraylength, 1) := by decide +kernel
theorem dX1_addNumber_16 : decode cX1_addNumber 16 = .ok (.if_icmp .ge 23, 3) := by decide +kernel
theorem dX1_addNumber_19 : decode cX1_addNumber 19 = .ok (.aload_n 0, 1) := by decide +kernel
theorem dX1_addNumber_20 : decode cX1_addNumber 20 = .ok (.getfield 25, 3) := by decide +kernel
theorem dX1_addNumber_23 : decode cX1_addNumber 23 = .ok (.aload_n 0, 1) := by decide +kernel
theorem dX1_addNumber_24 : decode cX1_addNumber 24 = .ok (.getfield 28, 3) := by decide +kernel
theorem dX1_addNumber_27 : decode cX1_addNumber 27 = .ok (.iload_n 1, 1) := by decide +kernel
theorem dX1_addNumber_28 : decode cX1_addNumber 28 = .ok (.iastore, 1) := by decide +kernel
theorem dX1_addNumber_29 : decode cX1_addNumber 29 = .ok (.aload_n 0, 1) := by decide +kernel
theorem dX1_addNumber_30 : decode cX1_addNumber 30 = .ok (.dup, 1) := by decide +kernel
theorem dX1_addNumber_31 : decode cX1_addNumber 31 = .ok (.getfield 28, 3) := by decide +kernel
theorem dX1_addNumber_34 : decode cX1_addNumber 34 = .ok (.iconst 1, 1) := by decide +kernel
theorem dX1_addNumber_35 : decode cX1_addNumber 35 = .ok (.iadd, 1) := by decide +kernel
theorem dX1_addNumber_36 : decode cX1_addNumber 36 = .ok (.putfield 28, 3) := by decide +kernel
theorem dX1_addNumber_39 : decode cX1_addNumber 39 = .ok (.return_, 1) := by decide +kernel
theorem dX1_isDigit_0 : decode cX1_isDigit 0 = .ok (.iload_n 0, 1) := by decide +kernel
theorem dX1_isDigit_1 : decode cX1_isDigit 1 = .ok (.bipush 48, 2) := by decide +kernel
theorem dX1_isDigit_3 : decode cX1_isDigit 3 = .ok (.if_icmp .lt 13, 3) := by decide +kernel
theorem dX1_isDigit_6 : decode cX1_isDigit 6 = .ok (.iload_n 0, 1) := by decide +kernel
theorem dX1_isDigit_7 : decode cX1_isDigit 7 = .ok (.bipush 57, 2) := by decide +kernel
theorem dX1_isDigit_9 : decode cX1_isDigit 9 = .ok (.if_icmp .gt 7, 3) := by decide +kernel
theorem dX1_isDigit_12 : decode cX1_isDigit 12 = .ok (.iconst 1, 1) := by decide +kernel
theorem dX1_isDigit_13 : decode cX1_isDigit 13 = .ok (.goto 4, 3) := by decide +kernel
theorem dX1_isDigit_16 : decode cX1_isDigit 16 = .ok (.iconst 0, 1) := by decide +kernel
theorem dX1_isDigit_17 : decode cX1_isDigit 17 = .ok (.ireturn, 1) := by decide +kernel
theorem dX2_init_0 : decode cX2_init 0 = .ok (.aload_n 0, 1) := by decide +kernel
theorem dX2_init_1 : decode cX2_init 1 = .ok (.invokespecial 5, 3) := by decide +kernel
theorem dX2_init_4 : decode cX2_init 4 = .ok (.aload_n 0, 1) := by decide +kernel
theorem dX2_init_5 : decode cX2_init 5 = .ok (.iconst 0, 1) := by decide +kernel
theorem dX2_init_6 : decode cX2_init 6 = .ok (.putfield 11, 3) := by decide +kernel
theorem dX2_init_9 : decode cX2_init 9 = .ok (.aload_n 0, 1) := by decide +kernel
theorem dX2_init_10 : decode cX2_init 10 = .ok (.bipush 31, 2) := by decide +kernel
theorem dX2_init_12 : decode cX2_init 12 = .ok (.putfield 15, 3) := by decide +kernel
theorem dX2_init_15 : decode cX2_init 15 = .ok (.aload_n 0, 1) := by decide +kernel
theorem dX2_init_16 : decode cX2_init 16 = .ok (.iconst 0, 1) := by decide +kernel
theorem dX2_init_17 : decode cX2_init 17 = .ok (.putfield 18, 3) := by decide +kernel
theorem dX2_init_20 : decode cX2_init 20 = .ok (.aload_n 0, 1) := by decide +kernel
theorem dX2_init_21 : decode cX2_init 21 = .ok (.iconst 0, 1) := by decide +kernel
theorem dX2_init_22 : decode cX2_init 22 = .ok (.putfield 21, 3) := by decide +kernel
theorem dX2_init_25 : decode cX2_init 25 = .ok (.aload_n 0, 1) := by decide +kernel
theorem dX2_init_26 : decode cX2_init 26 = .ok (.iconst 0, 1) := by decide +kernel
theorem dX2_init_27 : decode cX2_init 27 = .ok (.putfield 24, 3) := by decide +kernel
theorem dX2_init_30 : decode cX2_init 30 = .ok (.aload_n 0, 1) := by decide +kernel
theorem dX2_init_31 : decode cX2_init 31 = .ok (.sipush 176, 3) := by decide +kernel
theorem dX2_init_34 : decode cX2_init 34 = .ok (.newarray .int, 2) := by decide +kernel
theorem dX2_init_36 : decode cX2_init 36 = .ok (.putfield 27, 3) := by decide +kernel
theorem dX2_init_39 : decode cX2_init 39 = .ok (.aload_n 0, 1) := by decide +kernel
theorem dX2_init_40 : decode cX2_init 40 = .ok (.iconst 0, 1) := by decide +kernel
theorem dX2_init_41 : decode cX2_init 41 = .ok (.iconst 0, 1) := by decide +kernel
theorem dX2_init_42 : decode cX2_init 42 = .ok (.bipush 12, 2) := by decide +kernel
theorem dX2_init_44 : decode cX2_init 44 = .ok (.invokevirtual 31, 3) := by decide +kernel
theorem dX2_init_47 : decode cX2_init 47 = .ok (.aload_n 0, 1) := by decide +kernel
theorem dX2_init_48 : decode cX2_init 48 = .ok (.iconst 0, 1) := by decide +kernel
theorem dX2_init_49 : decode cX2_init 49 = .ok (.iconst 1, 1) := by decide +kernel
theorem dX2_init_50 : decode cX2_init 50 = .ok (.bipush 24, 2) := by decide +kernel
theorem dX2_init_52 : decode cX2_init 52 = .ok (.invokevirtual 31, 3) := by decide +kernel
theorem dX2_init_55 : decode cX2_init 55 = .ok (.aload_n 0, 1) := by decide +kernel
theorem dX2_init_56 : decode cX2_init 56 = .ok (.iconst 0, 1) := by decide +kernel
theorem dX2_init_57 : decode cX2_init 57 = .ok (.iconst 2, 1) := by decide +kernel
theorem dX2_init_58 : decode cX2_init 58 = .ok (.bipush 72, 2) := by decide +kernel
theorem dX2_init_60 : decode cX2_init 60 = .ok (.invokevirtual 31, 3) := by decide +kernel
theorem dX2_init_63 : decode cX2_init 63 = .ok (.aload_n 0, 1) := by decide +kernel
theorem dX2_init_64 : decode cX2_init 64 = .ok (.iconst 0, 1) := by decide +kernel
theorem dX2_init_65 : decode cX2_init 65 = .ok (.iconst 3, 1) := by decide +kernel
theorem dX2_init_66 : decode cX2_init 66 = .ok (.bipush 100, 2) := by decide +kernel
theorem dX2_init_68 : decode cX2_init 68 = .ok (.invokevirtual 31, 3) := by decide +kernel
theorem dX2_init_71 : decode cX2_init 71 = .ok (.return_, 1) := by decide +kernel
theorem dX2_read_0 : decode cX2_read 0 = .ok (.iload_n 1, 1) := by decide +kernel
theorem dX2_read_1 : decode cX2_read 1 = .ok (.iload_n 2, 1) := by decide +kernel
theorem dX2_read_2 : decode cX2_read 2 = .ok (.iadd, 1) := by decide +kernel
theorem dX2_read_3 : decode cX2_read 3 = .ok (.istore_n 3, 1) := by decide +kernel
theorem dX2_read_4 : decode cX2_read 4 = .ok (.iload_n 3, 1) := by decide +kernel
theorem dX2_read_5 : decode cX2_read 5 = .ok (.ifCond .lt 21, 3) := by decide +kernel
theorem dX2_read_8 : decode cX2_read 8 = .ok (.iload_n 3, 1) := by decide +kernel
theorem dX2_read_9 : decode cX2_read 9 = .ok (.aload_n 0, 1) := by decide +kernel
theorem dX2_read_10 : decode cX2_read 10 = .ok (.getfield 27, 3) := by decide +kernel
theorem dX2_read_13 : decode cX2_read 13 = .ok (.arraylength, 1) := by decide +kernel
theorem dX2_read_14 : decode cX2_read 14 = .ok (.if_icmp .ge 12, 3) := by decide +kernel
theorem dX2_read_17 : decode cX2_read 17 = .ok (.aload_n 0, 1) := by decide +kernel
theorem dX2_read_18 : decode cX2_read 18 = .ok (.getfield 27, 3) := by decide +kernel
theorem dX2_read_21 : decode cX2_read 21 = .ok (.iload_n 3, 1) := by decide +kernel
theorem dX2_read_22 : decode cX2_read 22 = .ok (.iaload, 1) := by decide +kernel
theorem dX2_read_23 : decode cX2_read 23 = .ok (.goto 4, 3) := by decide +kernel
theorem dX2_read_26 : decode cX2_read 26 = .ok (.iconst 0, 1) := by decide +kernel
theorem dX2_read_27 : decode cX2_read 27 = .ok (.ireturn, 1) := by decide +kernel
theorem dX2_write_0 : decode cX2_write 0 = .ok (.iload_n 1, 1) := by decide +kernel
theorem dX2_write_1 : decode cX2_write 1 = .ok (.iload_n 2, 1) := by decide +kernel
theorem dX2_write_2 : decode cX2_write 2 = .ok (.iadd, 1) := by decide +kernel
theorem dX2_write_3 : decode cX2_write 3 = .ok (.istore 4, 2) := by decide +kernel
theorem dX2_write_5 : decode cX2_write 5 = .ok (.iload 4, 2) := by decide +kernel
theorem dX2_write_7 : decode cX2_write 7 = .ok (.ifCond .lt 21, 3) := by decide +kernel
theorem dX2_write_10 : decode cX2_write 10 = .ok (.iload 4, 2) := by decide +kernel
theorem dX2_write_12 : decode cX2_write 12 = .ok (.aload_n 0, 1) := by decide +kernel
theorem dX2_write_13 : decode cX2_write 13 = .ok (.getfield 27, 3) := by decide +kernel
theorem dX2_write_16 : decode cX2_write 16 = .ok (.arraylength, 1) := by decide +kernel
theorem dX2_write_17 : decode cX2_write 17 = .ok (.if_icmp .ge 11, 3) := by decide +kernel
theorem dX2_write_20 : decode cX2_write 20 = .ok (.aload_n 0, 1) := by decide +kernel
theorem dX2_write_21 : decode cX2_write 21 = .ok (.getfield 27, 3) := by decide +kernel
theorem dX2_write_24 : decode cX2_write 24 = .ok (.iload 4, 2) := by decide +kernel
theorem dX2_write_26 : decode cX2_write 26 = .ok (.iload_n 3, 1) := by decide +kernel
theorem dX2_write_27 : decode cX2_write 27 = .ok (.iastore, 1) := by decide +kernel
theorem dX2_write_28 : decode cX2_write 28 = .ok (.return_, 1) := by decide +kernel
theorem dX2_become_0 : decode cX2_become 0 = .ok (.aload_n 0, 1) := by decide +kernel
theorem dX2_become_1 : decode cX2_become 1 = .ok (.aload_n 1, 1) := by decide +kernel
theorem dX2_become_2 : decode cX2_become 2 = .ok (.getfield 11, 3) := by decide +kernel
theorem dX2_become_5 : decode cX2_become 5 = .ok (.putfield 11, 3) := by decide +kernel
theorem dX2_become_8 : decode cX2_become 8 = .ok (.aload_n 0, 1) := by decide +kernel
theorem dX2_become_9 : decode cX2_become 9 = .ok (.aload_n 1, 1) := by decide +kernel
theorem dX2_become_10 : decode cX2_become 10 = .ok (.getfield 15, 3) := by decide +kernel
theorem dX2_become_13 : decode cX2_become 13 = .ok (.putfield 15, 3) := by decide +kernel
theorem dX2_become_16 : decode cX2_become 16 = .ok (.aload_n 0, 1) := by decide +kernel
theorem dX2_become_17 : decode cX2_become 17 = .ok (.aload_n 1, 1) := by decide +kernel
theorem dX2_become_18 : decode cX2_become 18 = .ok (.getfield 18, 3) := by decide +kernel
theorem dX2_become_21 : decode cX2_become 21 = .ok (.putfield 18, 3) := by decide +kernel
theorem dX2_become_24 : decode cX2_become 24 = .ok (.aload_n 0, 1) := by decide +kernel
theorem dX2_become_25 : decode cX2_become 25 = .ok (.aload_n 1, 1) := by decide +kernel
theorem dX2_become_26 : decode cX2_become 26 = .ok (.getfield 21, 3) := by decide +kernel
theorem dX2_become_29 : decode cX2_become 29 = .ok (.putfield 21, 3) := by decide +kernel
theorem dX2_become_32 : decode cX2_become 32 = .ok (.aload_n 0, 1) := by decide +kernel
theorem dX2_become_33 : decode cX2_become 33 = .ok (.aload_n 1, 1) := by decide +kernel
theorem dX2_become_34 : decode cX2_become 34 = .ok (.getfield 24, 3) := by decide +kernel
theorem dX2_become_37 : decode cX2_become 37 = .ok (.putfield 24, 3) := by decide +kernel
theorem dX2_become_40 : decode cX2_become 40 = .ok (.aload_n 1, 1) := by decide +kernel
theorem dX2_become_41 : decode cX2_become 41 = .ok (.getfield 27, 3) := by decide +kernel
theorem dX2_become_44 : decode cX2_become 44 = .ok (.iconst 0, 1) := by decide +kernel
theorem dX2_become_45 : decode cX2_become 45 = .ok (.aload_n 0, 1) := by decide +kernel
theorem dX2_become_46 : decode cX2_become 46 = .ok (.getfield 27, 3) := by decide +kernel
theorem dX2_become_49 : decode cX2_become 49 = .ok (.iconst 0, 1) := by decide +kernel
theorem dX2_become_50 : decode cX2_become 50 = .ok (.aload_n 1, 1) := by decide +kernel
theorem dX2_become_51 : decode cX2_become 51 = .ok (.getfield 27, 3) := by decide +kernel
theorem dX2_become_54 : decode cX2_become 54 = .ok (.arraylength, 1) := by decide +kernel
theorem dX2_become_55 : decode cX2_become 55 = .ok (.aload_n 0, 1) := by decide +kernel
theorem dX2_become_56 : decode cX2_become 56 = .ok (.getfield 27, 3) := by decide +kernel
theorem dX2_become_59 : decode cX2_become 59 = .ok (.arraylength, 1) := by decide +kernel
theorem dX2_become_60 : decode cX2_become 60 = .ok (.invokestatic 35, 3) := by decide +kernel
theorem dX2_become_63 : decode cX2_become 63 = .ok (.invokestatic 41, 3) := by decide +kernel
theorem dX2_become_66 : decode cX2_become 66 = .ok (.return_, 1) := by decide +kernel
theorem dX2_hasPerson_0 : decode cX2_hasPerson 0 = .ok (.iload_n 1, 1) := by decide +kernel
theorem dX2_hasPerson_1 : decode cX2_hasPerson 1 = .ok (.ifCond .lt 15, 3) := by decide +kernel
theorem dX2_hasPerson_4 : decode cX2_hasPerson 4 = .ok (.iload_n 1, 1) := by decide +kernel
theorem dX2_hasPerson_5 : decode cX2_hasPerson 5 = .ok (.aload_n 0, 1) := by decide +kernel
theorem dX2_hasPerson_6 : decode cX2_hasPerson 6 = .ok (.getfield 18, 3) := by decide +kernel
theorem dX2_hasPerson_9 : decode cX2_hasPerson 9 = .ok (.if_icmp .ge 7, 3) := by decide +kernel
theorem dX2_hasPerson_12 : decode cX2_hasPerson 12 = .ok (.iconst 1, 1) := by decide +kernel
theorem dX2_hasPerson_13 : decode cX2_hasPerson 13 = .ok (.goto 4, 3) := by decide +kernel
theorem dX2_hasPerson_16 : decode cX2_hasPerson 16 = .ok (.iconst 0, 1) := by decide +kernel
theorem dX2_hasPerson_17 : decode cX2_hasPerson 17 = .ok (.ireturn, 1) := by decide +kernel
theorem dX2_hasQuarrel_0 : decode cX2_hasQuarrel 0 = .ok (.iload_n 1, 1) := by decide +kernel
theorem dX2_hasQuarrel_1 : decode cX2_hasQuarrel 1 = .ok (.ifCond .lt 15, 3) := by decide +kernel
theorem dX2_hasQuarrel_4 : decode cX2_hasQuarrel 4 = .ok (.iload_n 1, 1) := by decide +kernel
theorem dX2_hasQuarrel_5 : decode cX2_hasQuarrel 5 = .ok (.aload_n 0, 1) := by decide +kernel
theorem dX2_hasQuarrel_6 : decode cX2_hasQuarrel 6 = .ok (.getfield 21, 3) := by decide +kernel
theorem dX2_hasQuarrel_9 : decode cX2_hasQuarrel 9 = .ok (.if_icmp .ge 7, 3) := by decide +kernel
theorem dX2_hasQuarrel_12 : decode cX2_hasQuarrel 12 = .ok (.iconst 1, 1) := by decide +kernel
theorem dX2_hasQuarrel_13 : decode cX2_hasQuarrel 13 = .ok (.goto 4, 3) := by decide +kernel
theorem dX2_hasQuarrel_16 : decode cX2_hasQuarrel 16 = .ok (.iconst 0, 1) := by decide +kernel
theorem dX2_hasQuarrel_17 : decode cX2_hasQuarrel 17 = .ok (.ireturn, 1) := by decide +kernel
theorem dX2_isOpen_0 : decode cX2_isOpen 0 = .ok (.aload_n 0, 1) := by decide +kernel
theorem dX2_isOpen_1 : decode cX2_isOpen 1 = .ok (.bipush 92, 2) := by decide +kernel
theorem dX2_isOpen_3 : decode cX2_isOpen 3 = .ok (.iload_n 1, 1) := by decide +kernel
theorem dX2_isOpen_4 : decode cX2_isOpen 4 = .ok (.invokevirtual 47, 3) := by decide +kernel
theorem dX2_isOpen_7 : decode cX2_isOpen 7 = .ok (.ifCond .ne 7, 3) := by decide +kernel
theorem dX2_isOpen_10 : decode cX2_isOpen 10 = .ok (.iconst 1, 1) := by decide +kernel
theorem dX2_isOpen_11 : decode cX2_isOpen 11 = .ok (.goto 4, 3) := by decide +kernel
theorem dX2_isOpen_14 : decode cX2_isOpen 14 = .ok (.iconst 0, 1) := by decide +kernel
theorem dX2_isOpen_15 : decode cX2_isOpen 15 = .ok (.ireturn, 1) := by decide +kernel
theorem dX2_allows_0 : decode cX2_allows 0 = .ok (.aload_n 0, 1) := by decide +kernel
theorem dX2_allows_1 : decode cX2_allows 1 = .ok (.getfield 15, 3) := by decide +kernel
theorem dX2_allows_4 : decode cX2_allows 4 = .ok (.iconst 1, 1) := by decide +kernel
theorem dX2_allows_5 : decode cX2_allows 5 = .ok (.iload_n 1, 1) := by decide +kernel
theorem dX2_allows_6 : decode cX2_allows 6 = .ok (.ishl, 1) := by decide +kernel
theorem dX2_allows_7 : decode cX2_allows 7 = .ok (.iand, 1) := by decide +kernel
theorem dX2_allows_8 : decode cX2_allows 8 = .ok (.ifCond .eq 7, 3) := by decide +kernel
theorem dX2_allows_11 : decode cX2_allows 11 = .ok (.iconst 1, 1) := by decide +kernel
theorem dX2_allows_12 : decode cX2_allows 12 = .ok (.goto 4, 3) := by decide +kernel
theorem dX2_allows_15 : decode cX2_allows 15 = .ok (.iconst 0, 1) := by decide +kernel
theorem dX2_allows_16 : decode cX2_allows 16 = .ok (.ireturn, 1) := by decide +kernel
theorem dX2_hoursSince_0 : decode cX2_hoursSince 0 = .ok (.aload_n 0, 1) := by decide +kernel
theorem dX2_hoursSince_1 : decode cX2_hoursSince 1 = .ok (.getfield 11, 3) := by decide +kernel
theorem dX2_hoursSince_4 : decode cX2_hoursSince 4 = .ok (.aload_n 0, 1) := by decide +kernel
theorem dX2_hoursSince_5 : decode cX2_hoursSince 5 = .ok (.bipush 80, 2) := by decide +kernel
theorem dX2_hoursSince_7 : decode cX2_hoursSince 7 = .ok (.iload_n 1, 1) := by decide +kernel
theorem dX2_hoursSince_8 : decode cX2_hoursSince 8 = .ok (.invokevirtual 47, 3) := by decide +kernel
theorem dX2_hoursSince_11 : decode cX2_hoursSince 11 = .ok (.isub, 1) := by decide +kernel
theorem dX2_hoursSince_12 : decode cX2_hoursSince 12 = .ok (.ireturn, 1) := by decide +kernel
theorem dX2_oathLeft_0 : decode cX2_oathLeft 0 = .ok (.iconst 0, 1) := by decide +kernel
theorem dX2_oathLeft_1 : decode cX2_oathLeft 1 = .ok (.aload_n 0, 1) := by decide +kernel
theorem dX2_oathLeft_2 : decode cX2_oathLeft 2 = .ok (.bipush 34, 2) := by decide +kernel
theorem dX2_oathLeft_4 : decode cX2_oathLeft 4 = .ok (.iload_n 1, 1) := by decide +kernel
theorem dX2_oathLeft_5 : decode cX2_oathLeft 5 = .ok (.invokevirtual 47, 3) := by decide +kernel
theorem dX2_oathLeft_8 : decode cX2_oathLeft 8 = .ok (.aload_n 0, 1) := by decide +kernel
theorem dX2_oathLeft_9 : decode cX2_oathLeft 9 = .ok (.getfield 11, 3) := by decide +kernel
theorem dX2_oathLeft_12 : decode cX2_oathLeft 12 = .ok (.isub, 1) := by decide +kernel
theorem dX2_oathLeft_13 : decode cX2_oathLeft 13 = .ok (.invokestatic 50, 3) := by decide +kernel
theorem dX2_oathLeft_16 : decode cX2_oathLeft 16 = .ok (.ireturn, 1) := by decide +kernel
theorem dX2_isPoints_0 : decode cX2_isPoints 0 = .ok (.iload_n 0, 1) := by decide +kernel
theorem dX2_isPoints_1 : decode cX2_isPoints 1 = .ok (.ifCond .lt 13, 3) := by decide +kernel
theorem dX2_isPoints_4 : decode cX2_isPoints 4 = .ok (.iload_n 0, 1) := by decide +kernel
theorem dX2_isPoints_5 : decode cX2_isPoints 5 = .ok (.bipush 9, 2) := by decide +kernel
theorem dX2_isPoints_7 : decode cX2_isPoints 7 = .ok (.if_icmp .gt 7, 3) := by decide +kernel
theorem dX2_isPoints_10 : decode cX2_isPoints 10 = .ok (.iconst 1, 1) := by decide +kernel
theorem dX2_isPoints_11 : decode cX2_isPoints 11 = .ok (.goto 4, 3) := by decide +kernel
theorem dX2_isPoints_14 : decode cX2_isPoints 14 = .ok (.iconst 0, 1) := by decide +kernel
theorem dX2_isPoints_15 : decode cX2_isPoints 15 = .ok (.ireturn, 1) := by decide +kernel
theorem dX2_isRank_0 : decode cX2_isRank 0 = .ok (.iload_n 0, 1) := by decide +kernel
theorem dX2_isRank_1 : decode cX2_isRank 1 = .ok (.iconst 1, 1) := by decide +kernel
theorem dX2_isRank_2 : decode cX2_isRank 2 = .ok (.if_icmp .lt 13, 3) := by decide +kernel
theorem dX2_isRank_5 : decode cX2_isRank 5 = .ok (.iload_n 0, 1) := by decide +kernel
theorem dX2_isRank_6 : decode cX2_isRank 6 = .ok (.bipush 9, 2) := by decide +kernel
theorem dX2_isRank_8 : decode cX2_isRank 8 = .ok (.if_icmp .gt 7, 3) := by decide +kernel
theorem dX2_isRank_11 : decode cX2_isRank 11 = .ok (.iconst 1, 1) := by decide +kernel
theorem dX2_isRank_12 : decode cX2_isRank 12 = .ok (.goto 4, 3) := by decide +kernel
theorem dX2_isRank_15 : decode cX2_isRank 15 = .ok (.iconst 0, 1) := by decide +kernel
theorem dX2_isRank_16 : decode cX2_isRank 16 = .ok (.ireturn, 1) := by decide +kernel
theorem dX2_areThese_0 : decode cX2_areThese 0 = .ok (.iload_n 0, 1) := by decide +kernel
theorem dX2_areThese_1 : decode cX2_areThese 1 = .ok (.iload_n 2, 1) := by decide +kernel
theorem dX2_areThese_2 : decode cX2_areThese 2 = .ok (.if_icmp .ne 8, 3) := by decide +kernel
theorem dX2_areThese_5 : decode cX2_areThese 5 = .ok (.iload_n 1, 1) := by decide +kernel
theorem dX2_areThese_6 : decode cX2_areThese 6 = .ok (.iload_n 3, 1) := by decide +kernel
theorem dX2_areThese_7 : decode cX2_areThese 7 = .ok (.if_icmp .eq 13, 3) := by decide +kernel
theorem dX2_areThese_10 : decode cX2_areThese 10 = .ok (.iload_n 0, 1) := by decide +kernel
theorem dX2_areThese_11 : decode cX2_areThese 11 = .ok (.iload_n 3, 1) := by decide +kernel
theorem dX2_areThese_12 : decode cX2_areThese 12 = .ok (.if_icmp .ne 12, 3) := by decide +kernel
theorem dX2_areThese_15 : decode cX2_areThese 15 = .ok (.iload_n 1, 1) := by decide +kernel
theorem dX2_areThese_16 : decode cX2_areThese 16 = .ok (.iload_n 2, 1) := by decide +kernel
theorem dX2_areThese_17 : decode cX2_areThese 17 = .ok (.if_icmp .ne 7, 3) := by decide +kernel
theorem dX2_areThese_20 : decode cX2_areThese 20 = .ok (.iconst 1, 1) := by decide +kernel
theorem dX2_areThese_21 : decode cX2_areThese 21 = .ok (.goto 4, 3) := by decide +kernel
theorem dX2_areThese_24 : decode cX2_areThese 24 = .ok (.iconst 0, 1) := by decide +kernel
theorem dX2_areThese_25 : decode cX2_areThese 25 = .ok (.ireturn, 1) := by decide +kernel
theorem dX2_changeSetting_0 : decode cX2_changeSetting 0 = .ok (.iload_n 1, 1) := by decide +kernel
theorem dX2_changeSetting_1 : decode cX2_changeSetting 1 = .ok (.ifCond .lt 19, 3) := by decide +kernel
theorem dX2_changeSetting_4 : decode cX2_changeSetting 4 = .ok (.iload_n 1, 1) := by decide +kernel
theorem dX2_changeSetting_5 : decode cX2_changeSetting 5 = .ok (.getstatic 53, 3) := by decide +kernel
theorem dX2_changeSetting_8 : decode cX2_changeSetting 8 = .ok (.arraylength, 1) := by decide +kernel
theorem dX2_changeSetting_9 : decode cX2_changeSetting 9 = .ok (.if_icmp .ge 11, 3) := by decide +kernel
theorem dX2_changeSetting_12 : decode cX2_changeSetting 12 = .ok (.iload_n 1, 1) := by decide +kernel
theorem dX2_changeSetting_13 : decode cX2_changeSetting 13 = .ok (.getstatic 56, 3) := by decide +kernel
theorem dX2_changeSetting_16 : decode cX2_changeSetting 16 = .ok (.arraylength, 1) := by decide +kernel
theorem dX2_changeSetting_17 : decode cX2_changeSetting 17 = .ok (.if_icmp .lt 6, 3) := by decide +kernel
theorem dX2_changeSetting_20 : decode cX2_changeSetting 20 = .ok (.bipush (-2), 2) := by decide +kernel
theorem dX2_changeSetting_22 : decode cX2_changeSetting 22 = .ok (.ireturn, 1) := by decide +kernel
theorem dX2_changeSetting_23 : decode cX2_changeSetting 23 = .ok (.iload_n 2, 1) := by decide +kernel
theorem dX2_changeSetting_24 : decode cX2_changeSetting 24 = .ok (.getstatic 53, 3) := by decide +kernel
theorem dX2_changeSetting_27 : decode cX2_changeSetting 27 = .ok (.iload_n 1, 1) := by decide +kernel
theorem dX2_changeSetting_28 : decode cX2_changeSetting 28 = .ok (.iaload, 1) := by decide +kernel
theorem dX2_changeSetting_29 : decode cX2_changeSetting 29 = .ok (.if_icmp .lt 12, 3) := by decide +kernel
theorem dX2_changeSetting_32 : decode cX2_changeSetting 32 = .ok (.iload_n 2, 1) := by decide +kernel
theorem dX2_changeSetting_33 : decode cX2_changeSetting 33 = .ok (.getstatic 56, 3) := by decide +kernel
theorem dX2_changeSetting_36 : decode cX2_changeSetting 36 = .ok (.iload_n 1, 1) := by decide +kernel
theorem dX2_changeSetting_37 : decode cX2_changeSetting 37 = .ok (.iaload, 1) := by decide +kernel
theorem dX2_changeSetting_38 : decode cX2_changeSetting 38 = .ok (.if_icmp .le 6, 3) := by decide +kernel
theorem dX2_changeSetting_41 : decode cX2_changeSetting 41 = .ok (.bipush (-2), 2) := by decide +kernel
theorem dX2_changeSetting_43 : decode cX2_changeSetting 43 = .ok (.ireturn, 1) := by decide +kernel
theorem dX2_changeSetting_44 : decode cX2_changeSetting 44 = .ok (.aload_n 0, 1) := by decide +kernel
theorem dX2_changeSetting_45 : decode cX2_changeSetting 45 = .ok (.iconst 0, 1) := by decide +kernel
theorem dX2_changeSetting_46 : decode cX2_changeSetting 46 = .ok (.iload_n 1, 1) := by decide +kernel
theorem dX2_changeSetting_47 : decode cX2_changeSetting 47 = .ok (.invokevirtual 47, 3) := by decide +kernel
theorem dX2_changeSetting_50 : decode cX2_changeSetting 50 = .ok (.istore_n 3, 1) := by decide +kernel
theorem dX2_changeSetting_51 : decode cX2_changeSetting 51 = .ok (.aload_n 0, 1) := by decide +kernel
theorem dX2_changeSetting_52 : decode cX2_changeSetting 52 = .ok (.iconst 0, 1) := by decide +kernel
theorem dX2_changeSetting_53 : decode cX2_changeSetting 53 = .ok (.iload_n 1, 1) := by decide +kernel
theorem dX2_changeSetting_54 : decode cX2_changeSetting 54 = .ok (.iload_n 2, 1) := by decide +kernel
theorem dX2_changeSetting_55 : decode cX2_changeSetting 55 = .ok (.invokevirtual 31, 3) := by decide +kernel
theorem dX2_changeSetting_58 : decode cX2_changeSetting 58 = .ok (.iload_n 3, 1) := by decide +kernel
theorem dX2_changeSetting_59 : decode cX2_changeSetting 59 = .ok (.ireturn, 1) := by decide +kernel
theorem dX2_addPerson_0 : decode cX2_addPerson 0 = .ok (.iload_n 1, 1) := by decide +kernel
theorem dX2_addPerson_1 : decode cX2_addPerson 1 = .ok (.invokestatic 59, 3) := by decide +kernel
theorem dX2_addPerson_4 : decode cX2_addPerson 4 = .ok (.ifCond .eq 10, 3) := by decide +kernel
theorem dX2_addPerson_7 : decode cX2_addPerson 7 = .ok (.iload_n 2, 1) := by decide +kernel
theorem dX2_addPerson_8 : decode cX2_addPerson 8 = .ok (.invokestatic 59, 3) := by decide +kernel
theorem dX2_addPerson_11 : decode cX2_addPerson 11 = .ok (.ifCond .ne 6, 3) := by decide +kernel
theorem dX2_addPerson_14 : decode cX2_addPerson 14 = .ok (.bipush (-2), 2) := by decide +kernel
theorem dX2_addPerson_16 : decode cX2_addPerson 16 = .ok (.ireturn, 1) := by decide +kernel
theorem dX2_addPerson_17 : decode cX2_addPerson 17 = .ok (.aload_n 0, 1) := by decide +kernel
theorem dX2_addPerson_18 : decode cX2_addPerson 18 = .ok (.getfield 18, 3) := by decide +kernel
theorem dX2_addPerson_21 : decode cX2_addPerson 21 = .ok (.bipush 10, 2) := by decide +kernel
theorem dX2_addPerson_23 : decode cX2_addPerson 23 = .ok (.if_icmp .lt 6, 3) := by decide +kernel
theorem dX2_addPerson_26 : decode cX2_addPerson 26 = .ok (.bipush (-4), 2) := by decide +kernel
theorem dX2_addPerson_28 : decode cX2_addPerson 28 = .ok (.ireturn, 1) := by decide +kernel
theorem dX2_addPerson_29 : decode cX2_addPerson 29 = .ok (.aload_n 0, 1) := by decide +kernel
theorem dX2_addPerson_30 : decode cX2_addPerson 30 = .ok (.getfield 18, 3) := by decide +kernel
theorem dX2_addPerson_33 : decode cX2_addPerson 33 = .ok (.istore_n 3, 1) := by decide +kernel
theorem dX2_addPerson_34 : decode cX2_addPerson 34 = .ok (.aload_n 0, 1) := by decide +kernel
theorem dX2_addPerson_35 : decode cX2_addPerson 35 = .ok (.iconst 4, 1) := by decide +kernel
theorem dX2_addPerson_36 : decode cX2_addPerson 36 = .ok (.iload_n 3, 1) := by decide +kernel
theorem dX2_addPerson_37 : decode cX2_addPerson 37 = .ok (.iload_n 1, 1) := by decide +kernel
theorem dX2_addPerson_38 : decode cX2_addPerson 38 = .ok (.invokevirtual 31, 3) := by decide +kernel
theorem dX2_addPerson_41 : decode cX2_addPerson 41 = .ok (.aload_n 0, 1) := by decide +kernel
theorem dX2_addPerson_42 : decode cX2_addPerson 42 = .ok (.bipush 14, 2) := by decide +kernel
theorem dX2_addPerson_44 : decode cX2_addPerson 44 = .ok (.iload_n 3, 1) := by decide +kernel
theorem dX2_addPerson_45 : decode cX2_addPerson 45 = .ok (.iload_n 2, 1) := by decide +kernel
theorem dX2_addPerson_46 : decode cX2_addPerson 46 = .ok (.invokevirtual 31, 3) := by decide +kernel
theorem dX2_addPerson_49 : decode cX2_addPerson 49 = .ok (.aload_n 0, 1) := by decide +kernel
theorem dX2_addPerson_50 : decode cX2_addPerson 50 = .ok (.bipush 24, 2) := by decide +kernel
theorem dX2_addPerson_52 : decode cX2_addPerson 52 = .ok (.iload_n 3, 1) := by decide +kernel
theorem dX2_addPerson_53 : decode cX2_addPerson 53 = .ok (.bipush (-6), 2) := by decide +kernel
theorem dX2_addPerson_55 : decode cX2_addPerson 55 = .ok (.invokevirtual 31, 3) := by decide +kernel
theorem dX2_addPerson_58 : decode cX2_addPerson 58 = .ok (.aload_n 0, 1) := by decide +kernel
theorem dX2_addPerson_59 : decode cX2_addPerson 59 = .ok (.bipush 34, 2) := by decide +kernel
theorem dX2_addPerson_61 : decode cX2_addPerson 61 = .ok (.iload_n 3, 1) := by decide +kernel
theorem dX2_addPerson_62 : decode cX2_addPerson 62 = .ok (.iconst 0, 1) := by decide +kernel
theorem dX2_addPerson_63 : decode cX2_addPerson 63 = .ok (.invokevirtual 31, 3) := by decide +kernel
theorem dX2_addPerson_66 : decode cX2_addPerson 66 = .ok (.aload_n 0, 1) := by decide +kernel
theorem dX2_addPerson_67 : decode cX2_addPerson 67 = .ok (.dup, 1) := by decide +kernel
theorem dX2_addPerson_68 : decode cX2_addPerson 68 = .ok (.getfield 18, 3) := by decide +kernel
theorem dX2_addPerson_71 : decode cX2_addPerson 71 = .ok (.iconst 1, 1) := by decide +kernel
theorem dX2_addPerson_72 : decode cX2_addPerson 72 = .ok (.iadd, 1) := by decide +kernel
theorem dX2_addPerson_73 : decode cX2_addPerson 73 = .ok (.putfield 18, 3) := by decide +kernel
theorem dX2_addPerson_76 : decode cX2_addPerson 76 = .ok (.iload_n 3, 1) := by decide +kernel
theorem dX2_addPerson_77 : decode cX2_addPerson 77 = .ok (.ireturn, 1) := by decide +kernel
theorem dX2_takeSecond_0 : decode cX2_takeSecond 0 = .ok (.aload_n 0, 1) := by decide +kernel
theorem dX2_takeSecond_1 : decode cX2_takeSecond 1 = .ok (.iload_n 1, 1) := by decide +kernel
theorem dX2_takeSecond_2 : decode cX2_takeSecond 2 = .ok (.invokevirtual 63, 3) := by decide +kernel
theorem dX2_takeSecond_5 : decode cX2_takeSecond 5 = .ok (.ifCond .eq 11, 3) := by decide +kernel
theorem dX2_takeSecond_8 : decode cX2_takeSecond 8 = .ok (.aload_n 0, 1) := by decide +kernel
theorem dX2_takeSecond_9 : decode cX2_takeSecond 9 = .ok (.iload_n 2, 1) := by decide +kernel
theorem dX2_takeSecond_10 : decode cX2_takeSecond 10 = .ok (.invokevirtual 63, 3) := by decide +kernel
theorem dX2_takeSecond_13 : decode cX2_takeSecond 13 = .ok (.ifCond .ne 5, 3) := by decide +kernel
theorem dX2_takeSecond_16 : decode cX2_takeSecond 16 = .ok (.iconst (-1), 1) := by decide +kernel
theorem dX2_takeSecond_17 : decode cX2_takeSecond 17 = .ok (.ireturn, 1) := by decide +kernel
theorem dX2_takeSecond_18 : decode cX2_takeSecond 18 = .ok (.iload_n 1, 1) := by decide +kernel
theorem dX2_takeSecond_19 : decode cX2_takeSecond 19 = .ok (.iload_n 2, 1) := by decide +kernel
theorem dX2_takeSecond_20 : decode cX2_takeSecond 20 = .ok (.if_icmp .ne 6, 3) := by decide +kernel
theorem dX2_takeSecond_23 : decode cX2_takeSecond 23 = .ok (.bipush (-2), 2) := by decide +kernel
theorem dX2_takeSecond_25 : decode cX2_takeSecond 25 = .ok (.ireturn, 1) := by decide +kernel
theorem dX2_takeSecond_26 : decode cX2_takeSecond 26 = .ok (.aload_n 0, 1) := by decide +kernel
theorem dX2_takeSecond_27 : decode cX2_takeSecond 27 = .ok (.bipush 24, 2) := by decide +kernel
theorem dX2_takeSecond_29 : decode cX2_takeSecond 29 = .ok (.iload_n 1, 1) := by decide +kernel
theorem dX2_takeSecond_30 : decode cX2_takeSecond 30 = .ok (.invokevirtual 47, 3) := by decide +kernel
theorem dX2_takeSecond_33 : decode cX2_takeSecond 33 = .ok (.istore_n 3, 1) := by decide +kernel
theorem dX2_takeSecond_34 : decode cX2_takeSecond 34 = .ok (.aload_n 0, 1) := by decide +kernel
theorem dX2_takeSecond_35 : decode cX2_takeSecond 35 = .ok (.bipush 24, 2) := by decide +kernel
theorem dX2_takeSecond_37 : decode cX2_takeSecond 37 = .ok (.iload_n 1, 1) := by decide +kernel
theorem dX2_takeSecond_38 : decode cX2_takeSecond 38 = .ok (.iload_n 2, 1) := by decide +kernel
theorem dX2_takeSecond_39 : decode cX2_takeSecond 39 = .ok (.invokevirtual 31, 3) := by decide +kernel
theorem dX2_takeSecond_42 : decode cX2_takeSecond 42 = .ok (.iload_n 3, 1) := by decide +kernel
theorem dX2_takeSecond_43 : decode cX2_takeSecond 43 = .ok (.ireturn, 1) := by decide +kernel
theorem dX2_allowOrBar_0 : decode cX2_allowOrBar 0 = .ok (.iload_n 1, 1) := by decide +kernel
theorem dX2_allowOrBar_1 : decode cX2_allowOrBar 1 = .ok (.ifCond .lt 8, 3) := by decide +kernel
theorem dX2_allowOrBar_4 : decode cX2_allowOrBar 4 = .ok (.iload_n 1, 1) := by decide +kernel
theorem dX2_allowOrBar_5 : decode cX2_allowOrBar 5 = .ok (.iconst 5, 1) := by decide +kernel
theorem dX2_allowOrBar_6 : decode cX2_allowOrBar 6 = .ok (.if_icmp .lt 5, 3) := by decide +kernel
theorem dX2_allowOrBar_9 : decode cX2_allowOrBar 9 = .ok (.iconst (-1), 1) := by decide +kernel
theorem dX2_allowOrBar_10 : decode cX2_allowOrBar 10 = .ok (.ireturn, 1) := by decide +kernel
theorem dX2_allowOrBar_11 : decode cX2_allowOrBar 11 = .ok (.aload_n 0, 1) := by decide +kernel
theorem dX2_allowOrBar_12 : decode cX2_allowOrBar 12 = .ok (.dup, 1) := by decide +kernel
theorem dX2_allowOrBar_13 : decode cX2_allowOrBar 13 = .ok (.getfield 15, 3) := by decide +kernel
theorem dX2_allowOrBar_16 : decode cX2_allowOrBar 16 = .ok (.iconst 1, 1) := by decide +kernel
theorem dX2_allowOrBar_17 : decode cX2_allowOrBar 17 = .ok (.iload_n 1, 1) := by decide +kernel
theorem dX2_allowOrBar_18 : decode cX2_allowOrBar 18 = .ok (.ishl, 1) := by decide +kernel
theorem dX2_allowOrBar_19 : decode cX2_allowOrBar 19 = .ok (.ixor, 1) := by decide +kernel
theorem dX2_allowOrBar_20 : decode cX2_allowOrBar 20 = .ok (.putfield 15, 3) := by decide +kernel
theorem dX2_allowOrBar_23 : decode cX2_allowOrBar 23 = .ok (.aload_n 0, 1) := by decide +kernel
theorem dX2_allowOrBar_24 : decode cX2_allowOrBar 24 = .ok (.getfield 15, 3) := by decide +kernel
theorem dX2_allowOrBar_27 : decode cX2_allowOrBar 27 = .ok (.ireturn, 1) := by decide +kernel
theorem dX2_errorOfInsult_0 : decode cX2_errorOfInsult 0 = .ok (.aload_n 0, 1) := by decide +kernel
theorem dX2_errorOfInsult_1 : decode cX2_errorOfInsult 1 = .ok (.iload_n 1, 1) := by decide +kernel
theorem dX2_errorOfInsult_2 : decode cX2_errorOfInsult 2 = .ok (.invokevirtual 63, 3) := by decide +kernel
theorem dX2_errorOfInsult_5 : decode cX2_errorOfInsult 5 = .ok (.ifCond .eq 11, 3) := by decide +kernel
theorem dX2_errorOfInsult_8 : decode cX2_errorOfInsult 8 = .ok (.aload_n 0, 1) := by decide +kernel
theorem dX2_errorOfInsult_9 : decode cX2_errorOfInsult 9 = .ok (.iload_n 2, 1) := by decide +kernel
theorem dX2_errorOfInsult_10 : decode cX2_errorOfInsult 10 = .ok (.invokevirtual 63, 3) := by decide +kernel
theorem dX2_errorOfInsult_13 : decode cX2_errorOfInsult 13 = .ok (.ifCond .ne 5, 3) := by decide +kernel
theorem dX2_errorOfInsult_16 : decode cX2_errorOfInsult 16 = .ok (.iconst (-1), 1) := by decide +kernel
theorem dX2_errorOfInsult_17 : decode cX2_errorOfInsult 17 = .ok (.ireturn, 1) := by decide +kernel
theorem dX2_errorOfInsult_18 : decode cX2_errorOfInsult 18 = .ok (.iload_n 1, 1) := by decide +kernel
theorem dX2_errorOfInsult_19 : decode cX2_errorOfInsult 19 = .ok (.iload_n 2, 1) := by decide +kernel
theorem dX2_errorOfInsult_20 : decode cX2_errorOfInsult 20 = .ok (.if_icmp .eq 10, 3) := by decide +kernel
theorem dX2_errorOfInsult_23 : decode cX2_errorOfInsult 23 = .ok (.iload_n 3, 1) := by decide +kernel
theorem dX2_errorOfInsult_24 : decode cX2_errorOfInsult 24 = .ok (.invokestatic 66, 3) := by decide +kernel
theorem dX2_errorOfInsult_27 : decode cX2_errorOfInsult 27 = .ok (.ifCond .ne 8, 3) := by decide +kernel
theorem dX2_errorOfInsult_30 : decode cX2_errorOfInsult 30 = .ok (.bipush (-2), 2) := by decide +kernel
theorem dX2_errorOfInsult_32 : decode cX2_errorOfInsult 32 = .ok (.goto 4, 3) := by decide +kernel
theorem dX2_errorOfInsult_35 : decode cX2_errorOfInsult 35 = .ok (.iconst 0, 1) := by decide +kernel
theorem dX2_errorOfInsult_36 : decode cX2_errorOfInsult 36 = .ok (.ireturn, 1) := by decide +kernel
theorem dX2_haveOpenQuarrel_0 : decode cX2_haveOpenQuarrel 0 = .ok (.iconst 0, 1) := by decide +kernel
theorem dX2_haveOpenQuarrel_1 : decode cX2_haveOpenQuarrel 1 = .ok (.istore_n 3, 1) := by decide +kernel
theorem dX2_haveOpenQuarrel_2 : decode cX2_haveOpenQuarrel 2 = .ok (.iload_n 3, 1) := by decide +kernel
theorem dX2_haveOpenQuarrel_3 : decode cX2_haveOpenQuarrel 3 = .ok (.aload_n 0, 1) := by decide +kernel
theorem dX2_haveOpenQuarrel_4 : decode cX2_haveOpenQuarrel 4 = .ok (.getfield 21, 3) := by decide +kernel
theorem dX2_haveOpenQuarrel_7 : decode cX2_haveOpenQuarrel 7 = .ok (.if_icmp .ge 41, 3) := by decide +kernel
theorem dX2_haveOpenQuarrel_10 : decode cX2_haveOpenQuarrel 10 = .ok (.aload_n 0, 1) := by decide +kernel
theorem dX2_haveOpenQuarrel_11 : decode cX2_haveOpenQuarrel 11 = .ok (.iload_n 3, 1) := by decide +kernel
theorem dX2_haveOpenQuarrel_12 : decode cX2_haveOpenQuarrel 12 = .ok (.invokevirtual 69, 3) := by decide +kernel
theorem dX2_haveOpenQuarrel_15 : decode cX2_haveOpenQuarrel 15 = .ok (.ifCond .eq 27, 3) := by decide +kernel
theorem dX2_haveOpenQuarrel_18 : decode cX2_haveOpenQuarrel 18 = .ok (.iload_n 1, 1) := by decide +kernel
theorem dX2_haveOpenQuarrel_19 : decode cX2_haveOpenQuarrel 19 = .ok (.iload_n 2, 1) := by decide +kernel
theorem dX2_haveOpenQuarrel_20 : decode cX2_haveOpenQuarrel 20 = .ok (.aload_n 0, 1) := by decide +kernel
theorem dX2_haveOpenQuarrel_21 : decode cX2_haveOpenQuarrel 21 = .ok (.bipush 44, 2) := by decide +kernel
theorem dX2_haveOpenQuarrel_23 : decode cX2_haveOpenQuarrel 23 = .ok (.iload_n 3, 1) := by decide +kernel
theorem dX2_haveOpenQuarrel_24 : decode cX2_haveOpenQuarrel 24 = .ok (.invokevirtual 47, 3) := by decide +kernel
theorem dX2_haveOpenQuarrel_27 : decode cX2_haveOpenQuarrel 27 = .ok (.aload_n 0, 1) := by decide +kernel
theorem dX2_haveOpenQuarrel_28 : decode cX2_haveOpenQuarrel 28 = .ok (.bipush 56, 2) := by decide +kernel
theorem dX2_haveOpenQuarrel_30 : decode cX2_haveOpenQuarrel 30 = .ok (.iload_n 3, 1) := by decide +kernel
theorem dX2_haveOpenQuarrel_31 : decode cX2_haveOpenQuarrel 31 = .ok (.invokevirtual 47, 3) := by decide +kernel
theorem dX2_haveOpenQuarrel_34 : decode cX2_haveOpenQuarrel 34 = .ok (.invokestatic 72, 3) := by decide +kernel
theorem dX2_haveOpenQuarrel_37 : decode cX2_haveOpenQuarrel 37 = .ok (.ifCond .eq 5, 3) := by decide +kernel
theorem dX2_haveOpenQuarrel_40 : decode cX2_haveOpenQuarrel 40 = .ok (.iconst 1, 1) := by decide +kernel
theorem dX2_haveOpenQuarrel_41 : decode cX2_haveOpenQuarrel 41 = .ok (.ireturn, 1) := by decide +kernel
theorem dX2_haveOpenQuarrel_42 : decode cX2_haveOpenQuarrel 42 = .ok (.iinc 3 1, 3) := by decide +kernel
theorem dX2_haveOpenQuarrel_45 : decode cX2_haveOpenQuarrel 45 = .ok (.goto (-43), 3) := by decide +kernel
theorem dX2_haveOpenQuarrel_48 : decode cX2_haveOpenQuarrel 48 = .ok (.iconst 0, 1) := by decide +kernel
theorem dX2_haveOpenQuarrel_49 : decode cX2_haveOpenQuarrel 49 = .ok (.ireturn, 1) := by decide +kernel
theorem dX2_addQuarrel_0 : decode cX2_addQuarrel 0 = .ok (.aload_n 0, 1) := by decide +kernel
theorem dX2_addQuarrel_1 : decode cX2_addQuarrel 1 = .ok (.iload_n 1, 1) := by decide +kernel
theorem dX2_addQuarrel_2 : decode cX2_addQuarrel 2 = .ok (.iload_n 2, 1) := by decide +kernel
theorem dX2_addQuarrel_3 : decode cX2_addQuarrel 3 = .ok (.iload_n 3, 1) := by decide +kernel
theorem dX2_addQuarrel_4 : decode cX2_addQuarrel 4 = .ok (.invokevirtual 76, 3) := by decide +kernel
theorem dX2_addQuarrel_7 : decode cX2_addQuarrel 7 = .ok (.istore 4, 2) := by decide +kernel
theorem dX2_addQuarrel_9 : decode cX2_addQuarrel 9 = .ok (.iload 4, 2) := by decide +kernel
theorem dX2_addQuarrel_11 : decode cX2_addQuarrel 11 = .ok (.ifCond .eq 6, 3) := by decide +kernel
theorem dX2_addQuarrel_14 : decode cX2_addQuarrel 14 = .ok (.iload 4, 2) := by decide +kernel
theorem dX2_addQuarrel_16 : decode cX2_addQuarrel 16 = .ok (.ireturn, 1) := by decide +kernel
theorem dX2_addQuarrel_17 : decode cX2_addQuarrel 17 = .ok (.aload_n 0, 1) := by decide +kernel
theorem dX2_addQuarrel_18 : decode cX2_addQuarrel 18 = .ok (.iload_n 1, 1) := by decide +kernel
theorem dX2_addQuarrel_19 : decode cX2_addQuarrel 19 = .ok (.iload_n 2, 1) := by decide +kernel
theorem dX2_addQuarrel_20 : decode cX2_addQuarrel 20 = .ok (.invokevirtual 80, 3) := by decide +kernel
theorem dX2_addQuarrel_23 : decode cX2_addQuarrel 23 = .ok (.ifCond .eq 6, 3) := by decide +kernel
theorem dX2_addQuarrel_26 : decode cX2_addQuarrel 26 = .ok (.bipush (-5), 2) := by decide +kernel
theorem dX2_addQuarrel_28 : decode cX2_addQuarrel 28 = .ok (.ireturn, 1) := by decide +kernel
theorem dX2_addQuarrel_29 : decode cX2_addQuarrel 29 = .ok (.aload_n 0, 1) := by decide +kernel
theorem dX2_addQuarrel_30 : decode cX2_addQuarrel 30 = .ok (.getfield 21, 3) := by decide +kernel
theorem dX2_addQuarrel_33 : decode cX2_addQuarrel 33 = .ok (.bipush 12, 2) := by decide +kernel
theorem dX2_addQuarrel_35 : decode cX2_addQuarrel 35 = .ok (.if_icmp .lt 6, 3) := by decide +kernel
theorem dX2_addQuarrel_38 : decode cX2_addQuarrel 38 = .ok (.bipush (-4), 2) := by decide +kernel
theorem dX2_addQuarrel_40 : decode cX2_addQuarrel 40 = .ok (.ireturn, 1) := by decide +kernel
theorem dX2_addQuarrel_41 : decode cX2_addQuarrel 41 = .ok (.aload_n 0, 1) := by decide +kernel
theorem dX2_addQuarrel_42 : decode cX2_addQuarrel 42 = .ok (.getfield 21, 3) := by decide +kernel
theorem dX2_addQuarrel_45 : decode cX2_addQuarrel 45 = .ok (.istore 5, 2) := by decide +kernel
theorem dX2_addQuarrel_47 : decode cX2_addQuarrel 47 = .ok (.aload_n 0, 1) := by decide +kernel
theorem dX2_addQuarrel_48 : decode cX2_addQuarrel 48 = .ok (.bipush 44, 2) := by decide +kernel
theorem dX2_addQuarrel_50 : decode cX2_addQuarrel 50 = .ok (.iload 5, 2) := by decide +kernel
theorem dX2_addQuarrel_52 : decode cX2_addQuarrel 52 = .ok (.iload_n 1, 1) := by decide +kernel
theorem dX2_addQuarrel_53 : decode cX2_addQuarrel 53 = .ok (.invokevirtual 31, 3) := by decide +kernel
theorem dX2_addQuarrel_56 : decode cX2_addQuarrel 56 = .ok (.aload_n 0, 1) := by decide +kernel
theorem dX2_addQuarrel_57 : decode cX2_addQuarrel 57 = .ok (.bipush 56, 2) := by decide +kernel
theorem dX2_addQuarrel_59 : decode cX2_addQuarrel 59 = .ok (.iload 5, 2) := by decide +kernel
theorem dX2_addQuarrel_61 : decode cX2_addQuarrel 61 = .ok (.iload_n 2, 1) := by decide +kernel
theorem dX2_addQuarrel_62 : decode cX2_addQuarrel 62 = .ok (.invokevirtual 31, 3) := by decide +kernel
theorem dX2_addQuarrel_65 : decode cX2_addQuarrel 65 = .ok (.aload_n 0, 1) := by decide +kernel
theorem dX2_addQuarrel_66 : decode cX2_addQuarrel 66 = .ok (.bipush 68, 2) := by decide +kernel
theorem dX2_addQuarrel_68 : decode cX2_addQuarrel 68 = .ok (.iload 5, 2) := by decide +kernel
theorem dX2_addQuarrel_70 : decode cX2_addQuarrel 70 = .ok (.iload_n 3, 1) := by decide +kernel
theorem dX2_addQuarrel_71 : decode cX2_addQuarrel 71 = .ok (.invokevirtual 31, 3) := by decide +kernel
theorem dX2_addQuarrel_74 : decode cX2_addQuarrel 74 = .ok (.aload_n 0, 1) := by decide +kernel
theorem dX2_addQuarrel_75 : decode cX2_addQuarrel 75 = .ok (.bipush 80, 2) := by decide +kernel
theorem dX2_addQuarrel_77 : decode cX2_addQuarrel 77 = .ok (.iload 5, 2) := by decide +kernel
theorem dX2_addQuarrel_79 : decode cX2_addQuarrel 79 = .ok (.aload_n 0, 1) := by decide +kernel
theorem dX2_addQuarrel_80 : decode cX2_addQuarrel 80 = .ok (.getfield 11, 3) := by decide +kernel
theorem dX2_addQuarrel_83 : decode cX2_addQuarrel 83 = .ok (.invokevirtual 31, 3) := by decide +kernel
theorem dX2_addQuarrel_86 : decode cX2_addQuarrel 86 = .ok (.aload_n 0, 1) := by decide +kernel
theorem dX2_addQuarrel_87 : decode cX2_addQuarrel 87 = .ok (.bipush 92, 2) := by decide +kernel
theorem dX2_addQuarrel_89 : decode cX2_addQuarrel 89 = .ok (.iload 5, 2) := by decide +kernel
theorem dX2_addQuarrel_91 : decode cX2_addQuarrel 91 = .ok (.iconst 0, 1) := by decide +kernel
theorem dX2_addQuarrel_92 : decode cX2_addQuarrel 92 = .ok (.invokevirtual 31, 3) := by decide +kernel
theorem dX2_addQuarrel_95 : decode cX2_addQuarrel 95 = .ok (.aload_n 0, 1) := by decide +kernel
theorem dX2_addQuarrel_96 : decode cX2_addQuarrel 96 = .ok (.bipush 104, 2) := by decide +kernel
theorem dX2_addQuarrel_98 : decode cX2_addQuarrel 98 = .ok (.iload 5, 2) := by decide +kernel
theorem dX2_addQuarrel_100 : decode cX2_addQuarrel 100 = .ok (.bipush (-6), 2) := by decide +kernel
theorem dX2_addQuarrel_102 : decode cX2_addQuarrel 102 = .ok (.invokevirtual 31, 3) := by decide +kernel
theorem dX2_addQuarrel_105 : decode cX2_addQuarrel 105 = .ok (.aload_n 0, 1) := by decide +kernel
theorem dX2_addQuarrel_106 : decode cX2_addQuarrel 106 = .ok (.bipush 116, 2) := by decide +kernel
theorem dX2_addQuarrel_108 : decode cX2_addQuarrel 108 = .ok (.iload 5, 2) := by decide +kernel
theorem dX2_addQuarrel_110 : decode cX2_addQuarrel 110 = .ok (.iconst 0, 1) := by decide +kernel
theorem dX2_addQuarrel_111 : decode cX2_addQuarrel 111 = .ok (.invokevirtual 31, 3) := by decide +kernel
theorem dX2_addQuarrel_114 : decode cX2_addQuarrel 114 = .ok (.aload_n 0, 1) := by decide +kernel
theorem dX2_addQuarrel_115 : decode cX2_addQuarrel 115 = .ok (.sipush 128, 3) := by decide +kernel
theorem dX2_addQuarrel_118 : decode cX2_addQuarrel 118 = .ok (.iload 5, 2) := by decide +kernel
theorem dX2_addQuarrel_120 : decode cX2_addQuarrel 120 = .ok (.bipush (-6), 2) := by decide +kernel
theorem dX2_addQuarrel_122 : decode cX2_addQuarrel 122 = .ok (.invokevirtual 31, 3) := by decide +kernel
theorem dX2_addQuarrel_125 : decode cX2_addQuarrel 125 = .ok (.aload_n 0, 1) := by decide +kernel
theorem dX2_addQuarrel_126 : decode cX2_addQuarrel 126 = .ok (.dup, 1) := by decide +kernel
theorem dX2_addQuarrel_127 : decode cX2_addQuarrel 127 = .ok (.getfield 21, 3) := by decide +kernel
theorem dX2_addQuarrel_130 : decode cX2_addQuarrel 130 = .ok (.iconst 1, 1) := by decide +kernel
theorem dX2_addQuarrel_131 : decode cX2_addQuarrel 131 = .ok (.iadd, 1) := by decide +kernel
theorem dX2_addQuarrel_132 : decode cX2_addQuarrel 132 = .ok (.putfield 21, 3) := by decide +kernel
theorem dX2_addQuarrel_135 : decode cX2_addQuarrel 135 = .ok (.aload_n 0, 1) := by decide +kernel
theorem dX2_addQuarrel_136 : decode cX2_addQuarrel 136 = .ok (.iconst 0, 1) := by decide +kernel
theorem dX2_addQuarrel_137 : decode cX2_addQuarrel 137 = .ok (.iload 5, 2) := by decide +kernel
theorem dX2_addQuarrel_139 : decode cX2_addQuarrel 139 = .ok (.invokevirtual 84, 3) := by decide +kernel
theorem dX2_addQuarrel_142 : decode cX2_addQuarrel 142 = .ok (.iload 5, 2) := by decide +kernel
theorem dX2_addQuarrel_144 : decode cX2_addQuarrel 144 = .ok (.ireturn, 1) := by decide +kernel
theorem dX2_settleBy_0 : decode cX2_settleBy 0 = .ok (.aload_n 0, 1) := by decide +kernel
theorem dX2_settleBy_1 : decode cX2_settleBy 1 = .ok (.iload_n 1, 1) := by decide +kernel
theorem dX2_settleBy_2 : decode cX2_settleBy 2 = .ok (.invokevirtual 88, 3) := by decide +kernel
theorem dX2_settleBy_5 : decode cX2_settleBy 5 = .ok (.ifCond .eq 12, 3) := by decide +kernel
theorem dX2_settleBy_8 : decode cX2_settleBy 8 = .ok (.iload_n 2, 1) := by decide +kernel
theorem dX2_settleBy_9 : decode cX2_settleBy 9 = .ok (.ifCond .lt 8, 3) := by decide +kernel
theorem dX2_settleBy_12 : decode cX2_settleBy 12 = .ok (.iload_n 2, 1) := by decide +kernel
theorem dX2_settleBy_13 : decode cX2_settleBy 13 = .ok (.iconst 5, 1) := by decide +kernel
theorem dX2_settleBy_14 : decode cX2_settleBy 14 = .ok (.if_icmp .lt 5, 3) := by decide +kernel
theorem dX2_settleBy_17 : decode cX2_settleBy 17 = .ok (.iconst (-1), 1) := by decide +kernel
theorem dX2_settleBy_18 : decode cX2_settleBy 18 = .ok (.ireturn, 1) := by decide +kernel
theorem dX2_settleBy_19 : decode cX2_settleBy 19 = .ok (.aload_n 0, 1) := by decide +kernel
theorem dX2_settleBy_20 : decode cX2_settleBy 20 = .ok (.iload_n 1, 1) := by decide +kernel
theorem dX2_settleBy_21 : decode cX2_settleBy 21 = .ok (.invokevirtual 91, 3) := by decide +kernel
theorem dX2_settleBy_24 : decode cX2_settleBy 24 = .ok (.iconst 1, 1) := by decide +kernel
theorem dX2_settleBy_25 : decode cX2_settleBy 25 = .ok (.iload_n 2, 1) := by decide +kernel
theorem dX2_settleBy_26 : decode cX2_settleBy 26 = .ok (.ishl, 1) := by decide +kernel
theorem dX2_settleBy_27 : decode cX2_settleBy 27 = .ok (.iand, 1) := by decide +kernel
theorem dX2_settleBy_28 : decode cX2_settleBy 28 = .ok (.ifCond .ne 6, 3) := by decide +kernel
theorem dX2_settleBy_31 : decode cX2_settleBy 31 = .ok (.bipush (-5), 2) := by decide +kernel
theorem dX2_settleBy_33 : decode cX2_settleBy 33 = .ok (.ireturn, 1) := by decide +kernel
theorem dX2_settleBy_34 : decode cX2_settleBy 34 = .ok (.iload_n 2, 1) := by decide +kernel
theorem dX2_settleBy_35 : decode cX2_settleBy 35 = .ok (.ifCond .ne 19, 3) := by decide +kernel
theorem dX2_settleBy_38 : decode cX2_settleBy 38 = .ok (.aload_n 0, 1) := by decide +kernel
theorem dX2_settleBy_39 : decode cX2_settleBy 39 = .ok (.iconst 4, 1) := by decide +kernel
theorem dX2_settleBy_40 : decode cX2_settleBy 40 = .ok (.aload_n 0, 1) := by decide +kernel
theorem dX2_settleBy_41 : decode cX2_settleBy 41 = .ok (.bipush 44, 2) := by decide +kernel
theorem dX2_settleBy_43 : decode cX2_settleBy 43 = .ok (.iload_n 1, 1) := by decide +kernel
theorem dX2_settleBy_44 : decode cX2_settleBy 44 = .ok (.invokevirtual 47, 3) := by decide +kernel
theorem dX2_settleBy_47 : decode cX2_settleBy 47 = .ok (.iconst (-1), 1) := by decide +kernel
theorem dX2_settleBy_48 : decode cX2_settleBy 48 = .ok (.invokevirtual 95, 3) := by decide +kernel
theorem dX2_settleBy_51 : decode cX2_settleBy 51 = .ok (.goto 48, 3) := by decide +kernel
theorem dX2_settleBy_54 : decode cX2_settleBy 54 = .ok (.iload_n 2, 1) := by decide +kernel
theorem dX2_settleBy_55 : decode cX2_settleBy 55 = .ok (.iconst 1, 1) := by decide +kernel
theorem dX2_settleBy_56 : decode cX2_settleBy 56 = .ok (.if_icmp .ne 43, 3) := by decide +kernel
theorem dX2_settleBy_59 : decode cX2_settleBy 59 = .ok (.aload_n 0, 1) := by decide +kernel
theorem dX2_settleBy_60 : decode cX2_settleBy 60 = .ok (.bipush 14, 2) := by decide +kernel
theorem dX2_settleBy_62 : decode cX2_settleBy 62 = .ok (.aload_n 0, 1) := by decide +kernel
theorem dX2_settleBy_63 : decode cX2_settleBy 63 = .ok (.bipush 24, 2) := by decide +kernel
theorem dX2_settleBy_65 : decode cX2_settleBy 65 = .ok (.aload_n 0, 1) := by decide +kernel
theorem dX2_settleBy_66 : decode cX2_settleBy 66 = .ok (.bipush 44, 2) := by decide +kernel
theorem dX2_settleBy_68 : decode cX2_settleBy 68 = .ok (.iload_n 1, 1) := by decide +kernel
theorem dX2_settleBy_69 : decode cX2_settleBy 69 = .ok (.invokevirtual 47, 3) := by decide +kernel
theorem dX2_settleBy_72 : decode cX2_settleBy 72 = .ok (.invokevirtual 47, 3) := by decide +kernel
theorem dX2_settleBy_75 : decode cX2_settleBy 75 = .ok (.iconst 1, 1) := by decide +kernel
theorem dX2_settleBy_76 : decode cX2_settleBy 76 = .ok (.invokevirtual 95, 3) := by decide +kernel
theorem dX2_settleBy_79 : decode cX2_settleBy 79 = .ok (.aload_n 0, 1) := by decide +kernel
theorem dX2_settleBy_80 : decode cX2_settleBy 80 = .ok (.bipush 14, 2) := by decide +kernel
theorem dX2_settleBy_82 : decode cX2_settleBy 82 = .ok (.aload_n 0, 1) := by decide +kernel
theorem dX2_settleBy_83 : decode cX2_settleBy 83 = .ok (.bipush 24, 2) := by decide +kernel
theorem dX2_settleBy_85 : decode cX2_settleBy 85 = .ok (.aload_n 0, 1) := by decide +kernel
theorem dX2_settleBy_86 : decode cX2_settleBy 86 = .ok (.bipush 56, 2) := by decide +kernel
theorem dX2_settleBy_88 : decode cX2_settleBy 88 = .ok (.iload_n 1, 1) := by decide +kernel
theorem dX2_settleBy_89 : decode cX2_settleBy 89 = .ok (.invokevirtual 47, 3) := by decide +kernel
theorem dX2_settleBy_92 : decode cX2_settleBy 92 = .ok (.invokevirtual 47, 3) := by decide +kernel
theorem dX2_settleBy_95 : decode cX2_settleBy 95 = .ok (.iconst 1, 1) := by decide +kernel
theorem dX2_settleBy_96 : decode cX2_settleBy 96 = .ok (.invokevirtual 95, 3) := by decide +kernel
theorem dX2_settleBy_99 : decode cX2_settleBy 99 = .ok (.aload_n 0, 1) := by decide +kernel
theorem dX2_settleBy_100 : decode cX2_settleBy 100 = .ok (.bipush 92, 2) := by decide +kernel
theorem dX2_settleBy_102 : decode cX2_settleBy 102 = .ok (.iload_n 1, 1) := by decide +kernel
theorem dX2_settleBy_103 : decode cX2_settleBy 103 = .ok (.iconst 1, 1) := by decide +kernel
theorem dX2_settleBy_104 : decode cX2_settleBy 104 = .ok (.invokevirtual 31, 3) := by decide +kernel
theorem dX2_settleBy_107 : decode cX2_settleBy 107 = .ok (.aload_n 0, 1) := by decide +kernel
theorem dX2_settleBy_108 : decode cX2_settleBy 108 = .ok (.bipush 104, 2) := by decide +kernel
theorem dX2_settleBy_110 : decode cX2_settleBy 110 = .ok (.iload_n 1, 1) := by decide +kernel
theorem dX2_settleBy_111 : decode cX2_settleBy 111 = .ok (.iload_n 2, 1) := by decide +kernel
theorem dX2_settleBy_112 : decode cX2_settleBy 112 = .ok (.invokevirtual 31, 3) := by decide +kernel
theorem dX2_settleBy_115 : decode cX2_settleBy 115 = .ok (.aload_n 0, 1) := by decide +kernel
theorem dX2_settleBy_116 : decode cX2_settleBy 116 = .ok (.bipush 116, 2) := by decide +kernel
theorem dX2_settleBy_118 : decode cX2_settleBy 118 = .ok (.iload_n 1, 1) := by decide +kernel
theorem dX2_settleBy_119 : decode cX2_settleBy 119 = .ok (.aload_n 0, 1) := by decide +kernel
theorem dX2_settleBy_120 : decode cX2_settleBy 120 = .ok (.getfield 11, 3) := by decide +kernel
theorem dX2_settleBy_123 : decode cX2_settleBy 123 = .ok (.invokevirtual 31, 3) := by decide +kernel
theorem dX2_settleBy_126 : decode cX2_settleBy 126 = .ok (.aload_n 0, 1) := by decide +kernel
theorem dX2_settleBy_127 : decode cX2_settleBy 127 = .ok (.iconst 1, 1) := by decide +kernel
theorem dX2_settleBy_128 : decode cX2_settleBy 128 = .ok (.iload_n 1, 1) := by decide +kernel
theorem dX2_settleBy_129 : decode cX2_settleBy 129 = .ok (.invokevirtual 84, 3) := by decide +kernel
theorem dX2_settleBy_132 : decode cX2_settleBy 132 = .ok (.aload_n 0, 1) := by decide +kernel
theorem dX2_settleBy_133 : decode cX2_settleBy 133 = .ok (.bipush 92, 2) := by decide +kernel
theorem dX2_settleBy_135 : decode cX2_settleBy 135 = .ok (.iconst 0, 1) := by decide +kernel
theorem dX2_settleBy_136 : decode cX2_settleBy 136 = .ok (.invokevirtual 98, 3) := by decide +kernel
theorem dX2_settleBy_139 : decode cX2_settleBy 139 = .ok (.ireturn, 1) := by decide +kernel
theorem dX2_duel_0 : decode cX2_duel 0 = .ok (.aload_n 0, 1) := by decide +kernel
theorem dX2_duel_1 : decode cX2_duel 1 = .ok (.iload_n 1, 1) := by decide +kernel
theorem dX2_duel_2 : decode cX2_duel 2 = .ok (.invokevirtual 88, 3) := by decide +kernel
theorem dX2_duel_5 : decode cX2_duel 5 = .ok (.ifCond .ne 5, 3) := by decide +kernel
theorem dX2_duel_8 : decode cX2_duel 8 = .ok (.iconst (-1), 1) := by decide +kernel
theorem dX2_duel_9 : decode cX2_duel 9 = .ok (.ireturn, 1) := by decide +kernel
theorem dX2_duel_10 : decode cX2_duel 10 = .ok (.aload_n 0, 1) := by decide +kernel
theorem dX2_duel_11 : decode cX2_duel 11 = .ok (.iload_n 1, 1) := by decide +kernel
theorem dX2_duel_12 : decode cX2_duel 12 = .ok (.aload_n 0, 1) := by decide +kernel
theorem dX2_duel_13 : decode cX2_duel 13 = .ok (.iload_n 1, 1) := by decide +kernel
theorem dX2_duel_14 : decode cX2_duel 14 = .ok (.invokevirtual 91, 3) := by decide +kernel
theorem dX2_duel_17 : decode cX2_duel 17 = .ok (.invokevirtual 101, 3) := by decide +kernel
theorem dX2_duel_20 : decode cX2_duel 20 = .ok (.ifCond .eq 6, 3) := by decide +kernel
theorem dX2_duel_23 : decode cX2_duel 23 = .ok (.bipush (-5), 2) := by decide +kernel
theorem dX2_duel_25 : decode cX2_duel 25 = .ok (.ireturn, 1) := by decide +kernel
theorem dX2_duel_26 : decode cX2_duel 26 = .ok (.aload_n 0, 1) := by decide +kernel
theorem dX2_duel_27 : decode cX2_duel 27 = .ok (.bipush 44, 2) := by decide +kernel
theorem dX2_duel_29 : decode cX2_duel 29 = .ok (.iload_n 1, 1) := by decide +kernel
theorem dX2_duel_30 : decode cX2_duel 30 = .ok (.invokevirtual 47, 3) := by decide +kernel
theorem dX2_duel_33 : decode cX2_duel 33 = .ok (.istore_n 2, 1) := by decide +kernel
theorem dX2_duel_34 : decode cX2_duel 34 = .ok (.aload_n 0, 1) := by decide +kernel
theorem dX2_duel_35 : decode cX2_duel 35 = .ok (.bipush 56, 2) := by decide +kernel
theorem dX2_duel_37 : decode cX2_duel 37 = .ok (.iload_n 1, 1) := by decide +kernel
theorem dX2_duel_38 : decode cX2_duel 38 = .ok (.invokevirtual 47, 3) := by decide +kernel
theorem dX2_duel_41 : decode cX2_duel 41 = .ok (.istore_n 3, 1) := by decide +kernel
theorem dX2_duel_42 : decode cX2_duel 42 = .ok (.aload_n 0, 1) := by decide +kernel
theorem dX2_duel_43 : decode cX2_duel 43 = .ok (.iload_n 1, 1) := by decide +kernel
theorem dX2_duel_44 : decode cX2_duel 44 = .ok (.invokevirtual 104, 3) := by decide +kernel
theorem dX2_duel_47 : decode cX2_duel 47 = .ok (.istore 4, 2) := by decide +kernel
theorem dX2_duel_49 : decode cX2_duel 49 = .ok (.aload_n 0, 1) := by decide +kernel
theorem dX2_duel_50 : decode cX2_duel 50 = .ok (.iconst 4, 1) := by decide +kernel
theorem dX2_duel_51 : decode cX2_duel 51 = .ok (.iload 4, 2) := by decide +kernel
theorem dX2_duel_53 : decode cX2_duel 53 = .ok (.iconst 1, 1) := by decide +kernel
theorem dX2_duel_54 : decode cX2_duel 54 = .ok (.invokevirtual 95, 3) := by decide +kernel
theorem dX2_duel_57 : decode cX2_duel 57 = .ok (.aload_n 0, 1) := by decide +kernel
theorem dX2_duel_58 : decode cX2_duel 58 = .ok (.iconst 4, 1) := by decide +kernel
theorem dX2_duel_59 : decode cX2_duel 59 = .ok (.iload 4, 2) := by decide +kernel
theorem dX2_duel_61 : decode cX2_duel 61 = .ok (.iload_n 2, 1) := by decide +kernel
theorem dX2_duel_62 : decode cX2_duel 62 = .ok (.if_icmp .ne 7, 3) := by decide +kernel
theorem dX2_duel_65 : decode cX2_duel 65 = .ok (.iload_n 3, 1) := by decide +kernel
theorem dX2_duel_66 : decode cX2_duel 66 = .ok (.goto 4, 3) := by decide +kernel
theorem dX2_duel_69 : decode cX2_duel 69 = .ok (.iload_n 2, 1) := by decide +kernel
theorem dX2_duel_70 : decode cX2_duel 70 = .ok (.bipush (-2), 2) := by decide +kernel
theorem dX2_duel_72 : decode cX2_duel 72 = .ok (.invokevirtual 95, 3) := by decide +kernel
theorem dX2_duel_75 : decode cX2_duel 75 = .ok (.aload_n 0, 1) := by decide +kernel
theorem dX2_duel_76 : decode cX2_duel 76 = .ok (.iload_n 2, 1) := by decide +kernel
theorem dX2_duel_77 : decode cX2_duel 77 = .ok (.invokevirtual 107, 3) := by decide +kernel
theorem dX2_duel_80 : decode cX2_duel 80 = .ok (.aload_n 0, 1) := by decide +kernel
theorem dX2_duel_81 : decode cX2_duel 81 = .ok (.iload_n 3, 1) := by decide +kernel
theorem dX2_duel_82 : decode cX2_duel 82 = .ok (.invokevirtual 107, 3) := by decide +kernel
theorem dX2_duel_85 : decode cX2_duel 85 = .ok (.aload_n 0, 1) := by decide +kernel
theorem dX2_duel_86 : decode cX2_duel 86 = .ok (.bipush 92, 2) := by decide +kernel
theorem dX2_duel_88 : decode cX2_duel 88 = .ok (.iload_n 1, 1) := by decide +kernel
theorem dX2_duel_89 : decode cX2_duel 89 = .ok (.iconst 2, 1) := by decide +kernel
theorem dX2_duel_90 : decode cX2_duel 90 = .ok (.invokevirtual 31, 3) := by decide +kernel
theorem dX2_duel_93 : decode cX2_duel 93 = .ok (.aload_n 0, 1) := by decide +kernel
theorem dX2_duel_94 : decode cX2_duel 94 = .ok (.sipush 128, 3) := by decide +kernel
theorem dX2_duel_97 : decode cX2_duel 97 = .ok (.iload_n 1, 1) := by decide +kernel
theorem dX2_duel_98 : decode cX2_duel 98 = .ok (.iload 4, 2) := by decide +kernel
theorem dX2_duel_100 : decode cX2_duel 100 = .ok (.invokevirtual 31, 3) := by decide +kernel
theorem dX2_duel_103 : decode cX2_duel 103 = .ok (.aload_n 0, 1) := by decide +kernel
theorem dX2_duel_104 : decode cX2_duel 104 = .ok (.iconst 2, 1) := by decide +kernel
theorem dX2_duel_105 : decode cX2_duel 105 = .ok (.iload_n 1, 1) := by decide +kernel
theorem dX2_duel_106 : decode cX2_duel 106 = .ok (.invokevirtual 84, 3) := by decide +kernel
theorem dX2_duel_109 : decode cX2_duel 109 = .ok (.iload 4, 2) := by decide +kernel
theorem dX2_duel_111 : decode cX2_duel 111 = .ok (.ireturn, 1) := by decide +kernel
theorem dX2_takeOath_0 : decode cX2_takeOath 0 = .ok (.aload_n 0, 1) := by decide +kernel
theorem dX2_takeOath_1 : decode cX2_takeOath 1 = .ok (.iload_n 1, 1) := by decide +kernel
theorem dX2_takeOath_2 : decode cX2_takeOath 2 = .ok (.invokevirtual 63, 3) := by decide +kernel
theorem dX2_takeOath_5 : decode cX2_takeOath 5 = .ok (.ifCond .ne 5, 3) := by decide +kernel
theorem dX2_takeOath_8 : decode cX2_takeOath 8 = .ok (.iconst (-1), 1) := by decide +kernel
theorem dX2_takeOath_9 : decode cX2_takeOath 9 = .ok (.ireturn, 1) := by decide +kernel
theorem dX2_takeOath_10 : decode cX2_takeOath 10 = .ok (.aload_n 0, 1) := by decide +kernel
theorem dX2_takeOath_11 : decode cX2_takeOath 11 = .ok (.iload_n 1, 1) := by decide +kernel
theorem dX2_takeOath_12 : decode cX2_takeOath 12 = .ok (.invokevirtual 111, 3) := by decide +kernel
theorem dX2_takeOath_15 : decode cX2_takeOath 15 = .ok (.ifCond .le 6, 3) := by decide +kernel
theorem dX2_takeOath_18 : decode cX2_takeOath 18 = .ok (.bipush (-5), 2) := by decide +kernel
theorem dX2_takeOath_20 : decode cX2_takeOath 20 = .ok (.ireturn, 1) := by decide +kernel
theorem dX2_takeOath_21 : decode cX2_takeOath 21 = .ok (.aload_n 0, 1) := by decide +kernel
theorem dX2_takeOath_22 : decode cX2_takeOath 22 = .ok (.iload_n 1, 1) := by decide +kernel
theorem dX2_takeOath_23 : decode cX2_takeOath 23 = .ok (.invokevirtual 107, 3) := by decide +kernel
theorem dX2_takeOath_26 : decode cX2_takeOath 26 = .ok (.aload_n 0, 1) := by decide +kernel
theorem dX2_takeOath_27 : decode cX2_takeOath 27 = .ok (.iconst 3, 1) := by decide +kernel
theorem dX2_takeOath_28 : decode cX2_takeOath 28 = .ok (.iload_n 1, 1) := by decide +kernel
theorem dX2_takeOath_29 : decode cX2_takeOath 29 = .ok (.invokevirtual 84, 3) := by decide +kernel
theorem dX2_takeOath_32 : decode cX2_takeOath 32 = .ok (.aload_n 0, 1) := by decide +kernel
theorem dX2_takeOath_33 : decode cX2_takeOath 33 = .ok (.bipush 34, 2) := by decide +kernel
theorem dX2_takeOath_35 : decode cX2_takeOath 35 = .ok (.iload_n 1, 1) := by decide +kernel
theorem dX2_takeOath_36 : decode cX2_takeOath 36 = .ok (.invokevirtual 47, 3) := by decide +kernel
theorem dX2_takeOath_39 : decode cX2_takeOath 39 = .ok (.ireturn, 1) := by decide +kernel
theorem dX2_moveOn_0 : decode cX2_moveOn 0 = .ok (.iload_n 1, 1) := by decide +kernel
theorem dX2_moveOn_1 : decode cX2_moveOn 1 = .ok (.iconst 1, 1) := by decide +kernel
theorem dX2_moveOn_2 : decode cX2_moveOn 2 = .ok (.if_icmp .lt 9, 3) := by decide +kernel
theorem dX2_moveOn_5 : decode cX2_moveOn 5 = .ok (.iload_n 1, 1) := by decide +kernel
theorem dX2_moveOn_6 : decode cX2_moveOn 6 = .ok (.bipush 99, 2) := by decide +kernel
theorem dX2_moveOn_8 : decode cX2_moveOn 8 = .ok (.if_icmp .le 6, 3) := by decide +kernel
theorem dX2_moveOn_11 : decode cX2_moveOn 11 = .ok (.bipush (-2), 2) := by decide +kernel
theorem dX2_moveOn_13 : decode cX2_moveOn 13 = .ok (.ireturn, 1) := by decide +kernel
theorem dX2_moveOn_14 : decode cX2_moveOn 14 = .ok (.aload_n 0, 1) := by decide +kernel
theorem dX2_moveOn_15 : decode cX2_moveOn 15 = .ok (.getfield 11, 3) := by decide +kernel
theorem dX2_moveOn_18 : decode cX2_moveOn 18 = .ok (.iload_n 1, 1) := by decide +kernel
theorem dX2_moveOn_19 : decode cX2_moveOn 19 = .ok (.iadd, 1) := by decide +kernel
theorem dX2_moveOn_20 : decode cX2_moveOn 20 = .ok (.istore_n 2, 1) := by decide +kernel
theorem dX2_moveOn_21 : decode cX2_moveOn 21 = .ok (.iload_n 2, 1) := by decide +kernel
theorem dX2_moveOn_22 : decode cX2_moveOn 22 = .ok (.sipush 9999, 3) := by decide +kernel
theorem dX2_moveOn_25 : decode cX2_moveOn 25 = .ok (.if_icmp .le 6, 3) := by decide +kernel
theorem dX2_moveOn_28 : decode cX2_moveOn 28 = .ok (.bipush (-5), 2) := by decide +kernel
theorem dX2_moveOn_30 : decode cX2_moveOn 30 = .ok (.ireturn, 1) := by decide +kernel
theorem dX2_moveOn_31 : decode cX2_moveOn 31 = .ok (.aload_n 0, 1) := by decide +kernel
theorem dX2_moveOn_32 : decode cX2_moveOn 32 = .ok (.iload_n 2, 1) := by decide +kernel
theorem dX2_moveOn_33 : decode cX2_moveOn 33 = .ok (.putfield 11, 3) := by decide +kernel
theorem dX2_moveOn_36 : decode cX2_moveOn 36 = .ok (.iload_n 2, 1) := by decide +kernel
theorem dX2_moveOn_37 : decode cX2_moveOn 37 = .ok (.ireturn, 1) := by decide +kernel
theorem dX2_addPoints_0 : decode cX2_addPoints 0 = .ok (.aload_n 0, 1) := by decide +kernel
theorem dX2_addPoints_1 : decode cX2_addPoints 1 = .ok (.iload_n 1, 1) := by decide +kernel
theorem dX2_addPoints_2 : decode cX2_addPoints 2 = .ok (.iload_n 2, 1) := by decide +kernel
theorem dX2_addPoints_3 : decode cX2_addPoints 3 = .ok (.invokevirtual 47, 3) := by decide +kernel
theorem dX2_addPoints_6 : decode cX2_addPoints 6 = .ok (.iload_n 3, 1) := by decide +kernel
theorem dX2_addPoints_7 : decode cX2_addPoints 7 = .ok (.iadd, 1) := by decide +kernel
theorem dX2_addPoints_8 : decode cX2_addPoints 8 = .ok (.istore 4, 2) := by decide +kernel
theorem dX2_addPoints_10 : decode cX2_addPoints 10 = .ok (.aload_n 0, 1) := by decide +kernel
theorem dX2_addPoints_11 : decode cX2_addPoints 11 = .ok (.iload_n 1, 1) := by decide +kernel
theorem dX2_addPoints_12 : decode cX2_addPoints 12 = .ok (.iload_n 2, 1) := by decide +kernel
theorem dX2_addPoints_13 : decode cX2_addPoints 13 = .ok (.iconst 0, 1) := by decide +kernel
theorem dX2_addPoints_14 : decode cX2_addPoints 14 = .ok (.bipush 9, 2) := by decide +kernel
theorem dX2_addPoints_16 : decode cX2_addPoints 16 = .ok (.iload 4, 2) := by decide +kernel
theorem dX2_addPoints_18 : decode cX2_addPoints 18 = .ok (.invokestatic 35, 3) := by decide +kernel
theorem dX2_addPoints_21 : decode cX2_addPoints 21 = .ok (.invokestatic 50, 3) := by decide +kernel
theorem dX2_addPoints_24 : decode cX2_addPoints 24 = .ok (.invokevirtual 31, 3) := by decide +kernel
theorem dX2_addPoints_27 : decode cX2_addPoints 27 = .ok (.return_, 1) := by decide +kernel
theorem dX2_bindByOath_0 : decode cX2_bindByOath 0 = .ok (.aload_n 0, 1) := by decide +kernel
theorem dX2_bindByOath_1 : decode cX2_bindByOath 1 = .ok (.getfield 11, 3) := by decide +kernel
theorem dX2_bindByOath_4 : decode cX2_bindByOath 4 = .ok (.aload_n 0, 1) := by decide +kernel
theorem dX2_bindByOath_5 : decode cX2_bindByOath 5 = .ok (.iconst 0, 1) := by decide +kernel
theorem dX2_bindByOath_6 : decode cX2_bindByOath 6 = .ok (.iconst 2, 1) := by decide +kernel
theorem dX2_bindByOath_7 : decode cX2_bindByOath 7 = .ok (.invokevirtual 47, 3) := by decide +kernel
theorem dX2_bindByOath_10 : decode cX2_bindByOath 10 = .ok (.iadd, 1) := by decide +kernel
theorem dX2_bindByOath_11 : decode cX2_bindByOath 11 = .ok (.istore_n 2, 1) := by decide +kernel
theorem dX2_bindByOath_12 : decode cX2_bindByOath 12 = .ok (.aload_n 0, 1) := by decide +kernel
theorem dX2_bindByOath_13 : decode cX2_bindByOath 13 = .ok (.bipush 34, 2) := by decide +kernel
theorem dX2_bindByOath_15 : decode cX2_bindByOath 15 = .ok (.iload_n 1, 1) := by decide +kernel
theorem dX2_bindByOath_16 : decode cX2_bindByOath 16 = .ok (.iload_n 2, 1) := by decide +kernel
theorem dX2_bindByOath_17 : decode cX2_bindByOath 17 = .ok (.aload_n 0, 1) := by decide +kernel
theorem dX2_bindByOath_18 : decode cX2_bindByOath 18 = .ok (.bipush 34, 2) := by decide +kernel
theorem dX2_bindByOath_20 : decode cX2_bindByOath 20 = .ok (.iload_n 1, 1) := by decide +kernel
theorem dX2_bindByOath_21 : decode cX2_bindByOath 21 = .ok (.invokevirtual 47, 3) := by decide +kernel
theorem dX2_bindByOath_24 : decode cX2_bindByOath 24 = .ok (.invokestatic 50, 3) := by decide +kernel
theorem dX2_bindByOath_27 : decode cX2_bindByOath 27 = .ok (.invokevirtual 31, 3) := by decide +kernel
theorem dX2_bindByOath_30 : decode cX2_bindByOath 30 = .ok (.return_, 1) := by decide +kernel
theorem dX2_addEvent_0 : decode cX2_addEvent 0 = .ok (.aload_n 0, 1) := by decide +kernel
theorem dX2_addEvent_1 : decode cX2_addEvent 1 = .ok (.getfield 24, 3) := by decide +kernel
theorem dX2_addEvent_4 : decode cX2_addEvent 4 = .ok (.bipush 12, 2) := by decide +kernel
theorem dX2_addEvent_6 : decode cX2_addEvent 6 = .ok (.invokestatic 114, 3) := by decide +kernel
theorem dX2_addEvent_9 : decode cX2_addEvent 9 = .ok (.istore_n 3, 1) := by decide +kernel
theorem dX2_addEvent_10 : decode cX2_addEvent 10 = .ok (.aload_n 0, 1) := by decide +kernel
theorem dX2_addEvent_11 : decode cX2_addEvent 11 = .ok (.sipush 140, 3) := by decide +kernel
theorem dX2_addEvent_14 : decode cX2_addEvent 14 = .ok (.iload_n 3, 1) := by decide +kernel
theorem dX2_addEvent_15 : decode cX2_addEvent 15 = .ok (.iload_n 1, 1) := by decide +kernel
theorem dX2_addEvent_16 : decode cX2_addEvent 16 = .ok (.invokevirtual 31, 3) := by decide +kernel
theorem dX2_addEvent_19 : decode cX2_addEvent 19 = .ok (.aload_n 0, 1) := by decide +kernel
theorem dX2_addEvent_20 : decode cX2_addEvent 20 = .ok (.sipush 152, 3) := by decide +kernel
theorem dX2_addEvent_23 : decode cX2_addEvent 23 = .ok (.iload_n 3, 1) := by decide +kernel
theorem dX2_addEvent_24 : decode cX2_addEvent 24 = .ok (.aload_n 0, 1) := by decide +kernel
theorem dX2_addEvent_25 : decode cX2_addEvent 25 = .ok (.getfield 11, 3) := by decide +kernel
theorem dX2_addEvent_28 : decode cX2_addEvent 28 = .ok (.invokevirtual 31, 3) := by decide +kernel
theorem dX2_addEvent_31 : decode cX2_addEvent 31 = .ok (.aload_n 0, 1) := by decide +kernel
theorem dX2_addEvent_32 : decode cX2_addEvent 32 = .ok (.sipush 164, 3) := by decide +kernel
theorem dX2_addEvent_35 : decode cX2_addEvent 35 = .ok (.iload_n 3, 1) := by decide +kernel
theorem dX2_addEvent_36 : decode cX2_addEvent 36 = .ok (.iload_n 2, 1) := by decide +kernel
theorem dX2_addEvent_37 : decode cX2_addEvent 37 = .ok (.invokevirtual 31, 3) := by decide +kernel
theorem dX2_addEvent_40 : decode cX2_addEvent 40 = .ok (.aload_n 0, 1) := by decide +kernel
theorem dX2_addEvent_41 : decode cX2_addEvent 41 = .ok (.dup, 1) := by decide +kernel
theorem dX2_addEvent_42 : decode cX2_addEvent 42 = .ok (.getfield 24, 3) := by decide +kernel
theorem dX2_addEvent_45 : decode cX2_addEvent 45 = .ok (.iconst 1, 1) := by decide +kernel
theorem dX2_addEvent_46 : decode cX2_addEvent 46 = .ok (.iadd, 1) := by decide +kernel
theorem dX2_addEvent_47 : decode cX2_addEvent 47 = .ok (.putfield 24, 3) := by decide +kernel
theorem dX2_addEvent_50 : decode cX2_addEvent 50 = .ok (.return_, 1) := by decide +kernel
theorem dX2_waysOf_0 : decode cX2_waysOf 0 = .ok (.aload_n 0, 1) := by decide +kernel
theorem dX2_waysOf_1 : decode cX2_waysOf 1 = .ok (.iload_n 1, 1) := by decide +kernel
theorem dX2_waysOf_2 : decode cX2_waysOf 2 = .ok (.invokevirtual 69, 3) := by decide +kernel
theorem dX2_waysOf_5 : decode cX2_waysOf 5 = .ok (.ifCond .ne 5, 3) := by decide +kernel
theorem dX2_waysOf_8 : decode cX2_waysOf 8 = .ok (.iconst 0, 1) := by decide +kernel
theorem dX2_waysOf_9 : decode cX2_waysOf 9 = .ok (.ireturn, 1) := by decide +kernel
theorem dX2_waysOf_10 : decode cX2_waysOf 10 = .ok (.aload_n 0, 1) := by decide +kernel
theorem dX2_waysOf_11 : decode cX2_waysOf 11 = .ok (.aload_n 0, 1) := by decide +kernel
theorem dX2_waysOf_12 : decode cX2_waysOf 12 = .ok (.bipush 44, 2) := by decide +kernel
theorem dX2_waysOf_14 : decode cX2_waysOf 14 = .ok (.iload_n 1, 1) := by decide +kernel
theorem dX2_waysOf_15 : decode cX2_waysOf 15 = .ok (.invokevirtual 47, 3) := by decide +kernel
theorem dX2_waysOf_18 : decode cX2_waysOf 18 = .ok (.aload_n 0, 1) := by decide +kernel
theorem dX2_waysOf_19 : decode cX2_waysOf 19 = .ok (.bipush 56, 2) := by decide +kernel
theorem dX2_waysOf_21 : decode cX2_waysOf 21 = .ok (.iload_n 1, 1) := by decide +kernel
theorem dX2_waysOf_22 : decode cX2_waysOf 22 = .ok (.invokevirtual 47, 3) := by decide +kernel
theorem dX2_waysOf_25 : decode cX2_waysOf 25 = .ok (.aload_n 0, 1) := by decide +kernel
theorem dX2_waysOf_26 : decode cX2_waysOf 26 = .ok (.bipush 68, 2) := by decide +kernel
theorem dX2_waysOf_28 : decode cX2_waysOf 28 = .ok (.iload_n 1, 1) := by decide +kernel
theorem dX2_waysOf_29 : decode cX2_waysOf 29 = .ok (.invokevirtual 47, 3) := by decide +kernel
theorem dX2_waysOf_32 : decode cX2_waysOf 32 = .ok (.aload_n 0, 1) := by decide +kernel
theorem dX2_waysOf_33 : decode cX2_waysOf 33 = .ok (.iload_n 1, 1) := by decide +kernel
theorem dX2_waysOf_34 : decode cX2_waysOf 34 = .ok (.invokevirtual 117, 3) := by decide +kernel
theorem dX2_waysOf_37 : decode cX2_waysOf 37 = .ok (.invokevirtual 120, 3) := by decide +kernel
theorem dX2_waysOf_40 : decode cX2_waysOf 40 = .ok (.ireturn, 1) := by decide +kernel
theorem dX2_waysBetween_0 : decode cX2_waysBetween 0 = .ok (.iconst 0, 1) := by decide +kernel
theorem dX2_waysBetween_1 : decode cX2_waysBetween 1 = .ok (.istore 5, 2) := by decide +kernel
theorem dX2_waysBetween_3 : decode cX2_waysBetween 3 = .ok (.aload_n 0, 1) := by decide +kernel
theorem dX2_waysBetween_4 : decode cX2_waysBetween 4 = .ok (.iconst 4, 1) := by decide +kernel
theorem dX2_waysBetween_5 : decode cX2_waysBetween 5 = .ok (.iload_n 1, 1) := by decide +kernel
theorem dX2_waysBetween_6 : decode cX2_waysBetween 6 = .ok (.invokevirtual 47, 3) := by decide +kernel
theorem dX2_waysBetween_9 : decode cX2_waysBetween 9 = .ok (.iload_n 3, 1) := by decide +kernel
theorem dX2_waysBetween_10 : decode cX2_waysBetween 10 = .ok (.iadd, 1) := by decide +kernel
theorem dX2_waysBetween_11 : decode cX2_waysBetween 11 = .ok (.bipush 9, 2) := by decide +kernel
theorem dX2_waysBetween_13 : decode cX2_waysBetween 13 = .ok (.if_icmp .gt 9, 3) := by decide +kernel
theorem dX2_waysBetween_16 : decode cX2_waysBetween 16 = .ok (.iload 5, 2) := by decide +kernel
theorem dX2_waysBetween_18 : decode cX2_waysBetween 18 = .ok (.iconst 1, 1) := by decide +kernel
theorem dX2_waysBetween_19 : decode cX2_waysBetween 19 = .ok (.ior, 1) := by decide +kernel
theorem dX2_waysBetween_20 : decode cX2_waysBetween 20 = .ok (.istore 5, 2) := by decide +kernel
theorem dX2_waysBetween_22 : decode cX2_waysBetween 22 = .ok (.aload_n 0, 1) := by decide +kernel
theorem dX2_waysBetween_23 : decode cX2_waysBetween 23 = .ok (.iload_n 1, 1) := by decide +kernel
theorem dX2_waysBetween_24 : decode cX2_waysBetween 24 = .ok (.iload_n 2, 1) := by decide +kernel
theorem dX2_waysBetween_25 : decode cX2_waysBetween 25 = .ok (.iload_n 3, 1) := by decide +kernel
theorem dX2_waysBetween_26 : decode cX2_waysBetween 26 = .ok (.invokevirtual 124, 3) := by decide +kernel
theorem dX2_waysBetween_29 : decode cX2_waysBetween 29 = .ok (.ifCond .eq 9, 3) := by decide +kernel
theorem dX2_waysBetween_32 : decode cX2_waysBetween 32 = .ok (.iload 5, 2) := by decide +kernel
theorem dX2_waysBetween_34 : decode cX2_waysBetween 34 = .ok (.iconst 2, 1) := by decide +kernel
theorem dX2_waysBetween_35 : decode cX2_waysBetween 35 = .ok (.ior, 1) := by decide +kernel
theorem dX2_waysBetween_36 : decode cX2_waysBetween 36 = .ok (.istore 5, 2) := by decide +kernel
theorem dX2_waysBetween_38 : decode cX2_waysBetween 38 = .ok (.iload 4, 2) := by decide +kernel
theorem dX2_waysBetween_40 : decode cX2_waysBetween 40 = .ok (.aload_n 0, 1) := by decide +kernel
theorem dX2_waysBetween_41 : decode cX2_waysBetween 41 = .ok (.iload_n 3, 1) := by decide +kernel
theorem dX2_waysBetween_42 : decode cX2_waysBetween 42 = .ok (.invokevirtual 128, 3) := by decide +kernel
theorem dX2_waysBetween_45 : decode cX2_waysBetween 45 = .ok (.if_icmp .lt 9, 3) := by decide +kernel
theorem dX2_waysBetween_48 : decode cX2_waysBetween 48 = .ok (.iload 5, 2) := by decide +kernel
theorem dX2_waysBetween_50 : decode cX2_waysBetween 50 = .ok (.iconst 4, 1) := by decide +kernel
theorem dX2_waysBetween_51 : decode cX2_waysBetween 51 = .ok (.ior, 1) := by decide +kernel
theorem dX2_waysBetween_52 : decode cX2_waysBetween 52 = .ok (.istore 5, 2) := by decide +kernel
theorem dX2_waysBetween_54 : decode cX2_waysBetween 54 = .ok (.aload_n 0, 1) := by decide +kernel
theorem dX2_waysBetween_55 : decode cX2_waysBetween 55 = .ok (.iload_n 1, 1) := by decide +kernel
theorem dX2_waysBetween_56 : decode cX2_waysBetween 56 = .ok (.invokevirtual 111, 3) := by decide +kernel
theorem dX2_waysBetween_59 : decode cX2_waysBetween 59 = .ok (.ifCond .gt 11, 3) := by decide +kernel
theorem dX2_waysBetween_62 : decode cX2_waysBetween 62 = .ok (.aload_n 0, 1) := by decide +kernel
theorem dX2_waysBetween_63 : decode cX2_waysBetween 63 = .ok (.iload_n 2, 1) := by decide +kernel
theorem dX2_waysBetween_64 : decode cX2_waysBetween 64 = .ok (.invokevirtual 111, 3) := by decide +kernel
theorem dX2_waysBetween_67 : decode cX2_waysBetween 67 = .ok (.ifCond .le 10, 3) := by decide +kernel
theorem dX2_waysBetween_70 : decode cX2_waysBetween 70 = .ok (.iload 5, 2) := by decide +kernel
theorem dX2_waysBetween_72 : decode cX2_waysBetween 72 = .ok (.bipush 8, 2) := by decide +kernel
theorem dX2_waysBetween_74 : decode cX2_waysBetween 74 = .ok (.ior, 1) := by decide +kernel
theorem dX2_waysBetween_75 : decode cX2_waysBetween 75 = .ok (.istore 5, 2) := by decide +kernel
theorem dX2_waysBetween_77 : decode cX2_waysBetween 77 = .ok (.aload_n 0, 1) := by decide +kernel
theorem dX2_waysBetween_78 : decode cX2_waysBetween 78 = .ok (.iload_n 1, 1) := by decide +kernel
theorem dX2_waysBetween_79 : decode cX2_waysBetween 79 = .ok (.iload_n 2, 1) := by decide +kernel
theorem dX2_waysBetween_80 : decode cX2_waysBetween 80 = .ok (.invokevirtual 131, 3) := by decide +kernel
theorem dX2_waysBetween_83 : decode cX2_waysBetween 83 = .ok (.ifCond .lt 10, 3) := by decide +kernel
theorem dX2_waysBetween_86 : decode cX2_waysBetween 86 = .ok (.iload 5, 2) := by decide +kernel
theorem dX2_waysBetween_88 : decode cX2_waysBetween 88 = .ok (.bipush 16, 2) := by decide +kernel
theorem dX2_waysBetween_90 : decode cX2_waysBetween 90 = .ok (.ior, 1) := by decide +kernel
theorem dX2_waysBetween_91 : decode cX2_waysBetween 91 = .ok (.istore 5, 2) := by decide +kernel
theorem dX2_waysBetween_93 : decode cX2_waysBetween 93 = .ok (.iload 5, 2) := by decide +kernel
theorem dX2_waysBetween_95 : decode cX2_waysBetween 95 = .ok (.aload_n 0, 1) := by decide +kernel
theorem dX2_waysBetween_96 : decode cX2_waysBetween 96 = .ok (.getfield 15, 3) := by decide +kernel
theorem dX2_waysBetween_99 : decode cX2_waysBetween 99 = .ok (.iand, 1) := by decide +kernel
theorem dX2_waysBetween_100 : decode cX2_waysBetween 100 = .ok (.ireturn, 1) := by decide +kernel
theorem dX2_firstOf_0 : decode cX2_firstOf 0 = .ok (.iconst 0, 1) := by decide +kernel
theorem dX2_firstOf_1 : decode cX2_firstOf 1 = .ok (.istore_n 1, 1) := by decide +kernel
theorem dX2_firstOf_2 : decode cX2_firstOf 2 = .ok (.iload_n 1, 1) := by decide +kernel
theorem dX2_firstOf_3 : decode cX2_firstOf 3 = .ok (.iconst 5, 1) := by decide +kernel
theorem dX2_firstOf_4 : decode cX2_firstOf 4 = .ok (.if_icmp .ge 19, 3) := by decide +kernel
theorem dX2_firstOf_7 : decode cX2_firstOf 7 = .ok (.iload_n 0, 1) := by decide +kernel
theorem dX2_firstOf_8 : decode cX2_firstOf 8 = .ok (.iconst 1, 1) := by decide +kernel
theorem dX2_firstOf_9 : decode cX2_firstOf 9 = .ok (.iload_n 1, 1) := by decide +kernel
theorem dX2_firstOf_10 : decode cX2_firstOf 10 = .ok (.ishl, 1) := by decide +kernel
theorem dX2_firstOf_11 : decode cX2_firstOf 11 = .ok (.iand, 1) := by decide +kernel
theorem dX2_firstOf_12 : decode cX2_firstOf 12 = .ok (.ifCond .eq 5, 3) := by decide +kernel
theorem dX2_firstOf_15 : decode cX2_firstOf 15 = .ok (.iload_n 1, 1) := by decide +kernel
theorem dX2_firstOf_16 : decode cX2_firstOf 16 = .ok (.ireturn, 1) := by decide +kernel
theorem dX2_firstOf_17 : decode cX2_firstOf 17 = .ok (.iinc 1 1, 3) := by decide +kernel
theorem dX2_firstOf_20 : decode cX2_firstOf 20 = .ok (.goto (-18), 3) := by decide +kernel
theorem dX2_firstOf_23 : decode cX2_firstOf 23 = .ok (.bipush (-6), 2) := by decide +kernel
theorem dX2_firstOf_25 : decode cX2_firstOf 25 = .ok (.ireturn, 1) := by decide +kernel
theorem dX2_secondsCanSettle_0 : decode cX2_secondsCanSettle 0 = .ok (.aload_n 0, 1) := by decide +kernel
theorem dX2_secondsCanSettle_1 : decode cX2_secondsCanSettle 1 = .ok (.bipush 24, 2) := by decide +kernel
theorem dX2_secondsCanSettle_3 : decode cX2_secondsCanSettle 3 = .ok (.iload_n 1, 1) := by decide +kernel
theorem dX2_secondsCanSettle_4 : decode cX2_secondsCanSettle 4 = .ok (.invokevirtual 47, 3) := by decide +kernel
theorem dX2_secondsCanSettle_7 : decode cX2_secondsCanSettle 7 = .ok (.istore 4, 2) := by decide +kernel
theorem dX2_secondsCanSettle_9 : decode cX2_secondsCanSettle 9 = .ok (.aload_n 0, 1) := by decide +kernel
theorem dX2_secondsCanSettle_10 : decode cX2_secondsCanSettle 10 = .ok (.bipush 24, 2) := by decide +kernel
theorem dX2_secondsCanSettle_12 : decode cX2_secondsCanSettle 12 = .ok (.iload_n 2, 1) := by decide +kernel
theorem dX2_secondsCanSettle_13 : decode cX2_secondsCanSettle 13 = .ok (.invokevirtual 47, 3) := by decide +kernel
theorem dX2_secondsCanSettle_16 : decode cX2_secondsCanSettle 16 = .ok (.istore 5, 2) := by decide +kernel
theorem dX2_secondsCanSettle_18 : decode cX2_secondsCanSettle 18 = .ok (.iload 4, 2) := by decide +kernel
theorem dX2_secondsCanSettle_20 : decode cX2_secondsCanSettle 20 = .ok (.bipush (-6), 2) := by decide +kernel
theorem dX2_secondsCanSettle_22 : decode cX2_secondsCanSettle 22 = .ok (.if_icmp .eq 29, 3) := by decide +kernel
theorem dX2_secondsCanSettle_25 : decode cX2_secondsCanSettle 25 = .ok (.iload 5, 2) := by decide +kernel
theorem dX2_secondsCanSettle_27 : decode cX2_secondsCanSettle 27 = .ok (.bipush (-6), 2) := by decide +kernel
theorem dX2_secondsCanSettle_29 : decode cX2_secondsCanSettle 29 = .ok (.if_icmp .eq 22, 3) := by decide +kernel
theorem dX2_secondsCanSettle_32 : decode cX2_secondsCanSettle 32 = .ok (.iload 4, 2) := by decide +kernel
theorem dX2_secondsCanSettle_34 : decode cX2_secondsCanSettle 34 = .ok (.iload 5, 2) := by decide +kernel
theorem dX2_secondsCanSettle_36 : decode cX2_secondsCanSettle 36 = .ok (.if_icmp .eq 15, 3) := by decide +kernel
theorem dX2_secondsCanSettle_39 : decode cX2_secondsCanSettle 39 = .ok (.iload 4, 2) := by decide +kernel
theorem dX2_secondsCanSettle_41 : decode cX2_secondsCanSettle 41 = .ok (.iload_n 2, 1) := by decide +kernel
theorem dX2_secondsCanSettle_42 : decode cX2_secondsCanSettle 42 = .ok (.if_icmp .eq 9, 3) := by decide +kernel
theorem dX2_secondsCanSettle_45 : decode cX2_secondsCanSettle 45 = .ok (.iload 5, 2) := by decide +kernel
theorem dX2_secondsCanSettle_47 : decode cX2_secondsCanSettle 47 = .ok (.iload_n 1, 1) := by decide +kernel
theorem dX2_secondsCanSettle_48 : decode cX2_secondsCanSettle 48 = .ok (.if_icmp .ne 5, 3) := by decide +kernel
theorem dX2_secondsCanSettle_51 : decode cX2_secondsCanSettle 51 = .ok (.iconst 0, 1) := by decide +kernel
theorem dX2_secondsCanSettle_52 : decode cX2_secondsCanSettle 52 = .ok (.ireturn, 1) := by decide +kernel
theorem dX2_secondsCanSettle_53 : decode cX2_secondsCanSettle 53 = .ok (.aload_n 0, 1) := by decide +kernel
theorem dX2_secondsCanSettle_54 : decode cX2_secondsCanSettle 54 = .ok (.bipush 14, 2) := by decide +kernel
theorem dX2_secondsCanSettle_56 : decode cX2_secondsCanSettle 56 = .ok (.iload 4, 2) := by decide +kernel
theorem dX2_secondsCanSettle_58 : decode cX2_secondsCanSettle 58 = .ok (.invokevirtual 47, 3) := by decide +kernel
theorem dX2_secondsCanSettle_61 : decode cX2_secondsCanSettle 61 = .ok (.aload_n 0, 1) := by decide +kernel
theorem dX2_secondsCanSettle_62 : decode cX2_secondsCanSettle 62 = .ok (.bipush 14, 2) := by decide +kernel
theorem dX2_secondsCanSettle_64 : decode cX2_secondsCanSettle 64 = .ok (.iload 5, 2) := by decide +kernel
theorem dX2_secondsCanSettle_66 : decode cX2_secondsCanSettle 66 = .ok (.invokevirtual 47, 3) := by decide +kernel
theorem dX2_secondsCanSettle_69 : decode cX2_secondsCanSettle 69 = .ok (.iadd, 1) := by decide +kernel
theorem dX2_secondsCanSettle_70 : decode cX2_secondsCanSettle 70 = .ok (.iconst 2, 1) := by decide +kernel
theorem dX2_secondsCanSettle_71 : decode cX2_secondsCanSettle 71 = .ok (.iload_n 3, 1) := by decide +kernel
theorem dX2_secondsCanSettle_72 : decode cX2_secondsCanSettle 72 = .ok (.imul, 1) := by decide +kernel
theorem dX2_secondsCanSettle_73 : decode cX2_secondsCanSettle 73 = .ok (.if_icmp .lt 7, 3) := by decide +kernel
theorem dX2_secondsCanSettle_76 : decode cX2_secondsCanSettle 76 = .ok (.iconst 1, 1) := by decide +kernel
theorem dX2_secondsCanSettle_77 : decode cX2_secondsCanSettle 77 = .ok (.goto 4, 3) := by decide +kernel
theorem dX2_secondsCanSettle_80 : decode cX2_secondsCanSettle 80 = .ok (.iconst 0, 1) := by decide +kernel
theorem dX2_secondsCanSettle_81 : decode cX2_secondsCanSettle 81 = .ok (.ireturn, 1) := by decide +kernel
theorem dX2_hoursToCool_0 : decode cX2_hoursToCool 0 = .ok (.aload_n 0, 1) := by decide +kernel
theorem dX2_hoursToCool_1 : decode cX2_hoursToCool 1 = .ok (.iconst 0, 1) := by decide +kernel
theorem dX2_hoursToCool_2 : decode cX2_hoursToCool 2 = .ok (.iconst 0, 1) := by decide +kernel
theorem dX2_hoursToCool_3 : decode cX2_hoursToCool 3 = .ok (.invokevirtual 47, 3) := by decide +kernel
theorem dX2_hoursToCool_6 : decode cX2_hoursToCool 6 = .ok (.iload_n 1, 1) := by decide +kernel
theorem dX2_hoursToCool_7 : decode cX2_hoursToCool 7 = .ok (.imul, 1) := by decide +kernel
theorem dX2_hoursToCool_8 : decode cX2_hoursToCool 8 = .ok (.ireturn, 1) := by decide +kernel
theorem dX2_peaceLeft_0 : decode cX2_peaceLeft 0 = .ok (.iconst (-1), 1) := by decide +kernel
theorem dX2_peaceLeft_1 : decode cX2_peaceLeft 1 = .ok (.istore_n 3, 1) := by decide +kernel
theorem dX2_peaceLeft_2 : decode cX2_peaceLeft 2 = .ok (.iconst 0, 1) := by decide +kernel
theorem dX2_peaceLeft_3 : decode cX2_peaceLeft 3 = .ok (.istore 4, 2) := by decide +kernel
theorem dX2_peaceLeft_5 : decode cX2_peaceLeft 5 = .ok (.iload 4, 2) := by decide +kernel
theorem dX2_peaceLeft_7 : decode cX2_peaceLeft 7 = .ok (.aload_n 0, 1) := by decide +kernel
theorem dX2_peaceLeft_8 : decode cX2_peaceLeft 8 = .ok (.getfield 21, 3) := by decide +kernel
theorem dX2_peaceLeft_11 : decode cX2_peaceLeft 11 = .ok (.if_icmp .ge 70, 3) := by decide +kernel
theorem dX2_peaceLeft_14 : decode cX2_peaceLeft 14 = .ok (.aload_n 0, 1) := by decide +kernel
theorem dX2_peaceLeft_15 : decode cX2_peaceLeft 15 = .ok (.bipush 92, 2) := by decide +kernel
theorem dX2_peaceLeft_17 : decode cX2_peaceLeft 17 = .ok (.iload 4, 2) := by decide +kernel
theorem dX2_peaceLeft_19 : decode cX2_peaceLeft 19 = .ok (.invokevirtual 47, 3) := by decide +kernel
theorem dX2_peaceLeft_22 : decode cX2_peaceLeft 22 = .ok (.iconst 1, 1) := by decide +kernel
theorem dX2_peaceLeft_23 : decode cX2_peaceLeft 23 = .ok (.if_icmp .ne 52, 3) := by decide +kernel
theorem dX2_peaceLeft_26 : decode cX2_peaceLeft 26 = .ok (.iload_n 1, 1) := by decide +kernel
theorem dX2_peaceLeft_27 : decode cX2_peaceLeft 27 = .ok (.iload_n 2, 1) := by decide +kernel
theorem dX2_peaceLeft_28 : decode cX2_peaceLeft 28 = .ok (.aload_n 0, 1) := by decide +kernel
theorem dX2_peaceLeft_29 : decode cX2_peaceLeft 29 = .ok (.bipush 44, 2) := by decide +kernel
theorem dX2_peaceLeft_31 : decode cX2_peaceLeft 31 = .ok (.iload 4, 2) := by decide +kernel
theorem dX2_peaceLeft_33 : decode cX2_peaceLeft 33 = .ok (.invokevirtual 47, 3) := by decide +kernel
theorem dX2_peaceLeft_36 : decode cX2_peaceLeft 36 = .ok (.aload_n 0, 1) := by decide +kernel
theorem dX2_peaceLeft_37 : decode cX2_peaceLeft 37 = .ok (.bipush 56, 2) := by decide +kernel
theorem dX2_peaceLeft_39 : decode cX2_peaceLeft 39 = .ok (.iload 4, 2) := by decide +kernel
theorem dX2_peaceLeft_41 : decode cX2_peaceLeft 41 = .ok (.invokevirtual 47, 3) := by decide +kernel
theorem dX2_peaceLeft_44 : decode cX2_peaceLeft 44 = .ok (.invokestatic 72, 3) := by decide +kernel
theorem dX2_peaceLeft_47 : decode cX2_peaceLeft 47 = .ok (.ifCond .eq 28, 3) := by decide +kernel
theorem dX2_peaceLeft_50 : decode cX2_peaceLeft 50 = .ok (.iload_n 3, 1) := by decide +kernel
theorem dX2_peaceLeft_51 : decode cX2_peaceLeft 51 = .ok (.aload_n 0, 1) := by decide +kernel
theorem dX2_peaceLeft_52 : decode cX2_peaceLeft 52 = .ok (.bipush 116, 2) := by decide +kernel
theorem dX2_peaceLeft_54 : decode cX2_peaceLeft 54 = .ok (.iload 4, 2) := by decide +kernel
theorem dX2_peaceLeft_56 : decode cX2_peaceLeft 56 = .ok (.invokevirtual 47, 3) := by decide +kernel
theorem dX2_peaceLeft_59 : decode cX2_peaceLeft 59 = .ok (.aload_n 0, 1) := by decide +kernel
theorem dX2_peaceLeft_60 : decode cX2_peaceLeft 60 = .ok (.iconst 0, 1) := by decide +kernel
theorem dX2_peaceLeft_61 : decode cX2_peaceLeft 61 = .ok (.iconst 3, 1) := by decide +kernel
theorem dX2_peaceLeft_62 : decode cX2_peaceLeft 62 = .ok (.invokevirtual 47, 3) := by decide +kernel
theorem dX2_peaceLeft_65 : decode cX2_peaceLeft 65 = .ok (.iadd, 1) := by decide +kernel
theorem dX2_peaceLeft_66 : decode cX2_peaceLeft 66 = .ok (.aload_n 0, 1) := by decide +kernel
theorem dX2_peaceLeft_67 : decode cX2_peaceLeft 67 = .ok (.getfield 11, 3) := by decide +kernel
theorem dX2_peaceLeft_70 : decode cX2_peaceLeft 70 = .ok (.isub, 1) := by decide +kernel
theorem dX2_peaceLeft_71 : decode cX2_peaceLeft 71 = .ok (.invokestatic 50, 3) := by decide +kernel
theorem dX2_peaceLeft_74 : decode cX2_peaceLeft 74 = .ok (.istore_n 3, 1) := by decide +kernel
theorem dX2_peaceLeft_75 : decode cX2_peaceLeft 75 = .ok (.iinc 4 1, 3) := by decide +kernel
theorem dX2_peaceLeft_78 : decode cX2_peaceLeft 78 = .ok (.goto (-73), 3) := by decide +kernel
theorem dX2_peaceLeft_81 : decode cX2_peaceLeft 81 = .ok (.iload_n 3, 1) := by decide +kernel
theorem dX2_peaceLeft_82 : decode cX2_peaceLeft 82 = .ok (.ireturn, 1) := by decide +kernel
theorem dX2_whyNotDue_0 : decode cX2_whyNotDue 0 = .ok (.aload_n 0, 1) := by decide +kernel
theorem dX2_whyNotDue_1 : decode cX2_whyNotDue 1 = .ok (.iload_n 1, 1) := by decide +kernel
theorem dX2_whyNotDue_2 : decode cX2_whyNotDue 2 = .ok (.invokevirtual 69, 3) := by decide +kernel
theorem dX2_whyNotDue_5 : decode cX2_whyNotDue 5 = .ok (.ifCond .ne 5, 3) := by decide +kernel
theorem dX2_whyNotDue_8 : decode cX2_whyNotDue 8 = .ok (.iconst 1, 1) := by decide +kernel
theorem dX2_whyNotDue_9 : decode cX2_whyNotDue 9 = .ok (.ireturn, 1) := by decide +kernel
theorem dX2_whyNotDue_10 : decode cX2_whyNotDue 10 = .ok (.iload_n 2, 1) := by decide +kernel
theorem dX2_whyNotDue_11 : decode cX2_whyNotDue 11 = .ok (.ifCond .eq 5, 3) := by decide +kernel
theorem dX2_whyNotDue_14 : decode cX2_whyNotDue 14 = .ok (.iconst 2, 1) := by decide +kernel
theorem dX2_whyNotDue_15 : decode cX2_whyNotDue 15 = .ok (.ireturn, 1) := by decide +kernel
theorem dX2_whyNotDue_16 : decode cX2_whyNotDue 16 = .ok (.aload_n 0, 1) := by decide +kernel
theorem dX2_whyNotDue_17 : decode cX2_whyNotDue 17 = .ok (.iload_n 1, 1) := by decide +kernel
theorem dX2_whyNotDue_18 : decode cX2_whyNotDue 18 = .ok (.invokevirtual 117, 3) := by decide +kernel
theorem dX2_whyNotDue_21 : decode cX2_whyNotDue 21 = .ok (.aload_n 0, 1) := by decide +kernel
theorem dX2_whyNotDue_22 : decode cX2_whyNotDue 22 = .ok (.iconst 0, 1) := by decide +kernel
theorem dX2_whyNotDue_23 : decode cX2_whyNotDue 23 = .ok (.iconst 1, 1) := by decide +kernel
theorem dX2_whyNotDue_24 : decode cX2_whyNotDue 24 = .ok (.invokevirtual 47, 3) := by decide +kernel
theorem dX2_whyNotDue_27 : decode cX2_whyNotDue 27 = .ok (.if_icmp .ge 7, 3) := by decide +kernel
theorem dX2_whyNotDue_30 : decode cX2_whyNotDue 30 = .ok (.iconst 3, 1) := by decide +kernel
theorem dX2_whyNotDue_31 : decode cX2_whyNotDue 31 = .ok (.goto 4, 3) := by decide +kernel
theorem dX2_whyNotDue_34 : decode cX2_whyNotDue 34 = .ok (.iconst 0, 1) := by decide +kernel
theorem dX2_whyNotDue_35 : decode cX2_whyNotDue 35 = .ok (.ireturn, 1) := by decide +kernel
theorem dX2_hoursUntilWay_0 : decode cX2_hoursUntilWay 0 = .ok (.aload_n 0, 1) := by decide +kernel
theorem dX2_hoursUntilWay_1 : decode cX2_hoursUntilWay 1 = .ok (.iload_n 1, 1) := by decide +kernel
theorem dX2_hoursUntilWay_2 : decode cX2_hoursUntilWay 2 = .ok (.invokevirtual 91, 3) := by decide +kernel
theorem dX2_hoursUntilWay_5 : decode cX2_hoursUntilWay 5 = .ok (.ifCond .eq 5, 3) := by decide +kernel
theorem dX2_hoursUntilWay_8 : decode cX2_hoursUntilWay 8 = .ok (.iconst 0, 1) := by decide +kernel
theorem dX2_hoursUntilWay_9 : decode cX2_hoursUntilWay 9 = .ok (.ireturn, 1) := by decide +kernel
theorem dX2_hoursUntilWay_10 : decode cX2_hoursUntilWay 10 = .ok (.aload_n 0, 1) := by decide +kernel
theorem dX2_hoursUntilWay_11 : decode cX2_hoursUntilWay 11 = .ok (.iconst 2, 1) := by decide +kernel
theorem dX2_hoursUntilWay_12 : decode cX2_hoursUntilWay 12 = .ok (.invokevirtual 134, 3) := by decide +kernel
theorem dX2_hoursUntilWay_15 : decode cX2_hoursUntilWay 15 = .ok (.ifCond .eq 14, 3) := by decide +kernel
theorem dX2_hoursUntilWay_18 : decode cX2_hoursUntilWay 18 = .ok (.aload_n 0, 1) := by decide +kernel
theorem dX2_hoursUntilWay_19 : decode cX2_hoursUntilWay 19 = .ok (.iload_n 1, 1) := by decide +kernel
theorem dX2_hoursUntilWay_20 : decode cX2_hoursUntilWay 20 = .ok (.invokevirtual 137, 3) := by decide +kernel
theorem dX2_hoursUntilWay_23 : decode cX2_hoursUntilWay 23 = .ok (.invokestatic 140, 3) := by decide +kernel
theorem dX2_hoursUntilWay_26 : decode cX2_hoursUntilWay 26 = .ok (.goto 5, 3) := by decide +kernel
theorem dX2_hoursUntilWay_29 : decode cX2_hoursUntilWay 29 = .ok (.bipush (-6), 2) := by decide +kernel
theorem dX2_hoursUntilWay_31 : decode cX2_hoursUntilWay 31 = .ok (.ireturn, 1) := by decide +kernel
theorem dX2_hoursUntilDuel_0 : decode cX2_hoursUntilDuel 0 = .ok (.aload_n 0, 1) := by decide +kernel
theorem dX2_hoursUntilDuel_1 : decode cX2_hoursUntilDuel 1 = .ok (.iload_n 1, 1) := by decide +kernel
theorem dX2_hoursUntilDuel_2 : decode cX2_hoursUntilDuel 2 = .ok (.invokevirtual 91, 3) := by decide +kernel
theorem dX2_hoursUntilDuel_5 : decode cX2_hoursUntilDuel 5 = .ok (.iconst 3, 1) := by decide +kernel
theorem dX2_hoursUntilDuel_6 : decode cX2_hoursUntilDuel 6 = .ok (.iand, 1) := by decide +kernel
theorem dX2_hoursUntilDuel_7 : decode cX2_hoursUntilDuel 7 = .ok (.ifCond .eq 6, 3) := by decide +kernel
theorem dX2_hoursUntilDuel_10 : decode cX2_hoursUntilDuel 10 = .ok (.bipush (-6), 2) := by decide +kernel
theorem dX2_hoursUntilDuel_12 : decode cX2_hoursUntilDuel 12 = .ok (.ireturn, 1) := by decide +kernel
theorem dX2_hoursUntilDuel_13 : decode cX2_hoursUntilDuel 13 = .ok (.aload_n 0, 1) := by decide +kernel
theorem dX2_hoursUntilDuel_14 : decode cX2_hoursUntilDuel 14 = .ok (.bipush 44, 2) := by decide +kernel
theorem dX2_hoursUntilDuel_16 : decode cX2_hoursUntilDuel 16 = .ok (.iload_n 1, 1) := by decide +kernel
theorem dX2_hoursUntilDuel_17 : decode cX2_hoursUntilDuel 17 = .ok (.invokevirtual 47, 3) := by decide +kernel
theorem dX2_hoursUntilDuel_20 : decode cX2_hoursUntilDuel 20 = .ok (.istore_n 2, 1) := by decide +kernel
theorem dX2_hoursUntilDuel_21 : decode cX2_hoursUntilDuel 21 = .ok (.aload_n 0, 1) := by decide +kernel
theorem dX2_hoursUntilDuel_22 : decode cX2_hoursUntilDuel 22 = .ok (.bipush 56, 2) := by decide +kernel
theorem dX2_hoursUntilDuel_24 : decode cX2_hoursUntilDuel 24 = .ok (.iload_n 1, 1) := by decide +kernel
theorem dX2_hoursUntilDuel_25 : decode cX2_hoursUntilDuel 25 = .ok (.invokevirtual 47, 3) := by decide +kernel
theorem dX2_hoursUntilDuel_28 : decode cX2_hoursUntilDuel 28 = .ok (.istore_n 3, 1) := by decide +kernel
theorem dX2_hoursUntilDuel_29 : decode cX2_hoursUntilDuel 29 = .ok (.iconst 0, 1) := by decide +kernel
theorem dX2_hoursUntilDuel_30 : decode cX2_hoursUntilDuel 30 = .ok (.aload_n 0, 1) := by decide +kernel
theorem dX2_hoursUntilDuel_31 : decode cX2_hoursUntilDuel 31 = .ok (.iconst 0, 1) := by decide +kernel
theorem dX2_hoursUntilDuel_32 : decode cX2_hoursUntilDuel 32 = .ok (.iconst 1, 1) := by decide +kernel
theorem dX2_hoursUntilDuel_33 : decode cX2_hoursUntilDuel 33 = .ok (.invokevirtual 47, 3) := by decide +kernel
theorem dX2_hoursUntilDuel_36 : decode cX2_hoursUntilDuel 36 = .ok (.aload_n 0, 1) := by decide +kernel
theorem dX2_hoursUntilDuel_37 : decode cX2_hoursUntilDuel 37 = .ok (.iload_n 1, 1) := by decide +kernel
theorem dX2_hoursUntilDuel_38 : decode cX2_hoursUntilDuel 38 = .ok (.invokevirtual 117, 3) := by decide +kernel
theorem dX2_hoursUntilDuel_41 : decode cX2_hoursUntilDuel 41 = .ok (.isub, 1) := by decide +kernel
theorem dX2_hoursUntilDuel_42 : decode cX2_hoursUntilDuel 42 = .ok (.invokestatic 50, 3) := by decide +kernel
theorem dX2_hoursUntilDuel_45 : decode cX2_hoursUntilDuel 45 = .ok (.istore 4, 2) := by decide +kernel
theorem dX2_hoursUntilDuel_47 : decode cX2_hoursUntilDuel 47 = .ok (.aload_n 0, 1) := by decide +kernel
theorem dX2_hoursUntilDuel_48 : decode cX2_hoursUntilDuel 48 = .ok (.iconst 3, 1) := by decide +kernel
theorem dX2_hoursUntilDuel_49 : decode cX2_hoursUntilDuel 49 = .ok (.invokevirtual 134, 3) := by decide +kernel
theorem dX2_hoursUntilDuel_52 : decode cX2_hoursUntilDuel 52 = .ok (.ifCond .eq 23, 3) := by decide +kernel
theorem dX2_hoursUntilDuel_55 : decode cX2_hoursUntilDuel 55 = .ok (.iload 4, 2) := by decide +kernel
theorem dX2_hoursUntilDuel_57 : decode cX2_hoursUntilDuel 57 = .ok (.aload_n 0, 1) := by decide +kernel
theorem dX2_hoursUntilDuel_58 : decode cX2_hoursUntilDuel 58 = .ok (.iload_n 2, 1) := by decide +kernel
theorem dX2_hoursUntilDuel_59 : decode cX2_hoursUntilDuel 59 = .ok (.invokevirtual 111, 3) := by decide +kernel
theorem dX2_hoursUntilDuel_62 : decode cX2_hoursUntilDuel 62 = .ok (.aload_n 0, 1) := by decide +kernel
theorem dX2_hoursUntilDuel_63 : decode cX2_hoursUntilDuel 63 = .ok (.iload_n 3, 1) := by decide +kernel
theorem dX2_hoursUntilDuel_64 : decode cX2_hoursUntilDuel 64 = .ok (.invokevirtual 111, 3) := by decide +kernel
theorem dX2_hoursUntilDuel_67 : decode cX2_hoursUntilDuel 67 = .ok (.invokestatic 50, 3) := by decide +kernel
theorem dX2_hoursUntilDuel_70 : decode cX2_hoursUntilDuel 70 = .ok (.invokestatic 50, 3) := by decide +kernel
theorem dX2_hoursUntilDuel_73 : decode cX2_hoursUntilDuel 73 = .ok (.istore 4, 2) := by decide +kernel
theorem dX2_hoursUntilDuel_75 : decode cX2_hoursUntilDuel 75 = .ok (.aload_n 0, 1) := by decide +kernel
theorem dX2_hoursUntilDuel_76 : decode cX2_hoursUntilDuel 76 = .ok (.iconst 4, 1) := by decide +kernel
theorem dX2_hoursUntilDuel_77 : decode cX2_hoursUntilDuel 77 = .ok (.invokevirtual 134, 3) := by decide +kernel
theorem dX2_hoursUntilDuel_80 : decode cX2_hoursUntilDuel 80 = .ok (.ifCond .eq 18, 3) := by decide +kernel
theorem dX2_hoursUntilDuel_83 : decode cX2_hoursUntilDuel 83 = .ok (.iload 4, 2) := by decide +kernel
theorem dX2_hoursUntilDuel_85 : decode cX2_hoursUntilDuel 85 = .ok (.aload_n 0, 1) := by decide +kernel
theorem dX2_hoursUntilDuel_86 : decode cX2_hoursUntilDuel 86 = .ok (.iload_n 2, 1) := by decide +kernel
theorem dX2_hoursUntilDuel_87 : decode cX2_hoursUntilDuel 87 = .ok (.iload_n 3, 1) := by decide +kernel
theorem dX2_hoursUntilDuel_88 : decode cX2_hoursUntilDuel 88 = .ok (.invokevirtual 131, 3) := by decide +kernel
theorem dX2_hoursUntilDuel_91 : decode cX2_hoursUntilDuel 91 = .ok (.iconst 1, 1) := by decide +kernel
theorem dX2_hoursUntilDuel_92 : decode cX2_hoursUntilDuel 92 = .ok (.iadd, 1) := by decide +kernel
theorem dX2_hoursUntilDuel_93 : decode cX2_hoursUntilDuel 93 = .ok (.invokestatic 50, 3) := by decide +kernel
theorem dX2_hoursUntilDuel_96 : decode cX2_hoursUntilDuel 96 = .ok (.istore 4, 2) := by decide +kernel
theorem dX2_hoursUntilDuel_98 : decode cX2_hoursUntilDuel 98 = .ok (.aload_n 0, 1) := by decide +kernel
theorem dX2_hoursUntilDuel_99 : decode cX2_hoursUntilDuel 99 = .ok (.iconst 2, 1) := by decide +kernel
theorem dX2_hoursUntilDuel_100 : decode cX2_hoursUntilDuel 100 = .ok (.invokevirtual 134, 3) := by decide +kernel
theorem dX2_hoursUntilDuel_103 : decode cX2_hoursUntilDuel 103 = .ok (.ifCond .eq 18, 3) := by decide +kernel
theorem dX2_hoursUntilDuel_106 : decode cX2_hoursUntilDuel 106 = .ok (.iload 4, 2) := by decide +kernel
theorem dX2_hoursUntilDuel_108 : decode cX2_hoursUntilDuel 108 = .ok (.aload_n 0, 1) := by decide +kernel
theorem dX2_hoursUntilDuel_109 : decode cX2_hoursUntilDuel 109 = .ok (.iload_n 1, 1) := by decide +kernel
theorem dX2_hoursUntilDuel_110 : decode cX2_hoursUntilDuel 110 = .ok (.invokevirtual 137, 3) := by decide +kernel
theorem dX2_hoursUntilDuel_113 : decode cX2_hoursUntilDuel 113 = .ok (.if_icmp .lt 8, 3) := by decide +kernel
theorem dX2_hoursUntilDuel_116 : decode cX2_hoursUntilDuel 116 = .ok (.bipush (-6), 2) := by decide +kernel
theorem dX2_hoursUntilDuel_118 : decode cX2_hoursUntilDuel 118 = .ok (.goto 8, 3) := by decide +kernel
theorem dX2_hoursUntilDuel_121 : decode cX2_hoursUntilDuel 121 = .ok (.iload 4, 2) := by decide +kernel
theorem dX2_hoursUntilDuel_123 : decode cX2_hoursUntilDuel 123 = .ok (.invokestatic 140, 3) := by decide +kernel
theorem dX2_hoursUntilDuel_126 : decode cX2_hoursUntilDuel 126 = .ok (.ireturn, 1) := by decide +kernel
theorem dX2_hoursUntilCool_0 : decode cX2_hoursUntilCool 0 = .ok (.aload_n 0, 1) := by decide +kernel
theorem dX2_hoursUntilCool_1 : decode cX2_hoursUntilCool 1 = .ok (.aload_n 0, 1) := by decide +kernel
theorem dX2_hoursUntilCool_2 : decode cX2_hoursUntilCool 2 = .ok (.bipush 68, 2) := by decide +kernel
theorem dX2_hoursUntilCool_4 : decode cX2_hoursUntilCool 4 = .ok (.iload_n 1, 1) := by decide +kernel
theorem dX2_hoursUntilCool_5 : decode cX2_hoursUntilCool 5 = .ok (.invokevirtual 47, 3) := by decide +kernel
theorem dX2_hoursUntilCool_8 : decode cX2_hoursUntilCool 8 = .ok (.invokevirtual 128, 3) := by decide +kernel
theorem dX2_hoursUntilCool_11 : decode cX2_hoursUntilCool 11 = .ok (.aload_n 0, 1) := by decide +kernel
theorem dX2_hoursUntilCool_12 : decode cX2_hoursUntilCool 12 = .ok (.iload_n 1, 1) := by decide +kernel
theorem dX2_hoursUntilCool_13 : decode cX2_hoursUntilCool 13 = .ok (.invokevirtual 117, 3) := by decide +kernel
theorem dX2_hoursUntilCool_16 : decode cX2_hoursUntilCool 16 = .ok (.isub, 1) := by decide +kernel
theorem dX2_hoursUntilCool_17 : decode cX2_hoursUntilCool 17 = .ok (.ireturn, 1) := by decide +kernel
theorem dX2_orNoneIfTooFar_0 : decode cX2_orNoneIfTooFar 0 = .ok (.iload_n 0, 1) := by decide +kernel
theorem dX2_orNoneIfTooFar_1 : decode cX2_orNoneIfTooFar 1 = .ok (.sipush 500, 3) := by decide +kernel
theorem dX2_orNoneIfTooFar_4 : decode cX2_orNoneIfTooFar 4 = .ok (.if_icmp .le 8, 3) := by decide +kernel
theorem dX2_orNoneIfTooFar_7 : decode cX2_orNoneIfTooFar 7 = .ok (.bipush (-6), 2) := by decide +kernel
theorem dX2_orNoneIfTooFar_9 : decode cX2_orNoneIfTooFar 9 = .ok (.goto 4, 3) := by decide +kernel
theorem dX2_orNoneIfTooFar_12 : decode cX2_orNoneIfTooFar 12 = .ok (.iload_n 0, 1) := by decide +kernel
theorem dX2_orNoneIfTooFar_13 : decode cX2_orNoneIfTooFar 13 = .ok (.ireturn, 1) := by decide +kernel
theorem dX2_winnerOf_0 : decode cX2_winnerOf 0 = .ok (.aload_n 0, 1) := by decide +kernel
theorem dX2_winnerOf_1 : decode cX2_winnerOf 1 = .ok (.bipush 44, 2) := by decide +kernel
theorem dX2_winnerOf_3 : decode cX2_winnerOf 3 = .ok (.iload_n 1, 1) := by decide +kernel
theorem dX2_winnerOf_4 : decode cX2_winnerOf 4 = .ok (.invokevirtual 47, 3) := by decide +kernel
theorem dX2_winnerOf_7 : decode cX2_winnerOf 7 = .ok (.istore_n 2, 1) := by decide +kernel
theorem dX2_winnerOf_8 : decode cX2_winnerOf 8 = .ok (.aload_n 0, 1) := by decide +kernel
theorem dX2_winnerOf_9 : decode cX2_winnerOf 9 = .ok (.bipush 56, 2) := by decide +kernel
theorem dX2_winnerOf_11 : decode cX2_winnerOf 11 = .ok (.iload_n 1, 1) := by decide +kernel
theorem dX2_winnerOf_12 : decode cX2_winnerOf 12 = .ok (.invokevirtual 47, 3) := by decide +kernel
theorem dX2_winnerOf_15 : decode cX2_winnerOf 15 = .ok (.istore_n 3, 1) := by decide +kernel
theorem dX2_winnerOf_16 : decode cX2_winnerOf 16 = .ok (.aload_n 0, 1) := by decide +kernel
theorem dX2_winnerOf_17 : decode cX2_winnerOf 17 = .ok (.iload_n 2, 1) := by decide +kernel
theorem dX2_winnerOf_18 : decode cX2_winnerOf 18 = .ok (.invokevirtual 143, 3) := by decide +kernel
theorem dX2_winnerOf_21 : decode cX2_winnerOf 21 = .ok (.aload_n 0, 1) := by decide +kernel
theorem dX2_winnerOf_22 : decode cX2_winnerOf 22 = .ok (.iload_n 3, 1) := by decide +kernel
theorem dX2_winnerOf_23 : decode cX2_winnerOf 23 = .ok (.invokevirtual 143, 3) := by decide +kernel
theorem dX2_winnerOf_26 : decode cX2_winnerOf 26 = .ok (.if_icmp .le 7, 3) := by decide +kernel
theorem dX2_winnerOf_29 : decode cX2_winnerOf 29 = .ok (.iload_n 2, 1) := by decide +kernel
theorem dX2_winnerOf_30 : decode cX2_winnerOf 30 = .ok (.goto 4, 3) := by decide +kernel
theorem dX2_winnerOf_33 : decode cX2_winnerOf 33 = .ok (.iload_n 3, 1) := by decide +kernel
theorem dX2_winnerOf_34 : decode cX2_winnerOf 34 = .ok (.ireturn, 1) := by decide +kernel
theorem dX2_skillOf_0 : decode cX2_skillOf 0 = .ok (.iconst 2, 1) := by decide +kernel
theorem dX2_skillOf_1 : decode cX2_skillOf 1 = .ok (.aload_n 0, 1) := by decide +kernel
theorem dX2_skillOf_2 : decode cX2_skillOf 2 = .ok (.bipush 14, 2) := by decide +kernel
theorem dX2_skillOf_4 : decode cX2_skillOf 4 = .ok (.iload_n 1, 1) := by decide +kernel
theorem dX2_skillOf_5 : decode cX2_skillOf 5 = .ok (.invokevirtual 47, 3) := by decide +kernel
theorem dX2_skillOf_8 : decode cX2_skillOf 8 = .ok (.imul, 1) := by decide +kernel
theorem dX2_skillOf_9 : decode cX2_skillOf 9 = .ok (.aload_n 0, 1) := by decide +kernel
theorem dX2_skillOf_10 : decode cX2_skillOf 10 = .ok (.iconst 4, 1) := by decide +kernel
theorem dX2_skillOf_11 : decode cX2_skillOf 11 = .ok (.iload_n 1, 1) := by decide +kernel
theorem dX2_skillOf_12 : decode cX2_skillOf 12 = .ok (.invokevirtual 47, 3) := by decide +kernel
theorem dX2_skillOf_15 : decode cX2_skillOf 15 = .ok (.iadd, 1) := by decide +kernel
theorem dX2_skillOf_16 : decode cX2_skillOf 16 = .ok (.ireturn, 1) := by decide +kernel
theorem dX2_tellPerson_0 : decode cX2_tellPerson 0 = .ok (.aload_n 0, 1) := by decide +kernel
theorem dX2_tellPerson_1 : decode cX2_tellPerson 1 = .ok (.iload_n 1, 1) := by decide +kernel
theorem dX2_tellPerson_2 : decode cX2_tellPerson 2 = .ok (.invokevirtual 63, 3) := by decide +kernel
theorem dX2_tellPerson_5 : decode cX2_tellPerson 5 = .ok (.ifCond .ne 5, 3) := by decide +kernel
theorem dX2_tellPerson_8 : decode cX2_tellPerson 8 = .ok (.iconst (-1), 1) := by decide +kernel
theorem dX2_tellPerson_9 : decode cX2_tellPerson 9 = .ok (.ireturn, 1) := by decide +kernel
theorem dX2_tellPerson_10 : decode cX2_tellPerson 10 = .ok (.iload_n 2, 1) := by decide +kernel
theorem dX2_tellPerson_11 : decode cX2_tellPerson 11 = .ok (.tableswitch 115 0 8 #[49, 56, 64, 72, 78, 86, 94, 103, 109], 49) := by decide +kernel
theorem dX2_tellPerson_60 : decode cX2_tellPerson 60 = .ok (.aload_n 0, 1) := by decide +kernel
theorem dX2_tellPerson_61 : decode cX2_tellPerson 61 = .ok (.iconst 4, 1) := by decide +kernel
theorem dX2_tellPerson_62 : decode cX2_tellPerson 62 = .ok (.iload_n 1, 1) := by decide +kernel
theorem dX2_tellPerson_63 : decode cX2_tellPerson 63 = .ok (.invokevirtual 47, 3) := by decide +kernel
theorem dX2_tellPerson_66 : decode cX2_tellPerson 66 = .ok (.ireturn, 1) := by decide +kernel
theorem dX2_tellPerson_67 : decode cX2_tellPerson 67 = .ok (.aload_n 0, 1) := by decide +kernel
theorem dX2_tellPerson_68 : decode cX2_tellPerson 68 = .ok (.bipush 14, 2) := by decide +kernel
theorem dX2_tellPerson_70 : decode cX2_tellPerson 70 = .ok (.iload_n 1, 1) := by decide +kernel
theorem dX2_tellPerson_71 : decode cX2_tellPerson 71 = .ok (.invokevirtual 47, 3) := by decide +kernel
theorem dX2_tellPerson_74 : decode cX2_tellPerson 74 = .ok (.ireturn, 1) := by decide +kernel
theorem dX2_tellPerson_75 : decode cX2_tellPerson 75 = .ok (.aload_n 0, 1) := by decide +kernel
theorem dX2_tellPerson_76 : decode cX2_tellPerson 76 = .ok (.bipush 24, 2) := by decide +kernel
theorem dX2_tellPerson_78 : decode cX2_tellPerson 78 = .ok (.iload_n 1, 1) := by decide +kernel
theorem dX2_tellPerson_79 : decode cX2_tellPerson 79 = .ok (.invokevirtual 47, 3) := by decide +kernel
theorem dX2_tellPerson_82 : decode cX2_tellPerson 82 = .ok (.ireturn, 1) := by decide +kernel
theorem dX2_tellPerson_83 : decode cX2_tellPerson 83 = .ok (.aload_n 0, 1) := by decide +kernel
theorem dX2_tellPerson_84 : decode cX2_tellPerson 84 = .ok (.iload_n 1, 1) := by decide +kernel
theorem dX2_tellPerson_85 : decode cX2_tellPerson 85 = .ok (.invokevirtual 111, 3) := by decide +kernel
theorem dX2_tellPerson_88 : decode cX2_tellPerson 88 = .ok (.ireturn, 1) := by decide +kernel
theorem dX2_tellPerson_89 : decode cX2_tellPerson 89 = .ok (.aload_n 0, 1) := by decide +kernel
theorem dX2_tellPerson_90 : decode cX2_tellPerson 90 = .ok (.bipush 44, 2) := by decide +kernel
theorem dX2_tellPerson_92 : decode cX2_tellPerson 92 = .ok (.iload_n 1, 1) := by decide +kernel
theorem dX2_tellPerson_93 : decode cX2_tellPerson 93 = .ok (.invokevirtual 98, 3) := by decide +kernel
theorem dX2_tellPerson_96 : decode cX2_tellPerson 96 = .ok (.ireturn, 1) := by decide +kernel
theorem dX2_tellPerson_97 : decode cX2_tellPerson 97 = .ok (.aload_n 0, 1) := by decide +kernel
theorem dX2_tellPerson_98 : decode cX2_tellPerson 98 = .ok (.bipush 56, 2) := by decide +kernel
theorem dX2_tellPerson_100 : decode cX2_tellPerson 100 = .ok (.iload_n 1, 1) := by decide +kernel
theorem dX2_tellPerson_101 : decode cX2_tellPerson 101 = .ok (.invokevirtual 98, 3) := by decide +kernel
theorem dX2_tellPerson_104 : decode cX2_tellPerson 104 = .ok (.ireturn, 1) := by decide +kernel
theorem dX2_tellPerson_105 : decode cX2_tellPerson 105 = .ok (.aload_n 0, 1) := by decide +kernel
theorem dX2_tellPerson_106 : decode cX2_tellPerson 106 = .ok (.sipush 128, 3) := by decide +kernel
theorem dX2_tellPerson_109 : decode cX2_tellPerson 109 = .ok (.iload_n 1, 1) := by decide +kernel
theorem dX2_tellPerson_110 : decode cX2_tellPerson 110 = .ok (.invokevirtual 98, 3) := by decide +kernel
theorem dX2_tellPerson_113 : decode cX2_tellPerson 113 = .ok (.ireturn, 1) := by decide +kernel
theorem dX2_tellPerson_114 : decode cX2_tellPerson 114 = .ok (.aload_n 0, 1) := by decide +kernel
theorem dX2_tellPerson_115 : decode cX2_tellPerson 115 = .ok (.iload_n 1, 1) := by decide +kernel
theorem dX2_tellPerson_116 : decode cX2_tellPerson 116 = .ok (.invokevirtual 146, 3) := by decide +kernel
theorem dX2_tellPerson_119 : decode cX2_tellPerson 119 = .ok (.ireturn, 1) := by decide +kernel
theorem dX2_tellPerson_120 : decode cX2_tellPerson 120 = .ok (.aload_n 0, 1) := by decide +kernel
theorem dX2_tellPerson_121 : decode cX2_tellPerson 121 = .ok (.iload_n 1, 1) := by decide +kernel
theorem dX2_tellPerson_122 : decode cX2_tellPerson 122 = .ok (.invokevirtual 149, 3) := by decide +kernel
theorem dX2_tellPerson_125 : decode cX2_tellPerson 125 = .ok (.ireturn, 1) := by decide +kernel
theorem dX2_tellPerson_126 : decode cX2_tellPerson 126 = .ok (.bipush (-2), 2) := by decide +kernel
theorem dX2_tellPerson_128 : decode cX2_tellPerson 128 = .ok (.ireturn, 1) := by decide +kernel
theorem dX2_tellQuarrel_0 : decode cX2_tellQuarrel 0 = .ok (.aload_n 0, 1) := by decide +kernel
theorem dX2_tellQuarrel_1 : decode cX2_tellQuarrel 1 = .ok (.iload_n 1, 1) := by decide +kernel
theorem dX2_tellQuarrel_2 : decode cX2_tellQuarrel 2 = .ok (.invokevirtual 88, 3) := by decide +kernel
theorem dX2_tellQuarrel_5 : decode cX2_tellQuarrel 5 = .ok (.ifCond .ne 5, 3) := by decide +kernel
theorem dX2_tellQuarrel_8 : decode cX2_tellQuarrel 8 = .ok (.iconst (-1), 1) := by decide +kernel
theorem dX2_tellQuarrel_9 : decode cX2_tellQuarrel 9 = .ok (.ireturn, 1) := by decide +kernel
theorem dX2_tellQuarrel_10 : decode cX2_tellQuarrel 10 = .ok (.iload_n 2, 1) := by decide +kernel
theorem dX2_tellQuarrel_11 : decode cX2_tellQuarrel 11 = .ok (.tableswitch 106 0 7 #[45, 53, 61, 69, 75, 83, 91, 100], 45) := by decide +kernel
theorem dX2_tellQuarrel_56 : decode cX2_tellQuarrel 56 = .ok (.aload_n 0, 1) := by decide +kernel
theorem dX2_tellQuarrel_57 : decode cX2_tellQuarrel 57 = .ok (.bipush 44, 2) := by decide +kernel
theorem dX2_tellQuarrel_59 : decode cX2_tellQuarrel 59 = .ok (.iload_n 1, 1) := by decide +kernel
theorem dX2_tellQuarrel_60 : decode cX2_tellQuarrel 60 = .ok (.invokevirtual 47, 3) := by decide +kernel
theorem dX2_tellQuarrel_63 : decode cX2_tellQuarrel 63 = .ok (.ireturn, 1) := by decide +kernel
theorem dX2_tellQuarrel_64 : decode cX2_tellQuarrel 64 = .ok (.aload_n 0, 1) := by decide +kernel
theorem dX2_tellQuarrel_65 : decode cX2_tellQuarrel 65 = .ok (.bipush 56, 2) := by decide +kernel
theorem dX2_tellQuarrel_67 : decode cX2_tellQuarrel 67 = .ok (.iload_n 1, 1) := by decide +kernel
theorem dX2_tellQuarrel_68 : decode cX2_tellQuarrel 68 = .ok (.invokevirtual 47, 3) := by decide +kernel
theorem dX2_tellQuarrel_71 : decode cX2_tellQuarrel 71 = .ok (.ireturn, 1) := by decide +kernel
theorem dX2_tellQuarrel_72 : decode cX2_tellQuarrel 72 = .ok (.aload_n 0, 1) := by decide +kernel
theorem dX2_tellQuarrel_73 : decode cX2_tellQuarrel 73 = .ok (.bipush 68, 2) := by decide +kernel
theorem dX2_tellQuarrel_75 : decode cX2_tellQuarrel 75 = .ok (.iload_n 1, 1) := by decide +kernel
theorem dX2_tellQuarrel_76 : decode cX2_tellQuarrel 76 = .ok (.invokevirtual 47, 3) := by decide +kernel
theorem dX2_tellQuarrel_79 : decode cX2_tellQuarrel 79 = .ok (.ireturn, 1) := by decide +kernel
theorem dX2_tellQuarrel_80 : decode cX2_tellQuarrel 80 = .ok (.aload_n 0, 1) := by decide +kernel
theorem dX2_tellQuarrel_81 : decode cX2_tellQuarrel 81 = .ok (.iload_n 1, 1) := by decide +kernel
theorem dX2_tellQuarrel_82 : decode cX2_tellQuarrel 82 = .ok (.invokevirtual 117, 3) := by decide +kernel
theorem dX2_tellQuarrel_85 : decode cX2_tellQuarrel 85 = .ok (.ireturn, 1) := by decide +kernel
theorem dX2_tellQuarrel_86 : decode cX2_tellQuarrel 86 = .ok (.aload_n 0, 1) := by decide +kernel
theorem dX2_tellQuarrel_87 : decode cX2_tellQuarrel 87 = .ok (.bipush 92, 2) := by decide +kernel
theorem dX2_tellQuarrel_89 : decode cX2_tellQuarrel 89 = .ok (.iload_n 1, 1) := by decide +kernel
theorem dX2_tellQuarrel_90 : decode cX2_tellQuarrel 90 = .ok (.invokevirtual 47, 3) := by decide +kernel
theorem dX2_tellQuarrel_93 : decode cX2_tellQuarrel 93 = .ok (.ireturn, 1) := by decide +kernel
theorem dX2_tellQuarrel_94 : decode cX2_tellQuarrel 94 = .ok (.aload_n 0, 1) := by decide +kernel
theorem dX2_tellQuarrel_95 : decode cX2_tellQuarrel 95 = .ok (.bipush 104, 2) := by decide +kernel
theorem dX2_tellQuarrel_97 : decode cX2_tellQuarrel 97 = .ok (.iload_n 1, 1) := by decide +kernel
theorem dX2_tellQuarrel_98 : decode cX2_tellQuarrel 98 = .ok (.invokevirtual 47, 3) := by decide +kernel
theorem dX2_tellQuarrel_101 : decode cX2_tellQuarrel 101 = .ok (.ireturn, 1) := by decide +kernel
theorem dX2_tellQuarrel_102 : decode cX2_tellQuarrel 102 = .ok (.aload_n 0, 1) := by decide +kernel
theorem dX2_tellQuarrel_103 : decode cX2_tellQuarrel 103 = .ok (.sipush 128, 3) := by decide +kernel
theorem dX2_tellQuarrel_106 : decode cX2_tellQuarrel 106 = .ok (.iload_n 1, 1) := by decide +kernel
theorem dX2_tellQuarrel_107 : decode cX2_tellQuarrel 107 = .ok (.invokevirtual 47, 3) := by decide +kernel
theorem dX2_tellQuarrel_110 : decode cX2_tellQuarrel 110 = .ok (.ireturn, 1) := by decide +kernel
theorem dX2_tellQuarrel_111 : decode cX2_tellQuarrel 111 = .ok (.aload_n 0, 1) := by decide +kernel
theorem dX2_tellQuarrel_112 : decode cX2_tellQuarrel 112 = .ok (.iload_n 1, 1) := by decide +kernel
theorem dX2_tellQuarrel_113 : decode cX2_tellQuarrel 113 = .ok (.invokevirtual 91, 3) := by decide +kernel
theorem dX2_tellQuarrel_116 : decode cX2_tellQuarrel 116 = .ok (.ireturn, 1) := by decide +kernel
theorem dX2_tellQuarrel_117 : decode cX2_tellQuarrel 117 = .ok (.bipush (-2), 2) := by decide +kernel
theorem dX2_tellQuarrel_119 : decode cX2_tellQuarrel 119 = .ok (.ireturn, 1) := by decide +kernel
theorem dX2_tellEvent_0 : decode cX2_tellEvent 0 = .ok (.iload_n 1, 1) := by decide +kernel
theorem dX2_tellEvent_1 : decode cX2_tellEvent 1 = .ok (.ifCond .lt 16, 3) := by decide +kernel
theorem dX2_tellEvent_4 : decode cX2_tellEvent 4 = .ok (.iload_n 1, 1) := by decide +kernel
theorem dX2_tellEvent_5 : decode cX2_tellEvent 5 = .ok (.aload_n 0, 1) := by decide +kernel
theorem dX2_tellEvent_6 : decode cX2_tellEvent 6 = .ok (.getfield 24, 3) := by decide +kernel
theorem dX2_tellEvent_9 : decode cX2_tellEvent 9 = .ok (.bipush 12, 2) := by decide +kernel
theorem dX2_tellEvent_11 : decode cX2_tellEvent 11 = .ok (.invokestatic 35, 3) := by decide +kernel
theorem dX2_tellEvent_14 : decode cX2_tellEvent 14 = .ok (.if_icmp .lt 5, 3) := by decide +kernel
theorem dX2_tellEvent_17 : decode cX2_tellEvent 17 = .ok (.iconst (-1), 1) := by decide +kernel
theorem dX2_tellEvent_18 : decode cX2_tellEvent 18 = .ok (.ireturn, 1) := by decide +kernel
theorem dX2_tellEvent_19 : decode cX2_tellEvent 19 = .ok (.aload_n 0, 1) := by decide +kernel
theorem dX2_tellEvent_20 : decode cX2_tellEvent 20 = .ok (.getfield 24, 3) := by decide +kernel
theorem dX2_tellEvent_23 : decode cX2_tellEvent 23 = .ok (.iconst 1, 1) := by decide +kernel
theorem dX2_tellEvent_24 : decode cX2_tellEvent 24 = .ok (.isub, 1) := by decide +kernel
theorem dX2_tellEvent_25 : decode cX2_tellEvent 25 = .ok (.iload_n 1, 1) := by decide +kernel
theorem dX2_tellEvent_26 : decode cX2_tellEvent 26 = .ok (.isub, 1) := by decide +kernel
theorem dX2_tellEvent_27 : decode cX2_tellEvent 27 = .ok (.bipush 12, 2) := by decide +kernel
theorem dX2_tellEvent_29 : decode cX2_tellEvent 29 = .ok (.invokestatic 114, 3) := by decide +kernel
theorem dX2_tellEvent_32 : decode cX2_tellEvent 32 = .ok (.istore_n 3, 1) := by decide +kernel
theorem dX2_tellEvent_33 : decode cX2_tellEvent 33 = .ok (.iload_n 2, 1) := by decide +kernel
theorem dX2_tellEvent_34 : decode cX2_tellEvent 34 = .ok (.tableswitch 53 0 2 #[26, 35, 44], 26) := by decide +kernel
theorem dX2_tellEvent_60 : decode cX2_tellEvent 60 = .ok (.aload_n 0, 1) := by decide +kernel
theorem dX2_tellEvent_61 : decode cX2_tellEvent 61 = .ok (.sipush 140, 3) := by decide +kernel
theorem dX2_tellEvent_64 : decode cX2_tellEvent 64 = .ok (.iload_n 3, 1) := by decide +kernel
theorem dX2_tellEvent_65 : decode cX2_tellEvent 65 = .ok (.invokevirtual 47, 3) := by decide +kernel
theorem dX2_tellEvent_68 : decode cX2_tellEvent 68 = .ok (.ireturn, 1) := by decide +kernel
theorem dX2_tellEvent_69 : decode cX2_tellEvent 69 = .ok (.aload_n 0, 1) := by decide +kernel
theorem dX2_tellEvent_70 : decode cX2_tellEvent 70 = .ok (.sipush 152, 3) := by decide +kernel
theorem dX2_tellEvent_73 : decode cX2_tellEvent 73 = .ok (.iload_n 3, 1) := by decide +kernel
theorem dX2_tellEvent_74 : decode cX2_tellEvent 74 = .ok (.invokevirtual 47, 3) := by decide +kernel
theorem dX2_tellEvent_77 : decode cX2_tellEvent 77 = .ok (.ireturn, 1) := by decide +kernel
theorem dX2_tellEvent_78 : decode cX2_tellEvent 78 = .ok (.aload_n 0, 1) := by decide +kernel
theorem dX2_tellEvent_79 : decode cX2_tellEvent 79 = .ok (.sipush 164, 3) := by decide +kernel
theorem dX2_tellEvent_82 : decode cX2_tellEvent 82 = .ok (.iload_n 3, 1) := by decide +kernel
theorem dX2_tellEvent_83 : decode cX2_tellEvent 83 = .ok (.invokevirtual 47, 3) := by decide +kernel
theorem dX2_tellEvent_86 : decode cX2_tellEvent 86 = .ok (.ireturn, 1) := by decide +kernel
theorem dX2_tellEvent_87 : decode cX2_tellEvent 87 = .ok (.bipush (-2), 2) := by decide +kernel
theorem dX2_tellEvent_89 : decode cX2_tellEvent 89 = .ok (.ireturn, 1) := by decide +kernel
theorem dX2_quarrelThatPresses_0 : decode cX2_quarrelThatPresses 0 = .ok (.iconst 0, 1) := by decide +kernel
theorem dX2_quarrelThatPresses_1 : decode cX2_quarrelThatPresses 1 = .ok (.istore_n 2, 1) := by decide +kernel
theorem dX2_quarrelThatPresses_2 : decode cX2_quarrelThatPresses 2 = .ok (.iload_n 2, 1) := by decide +kernel
theorem dX2_quarrelThatPresses_3 : decode cX2_quarrelThatPresses 3 = .ok (.aload_n 0, 1) := by decide +kernel
theorem dX2_quarrelThatPresses_4 : decode cX2_quarrelThatPresses 4 = .ok (.getfield 21, 3) := by decide +kernel
theorem dX2_quarrelThatPresses_7 : decode cX2_quarrelThatPresses 7 = .ok (.if_icmp .ge 28, 3) := by decide +kernel
theorem dX2_quarrelThatPresses_10 : decode cX2_quarrelThatPresses 10 = .ok (.aload_n 0, 1) := by decide +kernel
theorem dX2_quarrelThatPresses_11 : decode cX2_quarrelThatPresses 11 = .ok (.iload_n 2, 1) := by decide +kernel
theorem dX2_quarrelThatPresses_12 : decode cX2_quarrelThatPresses 12 = .ok (.invokevirtual 69, 3) := by decide +kernel
theorem dX2_quarrelThatPresses_15 : decode cX2_quarrelThatPresses 15 = .ok (.ifCond .eq 14, 3) := by decide +kernel
theorem dX2_quarrelThatPresses_18 : decode cX2_quarrelThatPresses 18 = .ok (.aload_n 0, 1) := by decide +kernel
theorem dX2_quarrelThatPresses_19 : decode cX2_quarrelThatPresses 19 = .ok (.iload_n 2, 1) := by decide +kernel
theorem dX2_quarrelThatPresses_20 : decode cX2_quarrelThatPresses 20 = .ok (.invokevirtual 152, 3) := by decide +kernel
theorem dX2_quarrelThatPresses_23 : decode cX2_quarrelThatPresses 23 = .ok (.iload_n 1, 1) := by decide +kernel
theorem dX2_quarrelThatPresses_24 : decode cX2_quarrelThatPresses 24 = .ok (.if_icmp .ne 5, 3) := by decide +kernel
theorem dX2_quarrelThatPresses_27 : decode cX2_quarrelThatPresses 27 = .ok (.iload_n 2, 1) := by decide +kernel
theorem dX2_quarrelThatPresses_28 : decode cX2_quarrelThatPresses 28 = .ok (.ireturn, 1) := by decide +kernel
theorem dX2_quarrelThatPresses_29 : decode cX2_quarrelThatPresses 29 = .ok (.iinc 2 1, 3) := by decide +kernel
theorem dX2_quarrelThatPresses_32 : decode cX2_quarrelThatPresses 32 = .ok (.goto (-30), 3) := by decide +kernel
theorem dX2_quarrelThatPresses_35 : decode cX2_quarrelThatPresses 35 = .ok (.iconst (-1), 1) := by decide +kernel
theorem dX2_quarrelThatPresses_36 : decode cX2_quarrelThatPresses 36 = .ok (.ireturn, 1) := by decide +kernel
theorem dX2_quarrelsBefore_0 : decode cX2_quarrelsBefore 0 = .ok (.iconst 0, 1) := by decide +kernel
theorem dX2_quarrelsBefore_1 : decode cX2_quarrelsBefore 1 = .ok (.istore_n 2, 1) := by decide +kernel
theorem dX2_quarrelsBefore_2 : decode cX2_quarrelsBefore 2 = .ok (.iconst 0, 1) := by decide +kernel
theorem dX2_quarrelsBefore_3 : decode cX2_quarrelsBefore 3 = .ok (.istore_n 3, 1) := by decide +kernel
theorem dX2_quarrelsBefore_4 : decode cX2_quarrelsBefore 4 = .ok (.iload_n 3, 1) := by decide +kernel
theorem dX2_quarrelsBefore_5 : decode cX2_quarrelsBefore 5 = .ok (.aload_n 0, 1) := by decide +kernel
theorem dX2_quarrelsBefore_6 : decode cX2_quarrelsBefore 6 = .ok (.getfield 21, 3) := by decide +kernel
theorem dX2_quarrelsBefore_9 : decode cX2_quarrelsBefore 9 = .ok (.if_icmp .ge 48, 3) := by decide +kernel
theorem dX2_quarrelsBefore_12 : decode cX2_quarrelsBefore 12 = .ok (.aload_n 0, 1) := by decide +kernel
theorem dX2_quarrelsBefore_13 : decode cX2_quarrelsBefore 13 = .ok (.iload_n 3, 1) := by decide +kernel
theorem dX2_quarrelsBefore_14 : decode cX2_quarrelsBefore 14 = .ok (.invokevirtual 155, 3) := by decide +kernel
theorem dX2_quarrelsBefore_17 : decode cX2_quarrelsBefore 17 = .ok (.aload_n 0, 1) := by decide +kernel
theorem dX2_quarrelsBefore_18 : decode cX2_quarrelsBefore 18 = .ok (.iload_n 1, 1) := by decide +kernel
theorem dX2_quarrelsBefore_19 : decode cX2_quarrelsBefore 19 = .ok (.invokevirtual 155, 3) := by decide +kernel
theorem dX2_quarrelsBefore_22 : decode cX2_quarrelsBefore 22 = .ok (.isub, 1) := by decide +kernel
theorem dX2_quarrelsBefore_23 : decode cX2_quarrelsBefore 23 = .ok (.istore 4, 2) := by decide +kernel
theorem dX2_quarrelsBefore_25 : decode cX2_quarrelsBefore 25 = .ok (.aload_n 0, 1) := by decide +kernel
theorem dX2_quarrelsBefore_26 : decode cX2_quarrelsBefore 26 = .ok (.iload_n 3, 1) := by decide +kernel
theorem dX2_quarrelsBefore_27 : decode cX2_quarrelsBefore 27 = .ok (.invokevirtual 69, 3) := by decide +kernel
theorem dX2_quarrelsBefore_30 : decode cX2_quarrelsBefore 30 = .ok (.ifCond .eq 21, 3) := by decide +kernel
theorem dX2_quarrelsBefore_33 : decode cX2_quarrelsBefore 33 = .ok (.iload 4, 2) := by decide +kernel
theorem dX2_quarrelsBefore_35 : decode cX2_quarrelsBefore 35 = .ok (.ifCond .gt 13, 3) := by decide +kernel
theorem dX2_quarrelsBefore_38 : decode cX2_quarrelsBefore 38 = .ok (.iload 4, 2) := by decide +kernel
theorem dX2_quarrelsBefore_40 : decode cX2_quarrelsBefore 40 = .ok (.ifCond .ne 11, 3) := by decide +kernel
theorem dX2_quarrelsBefore_43 : decode cX2_quarrelsBefore 43 = .ok (.iload_n 3, 1) := by decide +kernel
theorem dX2_quarrelsBefore_44 : decode cX2_quarrelsBefore 44 = .ok (.iload_n 1, 1) := by decide +kernel
theorem dX2_quarrelsBefore_45 : decode cX2_quarrelsBefore 45 = .ok (.if_icmp .ge 6, 3) := by decide +kernel
theorem dX2_quarrelsBefore_48 : decode cX2_quarrelsBefore 48 = .ok (.iinc 2 1, 3) := by decide +kernel
theorem dX2_quarrelsBefore_51 : decode cX2_quarrelsBefore 51 = .ok (.iinc 3 1, 3) := by decide +kernel
theorem dX2_quarrelsBefore_54 : decode cX2_quarrelsBefore 54 = .ok (.goto (-50), 3) := by decide +kernel
theorem dX2_quarrelsBefore_57 : decode cX2_quarrelsBefore 57 = .ok (.iload_n 2, 1) := by decide +kernel
theorem dX2_quarrelsBefore_58 : decode cX2_quarrelsBefore 58 = .ok (.ireturn, 1) := by decide +kernel
theorem dX2_pressureOf_0 : decode cX2_pressureOf 0 = .ok (.aload_n 0, 1) := by decide +kernel
theorem dX2_pressureOf_1 : decode cX2_pressureOf 1 = .ok (.iload_n 1, 1) := by decide +kernel
theorem dX2_pressureOf_2 : decode cX2_pressureOf 2 = .ok (.invokevirtual 117, 3) := by decide +kernel
theorem dX2_pressureOf_5 : decode cX2_pressureOf 5 = .ok (.iconst 1, 1) := by decide +kernel
theorem dX2_pressureOf_6 : decode cX2_pressureOf 6 = .ok (.iadd, 1) := by decide +kernel
theorem dX2_pressureOf_7 : decode cX2_pressureOf 7 = .ok (.aload_n 0, 1) := by decide +kernel
theorem dX2_pressureOf_8 : decode cX2_pressureOf 8 = .ok (.bipush 68, 2) := by decide +kernel
theorem dX2_pressureOf_10 : decode cX2_pressureOf 10 = .ok (.iload_n 1, 1) := by decide +kernel
theorem dX2_pressureOf_11 : decode cX2_pressureOf 11 = .ok (.invokevirtual 47, 3) := by decide +kernel
theorem dX2_pressureOf_14 : decode cX2_pressureOf 14 = .ok (.imul, 1) := by decide +kernel
theorem dX2_pressureOf_15 : decode cX2_pressureOf 15 = .ok (.ireturn, 1) := by decide +kernel
theorem dX2_insultsFrom_0 : decode cX2_insultsFrom 0 = .ok (.iload_n 1, 1) := by decide +kernel
theorem dX2_insultsFrom_1 : decode cX2_insultsFrom 1 = .ok (.invokestatic 66, 3) := by decide +kernel
theorem dX2_insultsFrom_4 : decode cX2_insultsFrom 4 = .ok (.ifCond .ne 6, 3) := by decide +kernel
theorem dX2_insultsFrom_7 : decode cX2_insultsFrom 7 = .ok (.bipush (-2), 2) := by decide +kernel
theorem dX2_insultsFrom_9 : decode cX2_insultsFrom 9 = .ok (.ireturn, 1) := by decide +kernel
theorem dX2_insultsFrom_10 : decode cX2_insultsFrom 10 = .ok (.iconst 0, 1) := by decide +kernel
theorem dX2_insultsFrom_11 : decode cX2_insultsFrom 11 = .ok (.istore_n 2, 1) := by decide +kernel
theorem dX2_insultsFrom_12 : decode cX2_insultsFrom 12 = .ok (.iconst 0, 1) := by decide +kernel
theorem dX2_insultsFrom_13 : decode cX2_insultsFrom 13 = .ok (.istore_n 3, 1) := by decide +kernel
theorem dX2_insultsFrom_14 : decode cX2_insultsFrom 14 = .ok (.iload_n 3, 1) := by decide +kernel
theorem dX2_insultsFrom_15 : decode cX2_insultsFrom 15 = .ok (.aload_n 0, 1) := by decide +kernel
theorem dX2_insultsFrom_16 : decode cX2_insultsFrom 16 = .ok (.getfield 21, 3) := by decide +kernel
theorem dX2_insultsFrom_19 : decode cX2_insultsFrom 19 = .ok (.if_icmp .ge 23, 3) := by decide +kernel
theorem dX2_insultsFrom_22 : decode cX2_insultsFrom 22 = .ok (.aload_n 0, 1) := by decide +kernel
theorem dX2_insultsFrom_23 : decode cX2_insultsFrom 23 = .ok (.bipush 68, 2) := by decide +kernel
theorem dX2_insultsFrom_25 : decode cX2_insultsFrom 25 = .ok (.iload_n 3, 1) := by decide +kernel
theorem dX2_insultsFrom_26 : decode cX2_insultsFrom 26 = .ok (.invokevirtual 47, 3) := by decide +kernel
theorem dX2_insultsFrom_29 : decode cX2_insultsFrom 29 = .ok (.iload_n 1, 1) := by decide +kernel
theorem dX2_insultsFrom_30 : decode cX2_insultsFrom 30 = .ok (.if_icmp .lt 6, 3) := by decide +kernel
theorem dX2_insultsFrom_33 : decode cX2_insultsFrom 33 = .ok (.iinc 2 1, 3) := by decide +kernel
theorem dX2_insultsFrom_36 : decode cX2_insultsFrom 36 = .ok (.iinc 3 1, 3) := by decide +kernel
theorem dX2_insultsFrom_39 : decode cX2_insultsFrom 39 = .ok (.goto (-25), 3) := by decide +kernel
theorem dX2_insultsFrom_42 : decode cX2_insultsFrom 42 = .ok (.iload_n 2, 1) := by decide +kernel
theorem dX2_insultsFrom_43 : decode cX2_insultsFrom 43 = .ok (.ireturn, 1) := by decide +kernel
theorem dX2_tellNumber_0 : decode cX2_tellNumber 0 = .ok (.iload_n 1, 1) := by decide +kernel
theorem dX2_tellNumber_1 : decode cX2_tellNumber 1 = .ok (.tableswitch 146 0 12 #[67, 72, 77, 82, 87, 92, 100, 108, 113, 118, 125, 132, 139], 67) := by decide +kernel
theorem dX2_tellNumber_68 : decode cX2_tellNumber 68 = .ok (.aload_n 0, 1) := by decide +kernel
theorem dX2_tellNumber_69 : decode cX2_tellNumber 69 = .ok (.getfield 11, 3) := by decide +kernel
theorem dX2_tellNumber_72 : decode cX2_tellNumber 72 = .ok (.ireturn, 1) := by decide +kernel
theorem dX2_tellNumber_73 : decode cX2_tellNumber 73 = .ok (.aload_n 0, 1) := by decide +kernel
theorem dX2_tellNumber_74 : decode cX2_tellNumber 74 = .ok (.getfield 18, 3) := by decide +kernel
theorem dX2_tellNumber_77 : decode cX2_tellNumber 77 = .ok (.ireturn, 1) := by decide +kernel
theorem dX2_tellNumber_78 : decode cX2_tellNumber 78 = .ok (.aload_n 0, 1) := by decide +kernel
theorem dX2_tellNumber_79 : decode cX2_tellNumber 79 = .ok (.getfield 21, 3) := by decide +kernel
theorem dX2_tellNumber_82 : decode cX2_tellNumber 82 = .ok (.ireturn, 1) := by decide +kernel
theorem dX2_tellNumber_83 : decode cX2_tellNumber 83 = .ok (.aload_n 0, 1) := by decide +kernel
theorem dX2_tellNumber_84 : decode cX2_tellNumber 84 = .ok (.invokevirtual 158, 3) := by decide +kernel
theorem dX2_tellNumber_87 : decode cX2_tellNumber 87 = .ok (.ireturn, 1) := by decide +kernel
theorem dX2_tellNumber_88 : decode cX2_tellNumber 88 = .ok (.aload_n 0, 1) := by decide +kernel
theorem dX2_tellNumber_89 : decode cX2_tellNumber 89 = .ok (.invokevirtual 162, 3) := by decide +kernel
theorem dX2_tellNumber_92 : decode cX2_tellNumber 92 = .ok (.ireturn, 1) := by decide +kernel
theorem dX2_tellNumber_93 : decode cX2_tellNumber 93 = .ok (.aload_n 0, 1) := by decide +kernel
theorem dX2_tellNumber_94 : decode cX2_tellNumber 94 = .ok (.bipush 92, 2) := by decide +kernel
theorem dX2_tellNumber_96 : decode cX2_tellNumber 96 = .ok (.iconst 1, 1) := by decide +kernel
theorem dX2_tellNumber_97 : decode cX2_tellNumber 97 = .ok (.invokevirtual 98, 3) := by decide +kernel
theorem dX2_tellNumber_100 : decode cX2_tellNumber 100 = .ok (.ireturn, 1) := by decide +kernel
theorem dX2_tellNumber_101 : decode cX2_tellNumber 101 = .ok (.aload_n 0, 1) := by decide +kernel
theorem dX2_tellNumber_102 : decode cX2_tellNumber 102 = .ok (.bipush 92, 2) := by decide +kernel
theorem dX2_tellNumber_104 : decode cX2_tellNumber 104 = .ok (.iconst 2, 1) := by decide +kernel
theorem dX2_tellNumber_105 : decode cX2_tellNumber 105 = .ok (.invokevirtual 98, 3) := by decide +kernel
theorem dX2_tellNumber_108 : decode cX2_tellNumber 108 = .ok (.ireturn, 1) := by decide +kernel
theorem dX2_tellNumber_109 : decode cX2_tellNumber 109 = .ok (.aload_n 0, 1) := by decide +kernel
theorem dX2_tellNumber_110 : decode cX2_tellNumber 110 = .ok (.getfield 15, 3) := by decide +kernel
theorem dX2_tellNumber_113 : decode cX2_tellNumber 113 = .ok (.ireturn, 1) := by decide +kernel
theorem dX2_tellNumber_114 : decode cX2_tellNumber 114 = .ok (.aload_n 0, 1) := by decide +kernel
theorem dX2_tellNumber_115 : decode cX2_tellNumber 115 = .ok (.invokevirtual 165, 3) := by decide +kernel
theorem dX2_tellNumber_118 : decode cX2_tellNumber 118 = .ok (.ireturn, 1) := by decide +kernel
theorem dX2_tellNumber_119 : decode cX2_tellNumber 119 = .ok (.aload_n 0, 1) := by decide +kernel
theorem dX2_tellNumber_120 : decode cX2_tellNumber 120 = .ok (.iconst 0, 1) := by decide +kernel
theorem dX2_tellNumber_121 : decode cX2_tellNumber 121 = .ok (.iconst 0, 1) := by decide +kernel
theorem dX2_tellNumber_122 : decode cX2_tellNumber 122 = .ok (.invokevirtual 47, 3) := by decide +kernel
theorem dX2_tellNumber_125 : decode cX2_tellNumber 125 = .ok (.ireturn, 1) := by decide +kernel
theorem dX2_tellNumber_126 : decode cX2_tellNumber 126 = .ok (.aload_n 0, 1) := by decide +kernel
theorem dX2_tellNumber_127 : decode cX2_tellNumber 127 = .ok (.iconst 0, 1) := by decide +kernel
theorem dX2_tellNumber_128 : decode cX2_tellNumber 128 = .ok (.iconst 1, 1) := by decide +kernel
theorem dX2_tellNumber_129 : decode cX2_tellNumber 129 = .ok (.invokevirtual 47, 3) := by decide +kernel
theorem dX2_tellNumber_132 : decode cX2_tellNumber 132 = .ok (.ireturn, 1) := by decide +kernel
theorem dX2_tellNumber_133 : decode cX2_tellNumber 133 = .ok (.aload_n 0, 1) := by decide +kernel
theorem dX2_tellNumber_134 : decode cX2_tellNumber 134 = .ok (.iconst 0, 1) := by decide +kernel
theorem dX2_tellNumber_135 : decode cX2_tellNumber 135 = .ok (.iconst 2, 1) := by decide +kernel
theorem dX2_tellNumber_136 : decode cX2_tellNumber 136 = .ok (.invokevirtual 47, 3) := by decide +kernel
theorem dX2_tellNumber_139 : decode cX2_tellNumber 139 = .ok (.ireturn, 1) := by decide +kernel
theorem dX2_tellNumber_140 : decode cX2_tellNumber 140 = .ok (.aload_n 0, 1) := by decide +kernel
theorem dX2_tellNumber_141 : decode cX2_tellNumber 141 = .ok (.iconst 0, 1) := by decide +kernel
theorem dX2_tellNumber_142 : decode cX2_tellNumber 142 = .ok (.iconst 3, 1) := by decide +kernel
theorem dX2_tellNumber_143 : decode cX2_tellNumber 143 = .ok (.invokevirtual 47, 3) := by decide +kernel
theorem dX2_tellNumber_146 : decode cX2_tellNumber 146 = .ok (.ireturn, 1) := by decide +kernel
theorem dX2_tellNumber_147 : decode cX2_tellNumber 147 = .ok (.bipush (-2), 2) := by decide +kernel
theorem dX2_tellNumber_149 : decode cX2_tellNumber 149 = .ok (.ireturn, 1) := by decide +kernel
theorem dX2_quarrelsWith_0 : decode cX2_quarrelsWith 0 = .ok (.iconst 0, 1) := by decide +kernel
theorem dX2_quarrelsWith_1 : decode cX2_quarrelsWith 1 = .ok (.istore_n 3, 1) := by decide +kernel
theorem dX2_quarrelsWith_2 : decode cX2_quarrelsWith 2 = .ok (.iconst 0, 1) := by decide +kernel
theorem dX2_quarrelsWith_3 : decode cX2_quarrelsWith 3 = .ok (.istore 4, 2) := by decide +kernel
theorem dX2_quarrelsWith_5 : decode cX2_quarrelsWith 5 = .ok (.iload 4, 2) := by decide +kernel
theorem dX2_quarrelsWith_7 : decode cX2_quarrelsWith 7 = .ok (.aload_n 0, 1) := by decide +kernel
theorem dX2_quarrelsWith_8 : decode cX2_quarrelsWith 8 = .ok (.getfield 21, 3) := by decide +kernel
theorem dX2_quarrelsWith_11 : decode cX2_quarrelsWith 11 = .ok (.if_icmp .ge 23, 3) := by decide +kernel
theorem dX2_quarrelsWith_14 : decode cX2_quarrelsWith 14 = .ok (.aload_n 0, 1) := by decide +kernel
theorem dX2_quarrelsWith_15 : decode cX2_quarrelsWith 15 = .ok (.iload_n 1, 1) := by decide +kernel
theorem dX2_quarrelsWith_16 : decode cX2_quarrelsWith 16 = .ok (.iload 4, 2) := by decide +kernel
theorem dX2_quarrelsWith_18 : decode cX2_quarrelsWith 18 = .ok (.invokevirtual 47, 3) := by decide +kernel
theorem dX2_quarrelsWith_21 : decode cX2_quarrelsWith 21 = .ok (.iload_n 2, 1) := by decide +kernel
theorem dX2_quarrelsWith_22 : decode cX2_quarrelsWith 22 = .ok (.if_icmp .ne 6, 3) := by decide +kernel
theorem dX2_quarrelsWith_25 : decode cX2_quarrelsWith 25 = .ok (.iinc 3 1, 3) := by decide +kernel
theorem dX2_quarrelsWith_28 : decode cX2_quarrelsWith 28 = .ok (.iinc 4 1, 3) := by decide +kernel
theorem dX2_quarrelsWith_31 : decode cX2_quarrelsWith 31 = .ok (.goto (-26), 3) := by decide +kernel
theorem dX2_quarrelsWith_34 : decode cX2_quarrelsWith 34 = .ok (.iload_n 3, 1) := by decide +kernel
theorem dX2_quarrelsWith_35 : decode cX2_quarrelsWith 35 = .ok (.ireturn, 1) := by decide +kernel
theorem dX2_duelsOf_0 : decode cX2_duelsOf 0 = .ok (.iconst 0, 1) := by decide +kernel
theorem dX2_duelsOf_1 : decode cX2_duelsOf 1 = .ok (.istore_n 2, 1) := by decide +kernel
theorem dX2_duelsOf_2 : decode cX2_duelsOf 2 = .ok (.iconst 0, 1) := by decide +kernel
theorem dX2_duelsOf_3 : decode cX2_duelsOf 3 = .ok (.istore_n 3, 1) := by decide +kernel
theorem dX2_duelsOf_4 : decode cX2_duelsOf 4 = .ok (.iload_n 3, 1) := by decide +kernel
theorem dX2_duelsOf_5 : decode cX2_duelsOf 5 = .ok (.aload_n 0, 1) := by decide +kernel
theorem dX2_duelsOf_6 : decode cX2_duelsOf 6 = .ok (.getfield 21, 3) := by decide +kernel
theorem dX2_duelsOf_9 : decode cX2_duelsOf 9 = .ok (.if_icmp .ge 57, 3) := by decide +kernel
theorem dX2_duelsOf_12 : decode cX2_duelsOf 12 = .ok (.aload_n 0, 1) := by decide +kernel
theorem dX2_duelsOf_13 : decode cX2_duelsOf 13 = .ok (.bipush 44, 2) := by decide +kernel
theorem dX2_duelsOf_15 : decode cX2_duelsOf 15 = .ok (.iload_n 3, 1) := by decide +kernel
theorem dX2_duelsOf_16 : decode cX2_duelsOf 16 = .ok (.invokevirtual 47, 3) := by decide +kernel
theorem dX2_duelsOf_19 : decode cX2_duelsOf 19 = .ok (.iload_n 1, 1) := by decide +kernel
theorem dX2_duelsOf_20 : decode cX2_duelsOf 20 = .ok (.if_icmp .eq 14, 3) := by decide +kernel
theorem dX2_duelsOf_23 : decode cX2_duelsOf 23 = .ok (.aload_n 0, 1) := by decide +kernel
theorem dX2_duelsOf_24 : decode cX2_duelsOf 24 = .ok (.bipush 56, 2) := by decide +kernel
theorem dX2_duelsOf_26 : decode cX2_duelsOf 26 = .ok (.iload_n 3, 1) := by decide +kernel
theorem dX2_duelsOf_27 : decode cX2_duelsOf 27 = .ok (.invokevirtual 47, 3) := by decide +kernel
theorem dX2_duelsOf_30 : decode cX2_duelsOf 30 = .ok (.iload_n 1, 1) := by decide +kernel
theorem dX2_duelsOf_31 : decode cX2_duelsOf 31 = .ok (.if_icmp .ne 7, 3) := by decide +kernel
theorem dX2_duelsOf_34 : decode cX2_duelsOf 34 = .ok (.iconst 1, 1) := by decide +kernel
theorem dX2_duelsOf_35 : decode cX2_duelsOf 35 = .ok (.goto 4, 3) := by decide +kernel
theorem dX2_duelsOf_38 : decode cX2_duelsOf 38 = .ok (.iconst 0, 1) := by decide +kernel
theorem dX2_duelsOf_39 : decode cX2_duelsOf 39 = .ok (.istore 4, 2) := by decide +kernel
theorem dX2_duelsOf_41 : decode cX2_duelsOf 41 = .ok (.iload 4, 2) := by decide +kernel
theorem dX2_duelsOf_43 : decode cX2_duelsOf 43 = .ok (.ifCond .eq 17, 3) := by decide +kernel
theorem dX2_duelsOf_46 : decode cX2_duelsOf 46 = .ok (.aload_n 0, 1) := by decide +kernel
theorem dX2_duelsOf_47 : decode cX2_duelsOf 47 = .ok (.bipush 92, 2) := by decide +kernel
theorem dX2_duelsOf_49 : decode cX2_duelsOf 49 = .ok (.iload_n 3, 1) := by decide +kernel
theorem dX2_duelsOf_50 : decode cX2_duelsOf 50 = .ok (.invokevirtual 47, 3) := by decide +kernel
theorem dX2_duelsOf_53 : decode cX2_duelsOf 53 = .ok (.iconst 2, 1) := by decide +kernel
theorem dX2_duelsOf_54 : decode cX2_duelsOf 54 = .ok (.if_icmp .ne 6, 3) := by decide +kernel
theorem dX2_duelsOf_57 : decode cX2_duelsOf 57 = .ok (.iinc 2 1, 3) := by decide +kernel
theorem dX2_duelsOf_60 : decode cX2_duelsOf 60 = .ok (.iinc 3 1, 3) := by decide +kernel
theorem dX2_duelsOf_63 : decode cX2_duelsOf 63 = .ok (.goto (-59), 3) := by decide +kernel
theorem dX2_duelsOf_66 : decode cX2_duelsOf 66 = .ok (.iload_n 2, 1) := by decide +kernel
end
section
theorem dX2_duelsOf_67 : decode cX2_duelsOf 67 = .ok (.ireturn, 1) := by decide +kernel
theorem dX2_openQuarrels_0 : decode cX2_openQuarrels 0 = .ok (.iconst 0, 1) := by decide +kernel
theorem dX2_openQuarrels_1 : decode cX2_openQuarrels 1 = .ok (.istore_n 1, 1) := by decide +kernel
theorem dX2_openQuarrels_2 : decode cX2_openQuarrels 2 = .ok (.iconst 0, 1) := by decide +kernel
theorem dX2_openQuarrels_3 : decode cX2_openQuarrels 3 = .ok (.istore_n 2, 1) := by decide +kernel
theorem dX2_openQuarrels_4 : decode cX2_openQuarrels 4 = .ok (.iload_n 2, 1) := by decide +kernel
theorem dX2_openQuarrels_5 : decode cX2_openQuarrels 5 = .ok (.aload_n 0, 1) := by decide +kernel
theorem dX2_openQuarrels_6 : decode cX2_openQuarrels 6 = .ok (.getfield 21, 3) := by decide +kernel
theorem dX2_openQuarrels_9 : decode cX2_openQuarrels 9 = .ok (.if_icmp .ge 23, 3) := by decide +kernel
theorem dX2_openQuarrels_12 : decode cX2_openQuarrels 12 = .ok (.aload_n 0, 1) := by decide +kernel
theorem dX2_openQuarrels_13 : decode cX2_openQuarrels 13 = .ok (.iload_n 2, 1) := by decide +kernel
theorem dX2_openQuarrels_14 : decode cX2_openQuarrels 14 = .ok (.invokevirtual 69, 3) := by decide +kernel
theorem dX2_openQuarrels_17 : decode cX2_openQuarrels 17 = .ok (.ifCond .eq 9, 3) := by decide +kernel
theorem dX2_openQuarrels_20 : decode cX2_openQuarrels 20 = .ok (.iload_n 1, 1) := by decide +kernel
theorem dX2_openQuarrels_21 : decode cX2_openQuarrels 21 = .ok (.iconst 1, 1) := by decide +kernel
theorem dX2_openQuarrels_22 : decode cX2_openQuarrels 22 = .ok (.iload_n 2, 1) := by decide +kernel
theorem dX2_openQuarrels_23 : decode cX2_openQuarrels 23 = .ok (.ishl, 1) := by decide +kernel
theorem dX2_openQuarrels_24 : decode cX2_openQuarrels 24 = .ok (.ior, 1) := by decide +kernel
theorem dX2_openQuarrels_25 : decode cX2_openQuarrels 25 = .ok (.istore_n 1, 1) := by decide +kernel
theorem dX2_openQuarrels_26 : decode cX2_openQuarrels 26 = .ok (.iinc 2 1, 3) := by decide +kernel
theorem dX2_openQuarrels_29 : decode cX2_openQuarrels 29 = .ok (.goto (-25), 3) := by decide +kernel
theorem dX2_openQuarrels_32 : decode cX2_openQuarrels 32 = .ok (.iload_n 1, 1) := by decide +kernel
theorem dX2_openQuarrels_33 : decode cX2_openQuarrels 33 = .ok (.ireturn, 1) := by decide +kernel
theorem dX2_dueQuarrels_0 : decode cX2_dueQuarrels 0 = .ok (.iconst 0, 1) := by decide +kernel
theorem dX2_dueQuarrels_1 : decode cX2_dueQuarrels 1 = .ok (.istore_n 1, 1) := by decide +kernel
theorem dX2_dueQuarrels_2 : decode cX2_dueQuarrels 2 = .ok (.iconst 0, 1) := by decide +kernel
theorem dX2_dueQuarrels_3 : decode cX2_dueQuarrels 3 = .ok (.istore_n 2, 1) := by decide +kernel
theorem dX2_dueQuarrels_4 : decode cX2_dueQuarrels 4 = .ok (.iload_n 2, 1) := by decide +kernel
theorem dX2_dueQuarrels_5 : decode cX2_dueQuarrels 5 = .ok (.aload_n 0, 1) := by decide +kernel
theorem dX2_dueQuarrels_6 : decode cX2_dueQuarrels 6 = .ok (.getfield 21, 3) := by decide +kernel
theorem dX2_dueQuarrels_9 : decode cX2_dueQuarrels 9 = .ok (.if_icmp .ge 28, 3) := by decide +kernel
theorem dX2_dueQuarrels_12 : decode cX2_dueQuarrels 12 = .ok (.aload_n 0, 1) := by decide +kernel
theorem dX2_dueQuarrels_13 : decode cX2_dueQuarrels 13 = .ok (.iload_n 2, 1) := by decide +kernel
theorem dX2_dueQuarrels_14 : decode cX2_dueQuarrels 14 = .ok (.aload_n 0, 1) := by decide +kernel
theorem dX2_dueQuarrels_15 : decode cX2_dueQuarrels 15 = .ok (.iload_n 2, 1) := by decide +kernel
theorem dX2_dueQuarrels_16 : decode cX2_dueQuarrels 16 = .ok (.invokevirtual 91, 3) := by decide +kernel
theorem dX2_dueQuarrels_19 : decode cX2_dueQuarrels 19 = .ok (.invokevirtual 101, 3) := by decide +kernel
theorem dX2_dueQuarrels_22 : decode cX2_dueQuarrels 22 = .ok (.ifCond .ne 9, 3) := by decide +kernel
theorem dX2_dueQuarrels_25 : decode cX2_dueQuarrels 25 = .ok (.iload_n 1, 1) := by decide +kernel
theorem dX2_dueQuarrels_26 : decode cX2_dueQuarrels 26 = .ok (.iconst 1, 1) := by decide +kernel
theorem dX2_dueQuarrels_27 : decode cX2_dueQuarrels 27 = .ok (.iload_n 2, 1) := by decide +kernel
theorem dX2_dueQuarrels_28 : decode cX2_dueQuarrels 28 = .ok (.ishl, 1) := by decide +kernel
theorem dX2_dueQuarrels_29 : decode cX2_dueQuarrels 29 = .ok (.ior, 1) := by decide +kernel
theorem dX2_dueQuarrels_30 : decode cX2_dueQuarrels 30 = .ok (.istore_n 1, 1) := by decide +kernel
theorem dX2_dueQuarrels_31 : decode cX2_dueQuarrels 31 = .ok (.iinc 2 1, 3) := by decide +kernel
theorem dX2_dueQuarrels_34 : decode cX2_dueQuarrels 34 = .ok (.goto (-30), 3) := by decide +kernel
theorem dX2_dueQuarrels_37 : decode cX2_dueQuarrels 37 = .ok (.iload_n 1, 1) := by decide +kernel
theorem dX2_dueQuarrels_38 : decode cX2_dueQuarrels 38 = .ok (.ireturn, 1) := by decide +kernel
theorem dX2_personsUnderOath_0 : decode cX2_personsUnderOath 0 = .ok (.iconst 0, 1) := by decide +kernel
theorem dX2_personsUnderOath_1 : decode cX2_personsUnderOath 1 = .ok (.istore_n 1, 1) := by decide +kernel
theorem dX2_personsUnderOath_2 : decode cX2_personsUnderOath 2 = .ok (.iconst 0, 1) := by decide +kernel
theorem dX2_personsUnderOath_3 : decode cX2_personsUnderOath 3 = .ok (.istore_n 2, 1) := by decide +kernel
theorem dX2_personsUnderOath_4 : decode cX2_personsUnderOath 4 = .ok (.iload_n 2, 1) := by decide +kernel
theorem dX2_personsUnderOath_5 : decode cX2_personsUnderOath 5 = .ok (.aload_n 0, 1) := by decide +kernel
theorem dX2_personsUnderOath_6 : decode cX2_personsUnderOath 6 = .ok (.getfield 18, 3) := by decide +kernel
theorem dX2_personsUnderOath_9 : decode cX2_personsUnderOath 9 = .ok (.if_icmp .ge 23, 3) := by decide +kernel
theorem dX2_personsUnderOath_12 : decode cX2_personsUnderOath 12 = .ok (.aload_n 0, 1) := by decide +kernel
theorem dX2_personsUnderOath_13 : decode cX2_personsUnderOath 13 = .ok (.iload_n 2, 1) := by decide +kernel
theorem dX2_personsUnderOath_14 : decode cX2_personsUnderOath 14 = .ok (.invokevirtual 111, 3) := by decide +kernel
theorem dX2_personsUnderOath_17 : decode cX2_personsUnderOath 17 = .ok (.ifCond .le 9, 3) := by decide +kernel
theorem dX2_personsUnderOath_20 : decode cX2_personsUnderOath 20 = .ok (.iload_n 1, 1) := by decide +kernel
theorem dX2_personsUnderOath_21 : decode cX2_personsUnderOath 21 = .ok (.iconst 1, 1) := by decide +kernel
theorem dX2_personsUnderOath_22 : decode cX2_personsUnderOath 22 = .ok (.iload_n 2, 1) := by decide +kernel
theorem dX2_personsUnderOath_23 : decode cX2_personsUnderOath 23 = .ok (.ishl, 1) := by decide +kernel
theorem dX2_personsUnderOath_24 : decode cX2_personsUnderOath 24 = .ok (.ior, 1) := by decide +kernel
theorem dX2_personsUnderOath_25 : decode cX2_personsUnderOath 25 = .ok (.istore_n 1, 1) := by decide +kernel
theorem dX2_personsUnderOath_26 : decode cX2_personsUnderOath 26 = .ok (.iinc 2 1, 3) := by decide +kernel
theorem dX2_personsUnderOath_29 : decode cX2_personsUnderOath 29 = .ok (.goto (-25), 3) := by decide +kernel
theorem dX2_personsUnderOath_32 : decode cX2_personsUnderOath 32 = .ok (.iload_n 1, 1) := by decide +kernel
theorem dX2_personsUnderOath_33 : decode cX2_personsUnderOath 33 = .ok (.ireturn, 1) := by decide +kernel
theorem dX2_personsWithSecond_0 : decode cX2_personsWithSecond 0 = .ok (.iconst 0, 1) := by decide +kernel
theorem dX2_personsWithSecond_1 : decode cX2_personsWithSecond 1 = .ok (.istore_n 2, 1) := by decide +kernel
theorem dX2_personsWithSecond_2 : decode cX2_personsWithSecond 2 = .ok (.iconst 0, 1) := by decide +kernel
theorem dX2_personsWithSecond_3 : decode cX2_personsWithSecond 3 = .ok (.istore_n 3, 1) := by decide +kernel
theorem dX2_personsWithSecond_4 : decode cX2_personsWithSecond 4 = .ok (.iload_n 3, 1) := by decide +kernel
theorem dX2_personsWithSecond_5 : decode cX2_personsWithSecond 5 = .ok (.aload_n 0, 1) := by decide +kernel
theorem dX2_personsWithSecond_6 : decode cX2_personsWithSecond 6 = .ok (.getfield 18, 3) := by decide +kernel
theorem dX2_personsWithSecond_9 : decode cX2_personsWithSecond 9 = .ok (.if_icmp .ge 26, 3) := by decide +kernel
theorem dX2_personsWithSecond_12 : decode cX2_personsWithSecond 12 = .ok (.aload_n 0, 1) := by decide +kernel
theorem dX2_personsWithSecond_13 : decode cX2_personsWithSecond 13 = .ok (.bipush 24, 2) := by decide +kernel
theorem dX2_personsWithSecond_15 : decode cX2_personsWithSecond 15 = .ok (.iload_n 3, 1) := by decide +kernel
theorem dX2_personsWithSecond_16 : decode cX2_personsWithSecond 16 = .ok (.invokevirtual 47, 3) := by decide +kernel
theorem dX2_personsWithSecond_19 : decode cX2_personsWithSecond 19 = .ok (.iload_n 1, 1) := by decide +kernel
theorem dX2_personsWithSecond_20 : decode cX2_personsWithSecond 20 = .ok (.if_icmp .ne 9, 3) := by decide +kernel
theorem dX2_personsWithSecond_23 : decode cX2_personsWithSecond 23 = .ok (.iload_n 2, 1) := by decide +kernel
theorem dX2_personsWithSecond_24 : decode cX2_personsWithSecond 24 = .ok (.iconst 1, 1) := by decide +kernel
theorem dX2_personsWithSecond_25 : decode cX2_personsWithSecond 25 = .ok (.iload_n 3, 1) := by decide +kernel
theorem dX2_personsWithSecond_26 : decode cX2_personsWithSecond 26 = .ok (.ishl, 1) := by decide +kernel
theorem dX2_personsWithSecond_27 : decode cX2_personsWithSecond 27 = .ok (.ior, 1) := by decide +kernel
theorem dX2_personsWithSecond_28 : decode cX2_personsWithSecond 28 = .ok (.istore_n 2, 1) := by decide +kernel
theorem dX2_personsWithSecond_29 : decode cX2_personsWithSecond 29 = .ok (.iinc 3 1, 3) := by decide +kernel
theorem dX2_personsWithSecond_32 : decode cX2_personsWithSecond 32 = .ok (.goto (-28), 3) := by decide +kernel
theorem dX2_personsWithSecond_35 : decode cX2_personsWithSecond 35 = .ok (.iload_n 2, 1) := by decide +kernel
theorem dX2_personsWithSecond_36 : decode cX2_personsWithSecond 36 = .ok (.ireturn, 1) := by decide +kernel
theorem dX3_init_0 : decode cX3_init 0 = .ok (.aload_n 0, 1) := by decide +kernel
theorem dX3_init_1 : decode cX3_init 1 = .ok (.invokespecial 1, 3) := by decide +kernel
theorem dX3_init_4 : decode cX3_init 4 = .ok (.aload_n 0, 1) := by decide +kernel
theorem dX3_init_5 : decode cX3_init 5 = .ok (.new 7, 3) := by decide +kernel
theorem dX3_init_8 : decode cX3_init 8 = .ok (.dup, 1) := by decide +kernel
theorem dX3_init_9 : decode cX3_init 9 = .ok (.invokespecial 9, 3) := by decide +kernel
theorem dX3_init_12 : decode cX3_init 12 = .ok (.putfield 10, 3) := by decide +kernel
theorem dX3_init_15 : decode cX3_init 15 = .ok (.aload_n 0, 1) := by decide +kernel
theorem dX3_init_16 : decode cX3_init 16 = .ok (.new 16, 3) := by decide +kernel
theorem dX3_init_19 : decode cX3_init 19 = .ok (.dup, 1) := by decide +kernel
theorem dX3_init_20 : decode cX3_init 20 = .ok (.invokespecial 18, 3) := by decide +kernel
theorem dX3_init_23 : decode cX3_init 23 = .ok (.putfield 19, 3) := by decide +kernel
theorem dX3_init_26 : decode cX3_init 26 = .ok (.aload_n 0, 1) := by decide +kernel
theorem dX3_init_27 : decode cX3_init 27 = .ok (.new 23, 3) := by decide +kernel
theorem dX3_init_30 : decode cX3_init 30 = .ok (.dup, 1) := by decide +kernel
theorem dX3_init_31 : decode cX3_init 31 = .ok (.invokespecial 25, 3) := by decide +kernel
theorem dX3_init_34 : decode cX3_init 34 = .ok (.putfield 26, 3) := by decide +kernel
theorem dX3_init_37 : decode cX3_init 37 = .ok (.aload_n 0, 1) := by decide +kernel
theorem dX3_init_38 : decode cX3_init 38 = .ok (.iconst 2, 1) := by decide +kernel
theorem dX3_init_39 : decode cX3_init 39 = .ok (.anewarray 7, 3) := by decide +kernel
theorem dX3_init_42 : decode cX3_init 42 = .ok (.putfield 30, 3) := by decide +kernel
theorem dX3_init_45 : decode cX3_init 45 = .ok (.return_, 1) := by decide +kernel
theorem dX3_set_0 : decode cX3_set 0 = .ok (.aload_n 0, 1) := by decide +kernel
theorem dX3_set_1 : decode cX3_set 1 = .ok (.getfield 19, 3) := by decide +kernel
theorem dX3_set_4 : decode cX3_set 4 = .ok (.aload_n 0, 1) := by decide +kernel
theorem dX3_set_5 : decode cX3_set 5 = .ok (.getfield 10, 3) := by decide +kernel
theorem dX3_set_8 : decode cX3_set 8 = .ok (.invokevirtual 34, 3) := by decide +kernel
theorem dX3_set_11 : decode cX3_set 11 = .ok (.aload_n 0, 1) := by decide +kernel
theorem dX3_set_12 : decode cX3_set 12 = .ok (.getfield 19, 3) := by decide +kernel
theorem dX3_set_15 : decode cX3_set 15 = .ok (.aload_n 0, 1) := by decide +kernel
theorem dX3_set_16 : decode cX3_set 16 = .ok (.getfield 10, 3) := by decide +kernel
theorem dX3_set_19 : decode cX3_set 19 = .ok (.iload_n 1, 1) := by decide +kernel
theorem dX3_set_20 : decode cX3_set 20 = .ok (.iload_n 2, 1) := by decide +kernel
theorem dX3_set_21 : decode cX3_set 21 = .ok (.invokevirtual 38, 3) := by decide +kernel
theorem dX3_set_24 : decode cX3_set 24 = .ok (.invokevirtual 42, 3) := by decide +kernel
theorem dX3_set_27 : decode cX3_set 27 = .ok (.ireturn, 1) := by decide +kernel
theorem dX3_person_0 : decode cX3_person 0 = .ok (.aload_n 0, 1) := by decide +kernel
theorem dX3_person_1 : decode cX3_person 1 = .ok (.getfield 19, 3) := by decide +kernel
theorem dX3_person_4 : decode cX3_person 4 = .ok (.aload_n 0, 1) := by decide +kernel
theorem dX3_person_5 : decode cX3_person 5 = .ok (.getfield 10, 3) := by decide +kernel
theorem dX3_person_8 : decode cX3_person 8 = .ok (.invokevirtual 34, 3) := by decide +kernel
theorem dX3_person_11 : decode cX3_person 11 = .ok (.aload_n 0, 1) := by decide +kernel
theorem dX3_person_12 : decode cX3_person 12 = .ok (.getfield 19, 3) := by decide +kernel
theorem dX3_person_15 : decode cX3_person 15 = .ok (.aload_n 0, 1) := by decide +kernel
theorem dX3_person_16 : decode cX3_person 16 = .ok (.getfield 10, 3) := by decide +kernel
theorem dX3_person_19 : decode cX3_person 19 = .ok (.iload_n 1, 1) := by decide +kernel
theorem dX3_person_20 : decode cX3_person 20 = .ok (.iload_n 2, 1) := by decide +kernel
theorem dX3_person_21 : decode cX3_person 21 = .ok (.invokevirtual 46, 3) := by decide +kernel
theorem dX3_person_24 : decode cX3_person 24 = .ok (.invokevirtual 42, 3) := by decide +kernel
theorem dX3_person_27 : decode cX3_person 27 = .ok (.ireturn, 1) := by decide +kernel
theorem dX3_second_0 : decode cX3_second 0 = .ok (.aload_n 0, 1) := by decide +kernel
theorem dX3_second_1 : decode cX3_second 1 = .ok (.getfield 19, 3) := by decide +kernel
theorem dX3_second_4 : decode cX3_second 4 = .ok (.aload_n 0, 1) := by decide +kernel
theorem dX3_second_5 : decode cX3_second 5 = .ok (.getfield 10, 3) := by decide +kernel
theorem dX3_second_8 : decode cX3_second 8 = .ok (.invokevirtual 34, 3) := by decide +kernel
theorem dX3_second_11 : decode cX3_second 11 = .ok (.aload_n 0, 1) := by decide +kernel
theorem dX3_second_12 : decode cX3_second 12 = .ok (.getfield 19, 3) := by decide +kernel
theorem dX3_second_15 : decode cX3_second 15 = .ok (.aload_n 0, 1) := by decide +kernel
theorem dX3_second_16 : decode cX3_second 16 = .ok (.getfield 10, 3) := by decide +kernel
theorem dX3_second_19 : decode cX3_second 19 = .ok (.iload_n 1, 1) := by decide +kernel
theorem dX3_second_20 : decode cX3_second 20 = .ok (.iload_n 2, 1) := by decide +kernel
theorem dX3_second_21 : decode cX3_second 21 = .ok (.invokevirtual 49, 3) := by decide +kernel
theorem dX3_second_24 : decode cX3_second 24 = .ok (.invokevirtual 42, 3) := by decide +kernel
theorem dX3_second_27 : decode cX3_second 27 = .ok (.ireturn, 1) := by decide +kernel
theorem dX3_allow_0 : decode cX3_allow 0 = .ok (.aload_n 0, 1) := by decide +kernel
theorem dX3_allow_1 : decode cX3_allow 1 = .ok (.getfield 19, 3) := by decide +kernel
theorem dX3_allow_4 : decode cX3_allow 4 = .ok (.aload_n 0, 1) := by decide +kernel
theorem dX3_allow_5 : decode cX3_allow 5 = .ok (.getfield 10, 3) := by decide +kernel
theorem dX3_allow_8 : decode cX3_allow 8 = .ok (.invokevirtual 34, 3) := by decide +kernel
theorem dX3_allow_11 : decode cX3_allow 11 = .ok (.aload_n 0, 1) := by decide +kernel
theorem dX3_allow_12 : decode cX3_allow 12 = .ok (.getfield 19, 3) := by decide +kernel
theorem dX3_allow_15 : decode cX3_allow 15 = .ok (.aload_n 0, 1) := by decide +kernel
theorem dX3_allow_16 : decode cX3_allow 16 = .ok (.getfield 10, 3) := by decide +kernel
theorem dX3_allow_19 : decode cX3_allow 19 = .ok (.iload_n 1, 1) := by decide +kernel
theorem dX3_allow_20 : decode cX3_allow 20 = .ok (.invokevirtual 52, 3) := by decide +kernel
theorem dX3_allow_23 : decode cX3_allow 23 = .ok (.invokevirtual 42, 3) := by decide +kernel
theorem dX3_allow_26 : decode cX3_allow 26 = .ok (.ireturn, 1) := by decide +kernel
theorem dX3_insult_0 : decode cX3_insult 0 = .ok (.aload_n 0, 1) := by decide +kernel
theorem dX3_insult_1 : decode cX3_insult 1 = .ok (.getfield 19, 3) := by decide +kernel
theorem dX3_insult_4 : decode cX3_insult 4 = .ok (.aload_n 0, 1) := by decide +kernel
theorem dX3_insult_5 : decode cX3_insult 5 = .ok (.getfield 10, 3) := by decide +kernel
theorem dX3_insult_8 : decode cX3_insult 8 = .ok (.invokevirtual 34, 3) := by decide +kernel
theorem dX3_insult_11 : decode cX3_insult 11 = .ok (.aload_n 0, 1) := by decide +kernel
theorem dX3_insult_12 : decode cX3_insult 12 = .ok (.getfield 19, 3) := by decide +kernel
theorem dX3_insult_15 : decode cX3_insult 15 = .ok (.aload_n 0, 1) := by decide +kernel
theorem dX3_insult_16 : decode cX3_insult 16 = .ok (.getfield 10, 3) := by decide +kernel
theorem dX3_insult_19 : decode cX3_insult 19 = .ok (.iload_n 1, 1) := by decide +kernel
theorem dX3_insult_20 : decode cX3_insult 20 = .ok (.iload_n 2, 1) := by decide +kernel
theorem dX3_insult_21 : decode cX3_insult 21 = .ok (.iload_n 3, 1) := by decide +kernel
theorem dX3_insult_22 : decode cX3_insult 22 = .ok (.invokevirtual 55, 3) := by decide +kernel
theorem dX3_insult_25 : decode cX3_insult 25 = .ok (.invokevirtual 42, 3) := by decide +kernel
theorem dX3_insult_28 : decode cX3_insult 28 = .ok (.ireturn, 1) := by decide +kernel
theorem dX3_settle_0 : decode cX3_settle 0 = .ok (.aload_n 0, 1) := by decide +kernel
theorem dX3_settle_1 : decode cX3_settle 1 = .ok (.getfield 19, 3) := by decide +kernel
theorem dX3_settle_4 : decode cX3_settle 4 = .ok (.aload_n 0, 1) := by decide +kernel
theorem dX3_settle_5 : decode cX3_settle 5 = .ok (.getfield 10, 3) := by decide +kernel
theorem dX3_settle_8 : decode cX3_settle 8 = .ok (.invokevirtual 34, 3) := by decide +kernel
theorem dX3_settle_11 : decode cX3_settle 11 = .ok (.aload_n 0, 1) := by decide +kernel
theorem dX3_settle_12 : decode cX3_settle 12 = .ok (.getfield 19, 3) := by decide +kernel
theorem dX3_settle_15 : decode cX3_settle 15 = .ok (.aload_n 0, 1) := by decide +kernel
theorem dX3_settle_16 : decode cX3_settle 16 = .ok (.getfield 10, 3) := by decide +kernel
theorem dX3_settle_19 : decode cX3_settle 19 = .ok (.iload_n 1, 1) := by decide +kernel
theorem dX3_settle_20 : decode cX3_settle 20 = .ok (.iload_n 2, 1) := by decide +kernel
theorem dX3_settle_21 : decode cX3_settle 21 = .ok (.invokevirtual 59, 3) := by decide +kernel
theorem dX3_settle_24 : decode cX3_settle 24 = .ok (.invokevirtual 42, 3) := by decide +kernel
theorem dX3_settle_27 : decode cX3_settle 27 = .ok (.ireturn, 1) := by decide +kernel
theorem dX3_fight_0 : decode cX3_fight 0 = .ok (.aload_n 0, 1) := by decide +kernel
theorem dX3_fight_1 : decode cX3_fight 1 = .ok (.getfield 19, 3) := by decide +kernel
theorem dX3_fight_4 : decode cX3_fight 4 = .ok (.aload_n 0, 1) := by decide +kernel
theorem dX3_fight_5 : decode cX3_fight 5 = .ok (.getfield 10, 3) := by decide +kernel
theorem dX3_fight_8 : decode cX3_fight 8 = .ok (.invokevirtual 34, 3) := by decide +kernel
theorem dX3_fight_11 : decode cX3_fight 11 = .ok (.aload_n 0, 1) := by decide +kernel
theorem dX3_fight_12 : decode cX3_fight 12 = .ok (.getfield 19, 3) := by decide +kernel
theorem dX3_fight_15 : decode cX3_fight 15 = .ok (.aload_n 0, 1) := by decide +kernel
theorem dX3_fight_16 : decode cX3_fight 16 = .ok (.getfield 10, 3) := by decide +kernel
theorem dX3_fight_19 : decode cX3_fight 19 = .ok (.iload_n 1, 1) := by decide +kernel
theorem dX3_fight_20 : decode cX3_fight 20 = .ok (.invokevirtual 62, 3) := by decide +kernel
theorem dX3_fight_23 : decode cX3_fight 23 = .ok (.invokevirtual 42, 3) := by decide +kernel
theorem dX3_fight_26 : decode cX3_fight 26 = .ok (.ireturn, 1) := by decide +kernel
theorem dX3_swear_0 : decode cX3_swear 0 = .ok (.aload_n 0, 1) := by decide +kernel
theorem dX3_swear_1 : decode cX3_swear 1 = .ok (.getfield 19, 3) := by decide +kernel
theorem dX3_swear_4 : decode cX3_swear 4 = .ok (.aload_n 0, 1) := by decide +kernel
theorem dX3_swear_5 : decode cX3_swear 5 = .ok (.getfield 10, 3) := by decide +kernel
theorem dX3_swear_8 : decode cX3_swear 8 = .ok (.invokevirtual 34, 3) := by decide +kernel
theorem dX3_swear_11 : decode cX3_swear 11 = .ok (.aload_n 0, 1) := by decide +kernel
theorem dX3_swear_12 : decode cX3_swear 12 = .ok (.getfield 19, 3) := by decide +kernel
theorem dX3_swear_15 : decode cX3_swear 15 = .ok (.aload_n 0, 1) := by decide +kernel
theorem dX3_swear_16 : decode cX3_swear 16 = .ok (.getfield 10, 3) := by decide +kernel
theorem dX3_swear_19 : decode cX3_swear 19 = .ok (.iload_n 1, 1) := by decide +kernel
theorem dX3_swear_20 : decode cX3_swear 20 = .ok (.invokevirtual 65, 3) := by decide +kernel
theorem dX3_swear_23 : decode cX3_swear 23 = .ok (.invokevirtual 42, 3) := by decide +kernel
theorem dX3_swear_26 : decode cX3_swear 26 = .ok (.ireturn, 1) := by decide +kernel
theorem dX3_pass_0 : decode cX3_pass 0 = .ok (.aload_n 0, 1) := by decide +kernel
theorem dX3_pass_1 : decode cX3_pass 1 = .ok (.getfield 19, 3) := by decide +kernel
theorem dX3_pass_4 : decode cX3_pass 4 = .ok (.aload_n 0, 1) := by decide +kernel
theorem dX3_pass_5 : decode cX3_pass 5 = .ok (.getfield 10, 3) := by decide +kernel
theorem dX3_pass_8 : decode cX3_pass 8 = .ok (.invokevirtual 34, 3) := by decide +kernel
theorem dX3_pass_11 : decode cX3_pass 11 = .ok (.aload_n 0, 1) := by decide +kernel
theorem dX3_pass_12 : decode cX3_pass 12 = .ok (.getfield 19, 3) := by decide +kernel
theorem dX3_pass_15 : decode cX3_pass 15 = .ok (.aload_n 0, 1) := by decide +kernel
theorem dX3_pass_16 : decode cX3_pass 16 = .ok (.getfield 10, 3) := by decide +kernel
theorem dX3_pass_19 : decode cX3_pass 19 = .ok (.iload_n 1, 1) := by decide +kernel
theorem dX3_pass_20 : decode cX3_pass 20 = .ok (.invokevirtual 68, 3) := by decide +kernel
theorem dX3_pass_23 : decode cX3_pass 23 = .ok (.invokevirtual 42, 3) := by decide +kernel
theorem dX3_pass_26 : decode cX3_pass 26 = .ok (.istore_n 2, 1) := by decide +kernel
theorem dX3_pass_27 : decode cX3_pass 27 = .ok (.iload_n 2, 1) := by decide +kernel
theorem dX3_pass_28 : decode cX3_pass 28 = .ok (.invokestatic 71, 3) := by decide +kernel
theorem dX3_pass_31 : decode cX3_pass 31 = .ok (.ifCond .eq 7, 3) := by decide +kernel
theorem dX3_pass_34 : decode cX3_pass 34 = .ok (.iload_n 2, 1) := by decide +kernel
theorem dX3_pass_35 : decode cX3_pass 35 = .ok (.goto 13, 3) := by decide +kernel
theorem dX3_pass_38 : decode cX3_pass 38 = .ok (.aload_n 0, 1) := by decide +kernel
theorem dX3_pass_39 : decode cX3_pass 39 = .ok (.getfield 10, 3) := by decide +kernel
theorem dX3_pass_42 : decode cX3_pass 42 = .ok (.invokevirtual 75, 3) := by decide +kernel
theorem dX3_pass_45 : decode cX3_pass 45 = .ok (.invokestatic 79, 3) := by decide +kernel
theorem dX3_pass_48 : decode cX3_pass 48 = .ok (.ireturn, 1) := by decide +kernel
theorem dX3_of_0 : decode cX3_of 0 = .ok (.aload_n 0, 1) := by decide +kernel
theorem dX3_of_1 : decode cX3_of 1 = .ok (.getfield 10, 3) := by decide +kernel
theorem dX3_of_4 : decode cX3_of 4 = .ok (.iload_n 1, 1) := by decide +kernel
theorem dX3_of_5 : decode cX3_of 5 = .ok (.iload_n 2, 1) := by decide +kernel
theorem dX3_of_6 : decode cX3_of 6 = .ok (.invokevirtual 84, 3) := by decide +kernel
theorem dX3_of_9 : decode cX3_of 9 = .ok (.ireturn, 1) := by decide +kernel
theorem dX3_quarrel_0 : decode cX3_quarrel 0 = .ok (.aload_n 0, 1) := by decide +kernel
theorem dX3_quarrel_1 : decode cX3_quarrel 1 = .ok (.getfield 10, 3) := by decide +kernel
theorem dX3_quarrel_4 : decode cX3_quarrel 4 = .ok (.iload_n 1, 1) := by decide +kernel
theorem dX3_quarrel_5 : decode cX3_quarrel 5 = .ok (.iload_n 2, 1) := by decide +kernel
theorem dX3_quarrel_6 : decode cX3_quarrel 6 = .ok (.invokevirtual 87, 3) := by decide +kernel
theorem dX3_quarrel_9 : decode cX3_quarrel 9 = .ok (.ireturn, 1) := by decide +kernel
theorem dX3_record_0 : decode cX3_record 0 = .ok (.aload_n 0, 1) := by decide +kernel
theorem dX3_record_1 : decode cX3_record 1 = .ok (.getfield 10, 3) := by decide +kernel
theorem dX3_record_4 : decode cX3_record 4 = .ok (.iload_n 1, 1) := by decide +kernel
theorem dX3_record_5 : decode cX3_record 5 = .ok (.iload_n 2, 1) := by decide +kernel
theorem dX3_record_6 : decode cX3_record 6 = .ok (.invokevirtual 90, 3) := by decide +kernel
theorem dX3_record_9 : decode cX3_record 9 = .ok (.ireturn, 1) := by decide +kernel
theorem dX3_pressing_0 : decode cX3_pressing 0 = .ok (.aload_n 0, 1) := by decide +kernel
theorem dX3_pressing_1 : decode cX3_pressing 1 = .ok (.getfield 10, 3) := by decide +kernel
theorem dX3_pressing_4 : decode cX3_pressing 4 = .ok (.iload_n 1, 1) := by decide +kernel
theorem dX3_pressing_5 : decode cX3_pressing 5 = .ok (.invokevirtual 93, 3) := by decide +kernel
theorem dX3_pressing_8 : decode cX3_pressing 8 = .ok (.ireturn, 1) := by decide +kernel
theorem dX3_insults_0 : decode cX3_insults 0 = .ok (.aload_n 0, 1) := by decide +kernel
theorem dX3_insults_1 : decode cX3_insults 1 = .ok (.getfield 10, 3) := by decide +kernel
theorem dX3_insults_4 : decode cX3_insults 4 = .ok (.iload_n 1, 1) := by decide +kernel
theorem dX3_insults_5 : decode cX3_insults 5 = .ok (.invokevirtual 96, 3) := by decide +kernel
theorem dX3_insults_8 : decode cX3_insults 8 = .ok (.ireturn, 1) := by decide +kernel
theorem dX3_count_0 : decode cX3_count 0 = .ok (.iload_n 1, 1) := by decide +kernel
theorem dX3_count_1 : decode cX3_count 1 = .ok (.bipush 13, 2) := by decide +kernel
theorem dX3_count_3 : decode cX3_count 3 = .ok (.if_icmp .ne 11, 3) := by decide +kernel
theorem dX3_count_6 : decode cX3_count 6 = .ok (.aload_n 0, 1) := by decide +kernel
theorem dX3_count_7 : decode cX3_count 7 = .ok (.getfield 26, 3) := by decide +kernel
theorem dX3_count_10 : decode cX3_count 10 = .ok (.getfield 99, 3) := by decide +kernel
theorem dX3_count_13 : decode cX3_count 13 = .ok (.ireturn, 1) := by decide +kernel
theorem dX3_count_14 : decode cX3_count 14 = .ok (.iload_n 1, 1) := by decide +kernel
theorem dX3_count_15 : decode cX3_count 15 = .ok (.bipush 14, 2) := by decide +kernel
theorem dX3_count_17 : decode cX3_count 17 = .ok (.if_icmp .ne 11, 3) := by decide +kernel
theorem dX3_count_20 : decode cX3_count 20 = .ok (.aload_n 0, 1) := by decide +kernel
theorem dX3_count_21 : decode cX3_count 21 = .ok (.getfield 19, 3) := by decide +kernel
theorem dX3_count_24 : decode cX3_count 24 = .ok (.getfield 103, 3) := by decide +kernel
theorem dX3_count_27 : decode cX3_count 27 = .ok (.ireturn, 1) := by decide +kernel
theorem dX3_count_28 : decode cX3_count 28 = .ok (.aload_n 0, 1) := by decide +kernel
theorem dX3_count_29 : decode cX3_count 29 = .ok (.getfield 10, 3) := by decide +kernel
theorem dX3_count_32 : decode cX3_count 32 = .ok (.iload_n 1, 1) := by decide +kernel
theorem dX3_count_33 : decode cX3_count 33 = .ok (.invokevirtual 106, 3) := by decide +kernel
theorem dX3_count_36 : decode cX3_count 36 = .ok (.ireturn, 1) := by decide +kernel
theorem dX3_why_0 : decode cX3_why 0 = .ok (.aload_n 0, 1) := by decide +kernel
theorem dX3_why_1 : decode cX3_why 1 = .ok (.getfield 10, 3) := by decide +kernel
theorem dX3_why_4 : decode cX3_why 4 = .ok (.iload_n 1, 1) := by decide +kernel
theorem dX3_why_5 : decode cX3_why 5 = .ok (.invokevirtual 109, 3) := by decide +kernel
theorem dX3_why_8 : decode cX3_why 8 = .ok (.ifCond .eq 22, 3) := by decide +kernel
theorem dX3_why_11 : decode cX3_why 11 = .ok (.aload_n 0, 1) := by decide +kernel
theorem dX3_why_12 : decode cX3_why 12 = .ok (.getfield 10, 3) := by decide +kernel
theorem dX3_why_15 : decode cX3_why 15 = .ok (.iload_n 1, 1) := by decide +kernel
theorem dX3_why_16 : decode cX3_why 16 = .ok (.aload_n 0, 1) := by decide +kernel
theorem dX3_why_17 : decode cX3_why 17 = .ok (.getfield 10, 3) := by decide +kernel
theorem dX3_why_20 : decode cX3_why 20 = .ok (.iload_n 1, 1) := by decide +kernel
theorem dX3_why_21 : decode cX3_why 21 = .ok (.invokevirtual 112, 3) := by decide +kernel
theorem dX3_why_24 : decode cX3_why 24 = .ok (.invokevirtual 115, 3) := by decide +kernel
theorem dX3_why_27 : decode cX3_why 27 = .ok (.goto 4, 3) := by decide +kernel
theorem dX3_why_30 : decode cX3_why 30 = .ok (.iconst (-1), 1) := by decide +kernel
theorem dX3_why_31 : decode cX3_why 31 = .ok (.ireturn, 1) := by decide +kernel
theorem dX3_firstWay_0 : decode cX3_firstWay 0 = .ok (.aload_n 0, 1) := by decide +kernel
theorem dX3_firstWay_1 : decode cX3_firstWay 1 = .ok (.getfield 10, 3) := by decide +kernel
theorem dX3_firstWay_4 : decode cX3_firstWay 4 = .ok (.iload_n 1, 1) := by decide +kernel
theorem dX3_firstWay_5 : decode cX3_firstWay 5 = .ok (.invokevirtual 109, 3) := by decide +kernel
theorem dX3_firstWay_8 : decode cX3_firstWay 8 = .ok (.ifCond .eq 17, 3) := by decide +kernel
theorem dX3_firstWay_11 : decode cX3_firstWay 11 = .ok (.aload_n 0, 1) := by decide +kernel
theorem dX3_firstWay_12 : decode cX3_firstWay 12 = .ok (.getfield 10, 3) := by decide +kernel
theorem dX3_firstWay_15 : decode cX3_firstWay 15 = .ok (.iload_n 1, 1) := by decide +kernel
theorem dX3_firstWay_16 : decode cX3_firstWay 16 = .ok (.invokevirtual 112, 3) := by decide +kernel
theorem dX3_firstWay_19 : decode cX3_firstWay 19 = .ok (.invokestatic 118, 3) := by decide +kernel
theorem dX3_firstWay_22 : decode cX3_firstWay 22 = .ok (.goto 4, 3) := by decide +kernel
theorem dX3_firstWay_25 : decode cX3_firstWay 25 = .ok (.iconst (-1), 1) := by decide +kernel
theorem dX3_firstWay_26 : decode cX3_firstWay 26 = .ok (.ireturn, 1) := by decide +kernel
theorem dX3_opensIn_0 : decode cX3_opensIn 0 = .ok (.aload_n 0, 1) := by decide +kernel
theorem dX3_opensIn_1 : decode cX3_opensIn 1 = .ok (.getfield 10, 3) := by decide +kernel
theorem dX3_opensIn_4 : decode cX3_opensIn 4 = .ok (.iload_n 1, 1) := by decide +kernel
theorem dX3_opensIn_5 : decode cX3_opensIn 5 = .ok (.invokevirtual 109, 3) := by decide +kernel
theorem dX3_opensIn_8 : decode cX3_opensIn 8 = .ok (.ifCond .ne 5, 3) := by decide +kernel
theorem dX3_opensIn_11 : decode cX3_opensIn 11 = .ok (.iconst (-1), 1) := by decide +kernel
theorem dX3_opensIn_12 : decode cX3_opensIn 12 = .ok (.ireturn, 1) := by decide +kernel
theorem dX3_opensIn_13 : decode cX3_opensIn 13 = .ok (.aload_n 0, 1) := by decide +kernel
theorem dX3_opensIn_14 : decode cX3_opensIn 14 = .ok (.getfield 10, 3) := by decide +kernel
theorem dX3_opensIn_17 : decode cX3_opensIn 17 = .ok (.iload_n 1, 1) := by decide +kernel
theorem dX3_opensIn_18 : decode cX3_opensIn 18 = .ok (.invokevirtual 121, 3) := by decide +kernel
theorem dX3_opensIn_21 : decode cX3_opensIn 21 = .ok (.ifCond .eq 14, 3) := by decide +kernel
theorem dX3_opensIn_24 : decode cX3_opensIn 24 = .ok (.aload_n 0, 1) := by decide +kernel
theorem dX3_opensIn_25 : decode cX3_opensIn 25 = .ok (.getfield 10, 3) := by decide +kernel
theorem dX3_opensIn_28 : decode cX3_opensIn 28 = .ok (.iload_n 1, 1) := by decide +kernel
theorem dX3_opensIn_29 : decode cX3_opensIn 29 = .ok (.invokevirtual 124, 3) := by decide +kernel
theorem dX3_opensIn_32 : decode cX3_opensIn 32 = .ok (.goto 5, 3) := by decide +kernel
theorem dX3_opensIn_35 : decode cX3_opensIn 35 = .ok (.bipush (-5), 2) := by decide +kernel
theorem dX3_opensIn_37 : decode cX3_opensIn 37 = .ok (.ireturn, 1) := by decide +kernel
theorem dX3_dueIn_0 : decode cX3_dueIn 0 = .ok (.aload_n 0, 1) := by decide +kernel
theorem dX3_dueIn_1 : decode cX3_dueIn 1 = .ok (.getfield 10, 3) := by decide +kernel
theorem dX3_dueIn_4 : decode cX3_dueIn 4 = .ok (.iload_n 1, 1) := by decide +kernel
theorem dX3_dueIn_5 : decode cX3_dueIn 5 = .ok (.invokevirtual 109, 3) := by decide +kernel
theorem dX3_dueIn_8 : decode cX3_dueIn 8 = .ok (.ifCond .ne 5, 3) := by decide +kernel
theorem dX3_dueIn_11 : decode cX3_dueIn 11 = .ok (.iconst (-1), 1) := by decide +kernel
theorem dX3_dueIn_12 : decode cX3_dueIn 12 = .ok (.ireturn, 1) := by decide +kernel
theorem dX3_dueIn_13 : decode cX3_dueIn 13 = .ok (.aload_n 0, 1) := by decide +kernel
theorem dX3_dueIn_14 : decode cX3_dueIn 14 = .ok (.getfield 10, 3) := by decide +kernel
theorem dX3_dueIn_17 : decode cX3_dueIn 17 = .ok (.iload_n 1, 1) := by decide +kernel
theorem dX3_dueIn_18 : decode cX3_dueIn 18 = .ok (.invokevirtual 121, 3) := by decide +kernel
theorem dX3_dueIn_21 : decode cX3_dueIn 21 = .ok (.ifCond .eq 14, 3) := by decide +kernel
theorem dX3_dueIn_24 : decode cX3_dueIn 24 = .ok (.aload_n 0, 1) := by decide +kernel
theorem dX3_dueIn_25 : decode cX3_dueIn 25 = .ok (.getfield 10, 3) := by decide +kernel
theorem dX3_dueIn_28 : decode cX3_dueIn 28 = .ok (.iload_n 1, 1) := by decide +kernel
theorem dX3_dueIn_29 : decode cX3_dueIn 29 = .ok (.invokevirtual 127, 3) := by decide +kernel
theorem dX3_dueIn_32 : decode cX3_dueIn 32 = .ok (.goto 5, 3) := by decide +kernel
theorem dX3_dueIn_35 : decode cX3_dueIn 35 = .ok (.bipush (-5), 2) := by decide +kernel
theorem dX3_dueIn_37 : decode cX3_dueIn 37 = .ok (.ireturn, 1) := by decide +kernel
theorem dX3_ifInsulted_0 : decode cX3_ifInsulted 0 = .ok (.aload_n 0, 1) := by decide +kernel
theorem dX3_ifInsulted_1 : decode cX3_ifInsulted 1 = .ok (.getfield 10, 3) := by decide +kernel
theorem dX3_ifInsulted_4 : decode cX3_ifInsulted 4 = .ok (.iload_n 1, 1) := by decide +kernel
theorem dX3_ifInsulted_5 : decode cX3_ifInsulted 5 = .ok (.iload_n 2, 1) := by decide +kernel
theorem dX3_ifInsulted_6 : decode cX3_ifInsulted 6 = .ok (.iload_n 3, 1) := by decide +kernel
theorem dX3_ifInsulted_7 : decode cX3_ifInsulted 7 = .ok (.invokevirtual 130, 3) := by decide +kernel
theorem dX3_ifInsulted_10 : decode cX3_ifInsulted 10 = .ok (.istore 4, 2) := by decide +kernel
theorem dX3_ifInsulted_12 : decode cX3_ifInsulted 12 = .ok (.iload 4, 2) := by decide +kernel
theorem dX3_ifInsulted_14 : decode cX3_ifInsulted 14 = .ok (.ifCond .eq 8, 3) := by decide +kernel
theorem dX3_ifInsulted_17 : decode cX3_ifInsulted 17 = .ok (.iload 4, 2) := by decide +kernel
theorem dX3_ifInsulted_19 : decode cX3_ifInsulted 19 = .ok (.goto 14, 3) := by decide +kernel
theorem dX3_ifInsulted_22 : decode cX3_ifInsulted 22 = .ok (.aload_n 0, 1) := by decide +kernel
theorem dX3_ifInsulted_23 : decode cX3_ifInsulted 23 = .ok (.getfield 10, 3) := by decide +kernel
theorem dX3_ifInsulted_26 : decode cX3_ifInsulted 26 = .ok (.iload_n 1, 1) := by decide +kernel
theorem dX3_ifInsulted_27 : decode cX3_ifInsulted 27 = .ok (.iload_n 2, 1) := by decide +kernel
theorem dX3_ifInsulted_28 : decode cX3_ifInsulted 28 = .ok (.iload_n 3, 1) := by decide +kernel
theorem dX3_ifInsulted_29 : decode cX3_ifInsulted 29 = .ok (.iconst 0, 1) := by decide +kernel
theorem dX3_ifInsulted_30 : decode cX3_ifInsulted 30 = .ok (.invokevirtual 133, 3) := by decide +kernel
theorem dX3_ifInsulted_33 : decode cX3_ifInsulted 33 = .ok (.ireturn, 1) := by decide +kernel
theorem dX3_ifFought_0 : decode cX3_ifFought 0 = .ok (.aload_n 0, 1) := by decide +kernel
theorem dX3_ifFought_1 : decode cX3_ifFought 1 = .ok (.getfield 10, 3) := by decide +kernel
theorem dX3_ifFought_4 : decode cX3_ifFought 4 = .ok (.iload_n 1, 1) := by decide +kernel
theorem dX3_ifFought_5 : decode cX3_ifFought 5 = .ok (.invokevirtual 109, 3) := by decide +kernel
theorem dX3_ifFought_8 : decode cX3_ifFought 8 = .ok (.ifCond .eq 14, 3) := by decide +kernel
theorem dX3_ifFought_11 : decode cX3_ifFought 11 = .ok (.aload_n 0, 1) := by decide +kernel
theorem dX3_ifFought_12 : decode cX3_ifFought 12 = .ok (.getfield 10, 3) := by decide +kernel
theorem dX3_ifFought_15 : decode cX3_ifFought 15 = .ok (.iload_n 1, 1) := by decide +kernel
theorem dX3_ifFought_16 : decode cX3_ifFought 16 = .ok (.invokevirtual 137, 3) := by decide +kernel
theorem dX3_ifFought_19 : decode cX3_ifFought 19 = .ok (.goto 4, 3) := by decide +kernel
theorem dX3_ifFought_22 : decode cX3_ifFought 22 = .ok (.iconst (-1), 1) := by decide +kernel
theorem dX3_ifFought_23 : decode cX3_ifFought 23 = .ok (.ireturn, 1) := by decide +kernel
theorem dX3_put_0 : decode cX3_put 0 = .ok (.lload_n 1, 1) := by decide +kernel
theorem dX3_put_1 : decode cX3_put 1 = .ok (.invokestatic 140, 3) := by decide +kernel
theorem dX3_put_4 : decode cX3_put 4 = .ok (.istore_n 3, 1) := by decide +kernel
theorem dX3_put_5 : decode cX3_put 5 = .ok (.iload_n 3, 1) := by decide +kernel
theorem dX3_put_6 : decode cX3_put 6 = .ok (.ifCond .ne 6, 3) := by decide +kernel
theorem dX3_put_9 : decode cX3_put 9 = .ok (.bipush (-2), 2) := by decide +kernel
theorem dX3_put_11 : decode cX3_put 11 = .ok (.ireturn, 1) := by decide +kernel
theorem dX3_put_12 : decode cX3_put 12 = .ok (.aload_n 0, 1) := by decide +kernel
theorem dX3_put_13 : decode cX3_put 13 = .ok (.getfield 26, 3) := by decide +kernel
theorem dX3_put_16 : decode cX3_put 16 = .ok (.lload_n 1, 1) := by decide +kernel
theorem dX3_put_17 : decode cX3_put 17 = .ok (.iload_n 3, 1) := by decide +kernel
theorem dX3_put_18 : decode cX3_put 18 = .ok (.invokevirtual 144, 3) := by decide +kernel
theorem dX3_put_21 : decode cX3_put 21 = .ok (.ifCond .eq 13, 3) := by decide +kernel
theorem dX3_put_24 : decode cX3_put 24 = .ok (.aload_n 0, 1) := by decide +kernel
theorem dX3_put_25 : decode cX3_put 25 = .ok (.getfield 26, 3) := by decide +kernel
theorem dX3_put_28 : decode cX3_put 28 = .ok (.getfield 99, 3) := by decide +kernel
theorem dX3_put_31 : decode cX3_put 31 = .ok (.goto 5, 3) := by decide +kernel
theorem dX3_put_34 : decode cX3_put 34 = .ok (.bipush (-4), 2) := by decide +kernel
theorem dX3_put_36 : decode cX3_put 36 = .ok (.ireturn, 1) := by decide +kernel
theorem dX3_wipe_0 : decode cX3_wipe 0 = .ok (.aload_n 0, 1) := by decide +kernel
theorem dX3_wipe_1 : decode cX3_wipe 1 = .ok (.getfield 26, 3) := by decide +kernel
theorem dX3_wipe_4 : decode cX3_wipe 4 = .ok (.getfield 99, 3) := by decide +kernel
theorem dX3_wipe_7 : decode cX3_wipe 7 = .ok (.istore_n 1, 1) := by decide +kernel
theorem dX3_wipe_8 : decode cX3_wipe 8 = .ok (.aload_n 0, 1) := by decide +kernel
theorem dX3_wipe_9 : decode cX3_wipe 9 = .ok (.getfield 26, 3) := by decide +kernel
theorem dX3_wipe_12 : decode cX3_wipe 12 = .ok (.iconst 0, 1) := by decide +kernel
theorem dX3_wipe_13 : decode cX3_wipe 13 = .ok (.putfield 99, 3) := by decide +kernel
theorem dX3_wipe_16 : decode cX3_wipe 16 = .ok (.iload_n 1, 1) := by decide +kernel
theorem dX3_wipe_17 : decode cX3_wipe 17 = .ok (.ireturn, 1) := by decide +kernel
theorem dX3_fault_0 : decode cX3_fault 0 = .ok (.aload_n 0, 1) := by decide +kernel
theorem dX3_fault_1 : decode cX3_fault 1 = .ok (.getfield 26, 3) := by decide +kernel
theorem dX3_fault_4 : decode cX3_fault 4 = .ok (.invokevirtual 148, 3) := by decide +kernel
theorem dX3_fault_7 : decode cX3_fault 7 = .ok (.ireturn, 1) := by decide +kernel
theorem dX3_carryOut_0 : decode cX3_carryOut 0 = .ok (.aload_n 0, 1) := by decide +kernel
theorem dX3_carryOut_1 : decode cX3_carryOut 1 = .ok (.getfield 26, 3) := by decide +kernel
theorem dX3_carryOut_4 : decode cX3_carryOut 4 = .ok (.invokevirtual 148, 3) := by decide +kernel
theorem dX3_carryOut_7 : decode cX3_carryOut 7 = .ok (.bipush (-6), 2) := by decide +kernel
theorem dX3_carryOut_9 : decode cX3_carryOut 9 = .ok (.if_icmp .eq 6, 3) := by decide +kernel
theorem dX3_carryOut_12 : decode cX3_carryOut 12 = .ok (.bipush (-3), 2) := by decide +kernel
theorem dX3_carryOut_14 : decode cX3_carryOut 14 = .ok (.ireturn, 1) := by decide +kernel
theorem dX3_carryOut_15 : decode cX3_carryOut 15 = .ok (.aload_n 0, 1) := by decide +kernel
theorem dX3_carryOut_16 : decode cX3_carryOut 16 = .ok (.getfield 19, 3) := by decide +kernel
theorem dX3_carryOut_19 : decode cX3_carryOut 19 = .ok (.aload_n 0, 1) := by decide +kernel
theorem dX3_carryOut_20 : decode cX3_carryOut 20 = .ok (.getfield 10, 3) := by decide +kernel
theorem dX3_carryOut_23 : decode cX3_carryOut 23 = .ok (.invokevirtual 34, 3) := by decide +kernel
theorem dX3_carryOut_26 : decode cX3_carryOut 26 = .ok (.iconst 0, 1) := by decide +kernel
theorem dX3_carryOut_27 : decode cX3_carryOut 27 = .ok (.istore_n 1, 1) := by decide +kernel
theorem dX3_carryOut_28 : decode cX3_carryOut 28 = .ok (.aload_n 0, 1) := by decide +kernel
theorem dX3_carryOut_29 : decode cX3_carryOut 29 = .ok (.getfield 26, 3) := by decide +kernel
theorem dX3_carryOut_32 : decode cX3_carryOut 32 = .ok (.iconst 0, 1) := by decide +kernel
theorem dX3_carryOut_33 : decode cX3_carryOut 33 = .ok (.putfield 151, 3) := by decide +kernel
theorem dX3_carryOut_36 : decode cX3_carryOut 36 = .ok (.iconst 0, 1) := by decide +kernel
theorem dX3_carryOut_37 : decode cX3_carryOut 37 = .ok (.istore_n 2, 1) := by decide +kernel
theorem dX3_carryOut_38 : decode cX3_carryOut 38 = .ok (.iload_n 2, 1) := by decide +kernel
theorem dX3_carryOut_39 : decode cX3_carryOut 39 = .ok (.bipush 80, 2) := by decide +kernel
theorem dX3_carryOut_41 : decode cX3_carryOut 41 = .ok (.if_icmp .ge 42, 3) := by decide +kernel
theorem dX3_carryOut_44 : decode cX3_carryOut 44 = .ok (.aload_n 0, 1) := by decide +kernel
theorem dX3_carryOut_45 : decode cX3_carryOut 45 = .ok (.getfield 26, 3) := by decide +kernel
theorem dX3_carryOut_48 : decode cX3_carryOut 48 = .ok (.invokevirtual 154, 3) := by decide +kernel
theorem dX3_carryOut_51 : decode cX3_carryOut 51 = .ok (.ifCond .eq 32, 3) := by decide +kernel
theorem dX3_carryOut_54 : decode cX3_carryOut 54 = .ok (.aload_n 0, 1) := by decide +kernel
theorem dX3_carryOut_55 : decode cX3_carryOut 55 = .ok (.invokevirtual 158, 3) := by decide +kernel
theorem dX3_carryOut_58 : decode cX3_carryOut 58 = .ok (.invokestatic 71, 3) := by decide +kernel
theorem dX3_carryOut_61 : decode cX3_carryOut 61 = .ok (.ifCond .eq 6, 3) := by decide +kernel
theorem dX3_carryOut_64 : decode cX3_carryOut 64 = .ok (.goto 19, 3) := by decide +kernel
theorem dX3_carryOut_67 : decode cX3_carryOut 67 = .ok (.iinc 1 1, 3) := by decide +kernel
theorem dX3_carryOut_70 : decode cX3_carryOut 70 = .ok (.aload_n 0, 1) := by decide +kernel
theorem dX3_carryOut_71 : decode cX3_carryOut 71 = .ok (.getfield 26, 3) := by decide +kernel
theorem dX3_carryOut_74 : decode cX3_carryOut 74 = .ok (.invokevirtual 161, 3) := by decide +kernel
theorem dX3_carryOut_77 : decode cX3_carryOut 77 = .ok (.iinc 2 1, 3) := by decide +kernel
theorem dX3_carryOut_80 : decode cX3_carryOut 80 = .ok (.goto (-42), 3) := by decide +kernel
theorem dX3_carryOut_83 : decode cX3_carryOut 83 = .ok (.aload_n 0, 1) := by decide +kernel
theorem dX3_carryOut_84 : decode cX3_carryOut 84 = .ok (.getfield 26, 3) := by decide +kernel
theorem dX3_carryOut_87 : decode cX3_carryOut 87 = .ok (.iconst 0, 1) := by decide +kernel
theorem dX3_carryOut_88 : decode cX3_carryOut 88 = .ok (.putfield 99, 3) := by decide +kernel
theorem dX3_carryOut_91 : decode cX3_carryOut 91 = .ok (.aload_n 0, 1) := by decide +kernel
theorem dX3_carryOut_92 : decode cX3_carryOut 92 = .ok (.getfield 19, 3) := by decide +kernel
theorem dX3_carryOut_95 : decode cX3_carryOut 95 = .ok (.iload_n 1, 1) := by decide +kernel
theorem dX3_carryOut_96 : decode cX3_carryOut 96 = .ok (.invokevirtual 42, 3) := by decide +kernel
theorem dX3_carryOut_99 : decode cX3_carryOut 99 = .ok (.ireturn, 1) := by decide +kernel
theorem dX3_undo_0 : decode cX3_undo 0 = .ok (.aload_n 0, 1) := by decide +kernel
theorem dX3_undo_1 : decode cX3_undo 1 = .ok (.getfield 19, 3) := by decide +kernel
theorem dX3_undo_4 : decode cX3_undo 4 = .ok (.aload_n 0, 1) := by decide +kernel
theorem dX3_undo_5 : decode cX3_undo 5 = .ok (.getfield 10, 3) := by decide +kernel
theorem dX3_undo_8 : decode cX3_undo 8 = .ok (.invokevirtual 164, 3) := by decide +kernel
theorem dX3_undo_11 : decode cX3_undo 11 = .ok (.ifCond .eq 13, 3) := by decide +kernel
theorem dX3_undo_14 : decode cX3_undo 14 = .ok (.aload_n 0, 1) := by decide +kernel
theorem dX3_undo_15 : decode cX3_undo 15 = .ok (.getfield 19, 3) := by decide +kernel
theorem dX3_undo_18 : decode cX3_undo 18 = .ok (.getfield 103, 3) := by decide +kernel
theorem dX3_undo_21 : decode cX3_undo 21 = .ok (.goto 5, 3) := by decide +kernel
theorem dX3_undo_24 : decode cX3_undo 24 = .ok (.bipush (-5), 2) := by decide +kernel
theorem dX3_undo_26 : decode cX3_undo 26 = .ok (.ireturn, 1) := by decide +kernel
theorem dX3_save_0 : decode cX3_save 0 = .ok (.aload_n 0, 1) := by decide +kernel
theorem dX3_save_1 : decode cX3_save 1 = .ok (.iload_n 1, 1) := by decide +kernel
theorem dX3_save_2 : decode cX3_save 2 = .ok (.invokevirtual 168, 3) := by decide +kernel
theorem dX3_save_5 : decode cX3_save 5 = .ok (.ifCond .ne 6, 3) := by decide +kernel
theorem dX3_save_8 : decode cX3_save 8 = .ok (.bipush (-2), 2) := by decide +kernel
theorem dX3_save_10 : decode cX3_save 10 = .ok (.ireturn, 1) := by decide +kernel
theorem dX3_save_11 : decode cX3_save 11 = .ok (.aload_n 0, 1) := by decide +kernel
theorem dX3_save_12 : decode cX3_save 12 = .ok (.getfield 30, 3) := by decide +kernel
theorem dX3_save_15 : decode cX3_save 15 = .ok (.iload_n 1, 1) := by decide +kernel
theorem dX3_save_16 : decode cX3_save 16 = .ok (.aaload, 1) := by decide +kernel
theorem dX3_save_17 : decode cX3_save 17 = .ok (.astore_n 2, 1) := by decide +kernel
theorem dX3_save_18 : decode cX3_save 18 = .ok (.aload_n 2, 1) := by decide +kernel
theorem dX3_save_19 : decode cX3_save 19 = .ok (.ifnonnull 18, 3) := by decide +kernel
theorem dX3_save_22 : decode cX3_save 22 = .ok (.new 7, 3) := by decide +kernel
theorem dX3_save_25 : decode cX3_save 25 = .ok (.dup, 1) := by decide +kernel
theorem dX3_save_26 : decode cX3_save 26 = .ok (.invokespecial 9, 3) := by decide +kernel
theorem dX3_save_29 : decode cX3_save 29 = .ok (.astore_n 2, 1) := by decide +kernel
theorem dX3_save_30 : decode cX3_save 30 = .ok (.aload_n 0, 1) := by decide +kernel
theorem dX3_save_31 : decode cX3_save 31 = .ok (.getfield 30, 3) := by decide +kernel
theorem dX3_save_34 : decode cX3_save 34 = .ok (.iload_n 1, 1) := by decide +kernel
theorem dX3_save_35 : decode cX3_save 35 = .ok (.aload_n 2, 1) := by decide +kernel
theorem dX3_save_36 : decode cX3_save 36 = .ok (.aastore, 1) := by decide +kernel
theorem dX3_save_37 : decode cX3_save 37 = .ok (.aload_n 2, 1) := by decide +kernel
theorem dX3_save_38 : decode cX3_save 38 = .ok (.aload_n 0, 1) := by decide +kernel
theorem dX3_save_39 : decode cX3_save 39 = .ok (.getfield 10, 3) := by decide +kernel
theorem dX3_save_42 : decode cX3_save 42 = .ok (.invokevirtual 171, 3) := by decide +kernel
theorem dX3_save_45 : decode cX3_save 45 = .ok (.aload_n 0, 1) := by decide +kernel
theorem dX3_save_46 : decode cX3_save 46 = .ok (.getfield 10, 3) := by decide +kernel
theorem dX3_save_49 : decode cX3_save 49 = .ok (.getfield 174, 3) := by decide +kernel
theorem dX3_save_52 : decode cX3_save 52 = .ok (.ireturn, 1) := by decide +kernel
theorem dX3_restore_0 : decode cX3_restore 0 = .ok (.aload_n 0, 1) := by decide +kernel
theorem dX3_restore_1 : decode cX3_restore 1 = .ok (.iload_n 1, 1) := by decide +kernel
theorem dX3_restore_2 : decode cX3_restore 2 = .ok (.invokevirtual 168, 3) := by decide +kernel
theorem dX3_restore_5 : decode cX3_restore 5 = .ok (.ifCond .ne 6, 3) := by decide +kernel
theorem dX3_restore_8 : decode cX3_restore 8 = .ok (.bipush (-2), 2) := by decide +kernel
theorem dX3_restore_10 : decode cX3_restore 10 = .ok (.ireturn, 1) := by decide +kernel
theorem dX3_restore_11 : decode cX3_restore 11 = .ok (.aload_n 0, 1) := by decide +kernel
theorem dX3_restore_12 : decode cX3_restore 12 = .ok (.getfield 30, 3) := by decide +kernel
theorem dX3_restore_15 : decode cX3_restore 15 = .ok (.iload_n 1, 1) := by decide +kernel
theorem dX3_restore_16 : decode cX3_restore 16 = .ok (.aaload, 1) := by decide +kernel
theorem dX3_restore_17 : decode cX3_restore 17 = .ok (.astore_n 2, 1) := by decide +kernel
theorem dX3_restore_18 : decode cX3_restore 18 = .ok (.aload_n 2, 1) := by decide +kernel
theorem dX3_restore_19 : decode cX3_restore 19 = .ok (.ifnonnull 6, 3) := by decide +kernel
theorem dX3_restore_22 : decode cX3_restore 22 = .ok (.bipush (-5), 2) := by decide +kernel
theorem dX3_restore_24 : decode cX3_restore 24 = .ok (.ireturn, 1) := by decide +kernel
theorem dX3_restore_25 : decode cX3_restore 25 = .ok (.aload_n 0, 1) := by decide +kernel
theorem dX3_restore_26 : decode cX3_restore 26 = .ok (.getfield 19, 3) := by decide +kernel
theorem dX3_restore_29 : decode cX3_restore 29 = .ok (.aload_n 0, 1) := by decide +kernel
theorem dX3_restore_30 : decode cX3_restore 30 = .ok (.getfield 10, 3) := by decide +kernel
theorem dX3_restore_33 : decode cX3_restore 33 = .ok (.invokevirtual 34, 3) := by decide +kernel
theorem dX3_restore_36 : decode cX3_restore 36 = .ok (.aload_n 0, 1) := by decide +kernel
theorem dX3_restore_37 : decode cX3_restore 37 = .ok (.getfield 10, 3) := by decide +kernel
theorem dX3_restore_40 : decode cX3_restore 40 = .ok (.aload_n 2, 1) := by decide +kernel
theorem dX3_restore_41 : decode cX3_restore 41 = .ok (.invokevirtual 171, 3) := by decide +kernel
theorem dX3_restore_44 : decode cX3_restore 44 = .ok (.aload_n 0, 1) := by decide +kernel
theorem dX3_restore_45 : decode cX3_restore 45 = .ok (.getfield 19, 3) := by decide +kernel
theorem dX3_restore_48 : decode cX3_restore 48 = .ok (.aload_n 0, 1) := by decide +kernel
theorem dX3_restore_49 : decode cX3_restore 49 = .ok (.getfield 10, 3) := by decide +kernel
theorem dX3_restore_52 : decode cX3_restore 52 = .ok (.getfield 174, 3) := by decide +kernel
theorem dX3_restore_55 : decode cX3_restore 55 = .ok (.invokevirtual 42, 3) := by decide +kernel
theorem dX3_restore_58 : decode cX3_restore 58 = .ok (.ireturn, 1) := by decide +kernel
theorem dX3_isSlot_0 : decode cX3_isSlot 0 = .ok (.iload_n 1, 1) := by decide +kernel
theorem dX3_isSlot_1 : decode cX3_isSlot 1 = .ok (.ifCond .lt 16, 3) := by decide +kernel
theorem dX3_isSlot_4 : decode cX3_isSlot 4 = .ok (.iload_n 1, 1) := by decide +kernel
theorem dX3_isSlot_5 : decode cX3_isSlot 5 = .ok (.aload_n 0, 1) := by decide +kernel
theorem dX3_isSlot_6 : decode cX3_isSlot 6 = .ok (.getfield 30, 3) := by decide +kernel
theorem dX3_isSlot_9 : decode cX3_isSlot 9 = .ok (.arraylength, 1) := by decide +kernel
theorem dX3_isSlot_10 : decode cX3_isSlot 10 = .ok (.if_icmp .ge 7, 3) := by decide +kernel
theorem dX3_isSlot_13 : decode cX3_isSlot 13 = .ok (.iconst 1, 1) := by decide +kernel
theorem dX3_isSlot_14 : decode cX3_isSlot 14 = .ok (.goto 4, 3) := by decide +kernel
theorem dX3_isSlot_17 : decode cX3_isSlot 17 = .ok (.iconst 0, 1) := by decide +kernel
theorem dX3_isSlot_18 : decode cX3_isSlot 18 = .ok (.ireturn, 1) := by decide +kernel
theorem dX3_isError_0 : decode cX3_isError 0 = .ok (.iload_n 0, 1) := by decide +kernel
theorem dX3_isError_1 : decode cX3_isError 1 = .ok (.ifCond .ge 13, 3) := by decide +kernel
theorem dX3_isError_4 : decode cX3_isError 4 = .ok (.iload_n 0, 1) := by decide +kernel
theorem dX3_isError_5 : decode cX3_isError 5 = .ok (.bipush (-6), 2) := by decide +kernel
theorem dX3_isError_7 : decode cX3_isError 7 = .ok (.if_icmp .eq 7, 3) := by decide +kernel
theorem dX3_isError_10 : decode cX3_isError 10 = .ok (.iconst 1, 1) := by decide +kernel
theorem dX3_isError_11 : decode cX3_isError 11 = .ok (.goto 4, 3) := by decide +kernel
theorem dX3_isError_14 : decode cX3_isError 14 = .ok (.iconst 0, 1) := by decide +kernel
theorem dX3_isError_15 : decode cX3_isError 15 = .ok (.ireturn, 1) := by decide +kernel
theorem dX3_carryOutOrder_0 : decode cX3_carryOutOrder 0 = .ok (.aload_n 0, 1) := by decide +kernel
theorem dX3_carryOutOrder_1 : decode cX3_carryOutOrder 1 = .ok (.getfield 26, 3) := by decide +kernel
theorem dX3_carryOutOrder_4 : decode cX3_carryOutOrder 4 = .ok (.iconst 0, 1) := by decide +kernel
theorem dX3_carryOutOrder_5 : decode cX3_carryOutOrder 5 = .ok (.invokevirtual 177, 3) := by decide +kernel
theorem dX3_carryOutOrder_8 : decode cX3_carryOutOrder 8 = .ok (.istore_n 1, 1) := by decide +kernel
theorem dX3_carryOutOrder_9 : decode cX3_carryOutOrder 9 = .ok (.aload_n 0, 1) := by decide +kernel
theorem dX3_carryOutOrder_10 : decode cX3_carryOutOrder 10 = .ok (.getfield 26, 3) := by decide +kernel
theorem dX3_carryOutOrder_13 : decode cX3_carryOutOrder 13 = .ok (.iconst 1, 1) := by decide +kernel
theorem dX3_carryOutOrder_14 : decode cX3_carryOutOrder 14 = .ok (.invokevirtual 177, 3) := by decide +kernel
theorem dX3_carryOutOrder_17 : decode cX3_carryOutOrder 17 = .ok (.istore_n 2, 1) := by decide +kernel
theorem dX3_carryOutOrder_18 : decode cX3_carryOutOrder 18 = .ok (.aload_n 0, 1) := by decide +kernel
theorem dX3_carryOutOrder_19 : decode cX3_carryOutOrder 19 = .ok (.getfield 26, 3) := by decide +kernel
theorem dX3_carryOutOrder_22 : decode cX3_carryOutOrder 22 = .ok (.getfield 180, 3) := by decide +kernel
theorem dX3_carryOutOrder_25 : decode cX3_carryOutOrder 25 = .ok (.tableswitch 191 97 119 #[182, 191, 191, 191, 191, 155, 191, 191, 127, 191, 191, 191, 191, 191, 164, 107, 191, 191, 117, 173, 191, 191, 145], 107) := by decide +kernel
theorem dX3_carryOutOrder_132 : decode cX3_carryOutOrder 132 = .ok (.aload_n 0, 1) := by decide +kernel
theorem dX3_carryOutOrder_133 : decode cX3_carryOutOrder 133 = .ok (.getfield 10, 3) := by decide +kernel
theorem dX3_carryOutOrder_136 : decode cX3_carryOutOrder 136 = .ok (.iload_n 1, 1) := by decide +kernel
theorem dX3_carryOutOrder_137 : decode cX3_carryOutOrder 137 = .ok (.iload_n 2, 1) := by decide +kernel
theorem dX3_carryOutOrder_138 : decode cX3_carryOutOrder 138 = .ok (.invokevirtual 46, 3) := by decide +kernel
theorem dX3_carryOutOrder_141 : decode cX3_carryOutOrder 141 = .ok (.ireturn, 1) := by decide +kernel
theorem dX3_carryOutOrder_142 : decode cX3_carryOutOrder 142 = .ok (.aload_n 0, 1) := by decide +kernel
theorem dX3_carryOutOrder_143 : decode cX3_carryOutOrder 143 = .ok (.getfield 10, 3) := by decide +kernel
theorem dX3_carryOutOrder_146 : decode cX3_carryOutOrder 146 = .ok (.iload_n 1, 1) := by decide +kernel
theorem dX3_carryOutOrder_147 : decode cX3_carryOutOrder 147 = .ok (.iload_n 2, 1) := by decide +kernel
theorem dX3_carryOutOrder_148 : decode cX3_carryOutOrder 148 = .ok (.invokevirtual 49, 3) := by decide +kernel
theorem dX3_carryOutOrder_151 : decode cX3_carryOutOrder 151 = .ok (.ireturn, 1) := by decide +kernel
theorem dX3_carryOutOrder_152 : decode cX3_carryOutOrder 152 = .ok (.aload_n 0, 1) := by decide +kernel
theorem dX3_carryOutOrder_153 : decode cX3_carryOutOrder 153 = .ok (.getfield 10, 3) := by decide +kernel
theorem dX3_carryOutOrder_156 : decode cX3_carryOutOrder 156 = .ok (.iload_n 1, 1) := by decide +kernel
theorem dX3_carryOutOrder_157 : decode cX3_carryOutOrder 157 = .ok (.iload_n 2, 1) := by decide +kernel
theorem dX3_carryOutOrder_158 : decode cX3_carryOutOrder 158 = .ok (.aload_n 0, 1) := by decide +kernel
theorem dX3_carryOutOrder_159 : decode cX3_carryOutOrder 159 = .ok (.getfield 26, 3) := by decide +kernel
theorem dX3_carryOutOrder_162 : decode cX3_carryOutOrder 162 = .ok (.iconst 2, 1) := by decide +kernel
theorem dX3_carryOutOrder_163 : decode cX3_carryOutOrder 163 = .ok (.invokevirtual 177, 3) := by decide +kernel
theorem dX3_carryOutOrder_166 : decode cX3_carryOutOrder 166 = .ok (.invokevirtual 55, 3) := by decide +kernel
theorem dX3_carryOutOrder_169 : decode cX3_carryOutOrder 169 = .ok (.ireturn, 1) := by decide +kernel
theorem dX3_carryOutOrder_170 : decode cX3_carryOutOrder 170 = .ok (.aload_n 0, 1) := by decide +kernel
theorem dX3_carryOutOrder_171 : decode cX3_carryOutOrder 171 = .ok (.getfield 10, 3) := by decide +kernel
theorem dX3_carryOutOrder_174 : decode cX3_carryOutOrder 174 = .ok (.iload_n 1, 1) := by decide +kernel
theorem dX3_carryOutOrder_175 : decode cX3_carryOutOrder 175 = .ok (.iload_n 2, 1) := by decide +kernel
theorem dX3_carryOutOrder_176 : decode cX3_carryOutOrder 176 = .ok (.invokevirtual 59, 3) := by decide +kernel
theorem dX3_carryOutOrder_179 : decode cX3_carryOutOrder 179 = .ok (.ireturn, 1) := by decide +kernel
theorem dX3_carryOutOrder_180 : decode cX3_carryOutOrder 180 = .ok (.aload_n 0, 1) := by decide +kernel
theorem dX3_carryOutOrder_181 : decode cX3_carryOutOrder 181 = .ok (.getfield 10, 3) := by decide +kernel
theorem dX3_carryOutOrder_184 : decode cX3_carryOutOrder 184 = .ok (.iload_n 1, 1) := by decide +kernel
theorem dX3_carryOutOrder_185 : decode cX3_carryOutOrder 185 = .ok (.invokevirtual 62, 3) := by decide +kernel
theorem dX3_carryOutOrder_188 : decode cX3_carryOutOrder 188 = .ok (.ireturn, 1) := by decide +kernel
theorem dX3_carryOutOrder_189 : decode cX3_carryOutOrder 189 = .ok (.aload_n 0, 1) := by decide +kernel
theorem dX3_carryOutOrder_190 : decode cX3_carryOutOrder 190 = .ok (.getfield 10, 3) := by decide +kernel
theorem dX3_carryOutOrder_193 : decode cX3_carryOutOrder 193 = .ok (.iload_n 1, 1) := by decide +kernel
theorem dX3_carryOutOrder_194 : decode cX3_carryOutOrder 194 = .ok (.invokevirtual 65, 3) := by decide +kernel
theorem dX3_carryOutOrder_197 : decode cX3_carryOutOrder 197 = .ok (.ireturn, 1) := by decide +kernel
theorem dX3_carryOutOrder_198 : decode cX3_carryOutOrder 198 = .ok (.aload_n 0, 1) := by decide +kernel
theorem dX3_carryOutOrder_199 : decode cX3_carryOutOrder 199 = .ok (.getfield 10, 3) := by decide +kernel
theorem dX3_carryOutOrder_202 : decode cX3_carryOutOrder 202 = .ok (.iload_n 1, 1) := by decide +kernel
theorem dX3_carryOutOrder_203 : decode cX3_carryOutOrder 203 = .ok (.invokevirtual 68, 3) := by decide +kernel
theorem dX3_carryOutOrder_206 : decode cX3_carryOutOrder 206 = .ok (.ireturn, 1) := by decide +kernel
theorem dX3_carryOutOrder_207 : decode cX3_carryOutOrder 207 = .ok (.aload_n 0, 1) := by decide +kernel
theorem dX3_carryOutOrder_208 : decode cX3_carryOutOrder 208 = .ok (.getfield 10, 3) := by decide +kernel
theorem dX3_carryOutOrder_211 : decode cX3_carryOutOrder 211 = .ok (.iload_n 1, 1) := by decide +kernel
theorem dX3_carryOutOrder_212 : decode cX3_carryOutOrder 212 = .ok (.invokevirtual 52, 3) := by decide +kernel
theorem dX3_carryOutOrder_215 : decode cX3_carryOutOrder 215 = .ok (.ireturn, 1) := by decide +kernel
theorem dX3_carryOutOrder_216 : decode cX3_carryOutOrder 216 = .ok (.bipush (-3), 2) := by decide +kernel
theorem dX3_carryOutOrder_218 : decode cX3_carryOutOrder 218 = .ok (.ireturn, 1) := by decide +kernel
theorem dX4_init_0 : decode cX4_init 0 = .ok (.aload_n 0, 1) := by decide +kernel
theorem dX4_init_1 : decode cX4_init 1 = .ok (.invokespecial 1, 3) := by decide +kernel
theorem dX4_init_4 : decode cX4_init 4 = .ok (.aload_n 0, 1) := by decide +kernel
theorem dX4_init_5 : decode cX4_init 5 = .ok (.sipush 181, 3) := by decide +kernel
theorem dX4_init_8 : decode cX4_init 8 = .ok (.newarray .int, 2) := by decide +kernel
theorem dX4_init_10 : decode cX4_init 10 = .ok (.putfield 7, 3) := by decide +kernel
theorem dX4_init_13 : decode cX4_init 13 = .ok (.aload_n 0, 1) := by decide +kernel
theorem dX4_init_14 : decode cX4_init 14 = .ok (.sipush 181, 3) := by decide +kernel
theorem dX4_init_17 : decode cX4_init 17 = .ok (.newarray .int, 2) := by decide +kernel
theorem dX4_init_19 : decode cX4_init 19 = .ok (.putfield 13, 3) := by decide +kernel
theorem dX4_init_22 : decode cX4_init 22 = .ok (.aload_n 0, 1) := by decide +kernel
theorem dX4_init_23 : decode cX4_init 23 = .ok (.sipush 1086, 3) := by decide +kernel
theorem dX4_init_26 : decode cX4_init 26 = .ok (.newarray .int, 2) := by decide +kernel
theorem dX4_init_28 : decode cX4_init 28 = .ok (.putfield 16, 3) := by decide +kernel
theorem dX4_init_31 : decode cX4_init 31 = .ok (.aload_n 0, 1) := by decide +kernel
theorem dX4_init_32 : decode cX4_init 32 = .ok (.sipush 362, 3) := by decide +kernel
theorem dX4_init_35 : decode cX4_init 35 = .ok (.newarray .int, 2) := by decide +kernel
theorem dX4_init_37 : decode cX4_init 37 = .ok (.putfield 19, 3) := by decide +kernel
theorem dX4_init_40 : decode cX4_init 40 = .ok (.aload_n 0, 1) := by decide +kernel
theorem dX4_init_41 : decode cX4_init 41 = .ok (.iconst 2, 1) := by decide +kernel
theorem dX4_init_42 : decode cX4_init 42 = .ok (.newarray .boolean, 2) := by decide +kernel
theorem dX4_init_44 : decode cX4_init 44 = .ok (.putfield 22, 3) := by decide +kernel
theorem dX4_init_47 : decode cX4_init 47 = .ok (.aload_n 0, 1) := by decide +kernel
theorem dX4_init_48 : decode cX4_init 48 = .ok (.bipush 80, 2) := by decide +kernel
theorem dX4_init_50 : decode cX4_init 50 = .ok (.newarray .int, 2) := by decide +kernel
theorem dX4_init_52 : decode cX4_init 52 = .ok (.putfield 26, 3) := by decide +kernel
theorem dX4_init_55 : decode cX4_init 55 = .ok (.aload_n 0, 1) := by decide +kernel
theorem dX4_init_56 : decode cX4_init 56 = .ok (.getfield 7, 3) := by decide +kernel
theorem dX4_init_59 : decode cX4_init 59 = .ok (.iconst 0, 1) := by decide +kernel
theorem dX4_init_60 : decode cX4_init 60 = .ok (.bipush 12, 2) := by decide +kernel
theorem dX4_init_62 : decode cX4_init 62 = .ok (.iastore, 1) := by decide +kernel
theorem dX4_init_63 : decode cX4_init 63 = .ok (.aload_n 0, 1) := by decide +kernel
theorem dX4_init_64 : decode cX4_init 64 = .ok (.getfield 7, 3) := by decide +kernel
theorem dX4_init_67 : decode cX4_init 67 = .ok (.iconst 1, 1) := by decide +kernel
theorem dX4_init_68 : decode cX4_init 68 = .ok (.bipush 24, 2) := by decide +kernel
theorem dX4_init_70 : decode cX4_init 70 = .ok (.iastore, 1) := by decide +kernel
theorem dX4_init_71 : decode cX4_init 71 = .ok (.aload_n 0, 1) := by decide +kernel
theorem dX4_init_72 : decode cX4_init 72 = .ok (.getfield 7, 3) := by decide +kernel
theorem dX4_init_75 : decode cX4_init 75 = .ok (.iconst 2, 1) := by decide +kernel
theorem dX4_init_76 : decode cX4_init 76 = .ok (.bipush 72, 2) := by decide +kernel
theorem dX4_init_78 : decode cX4_init 78 = .ok (.iastore, 1) := by decide +kernel
theorem dX4_init_79 : decode cX4_init 79 = .ok (.aload_n 0, 1) := by decide +kernel
theorem dX4_init_80 : decode cX4_init 80 = .ok (.getfield 7, 3) := by decide +kernel
theorem dX4_init_83 : decode cX4_init 83 = .ok (.iconst 3, 1) := by decide +kernel
theorem dX4_init_84 : decode cX4_init 84 = .ok (.bipush 100, 2) := by decide +kernel
theorem dX4_init_86 : decode cX4_init 86 = .ok (.iastore, 1) := by decide +kernel
theorem dX4_init_87 : decode cX4_init 87 = .ok (.aload_n 0, 1) := by decide +kernel
theorem dX4_init_88 : decode cX4_init 88 = .ok (.getfield 7, 3) := by decide +kernel
theorem dX4_init_91 : decode cX4_init 91 = .ok (.bipush 46, 2) := by decide +kernel
theorem dX4_init_93 : decode cX4_init 93 = .ok (.bipush 31, 2) := by decide +kernel
theorem dX4_init_95 : decode cX4_init 95 = .ok (.iastore, 1) := by decide +kernel
theorem dX4_init_96 : decode cX4_init 96 = .ok (.return_, 1) := by decide +kernel
theorem dX4_in_0 : decode cX4_in 0 = .ok (.iload_n 0, 1) := by decide +kernel
theorem dX4_in_1 : decode cX4_in 1 = .ok (.iload_n 1, 1) := by decide +kernel
theorem dX4_in_2 : decode cX4_in 2 = .ok (.if_icmp .lt 12, 3) := by decide +kernel
theorem dX4_in_5 : decode cX4_in 5 = .ok (.iload_n 0, 1) := by decide +kernel
theorem dX4_in_6 : decode cX4_in 6 = .ok (.iload_n 2, 1) := by decide +kernel
theorem dX4_in_7 : decode cX4_in 7 = .ok (.if_icmp .gt 7, 3) := by decide +kernel
theorem dX4_in_10 : decode cX4_in 10 = .ok (.iconst 1, 1) := by decide +kernel
theorem dX4_in_11 : decode cX4_in 11 = .ok (.goto 4, 3) := by decide +kernel
theorem dX4_in_14 : decode cX4_in 14 = .ok (.iconst 0, 1) := by decide +kernel
theorem dX4_in_15 : decode cX4_in 15 = .ok (.ireturn, 1) := by decide +kernel
theorem dX4_putAside_0 : decode cX4_putAside 0 = .ok (.iconst 0, 1) := by decide +kernel
theorem dX4_putAside_1 : decode cX4_putAside 1 = .ok (.istore_n 1, 1) := by decide +kernel
theorem dX4_putAside_2 : decode cX4_putAside 2 = .ok (.iload_n 1, 1) := by decide +kernel
theorem dX4_putAside_3 : decode cX4_putAside 3 = .ok (.sipush 181, 3) := by decide +kernel
theorem dX4_putAside_6 : decode cX4_putAside 6 = .ok (.if_icmp .ge 21, 3) := by decide +kernel
theorem dX4_putAside_9 : decode cX4_putAside 9 = .ok (.aload_n 0, 1) := by decide +kernel
theorem dX4_putAside_10 : decode cX4_putAside 10 = .ok (.getfield 13, 3) := by decide +kernel
theorem dX4_putAside_13 : decode cX4_putAside 13 = .ok (.iload_n 1, 1) := by decide +kernel
theorem dX4_putAside_14 : decode cX4_putAside 14 = .ok (.aload_n 0, 1) := by decide +kernel
theorem dX4_putAside_15 : decode cX4_putAside 15 = .ok (.getfield 7, 3) := by decide +kernel
theorem dX4_putAside_18 : decode cX4_putAside 18 = .ok (.iload_n 1, 1) := by decide +kernel
theorem dX4_putAside_19 : decode cX4_putAside 19 = .ok (.iaload, 1) := by decide +kernel
theorem dX4_putAside_20 : decode cX4_putAside 20 = .ok (.iastore, 1) := by decide +kernel
theorem dX4_putAside_21 : decode cX4_putAside 21 = .ok (.iinc 1 1, 3) := by decide +kernel
theorem dX4_putAside_24 : decode cX4_putAside 24 = .ok (.goto (-22), 3) := by decide +kernel
theorem dX4_putAside_27 : decode cX4_putAside 27 = .ok (.return_, 1) := by decide +kernel
theorem dX4_end_0 : decode cX4_end 0 = .ok (.iload_n 1, 1) := by decide +kernel
theorem dX4_end_1 : decode cX4_end 1 = .ok (.ifCond .ge 11, 3) := by decide +kernel
theorem dX4_end_4 : decode cX4_end 4 = .ok (.iload_n 1, 1) := by decide +kernel
theorem dX4_end_5 : decode cX4_end 5 = .ok (.bipush (-6), 2) := by decide +kernel
theorem dX4_end_7 : decode cX4_end 7 = .ok (.if_icmp .eq 5, 3) := by decide +kernel
theorem dX4_end_10 : decode cX4_end 10 = .ok (.iload_n 1, 1) := by decide +kernel
theorem dX4_end_11 : decode cX4_end 11 = .ok (.ireturn, 1) := by decide +kernel
theorem dX4_end_12 : decode cX4_end 12 = .ok (.aload_n 0, 1) := by decide +kernel
theorem dX4_end_13 : decode cX4_end 13 = .ok (.getfield 29, 3) := by decide +kernel
theorem dX4_end_16 : decode cX4_end 16 = .ok (.bipush 6, 2) := by decide +kernel
theorem dX4_end_18 : decode cX4_end 18 = .ok (.if_icmp .ne 44, 3) := by decide +kernel
theorem dX4_end_21 : decode cX4_end 21 = .ok (.iconst 0, 1) := by decide +kernel
theorem dX4_end_22 : decode cX4_end 22 = .ok (.istore_n 2, 1) := by decide +kernel
theorem dX4_end_23 : decode cX4_end 23 = .ok (.iload_n 2, 1) := by decide +kernel
theorem dX4_end_24 : decode cX4_end 24 = .ok (.sipush 905, 3) := by decide +kernel
theorem dX4_end_27 : decode cX4_end 27 = .ok (.if_icmp .ge 25, 3) := by decide +kernel
theorem dX4_end_30 : decode cX4_end 30 = .ok (.aload_n 0, 1) := by decide +kernel
theorem dX4_end_31 : decode cX4_end 31 = .ok (.getfield 16, 3) := by decide +kernel
theorem dX4_end_34 : decode cX4_end 34 = .ok (.iload_n 2, 1) := by decide +kernel
theorem dX4_end_35 : decode cX4_end 35 = .ok (.aload_n 0, 1) := by decide +kernel
theorem dX4_end_36 : decode cX4_end 36 = .ok (.getfield 16, 3) := by decide +kernel
theorem dX4_end_39 : decode cX4_end 39 = .ok (.sipush 181, 3) := by decide +kernel
theorem dX4_end_42 : decode cX4_end 42 = .ok (.iload_n 2, 1) := by decide +kernel
theorem dX4_end_43 : decode cX4_end 43 = .ok (.iadd, 1) := by decide +kernel
theorem dX4_end_44 : decode cX4_end 44 = .ok (.iaload, 1) := by decide +kernel
theorem dX4_end_45 : decode cX4_end 45 = .ok (.iastore, 1) := by decide +kernel
theorem dX4_end_46 : decode cX4_end 46 = .ok (.iinc 2 1, 3) := by decide +kernel
theorem dX4_end_49 : decode cX4_end 49 = .ok (.goto (-26), 3) := by decide +kernel
theorem dX4_end_52 : decode cX4_end 52 = .ok (.aload_n 0, 1) := by decide +kernel
theorem dX4_end_53 : decode cX4_end 53 = .ok (.dup, 1) := by decide +kernel
theorem dX4_end_54 : decode cX4_end 54 = .ok (.getfield 29, 3) := by decide +kernel
theorem dX4_end_57 : decode cX4_end 57 = .ok (.iconst 1, 1) := by decide +kernel
theorem dX4_end_58 : decode cX4_end 58 = .ok (.isub, 1) := by decide +kernel
theorem dX4_end_59 : decode cX4_end 59 = .ok (.putfield 29, 3) := by decide +kernel
theorem dX4_end_62 : decode cX4_end 62 = .ok (.iconst 0, 1) := by decide +kernel
theorem dX4_end_63 : decode cX4_end 63 = .ok (.istore_n 2, 1) := by decide +kernel
theorem dX4_end_64 : decode cX4_end 64 = .ok (.iload_n 2, 1) := by decide +kernel
theorem dX4_end_65 : decode cX4_end 65 = .ok (.sipush 181, 3) := by decide +kernel
theorem dX4_end_68 : decode cX4_end 68 = .ok (.if_icmp .ge 30, 3) := by decide +kernel
theorem dX4_end_71 : decode cX4_end 71 = .ok (.aload_n 0, 1) := by decide +kernel
theorem dX4_end_72 : decode cX4_end 72 = .ok (.getfield 16, 3) := by decide +kernel
theorem dX4_end_75 : decode cX4_end 75 = .ok (.sipush 181, 3) := by decide +kernel
theorem dX4_end_78 : decode cX4_end 78 = .ok (.aload_n 0, 1) := by decide +kernel
theorem dX4_end_79 : decode cX4_end 79 = .ok (.getfield 29, 3) := by decide +kernel
theorem dX4_end_82 : decode cX4_end 82 = .ok (.imul, 1) := by decide +kernel
theorem dX4_end_83 : decode cX4_end 83 = .ok (.iload_n 2, 1) := by decide +kernel
theorem dX4_end_84 : decode cX4_end 84 = .ok (.iadd, 1) := by decide +kernel
theorem dX4_end_85 : decode cX4_end 85 = .ok (.aload_n 0, 1) := by decide +kernel
theorem dX4_end_86 : decode cX4_end 86 = .ok (.getfield 13, 3) := by decide +kernel
theorem dX4_end_89 : decode cX4_end 89 = .ok (.iload_n 2, 1) := by decide +kernel
theorem dX4_end_90 : decode cX4_end 90 = .ok (.iaload, 1) := by decide +kernel
theorem dX4_end_91 : decode cX4_end 91 = .ok (.iastore, 1) := by decide +kernel
theorem dX4_end_92 : decode cX4_end 92 = .ok (.iinc 2 1, 3) := by decide +kernel
theorem dX4_end_95 : decode cX4_end 95 = .ok (.goto (-31), 3) := by decide +kernel
theorem dX4_end_98 : decode cX4_end 98 = .ok (.aload_n 0, 1) := by decide +kernel
theorem dX4_end_99 : decode cX4_end 99 = .ok (.dup, 1) := by decide +kernel
theorem dX4_end_100 : decode cX4_end 100 = .ok (.getfield 29, 3) := by decide +kernel
theorem dX4_end_103 : decode cX4_end 103 = .ok (.iconst 1, 1) := by decide +kernel
theorem dX4_end_104 : decode cX4_end 104 = .ok (.iadd, 1) := by decide +kernel
theorem dX4_end_105 : decode cX4_end 105 = .ok (.putfield 29, 3) := by decide +kernel
theorem dX4_end_108 : decode cX4_end 108 = .ok (.iload_n 1, 1) := by decide +kernel
theorem dX4_end_109 : decode cX4_end 109 = .ok (.ireturn, 1) := by decide +kernel
theorem dX4_isPerson_0 : decode cX4_isPerson 0 = .ok (.iload_n 1, 1) := by decide +kernel
theorem dX4_isPerson_1 : decode cX4_isPerson 1 = .ok (.iconst 0, 1) := by decide +kernel
theorem dX4_isPerson_2 : decode cX4_isPerson 2 = .ok (.aload_n 0, 1) := by decide +kernel
theorem dX4_isPerson_3 : decode cX4_isPerson 3 = .ok (.getfield 7, 3) := by decide +kernel
theorem dX4_isPerson_6 : decode cX4_isPerson 6 = .ok (.iconst 5, 1) := by decide +kernel
theorem dX4_isPerson_7 : decode cX4_isPerson 7 = .ok (.iaload, 1) := by decide +kernel
theorem dX4_isPerson_8 : decode cX4_isPerson 8 = .ok (.iconst 1, 1) := by decide +kernel
theorem dX4_isPerson_9 : decode cX4_isPerson 9 = .ok (.isub, 1) := by decide +kernel
theorem dX4_isPerson_10 : decode cX4_isPerson 10 = .ok (.invokestatic 33, 3) := by decide +kernel
theorem dX4_isPerson_13 : decode cX4_isPerson 13 = .ok (.ireturn, 1) := by decide +kernel
theorem dX4_isQuarrel_0 : decode cX4_isQuarrel 0 = .ok (.iload_n 1, 1) := by decide +kernel
theorem dX4_isQuarrel_1 : decode cX4_isQuarrel 1 = .ok (.iconst 0, 1) := by decide +kernel
theorem dX4_isQuarrel_2 : decode cX4_isQuarrel 2 = .ok (.aload_n 0, 1) := by decide +kernel
theorem dX4_isQuarrel_3 : decode cX4_isQuarrel 3 = .ok (.getfield 7, 3) := by decide +kernel
theorem dX4_isQuarrel_6 : decode cX4_isQuarrel 6 = .ok (.bipush 47, 2) := by decide +kernel
theorem dX4_isQuarrel_8 : decode cX4_isQuarrel 8 = .ok (.iaload, 1) := by decide +kernel
theorem dX4_isQuarrel_9 : decode cX4_isQuarrel 9 = .ok (.iconst 1, 1) := by decide +kernel
theorem dX4_isQuarrel_10 : decode cX4_isQuarrel 10 = .ok (.isub, 1) := by decide +kernel
theorem dX4_isQuarrel_11 : decode cX4_isQuarrel 11 = .ok (.invokestatic 33, 3) := by decide +kernel
theorem dX4_isQuarrel_14 : decode cX4_isQuarrel 14 = .ok (.ireturn, 1) := by decide +kernel
theorem dX4_person0_0 : decode cX4_person0 0 = .ok (.aload_n 0, 1) := by decide +kernel
theorem dX4_person0_1 : decode cX4_person0 1 = .ok (.getfield 7, 3) := by decide +kernel
theorem dX4_person0_4 : decode cX4_person0 4 = .ok (.bipush 6, 2) := by decide +kernel
theorem dX4_person0_6 : decode cX4_person0 6 = .ok (.iconst 4, 1) := by decide +kernel
theorem dX4_person0_7 : decode cX4_person0 7 = .ok (.iload_n 1, 1) := by decide +kernel
theorem dX4_person0_8 : decode cX4_person0 8 = .ok (.imul, 1) := by decide +kernel
theorem dX4_person0_9 : decode cX4_person0 9 = .ok (.iadd, 1) := by decide +kernel
theorem dX4_person0_10 : decode cX4_person0 10 = .ok (.iload_n 2, 1) := by decide +kernel
theorem dX4_person0_11 : decode cX4_person0 11 = .ok (.iadd, 1) := by decide +kernel
theorem dX4_person0_12 : decode cX4_person0 12 = .ok (.iaload, 1) := by decide +kernel
theorem dX4_person0_13 : decode cX4_person0 13 = .ok (.ireturn, 1) := by decide +kernel
theorem dX4_quarrel0_0 : decode cX4_quarrel0 0 = .ok (.aload_n 0, 1) := by decide +kernel
theorem dX4_quarrel0_1 : decode cX4_quarrel0 1 = .ok (.getfield 7, 3) := by decide +kernel
theorem dX4_quarrel0_4 : decode cX4_quarrel0 4 = .ok (.bipush 48, 2) := by decide +kernel
theorem dX4_quarrel0_6 : decode cX4_quarrel0 6 = .ok (.bipush 8, 2) := by decide +kernel
theorem dX4_quarrel0_8 : decode cX4_quarrel0 8 = .ok (.iload_n 1, 1) := by decide +kernel
theorem dX4_quarrel0_9 : decode cX4_quarrel0 9 = .ok (.imul, 1) := by decide +kernel
theorem dX4_quarrel0_10 : decode cX4_quarrel0 10 = .ok (.iadd, 1) := by decide +kernel
theorem dX4_quarrel0_11 : decode cX4_quarrel0 11 = .ok (.iload_n 2, 1) := by decide +kernel
theorem dX4_quarrel0_12 : decode cX4_quarrel0 12 = .ok (.iadd, 1) := by decide +kernel
theorem dX4_quarrel0_13 : decode cX4_quarrel0 13 = .ok (.iaload, 1) := by decide +kernel
theorem dX4_quarrel0_14 : decode cX4_quarrel0 14 = .ok (.ireturn, 1) := by decide +kernel
theorem dX4_isUnderOath_0 : decode cX4_isUnderOath 0 = .ok (.aload_n 0, 1) := by decide +kernel
theorem dX4_isUnderOath_1 : decode cX4_isUnderOath 1 = .ok (.iload_n 1, 1) := by decide +kernel
theorem dX4_isUnderOath_2 : decode cX4_isUnderOath 2 = .ok (.iconst 3, 1) := by decide +kernel
theorem dX4_isUnderOath_3 : decode cX4_isUnderOath 3 = .ok (.invokevirtual 37, 3) := by decide +kernel
theorem dX4_isUnderOath_6 : decode cX4_isUnderOath 6 = .ok (.aload_n 0, 1) := by decide +kernel
theorem dX4_isUnderOath_7 : decode cX4_isUnderOath 7 = .ok (.getfield 7, 3) := by decide +kernel
theorem dX4_isUnderOath_10 : decode cX4_isUnderOath 10 = .ok (.iconst 4, 1) := by decide +kernel
theorem dX4_isUnderOath_11 : decode cX4_isUnderOath 11 = .ok (.iaload, 1) := by decide +kernel
theorem dX4_isUnderOath_12 : decode cX4_isUnderOath 12 = .ok (.iload_n 2, 1) := by decide +kernel
theorem dX4_isUnderOath_13 : decode cX4_isUnderOath 13 = .ok (.iadd, 1) := by decide +kernel
theorem dX4_isUnderOath_14 : decode cX4_isUnderOath 14 = .ok (.if_icmp .le 7, 3) := by decide +kernel
theorem dX4_isUnderOath_17 : decode cX4_isUnderOath 17 = .ok (.iconst 1, 1) := by decide +kernel
theorem dX4_isUnderOath_18 : decode cX4_isUnderOath 18 = .ok (.goto 4, 3) := by decide +kernel
theorem dX4_isUnderOath_21 : decode cX4_isUnderOath 21 = .ok (.iconst 0, 1) := by decide +kernel
theorem dX4_isUnderOath_22 : decode cX4_isUnderOath 22 = .ok (.ireturn, 1) := by decide +kernel
theorem dX4_areOfThese_0 : decode cX4_areOfThese 0 = .ok (.aload_n 0, 1) := by decide +kernel
theorem dX4_areOfThese_1 : decode cX4_areOfThese 1 = .ok (.iload_n 1, 1) := by decide +kernel
theorem dX4_areOfThese_2 : decode cX4_areOfThese 2 = .ok (.iconst 0, 1) := by decide +kernel
theorem dX4_areOfThese_3 : decode cX4_areOfThese 3 = .ok (.invokevirtual 41, 3) := by decide +kernel
theorem dX4_areOfThese_6 : decode cX4_areOfThese 6 = .ok (.istore 4, 2) := by decide +kernel
theorem dX4_areOfThese_8 : decode cX4_areOfThese 8 = .ok (.aload_n 0, 1) := by decide +kernel
theorem dX4_areOfThese_9 : decode cX4_areOfThese 9 = .ok (.iload_n 1, 1) := by decide +kernel
theorem dX4_areOfThese_10 : decode cX4_areOfThese 10 = .ok (.iconst 1, 1) := by decide +kernel
theorem dX4_areOfThese_11 : decode cX4_areOfThese 11 = .ok (.invokevirtual 41, 3) := by decide +kernel
theorem dX4_areOfThese_14 : decode cX4_areOfThese 14 = .ok (.istore 5, 2) := by decide +kernel
theorem dX4_areOfThese_16 : decode cX4_areOfThese 16 = .ok (.iload 4, 2) := by decide +kernel
theorem dX4_areOfThese_18 : decode cX4_areOfThese 18 = .ok (.iload_n 2, 1) := by decide +kernel
theorem dX4_areOfThese_19 : decode cX4_areOfThese 19 = .ok (.if_icmp .ne 9, 3) := by decide +kernel
theorem dX4_areOfThese_22 : decode cX4_areOfThese 22 = .ok (.iload 5, 2) := by decide +kernel
theorem dX4_areOfThese_24 : decode cX4_areOfThese 24 = .ok (.iload_n 3, 1) := by decide +kernel
theorem dX4_areOfThese_25 : decode cX4_areOfThese 25 = .ok (.if_icmp .eq 15, 3) := by decide +kernel
theorem dX4_areOfThese_28 : decode cX4_areOfThese 28 = .ok (.iload 4, 2) := by decide +kernel
theorem dX4_areOfThese_30 : decode cX4_areOfThese 30 = .ok (.iload_n 3, 1) := by decide +kernel
theorem dX4_areOfThese_31 : decode cX4_areOfThese 31 = .ok (.if_icmp .ne 13, 3) := by decide +kernel
theorem dX4_areOfThese_34 : decode cX4_areOfThese 34 = .ok (.iload 5, 2) := by decide +kernel
theorem dX4_areOfThese_36 : decode cX4_areOfThese 36 = .ok (.iload_n 2, 1) := by decide +kernel
theorem dX4_areOfThese_37 : decode cX4_areOfThese 37 = .ok (.if_icmp .ne 7, 3) := by decide +kernel
theorem dX4_areOfThese_40 : decode cX4_areOfThese 40 = .ok (.iconst 1, 1) := by decide +kernel
theorem dX4_areOfThese_41 : decode cX4_areOfThese 41 = .ok (.goto 4, 3) := by decide +kernel
theorem dX4_areOfThese_44 : decode cX4_areOfThese 44 = .ok (.iconst 0, 1) := by decide +kernel
theorem dX4_areOfThese_45 : decode cX4_areOfThese 45 = .ok (.ireturn, 1) := by decide +kernel
theorem dX4_hasPeace_0 : decode cX4_hasPeace 0 = .ok (.iconst 0, 1) := by decide +kernel
theorem dX4_hasPeace_1 : decode cX4_hasPeace 1 = .ok (.istore 5, 2) := by decide +kernel
theorem dX4_hasPeace_3 : decode cX4_hasPeace 3 = .ok (.iconst 0, 1) := by decide +kernel
theorem dX4_hasPeace_4 : decode cX4_hasPeace 4 = .ok (.istore 6, 2) := by decide +kernel
theorem dX4_hasPeace_6 : decode cX4_hasPeace 6 = .ok (.iload 6, 2) := by decide +kernel
theorem dX4_hasPeace_8 : decode cX4_hasPeace 8 = .ok (.aload_n 0, 1) := by decide +kernel
theorem dX4_hasPeace_9 : decode cX4_hasPeace 9 = .ok (.getfield 7, 3) := by decide +kernel
theorem dX4_hasPeace_12 : decode cX4_hasPeace 12 = .ok (.bipush 47, 2) := by decide +kernel
theorem dX4_hasPeace_14 : decode cX4_hasPeace 14 = .ok (.iaload, 1) := by decide +kernel
theorem dX4_hasPeace_15 : decode cX4_hasPeace 15 = .ok (.if_icmp .ge 88, 3) := by decide +kernel
theorem dX4_hasPeace_18 : decode cX4_hasPeace 18 = .ok (.iload 6, 2) := by decide +kernel
theorem dX4_hasPeace_20 : decode cX4_hasPeace 20 = .ok (.iload_n 3, 1) := by decide +kernel
theorem dX4_hasPeace_21 : decode cX4_hasPeace 21 = .ok (.if_icmp .eq 29, 3) := by decide +kernel
theorem dX4_hasPeace_24 : decode cX4_hasPeace 24 = .ok (.aload_n 0, 1) := by decide +kernel
theorem dX4_hasPeace_25 : decode cX4_hasPeace 25 = .ok (.iload 6, 2) := by decide +kernel
theorem dX4_hasPeace_27 : decode cX4_hasPeace 27 = .ok (.iload_n 1, 1) := by decide +kernel
theorem dX4_hasPeace_28 : decode cX4_hasPeace 28 = .ok (.iload_n 2, 1) := by decide +kernel
theorem dX4_hasPeace_29 : decode cX4_hasPeace 29 = .ok (.invokevirtual 44, 3) := by decide +kernel
theorem dX4_hasPeace_32 : decode cX4_hasPeace 32 = .ok (.ifCond .eq 18, 3) := by decide +kernel
theorem dX4_hasPeace_35 : decode cX4_hasPeace 35 = .ok (.aload_n 0, 1) := by decide +kernel
theorem dX4_hasPeace_36 : decode cX4_hasPeace 36 = .ok (.iload 6, 2) := by decide +kernel
theorem dX4_hasPeace_38 : decode cX4_hasPeace 38 = .ok (.iconst 4, 1) := by decide +kernel
theorem dX4_hasPeace_39 : decode cX4_hasPeace 39 = .ok (.invokevirtual 41, 3) := by decide +kernel
theorem dX4_hasPeace_42 : decode cX4_hasPeace 42 = .ok (.iconst 1, 1) := by decide +kernel
theorem dX4_hasPeace_43 : decode cX4_hasPeace 43 = .ok (.if_icmp .ne 7, 3) := by decide +kernel
theorem dX4_hasPeace_46 : decode cX4_hasPeace 46 = .ok (.iconst 1, 1) := by decide +kernel
theorem dX4_hasPeace_47 : decode cX4_hasPeace 47 = .ok (.goto 4, 3) := by decide +kernel
theorem dX4_hasPeace_50 : decode cX4_hasPeace 50 = .ok (.iconst 0, 1) := by decide +kernel
theorem dX4_hasPeace_51 : decode cX4_hasPeace 51 = .ok (.istore 7, 2) := by decide +kernel
theorem dX4_hasPeace_53 : decode cX4_hasPeace 53 = .ok (.iload 5, 2) := by decide +kernel
theorem dX4_hasPeace_55 : decode cX4_hasPeace 55 = .ok (.ifCond .ne 35, 3) := by decide +kernel
theorem dX4_hasPeace_58 : decode cX4_hasPeace 58 = .ok (.iload 7, 2) := by decide +kernel
theorem dX4_hasPeace_60 : decode cX4_hasPeace 60 = .ok (.ifCond .eq 34, 3) := by decide +kernel
theorem dX4_hasPeace_63 : decode cX4_hasPeace 63 = .ok (.aload_n 0, 1) := by decide +kernel
theorem dX4_hasPeace_64 : decode cX4_hasPeace 64 = .ok (.getfield 7, 3) := by decide +kernel
theorem dX4_hasPeace_67 : decode cX4_hasPeace 67 = .ok (.iconst 4, 1) := by decide +kernel
theorem dX4_hasPeace_68 : decode cX4_hasPeace 68 = .ok (.iaload, 1) := by decide +kernel
theorem dX4_hasPeace_69 : decode cX4_hasPeace 69 = .ok (.iload 4, 2) := by decide +kernel
theorem dX4_hasPeace_71 : decode cX4_hasPeace 71 = .ok (.iadd, 1) := by decide +kernel
theorem dX4_hasPeace_72 : decode cX4_hasPeace 72 = .ok (.aload_n 0, 1) := by decide +kernel
theorem dX4_hasPeace_73 : decode cX4_hasPeace 73 = .ok (.iload 6, 2) := by decide +kernel
theorem dX4_hasPeace_75 : decode cX4_hasPeace 75 = .ok (.bipush 7, 2) := by decide +kernel
theorem dX4_hasPeace_77 : decode cX4_hasPeace 77 = .ok (.invokevirtual 41, 3) := by decide +kernel
theorem dX4_hasPeace_80 : decode cX4_hasPeace 80 = .ok (.isub, 1) := by decide +kernel
theorem dX4_hasPeace_81 : decode cX4_hasPeace 81 = .ok (.aload_n 0, 1) := by decide +kernel
theorem dX4_hasPeace_82 : decode cX4_hasPeace 82 = .ok (.getfield 7, 3) := by decide +kernel
theorem dX4_hasPeace_85 : decode cX4_hasPeace 85 = .ok (.iconst 3, 1) := by decide +kernel
theorem dX4_hasPeace_86 : decode cX4_hasPeace 86 = .ok (.iaload, 1) := by decide +kernel
theorem dX4_hasPeace_87 : decode cX4_hasPeace 87 = .ok (.if_icmp .gt 7, 3) := by decide +kernel
theorem dX4_hasPeace_90 : decode cX4_hasPeace 90 = .ok (.iconst 1, 1) := by decide +kernel
theorem dX4_hasPeace_91 : decode cX4_hasPeace 91 = .ok (.goto 4, 3) := by decide +kernel
theorem dX4_hasPeace_94 : decode cX4_hasPeace 94 = .ok (.iconst 0, 1) := by decide +kernel
theorem dX4_hasPeace_95 : decode cX4_hasPeace 95 = .ok (.istore 5, 2) := by decide +kernel
theorem dX4_hasPeace_97 : decode cX4_hasPeace 97 = .ok (.iinc 6 1, 3) := by decide +kernel
theorem dX4_hasPeace_100 : decode cX4_hasPeace 100 = .ok (.goto (-94), 3) := by decide +kernel
theorem dX4_hasPeace_103 : decode cX4_hasPeace 103 = .ok (.iload 5, 2) := by decide +kernel
theorem dX4_hasPeace_105 : decode cX4_hasPeace 105 = .ok (.ireturn, 1) := by decide +kernel
theorem dX4_haveSeconds_0 : decode cX4_haveSeconds 0 = .ok (.aload_n 0, 1) := by decide +kernel
theorem dX4_haveSeconds_1 : decode cX4_haveSeconds 1 = .ok (.iload_n 1, 1) := by decide +kernel
theorem dX4_haveSeconds_2 : decode cX4_haveSeconds 2 = .ok (.iconst 2, 1) := by decide +kernel
theorem dX4_haveSeconds_3 : decode cX4_haveSeconds 3 = .ok (.invokevirtual 37, 3) := by decide +kernel
theorem dX4_haveSeconds_6 : decode cX4_haveSeconds 6 = .ok (.istore 4, 2) := by decide +kernel
theorem dX4_haveSeconds_8 : decode cX4_haveSeconds 8 = .ok (.aload_n 0, 1) := by decide +kernel
theorem dX4_haveSeconds_9 : decode cX4_haveSeconds 9 = .ok (.iload_n 2, 1) := by decide +kernel
theorem dX4_haveSeconds_10 : decode cX4_haveSeconds 10 = .ok (.iconst 2, 1) := by decide +kernel
theorem dX4_haveSeconds_11 : decode cX4_haveSeconds 11 = .ok (.invokevirtual 37, 3) := by decide +kernel
theorem dX4_haveSeconds_14 : decode cX4_haveSeconds 14 = .ok (.istore 5, 2) := by decide +kernel
theorem dX4_haveSeconds_16 : decode cX4_haveSeconds 16 = .ok (.iload 4, 2) := by decide +kernel
theorem dX4_haveSeconds_18 : decode cX4_haveSeconds 18 = .ok (.bipush (-6), 2) := by decide +kernel
theorem dX4_haveSeconds_20 : decode cX4_haveSeconds 20 = .ok (.if_icmp .eq 33, 3) := by decide +kernel
theorem dX4_haveSeconds_23 : decode cX4_haveSeconds 23 = .ok (.iload 5, 2) := by decide +kernel
theorem dX4_haveSeconds_25 : decode cX4_haveSeconds 25 = .ok (.bipush (-6), 2) := by decide +kernel
theorem dX4_haveSeconds_27 : decode cX4_haveSeconds 27 = .ok (.if_icmp .eq 26, 3) := by decide +kernel
theorem dX4_haveSeconds_30 : decode cX4_haveSeconds 30 = .ok (.iload 4, 2) := by decide +kernel
theorem dX4_haveSeconds_32 : decode cX4_haveSeconds 32 = .ok (.iload 5, 2) := by decide +kernel
theorem dX4_haveSeconds_34 : decode cX4_haveSeconds 34 = .ok (.if_icmp .eq 19, 3) := by decide +kernel
theorem dX4_haveSeconds_37 : decode cX4_haveSeconds 37 = .ok (.iload 4, 2) := by decide +kernel
theorem dX4_haveSeconds_39 : decode cX4_haveSeconds 39 = .ok (.iload_n 2, 1) := by decide +kernel
theorem dX4_haveSeconds_40 : decode cX4_haveSeconds 40 = .ok (.if_icmp .eq 13, 3) := by decide +kernel
theorem dX4_haveSeconds_43 : decode cX4_haveSeconds 43 = .ok (.iload 5, 2) := by decide +kernel
theorem dX4_haveSeconds_45 : decode cX4_haveSeconds 45 = .ok (.iload_n 1, 1) := by decide +kernel
theorem dX4_haveSeconds_46 : decode cX4_haveSeconds 46 = .ok (.if_icmp .eq 7, 3) := by decide +kernel
theorem dX4_haveSeconds_49 : decode cX4_haveSeconds 49 = .ok (.iconst 1, 1) := by decide +kernel
theorem dX4_haveSeconds_50 : decode cX4_haveSeconds 50 = .ok (.goto 4, 3) := by decide +kernel
theorem dX4_haveSeconds_53 : decode cX4_haveSeconds 53 = .ok (.iconst 0, 1) := by decide +kernel
theorem dX4_haveSeconds_54 : decode cX4_haveSeconds 54 = .ok (.istore 6, 2) := by decide +kernel
theorem dX4_haveSeconds_56 : decode cX4_haveSeconds 56 = .ok (.iload 6, 2) := by decide +kernel
theorem dX4_haveSeconds_58 : decode cX4_haveSeconds 58 = .ok (.ifCond .eq 28, 3) := by decide +kernel
theorem dX4_haveSeconds_61 : decode cX4_haveSeconds 61 = .ok (.aload_n 0, 1) := by decide +kernel
theorem dX4_haveSeconds_62 : decode cX4_haveSeconds 62 = .ok (.iload 4, 2) := by decide +kernel
theorem dX4_haveSeconds_64 : decode cX4_haveSeconds 64 = .ok (.iconst 1, 1) := by decide +kernel
theorem dX4_haveSeconds_65 : decode cX4_haveSeconds 65 = .ok (.invokevirtual 37, 3) := by decide +kernel
theorem dX4_haveSeconds_68 : decode cX4_haveSeconds 68 = .ok (.aload_n 0, 1) := by decide +kernel
theorem dX4_haveSeconds_69 : decode cX4_haveSeconds 69 = .ok (.iload 5, 2) := by decide +kernel
theorem dX4_haveSeconds_71 : decode cX4_haveSeconds 71 = .ok (.iconst 1, 1) := by decide +kernel
theorem dX4_haveSeconds_72 : decode cX4_haveSeconds 72 = .ok (.invokevirtual 37, 3) := by decide +kernel
theorem dX4_haveSeconds_75 : decode cX4_haveSeconds 75 = .ok (.iadd, 1) := by decide +kernel
theorem dX4_haveSeconds_76 : decode cX4_haveSeconds 76 = .ok (.iconst 2, 1) := by decide +kernel
theorem dX4_haveSeconds_77 : decode cX4_haveSeconds 77 = .ok (.iload_n 3, 1) := by decide +kernel
theorem dX4_haveSeconds_78 : decode cX4_haveSeconds 78 = .ok (.imul, 1) := by decide +kernel
theorem dX4_haveSeconds_79 : decode cX4_haveSeconds 79 = .ok (.if_icmp .lt 7, 3) := by decide +kernel
theorem dX4_haveSeconds_82 : decode cX4_haveSeconds 82 = .ok (.iconst 1, 1) := by decide +kernel
theorem dX4_haveSeconds_83 : decode cX4_haveSeconds 83 = .ok (.goto 4, 3) := by decide +kernel
theorem dX4_haveSeconds_86 : decode cX4_haveSeconds 86 = .ok (.iconst 0, 1) := by decide +kernel
theorem dX4_haveSeconds_87 : decode cX4_haveSeconds 87 = .ok (.ireturn, 1) := by decide +kernel
theorem dX4_waysFor_0 : decode cX4_waysFor 0 = .ok (.aload_n 0, 1) := by decide +kernel
theorem dX4_waysFor_1 : decode cX4_waysFor 1 = .ok (.iload_n 1, 1) := by decide +kernel
theorem dX4_waysFor_2 : decode cX4_waysFor 2 = .ok (.iconst 0, 1) := by decide +kernel
theorem dX4_waysFor_3 : decode cX4_waysFor 3 = .ok (.invokevirtual 37, 3) := by decide +kernel
theorem dX4_waysFor_6 : decode cX4_waysFor 6 = .ok (.iload_n 3, 1) := by decide +kernel
theorem dX4_waysFor_7 : decode cX4_waysFor 7 = .ok (.iadd, 1) := by decide +kernel
theorem dX4_waysFor_8 : decode cX4_waysFor 8 = .ok (.bipush 9, 2) := by decide +kernel
theorem dX4_waysFor_10 : decode cX4_waysFor 10 = .ok (.if_icmp .gt 7, 3) := by decide +kernel
theorem dX4_waysFor_13 : decode cX4_waysFor 13 = .ok (.iconst 1, 1) := by decide +kernel
theorem dX4_waysFor_14 : decode cX4_waysFor 14 = .ok (.goto 4, 3) := by decide +kernel
theorem dX4_waysFor_17 : decode cX4_waysFor 17 = .ok (.iconst 0, 1) := by decide +kernel
theorem dX4_waysFor_18 : decode cX4_waysFor 18 = .ok (.istore 7, 2) := by decide +kernel
theorem dX4_waysFor_20 : decode cX4_waysFor 20 = .ok (.iload 7, 2) := by decide +kernel
theorem dX4_waysFor_22 : decode cX4_waysFor 22 = .ok (.aload_n 0, 1) := by decide +kernel
theorem dX4_waysFor_23 : decode cX4_waysFor 23 = .ok (.iload_n 1, 1) := by decide +kernel
theorem dX4_waysFor_24 : decode cX4_waysFor 24 = .ok (.iload_n 2, 1) := by decide +kernel
theorem dX4_waysFor_25 : decode cX4_waysFor 25 = .ok (.iload_n 3, 1) := by decide +kernel
theorem dX4_waysFor_26 : decode cX4_waysFor 26 = .ok (.invokevirtual 47, 3) := by decide +kernel
theorem dX4_waysFor_29 : decode cX4_waysFor 29 = .ok (.ifCond .eq 7, 3) := by decide +kernel
theorem dX4_waysFor_32 : decode cX4_waysFor 32 = .ok (.iconst 2, 1) := by decide +kernel
theorem dX4_waysFor_33 : decode cX4_waysFor 33 = .ok (.goto 4, 3) := by decide +kernel
theorem dX4_waysFor_36 : decode cX4_waysFor 36 = .ok (.iconst 0, 1) := by decide +kernel
theorem dX4_waysFor_37 : decode cX4_waysFor 37 = .ok (.ior, 1) := by decide +kernel
theorem dX4_waysFor_38 : decode cX4_waysFor 38 = .ok (.istore 7, 2) := by decide +kernel
theorem dX4_waysFor_40 : decode cX4_waysFor 40 = .ok (.iload 7, 2) := by decide +kernel
theorem dX4_waysFor_42 : decode cX4_waysFor 42 = .ok (.iload 4, 2) := by decide +kernel
theorem dX4_waysFor_44 : decode cX4_waysFor 44 = .ok (.iload 6, 2) := by decide +kernel
theorem dX4_waysFor_46 : decode cX4_waysFor 46 = .ok (.iadd, 1) := by decide +kernel
theorem dX4_waysFor_47 : decode cX4_waysFor 47 = .ok (.aload_n 0, 1) := by decide +kernel
theorem dX4_waysFor_48 : decode cX4_waysFor 48 = .ok (.getfield 7, 3) := by decide +kernel
theorem dX4_waysFor_51 : decode cX4_waysFor 51 = .ok (.iconst 0, 1) := by decide +kernel
theorem dX4_waysFor_52 : decode cX4_waysFor 52 = .ok (.iaload, 1) := by decide +kernel
theorem dX4_waysFor_53 : decode cX4_waysFor 53 = .ok (.iload_n 3, 1) := by decide +kernel
theorem dX4_waysFor_54 : decode cX4_waysFor 54 = .ok (.imul, 1) := by decide +kernel
theorem dX4_waysFor_55 : decode cX4_waysFor 55 = .ok (.if_icmp .lt 7, 3) := by decide +kernel
theorem dX4_waysFor_58 : decode cX4_waysFor 58 = .ok (.iconst 4, 1) := by decide +kernel
theorem dX4_waysFor_59 : decode cX4_waysFor 59 = .ok (.goto 4, 3) := by decide +kernel
theorem dX4_waysFor_62 : decode cX4_waysFor 62 = .ok (.iconst 0, 1) := by decide +kernel
theorem dX4_waysFor_63 : decode cX4_waysFor 63 = .ok (.ior, 1) := by decide +kernel
theorem dX4_waysFor_64 : decode cX4_waysFor 64 = .ok (.istore 7, 2) := by decide +kernel
theorem dX4_waysFor_66 : decode cX4_waysFor 66 = .ok (.iload 7, 2) := by decide +kernel
theorem dX4_waysFor_68 : decode cX4_waysFor 68 = .ok (.aload_n 0, 1) := by decide +kernel
theorem dX4_waysFor_69 : decode cX4_waysFor 69 = .ok (.iload_n 1, 1) := by decide +kernel
theorem dX4_waysFor_70 : decode cX4_waysFor 70 = .ok (.iload 6, 2) := by decide +kernel
theorem dX4_waysFor_72 : decode cX4_waysFor 72 = .ok (.invokevirtual 50, 3) := by decide +kernel
theorem dX4_waysFor_75 : decode cX4_waysFor 75 = .ok (.ifCond .ne 13, 3) := by decide +kernel
theorem dX4_waysFor_78 : decode cX4_waysFor 78 = .ok (.aload_n 0, 1) := by decide +kernel
theorem dX4_waysFor_79 : decode cX4_waysFor 79 = .ok (.iload_n 2, 1) := by decide +kernel
theorem dX4_waysFor_80 : decode cX4_waysFor 80 = .ok (.iload 6, 2) := by decide +kernel
theorem dX4_waysFor_82 : decode cX4_waysFor 82 = .ok (.invokevirtual 50, 3) := by decide +kernel
theorem dX4_waysFor_85 : decode cX4_waysFor 85 = .ok (.ifCond .eq 8, 3) := by decide +kernel
theorem dX4_waysFor_88 : decode cX4_waysFor 88 = .ok (.bipush 8, 2) := by decide +kernel
theorem dX4_waysFor_90 : decode cX4_waysFor 90 = .ok (.goto 4, 3) := by decide +kernel
theorem dX4_waysFor_93 : decode cX4_waysFor 93 = .ok (.iconst 0, 1) := by decide +kernel
theorem dX4_waysFor_94 : decode cX4_waysFor 94 = .ok (.ior, 1) := by decide +kernel
theorem dX4_waysFor_95 : decode cX4_waysFor 95 = .ok (.istore 7, 2) := by decide +kernel
theorem dX4_waysFor_97 : decode cX4_waysFor 97 = .ok (.iload 7, 2) := by decide +kernel
theorem dX4_waysFor_99 : decode cX4_waysFor 99 = .ok (.aload_n 0, 1) := by decide +kernel
theorem dX4_waysFor_100 : decode cX4_waysFor 100 = .ok (.iload_n 1, 1) := by decide +kernel
theorem dX4_waysFor_101 : decode cX4_waysFor 101 = .ok (.iload_n 2, 1) := by decide +kernel
theorem dX4_waysFor_102 : decode cX4_waysFor 102 = .ok (.iload 5, 2) := by decide +kernel
theorem dX4_waysFor_104 : decode cX4_waysFor 104 = .ok (.iload 6, 2) := by decide +kernel
theorem dX4_waysFor_106 : decode cX4_waysFor 106 = .ok (.invokevirtual 54, 3) := by decide +kernel
theorem dX4_waysFor_109 : decode cX4_waysFor 109 = .ok (.ifCond .eq 8, 3) := by decide +kernel
theorem dX4_waysFor_112 : decode cX4_waysFor 112 = .ok (.bipush 16, 2) := by decide +kernel
theorem dX4_waysFor_114 : decode cX4_waysFor 114 = .ok (.goto 4, 3) := by decide +kernel
theorem dX4_waysFor_117 : decode cX4_waysFor 117 = .ok (.iconst 0, 1) := by decide +kernel
theorem dX4_waysFor_118 : decode cX4_waysFor 118 = .ok (.ior, 1) := by decide +kernel
theorem dX4_waysFor_119 : decode cX4_waysFor 119 = .ok (.istore 7, 2) := by decide +kernel
theorem dX4_waysFor_121 : decode cX4_waysFor 121 = .ok (.iload 7, 2) := by decide +kernel
theorem dX4_waysFor_123 : decode cX4_waysFor 123 = .ok (.aload_n 0, 1) := by decide +kernel
theorem dX4_waysFor_124 : decode cX4_waysFor 124 = .ok (.getfield 7, 3) := by decide +kernel
theorem dX4_waysFor_127 : decode cX4_waysFor 127 = .ok (.bipush 46, 2) := by decide +kernel
theorem dX4_waysFor_129 : decode cX4_waysFor 129 = .ok (.iaload, 1) := by decide +kernel
theorem dX4_waysFor_130 : decode cX4_waysFor 130 = .ok (.iand, 1) := by decide +kernel
theorem dX4_waysFor_131 : decode cX4_waysFor 131 = .ok (.ireturn, 1) := by decide +kernel
theorem dX4_since_0 : decode cX4_since 0 = .ok (.aload_n 0, 1) := by decide +kernel
theorem dX4_since_1 : decode cX4_since 1 = .ok (.getfield 7, 3) := by decide +kernel
theorem dX4_since_4 : decode cX4_since 4 = .ok (.iconst 4, 1) := by decide +kernel
theorem dX4_since_5 : decode cX4_since 5 = .ok (.iaload, 1) := by decide +kernel
theorem dX4_since_6 : decode cX4_since 6 = .ok (.aload_n 0, 1) := by decide +kernel
theorem dX4_since_7 : decode cX4_since 7 = .ok (.iload_n 1, 1) := by decide +kernel
theorem dX4_since_8 : decode cX4_since 8 = .ok (.iconst 3, 1) := by decide +kernel
theorem dX4_since_9 : decode cX4_since 9 = .ok (.invokevirtual 41, 3) := by decide +kernel
theorem dX4_since_12 : decode cX4_since 12 = .ok (.isub, 1) := by decide +kernel
theorem dX4_since_13 : decode cX4_since 13 = .ok (.ireturn, 1) := by decide +kernel
theorem dX4_waysOf_0 : decode cX4_waysOf 0 = .ok (.aload_n 0, 1) := by decide +kernel
theorem dX4_waysOf_1 : decode cX4_waysOf 1 = .ok (.iload_n 1, 1) := by decide +kernel
theorem dX4_waysOf_2 : decode cX4_waysOf 2 = .ok (.iconst 4, 1) := by decide +kernel
theorem dX4_waysOf_3 : decode cX4_waysOf 3 = .ok (.invokevirtual 41, 3) := by decide +kernel
theorem dX4_waysOf_6 : decode cX4_waysOf 6 = .ok (.ifCond .eq 7, 3) := by decide +kernel
theorem dX4_waysOf_9 : decode cX4_waysOf 9 = .ok (.iconst 0, 1) := by decide +kernel
theorem dX4_waysOf_10 : decode cX4_waysOf 10 = .ok (.goto 32, 3) := by decide +kernel
theorem dX4_waysOf_13 : decode cX4_waysOf 13 = .ok (.aload_n 0, 1) := by decide +kernel
theorem dX4_waysOf_14 : decode cX4_waysOf 14 = .ok (.aload_n 0, 1) := by decide +kernel
theorem dX4_waysOf_15 : decode cX4_waysOf 15 = .ok (.iload_n 1, 1) := by decide +kernel
theorem dX4_waysOf_16 : decode cX4_waysOf 16 = .ok (.iconst 0, 1) := by decide +kernel
theorem dX4_waysOf_17 : decode cX4_waysOf 17 = .ok (.invokevirtual 41, 3) := by decide +kernel
theorem dX4_waysOf_20 : decode cX4_waysOf 20 = .ok (.aload_n 0, 1) := by decide +kernel
theorem dX4_waysOf_21 : decode cX4_waysOf 21 = .ok (.iload_n 1, 1) := by decide +kernel
theorem dX4_waysOf_22 : decode cX4_waysOf 22 = .ok (.iconst 1, 1) := by decide +kernel
theorem dX4_waysOf_23 : decode cX4_waysOf 23 = .ok (.invokevirtual 41, 3) := by decide +kernel
theorem dX4_waysOf_26 : decode cX4_waysOf 26 = .ok (.aload_n 0, 1) := by decide +kernel
theorem dX4_waysOf_27 : decode cX4_waysOf 27 = .ok (.iload_n 1, 1) := by decide +kernel
theorem dX4_waysOf_28 : decode cX4_waysOf 28 = .ok (.iconst 2, 1) := by decide +kernel
theorem dX4_waysOf_29 : decode cX4_waysOf 29 = .ok (.invokevirtual 41, 3) := by decide +kernel
theorem dX4_waysOf_32 : decode cX4_waysOf 32 = .ok (.aload_n 0, 1) := by decide +kernel
theorem dX4_waysOf_33 : decode cX4_waysOf 33 = .ok (.iload_n 1, 1) := by decide +kernel
theorem dX4_waysOf_34 : decode cX4_waysOf 34 = .ok (.invokevirtual 58, 3) := by decide +kernel
theorem dX4_waysOf_37 : decode cX4_waysOf 37 = .ok (.iload_n 1, 1) := by decide +kernel
theorem dX4_waysOf_38 : decode cX4_waysOf 38 = .ok (.iload_n 2, 1) := by decide +kernel
theorem dX4_waysOf_39 : decode cX4_waysOf 39 = .ok (.invokevirtual 62, 3) := by decide +kernel
theorem dX4_waysOf_42 : decode cX4_waysOf 42 = .ok (.ireturn, 1) := by decide +kernel
theorem dX4_reason_0 : decode cX4_reason 0 = .ok (.aload_n 0, 1) := by decide +kernel
theorem dX4_reason_1 : decode cX4_reason 1 = .ok (.iload_n 1, 1) := by decide +kernel
theorem dX4_reason_2 : decode cX4_reason 2 = .ok (.iconst 4, 1) := by decide +kernel
theorem dX4_reason_3 : decode cX4_reason 3 = .ok (.invokevirtual 41, 3) := by decide +kernel
theorem dX4_reason_6 : decode cX4_reason 6 = .ok (.ifCond .eq 7, 3) := by decide +kernel
theorem dX4_reason_9 : decode cX4_reason 9 = .ok (.iconst 1, 1) := by decide +kernel
theorem dX4_reason_10 : decode cX4_reason 10 = .ok (.goto 37, 3) := by decide +kernel
theorem dX4_reason_13 : decode cX4_reason 13 = .ok (.aload_n 0, 1) := by decide +kernel
theorem dX4_reason_14 : decode cX4_reason 14 = .ok (.iload_n 1, 1) := by decide +kernel
theorem dX4_reason_15 : decode cX4_reason 15 = .ok (.iload_n 2, 1) := by decide +kernel
theorem dX4_reason_16 : decode cX4_reason 16 = .ok (.invokevirtual 66, 3) := by decide +kernel
theorem dX4_reason_19 : decode cX4_reason 19 = .ok (.ifCond .eq 7, 3) := by decide +kernel
theorem dX4_reason_22 : decode cX4_reason 22 = .ok (.iconst 2, 1) := by decide +kernel
theorem dX4_reason_23 : decode cX4_reason 23 = .ok (.goto 24, 3) := by decide +kernel
theorem dX4_reason_26 : decode cX4_reason 26 = .ok (.aload_n 0, 1) := by decide +kernel
theorem dX4_reason_27 : decode cX4_reason 27 = .ok (.iload_n 1, 1) := by decide +kernel
theorem dX4_reason_28 : decode cX4_reason 28 = .ok (.invokevirtual 58, 3) := by decide +kernel
theorem dX4_reason_31 : decode cX4_reason 31 = .ok (.iload_n 2, 1) := by decide +kernel
theorem dX4_reason_32 : decode cX4_reason 32 = .ok (.iadd, 1) := by decide +kernel
theorem dX4_reason_33 : decode cX4_reason 33 = .ok (.aload_n 0, 1) := by decide +kernel
theorem dX4_reason_34 : decode cX4_reason 34 = .ok (.getfield 7, 3) := by decide +kernel
theorem dX4_reason_37 : decode cX4_reason 37 = .ok (.iconst 1, 1) := by decide +kernel
theorem dX4_reason_38 : decode cX4_reason 38 = .ok (.iaload, 1) := by decide +kernel
theorem dX4_reason_39 : decode cX4_reason 39 = .ok (.if_icmp .ge 7, 3) := by decide +kernel
theorem dX4_reason_42 : decode cX4_reason 42 = .ok (.iconst 3, 1) := by decide +kernel
theorem dX4_reason_43 : decode cX4_reason 43 = .ok (.goto 4, 3) := by decide +kernel
theorem dX4_reason_46 : decode cX4_reason 46 = .ok (.iconst 0, 1) := by decide +kernel
theorem dX4_reason_47 : decode cX4_reason 47 = .ok (.ireturn, 1) := by decide +kernel
theorem dX4_skill_0 : decode cX4_skill 0 = .ok (.iconst 2, 1) := by decide +kernel
theorem dX4_skill_1 : decode cX4_skill 1 = .ok (.aload_n 0, 1) := by decide +kernel
theorem dX4_skill_2 : decode cX4_skill 2 = .ok (.iload_n 1, 1) := by decide +kernel
theorem dX4_skill_3 : decode cX4_skill 3 = .ok (.iconst 1, 1) := by decide +kernel
theorem dX4_skill_4 : decode cX4_skill 4 = .ok (.invokevirtual 37, 3) := by decide +kernel
theorem dX4_skill_7 : decode cX4_skill 7 = .ok (.imul, 1) := by decide +kernel
theorem dX4_skill_8 : decode cX4_skill 8 = .ok (.aload_n 0, 1) := by decide +kernel
theorem dX4_skill_9 : decode cX4_skill 9 = .ok (.iload_n 1, 1) := by decide +kernel
theorem dX4_skill_10 : decode cX4_skill 10 = .ok (.iconst 0, 1) := by decide +kernel
theorem dX4_skill_11 : decode cX4_skill 11 = .ok (.invokevirtual 37, 3) := by decide +kernel
theorem dX4_skill_14 : decode cX4_skill 14 = .ok (.iadd, 1) := by decide +kernel
theorem dX4_skill_15 : decode cX4_skill 15 = .ok (.ireturn, 1) := by decide +kernel
theorem dX4_winnerOf_0 : decode cX4_winnerOf 0 = .ok (.aload_n 0, 1) := by decide +kernel
theorem dX4_winnerOf_1 : decode cX4_winnerOf 1 = .ok (.iload_n 1, 1) := by decide +kernel
theorem dX4_winnerOf_2 : decode cX4_winnerOf 2 = .ok (.iconst 0, 1) := by decide +kernel
theorem dX4_winnerOf_3 : decode cX4_winnerOf 3 = .ok (.invokevirtual 41, 3) := by decide +kernel
theorem dX4_winnerOf_6 : decode cX4_winnerOf 6 = .ok (.istore_n 2, 1) := by decide +kernel
theorem dX4_winnerOf_7 : decode cX4_winnerOf 7 = .ok (.aload_n 0, 1) := by decide +kernel
theorem dX4_winnerOf_8 : decode cX4_winnerOf 8 = .ok (.iload_n 1, 1) := by decide +kernel
theorem dX4_winnerOf_9 : decode cX4_winnerOf 9 = .ok (.iconst 1, 1) := by decide +kernel
theorem dX4_winnerOf_10 : decode cX4_winnerOf 10 = .ok (.invokevirtual 41, 3) := by decide +kernel
theorem dX4_winnerOf_13 : decode cX4_winnerOf 13 = .ok (.istore_n 3, 1) := by decide +kernel
theorem dX4_winnerOf_14 : decode cX4_winnerOf 14 = .ok (.aload_n 0, 1) := by decide +kernel
theorem dX4_winnerOf_15 : decode cX4_winnerOf 15 = .ok (.iload_n 2, 1) := by decide +kernel
theorem dX4_winnerOf_16 : decode cX4_winnerOf 16 = .ok (.invokevirtual 69, 3) := by decide +kernel
theorem dX4_winnerOf_19 : decode cX4_winnerOf 19 = .ok (.aload_n 0, 1) := by decide +kernel
theorem dX4_winnerOf_20 : decode cX4_winnerOf 20 = .ok (.iload_n 3, 1) := by decide +kernel
theorem dX4_winnerOf_21 : decode cX4_winnerOf 21 = .ok (.invokevirtual 69, 3) := by decide +kernel
theorem dX4_winnerOf_24 : decode cX4_winnerOf 24 = .ok (.if_icmp .le 7, 3) := by decide +kernel
theorem dX4_winnerOf_27 : decode cX4_winnerOf 27 = .ok (.iload_n 2, 1) := by decide +kernel
theorem dX4_winnerOf_28 : decode cX4_winnerOf 28 = .ok (.goto 4, 3) := by decide +kernel
theorem dX4_winnerOf_31 : decode cX4_winnerOf 31 = .ok (.iload_n 3, 1) := by decide +kernel
theorem dX4_winnerOf_32 : decode cX4_winnerOf 32 = .ok (.ireturn, 1) := by decide +kernel
theorem dX4_tell_0 : decode cX4_tell 0 = .ok (.aload_n 0, 1) := by decide +kernel
theorem dX4_tell_1 : decode cX4_tell 1 = .ok (.getfield 7, 3) := by decide +kernel
theorem dX4_tell_4 : decode cX4_tell 4 = .ok (.sipush 144, 3) := by decide +kernel
theorem dX4_tell_7 : decode cX4_tell 7 = .ok (.dup2, 1) := by decide +kernel
theorem dX4_tell_8 : decode cX4_tell 8 = .ok (.iaload, 1) := by decide +kernel
theorem dX4_tell_9 : decode cX4_tell 9 = .ok (.aload_n 0, 1) := by decide +kernel
theorem dX4_tell_10 : decode cX4_tell 10 = .ok (.getfield 7, 3) := by decide +kernel
theorem dX4_tell_13 : decode cX4_tell 13 = .ok (.sipush 144, 3) := by decide +kernel
theorem dX4_tell_16 : decode cX4_tell 16 = .ok (.iaload, 1) := by decide +kernel
theorem dX4_tell_17 : decode cX4_tell 17 = .ok (.bipush 12, 2) := by decide +kernel
theorem dX4_tell_19 : decode cX4_tell 19 = .ok (.if_icmp .ge 7, 3) := by decide +kernel
theorem dX4_tell_22 : decode cX4_tell 22 = .ok (.iconst 1, 1) := by decide +kernel
theorem dX4_tell_23 : decode cX4_tell 23 = .ok (.goto 4, 3) := by decide +kernel
theorem dX4_tell_26 : decode cX4_tell 26 = .ok (.iconst 0, 1) := by decide +kernel
theorem dX4_tell_27 : decode cX4_tell 27 = .ok (.iadd, 1) := by decide +kernel
theorem dX4_tell_28 : decode cX4_tell 28 = .ok (.iastore, 1) := by decide +kernel
theorem dX4_tell_29 : decode cX4_tell 29 = .ok (.sipush 180, 3) := by decide +kernel
theorem dX4_tell_32 : decode cX4_tell 32 = .ok (.istore_n 3, 1) := by decide +kernel
theorem dX4_tell_33 : decode cX4_tell 33 = .ok (.iload_n 3, 1) := by decide +kernel
theorem dX4_tell_34 : decode cX4_tell 34 = .ok (.sipush 148, 3) := by decide +kernel
theorem dX4_tell_37 : decode cX4_tell 37 = .ok (.if_icmp .lt 23, 3) := by decide +kernel
theorem dX4_tell_40 : decode cX4_tell 40 = .ok (.aload_n 0, 1) := by decide +kernel
theorem dX4_tell_41 : decode cX4_tell 41 = .ok (.getfield 7, 3) := by decide +kernel
theorem dX4_tell_44 : decode cX4_tell 44 = .ok (.iload_n 3, 1) := by decide +kernel
theorem dX4_tell_45 : decode cX4_tell 45 = .ok (.aload_n 0, 1) := by decide +kernel
theorem dX4_tell_46 : decode cX4_tell 46 = .ok (.getfield 7, 3) := by decide +kernel
theorem dX4_tell_49 : decode cX4_tell 49 = .ok (.iload_n 3, 1) := by decide +kernel
theorem dX4_tell_50 : decode cX4_tell 50 = .ok (.iconst 3, 1) := by decide +kernel
theorem dX4_tell_51 : decode cX4_tell 51 = .ok (.isub, 1) := by decide +kernel
theorem dX4_tell_52 : decode cX4_tell 52 = .ok (.iaload, 1) := by decide +kernel
theorem dX4_tell_53 : decode cX4_tell 53 = .ok (.iastore, 1) := by decide +kernel
theorem dX4_tell_54 : decode cX4_tell 54 = .ok (.iinc 3 (-1), 3) := by decide +kernel
theorem dX4_tell_57 : decode cX4_tell 57 = .ok (.goto (-24), 3) := by decide +kernel
theorem dX4_tell_60 : decode cX4_tell 60 = .ok (.aload_n 0, 1) := by decide +kernel
theorem dX4_tell_61 : decode cX4_tell 61 = .ok (.getfield 7, 3) := by decide +kernel
theorem dX4_tell_64 : decode cX4_tell 64 = .ok (.sipush 145, 3) := by decide +kernel
theorem dX4_tell_67 : decode cX4_tell 67 = .ok (.iload_n 1, 1) := by decide +kernel
theorem dX4_tell_68 : decode cX4_tell 68 = .ok (.iastore, 1) := by decide +kernel
theorem dX4_tell_69 : decode cX4_tell 69 = .ok (.aload_n 0, 1) := by decide +kernel
theorem dX4_tell_70 : decode cX4_tell 70 = .ok (.getfield 7, 3) := by decide +kernel
theorem dX4_tell_73 : decode cX4_tell 73 = .ok (.sipush 146, 3) := by decide +kernel
theorem dX4_tell_76 : decode cX4_tell 76 = .ok (.aload_n 0, 1) := by decide +kernel
theorem dX4_tell_77 : decode cX4_tell 77 = .ok (.getfield 7, 3) := by decide +kernel
theorem dX4_tell_80 : decode cX4_tell 80 = .ok (.iconst 4, 1) := by decide +kernel
theorem dX4_tell_81 : decode cX4_tell 81 = .ok (.iaload, 1) := by decide +kernel
theorem dX4_tell_82 : decode cX4_tell 82 = .ok (.iastore, 1) := by decide +kernel
theorem dX4_tell_83 : decode cX4_tell 83 = .ok (.aload_n 0, 1) := by decide +kernel
theorem dX4_tell_84 : decode cX4_tell 84 = .ok (.getfield 7, 3) := by decide +kernel
theorem dX4_tell_87 : decode cX4_tell 87 = .ok (.sipush 147, 3) := by decide +kernel
theorem dX4_tell_90 : decode cX4_tell 90 = .ok (.iload_n 2, 1) := by decide +kernel
theorem dX4_tell_91 : decode cX4_tell 91 = .ok (.iastore, 1) := by decide +kernel
theorem dX4_tell_92 : decode cX4_tell 92 = .ok (.return_, 1) := by decide +kernel
theorem dX4_change_0 : decode cX4_change 0 = .ok (.aload_n 0, 1) := by decide +kernel
theorem dX4_change_1 : decode cX4_change 1 = .ok (.iload_n 1, 1) := by decide +kernel
theorem dX4_change_2 : decode cX4_change 2 = .ok (.iload_n 2, 1) := by decide +kernel
theorem dX4_change_3 : decode cX4_change 3 = .ok (.invokevirtual 37, 3) := by decide +kernel
theorem dX4_change_6 : decode cX4_change 6 = .ok (.iload_n 3, 1) := by decide +kernel
theorem dX4_change_7 : decode cX4_change 7 = .ok (.iadd, 1) := by decide +kernel
theorem dX4_change_8 : decode cX4_change 8 = .ok (.istore 4, 2) := by decide +kernel
theorem dX4_change_10 : decode cX4_change 10 = .ok (.aload_n 0, 1) := by decide +kernel
theorem dX4_change_11 : decode cX4_change 11 = .ok (.getfield 7, 3) := by decide +kernel
theorem dX4_change_14 : decode cX4_change 14 = .ok (.bipush 6, 2) := by decide +kernel
theorem dX4_change_16 : decode cX4_change 16 = .ok (.iconst 4, 1) := by decide +kernel
theorem dX4_change_17 : decode cX4_change 17 = .ok (.iload_n 1, 1) := by decide +kernel
theorem dX4_change_18 : decode cX4_change 18 = .ok (.imul, 1) := by decide +kernel
theorem dX4_change_19 : decode cX4_change 19 = .ok (.iadd, 1) := by decide +kernel
theorem dX4_change_20 : decode cX4_change 20 = .ok (.iload_n 2, 1) := by decide +kernel
theorem dX4_change_21 : decode cX4_change 21 = .ok (.iadd, 1) := by decide +kernel
theorem dX4_change_22 : decode cX4_change 22 = .ok (.iload 4, 2) := by decide +kernel
theorem dX4_change_24 : decode cX4_change 24 = .ok (.ifCond .ge 7, 3) := by decide +kernel
theorem dX4_change_27 : decode cX4_change 27 = .ok (.iconst 0, 1) := by decide +kernel
theorem dX4_change_28 : decode cX4_change 28 = .ok (.goto 17, 3) := by decide +kernel
theorem dX4_change_31 : decode cX4_change 31 = .ok (.iload 4, 2) := by decide +kernel
theorem dX4_change_33 : decode cX4_change 33 = .ok (.bipush 9, 2) := by decide +kernel
theorem dX4_change_35 : decode cX4_change 35 = .ok (.if_icmp .le 8, 3) := by decide +kernel
theorem dX4_change_38 : decode cX4_change 38 = .ok (.bipush 9, 2) := by decide +kernel
theorem dX4_change_40 : decode cX4_change 40 = .ok (.goto 5, 3) := by decide +kernel
theorem dX4_change_43 : decode cX4_change 43 = .ok (.iload 4, 2) := by decide +kernel
theorem dX4_change_45 : decode cX4_change 45 = .ok (.iastore, 1) := by decide +kernel
theorem dX4_change_46 : decode cX4_change 46 = .ok (.return_, 1) := by decide +kernel
theorem dX4_oath_0 : decode cX4_oath 0 = .ok (.aload_n 0, 1) := by decide +kernel
theorem dX4_oath_1 : decode cX4_oath 1 = .ok (.getfield 7, 3) := by decide +kernel
theorem dX4_oath_4 : decode cX4_oath 4 = .ok (.iconst 4, 1) := by decide +kernel
theorem dX4_oath_5 : decode cX4_oath 5 = .ok (.iaload, 1) := by decide +kernel
theorem dX4_oath_6 : decode cX4_oath 6 = .ok (.aload_n 0, 1) := by decide +kernel
theorem dX4_oath_7 : decode cX4_oath 7 = .ok (.getfield 7, 3) := by decide +kernel
theorem dX4_oath_10 : decode cX4_oath 10 = .ok (.iconst 2, 1) := by decide +kernel
theorem dX4_oath_11 : decode cX4_oath 11 = .ok (.iaload, 1) := by decide +kernel
theorem dX4_oath_12 : decode cX4_oath 12 = .ok (.iadd, 1) := by decide +kernel
theorem dX4_oath_13 : decode cX4_oath 13 = .ok (.istore_n 2, 1) := by decide +kernel
theorem dX4_oath_14 : decode cX4_oath 14 = .ok (.aload_n 0, 1) := by decide +kernel
theorem dX4_oath_15 : decode cX4_oath 15 = .ok (.getfield 7, 3) := by decide +kernel
theorem dX4_oath_18 : decode cX4_oath 18 = .ok (.bipush 6, 2) := by decide +kernel
theorem dX4_oath_20 : decode cX4_oath 20 = .ok (.iconst 4, 1) := by decide +kernel
theorem dX4_oath_21 : decode cX4_oath 21 = .ok (.iload_n 1, 1) := by decide +kernel
theorem dX4_oath_22 : decode cX4_oath 22 = .ok (.imul, 1) := by decide +kernel
theorem dX4_oath_23 : decode cX4_oath 23 = .ok (.iadd, 1) := by decide +kernel
theorem dX4_oath_24 : decode cX4_oath 24 = .ok (.iconst 3, 1) := by decide +kernel
theorem dX4_oath_25 : decode cX4_oath 25 = .ok (.iadd, 1) := by decide +kernel
theorem dX4_oath_26 : decode cX4_oath 26 = .ok (.iload_n 2, 1) := by decide +kernel
theorem dX4_oath_27 : decode cX4_oath 27 = .ok (.aload_n 0, 1) := by decide +kernel
theorem dX4_oath_28 : decode cX4_oath 28 = .ok (.iload_n 1, 1) := by decide +kernel
theorem dX4_oath_29 : decode cX4_oath 29 = .ok (.iconst 3, 1) := by decide +kernel
theorem dX4_oath_30 : decode cX4_oath 30 = .ok (.invokevirtual 37, 3) := by decide +kernel
theorem dX4_oath_33 : decode cX4_oath 33 = .ok (.if_icmp .le 7, 3) := by decide +kernel
theorem dX4_oath_36 : decode cX4_oath 36 = .ok (.iload_n 2, 1) := by decide +kernel
theorem dX4_oath_37 : decode cX4_oath 37 = .ok (.goto 9, 3) := by decide +kernel
theorem dX4_oath_40 : decode cX4_oath 40 = .ok (.aload_n 0, 1) := by decide +kernel
theorem dX4_oath_41 : decode cX4_oath 41 = .ok (.iload_n 1, 1) := by decide +kernel
theorem dX4_oath_42 : decode cX4_oath 42 = .ok (.iconst 3, 1) := by decide +kernel
theorem dX4_oath_43 : decode cX4_oath 43 = .ok (.invokevirtual 37, 3) := by decide +kernel
theorem dX4_oath_46 : decode cX4_oath 46 = .ok (.iastore, 1) := by decide +kernel
theorem dX4_oath_47 : decode cX4_oath 47 = .ok (.return_, 1) := by decide +kernel
theorem dX4_quarrelsThat_0 : decode cX4_quarrelsThat 0 = .ok (.iconst 0, 1) := by decide +kernel
theorem dX4_quarrelsThat_1 : decode cX4_quarrelsThat 1 = .ok (.istore_n 2, 1) := by decide +kernel
theorem dX4_quarrelsThat_2 : decode cX4_quarrelsThat 2 = .ok (.iconst 0, 1) := by decide +kernel
theorem dX4_quarrelsThat_3 : decode cX4_quarrelsThat 3 = .ok (.istore_n 3, 1) := by decide +kernel
theorem dX4_quarrelsThat_4 : decode cX4_quarrelsThat 4 = .ok (.iload_n 3, 1) := by decide +kernel
theorem dX4_quarrelsThat_5 : decode cX4_quarrelsThat 5 = .ok (.aload_n 0, 1) := by decide +kernel
theorem dX4_quarrelsThat_6 : decode cX4_quarrelsThat 6 = .ok (.getfield 7, 3) := by decide +kernel
theorem dX4_quarrelsThat_9 : decode cX4_quarrelsThat 9 = .ok (.bipush 47, 2) := by decide +kernel
theorem dX4_quarrelsThat_11 : decode cX4_quarrelsThat 11 = .ok (.iaload, 1) := by decide +kernel
theorem dX4_quarrelsThat_12 : decode cX4_quarrelsThat 12 = .ok (.if_icmp .ge 29, 3) := by decide +kernel
theorem dX4_quarrelsThat_15 : decode cX4_quarrelsThat 15 = .ok (.iload_n 2, 1) := by decide +kernel
theorem dX4_quarrelsThat_16 : decode cX4_quarrelsThat 16 = .ok (.aload_n 0, 1) := by decide +kernel
theorem dX4_quarrelsThat_17 : decode cX4_quarrelsThat 17 = .ok (.iload_n 3, 1) := by decide +kernel
theorem dX4_quarrelsThat_18 : decode cX4_quarrelsThat 18 = .ok (.iconst 4, 1) := by decide +kernel
theorem dX4_quarrelsThat_19 : decode cX4_quarrelsThat 19 = .ok (.invokevirtual 41, 3) := by decide +kernel
theorem dX4_quarrelsThat_22 : decode cX4_quarrelsThat 22 = .ok (.iload_n 1, 1) := by decide +kernel
theorem dX4_quarrelsThat_23 : decode cX4_quarrelsThat 23 = .ok (.if_icmp .ne 9, 3) := by decide +kernel
theorem dX4_quarrelsThat_26 : decode cX4_quarrelsThat 26 = .ok (.iconst 1, 1) := by decide +kernel
theorem dX4_quarrelsThat_27 : decode cX4_quarrelsThat 27 = .ok (.iload_n 3, 1) := by decide +kernel
theorem dX4_quarrelsThat_28 : decode cX4_quarrelsThat 28 = .ok (.ishl, 1) := by decide +kernel
theorem dX4_quarrelsThat_29 : decode cX4_quarrelsThat 29 = .ok (.goto 4, 3) := by decide +kernel
theorem dX4_quarrelsThat_32 : decode cX4_quarrelsThat 32 = .ok (.iconst 0, 1) := by decide +kernel
theorem dX4_quarrelsThat_33 : decode cX4_quarrelsThat 33 = .ok (.ior, 1) := by decide +kernel
theorem dX4_quarrelsThat_34 : decode cX4_quarrelsThat 34 = .ok (.istore_n 2, 1) := by decide +kernel
theorem dX4_quarrelsThat_35 : decode cX4_quarrelsThat 35 = .ok (.iinc 3 1, 3) := by decide +kernel
theorem dX4_quarrelsThat_38 : decode cX4_quarrelsThat 38 = .ok (.goto (-34), 3) := by decide +kernel
theorem dX4_quarrelsThat_41 : decode cX4_quarrelsThat 41 = .ok (.iload_n 2, 1) := by decide +kernel
theorem dX4_quarrelsThat_42 : decode cX4_quarrelsThat 42 = .ok (.ireturn, 1) := by decide +kernel
theorem dX4_size_0 : decode cX4_size 0 = .ok (.iconst 0, 1) := by decide +kernel
theorem dX4_size_1 : decode cX4_size 1 = .ok (.istore_n 1, 1) := by decide +kernel
theorem dX4_size_2 : decode cX4_size 2 = .ok (.iconst 0, 1) := by decide +kernel
theorem dX4_size_3 : decode cX4_size 3 = .ok (.istore_n 2, 1) := by decide +kernel
theorem dX4_size_4 : decode cX4_size 4 = .ok (.iload_n 2, 1) := by decide +kernel
theorem dX4_size_5 : decode cX4_size 5 = .ok (.bipush 16, 2) := by decide +kernel
theorem dX4_size_7 : decode cX4_size 7 = .ok (.if_icmp .ge 17, 3) := by decide +kernel
theorem dX4_size_10 : decode cX4_size 10 = .ok (.iload_n 1, 1) := by decide +kernel
theorem dX4_size_11 : decode cX4_size 11 = .ok (.iload_n 0, 1) := by decide +kernel
theorem dX4_size_12 : decode cX4_size 12 = .ok (.iload_n 2, 1) := by decide +kernel
theorem dX4_size_13 : decode cX4_size 13 = .ok (.ishr, 1) := by decide +kernel
theorem dX4_size_14 : decode cX4_size 14 = .ok (.iconst 1, 1) := by decide +kernel
theorem dX4_size_15 : decode cX4_size 15 = .ok (.iand, 1) := by decide +kernel
theorem dX4_size_16 : decode cX4_size 16 = .ok (.iadd, 1) := by decide +kernel
theorem dX4_size_17 : decode cX4_size 17 = .ok (.istore_n 1, 1) := by decide +kernel
theorem dX4_size_18 : decode cX4_size 18 = .ok (.iinc 2 1, 3) := by decide +kernel
theorem dX4_size_21 : decode cX4_size 21 = .ok (.goto (-17), 3) := by decide +kernel
theorem dX4_size_24 : decode cX4_size 24 = .ok (.iload_n 1, 1) := by decide +kernel
theorem dX4_size_25 : decode cX4_size 25 = .ok (.ireturn, 1) := by decide +kernel
theorem dX4_due_0 : decode cX4_due 0 = .ok (.iconst 0, 1) := by decide +kernel
theorem dX4_due_1 : decode cX4_due 1 = .ok (.istore_n 1, 1) := by decide +kernel
theorem dX4_due_2 : decode cX4_due 2 = .ok (.iconst 0, 1) := by decide +kernel
theorem dX4_due_3 : decode cX4_due 3 = .ok (.istore_n 2, 1) := by decide +kernel
theorem dX4_due_4 : decode cX4_due 4 = .ok (.iload_n 2, 1) := by decide +kernel
theorem dX4_due_5 : decode cX4_due 5 = .ok (.aload_n 0, 1) := by decide +kernel
theorem dX4_due_6 : decode cX4_due 6 = .ok (.getfield 7, 3) := by decide +kernel
theorem dX4_due_9 : decode cX4_due 9 = .ok (.bipush 47, 2) := by decide +kernel
theorem dX4_due_11 : decode cX4_due 11 = .ok (.iaload, 1) := by decide +kernel
theorem dX4_due_12 : decode cX4_due 12 = .ok (.if_icmp .ge 28, 3) := by decide +kernel
theorem dX4_due_15 : decode cX4_due 15 = .ok (.iload_n 1, 1) := by decide +kernel
theorem dX4_due_16 : decode cX4_due 16 = .ok (.aload_n 0, 1) := by decide +kernel
theorem dX4_due_17 : decode cX4_due 17 = .ok (.iload_n 2, 1) := by decide +kernel
theorem dX4_due_18 : decode cX4_due 18 = .ok (.iconst 0, 1) := by decide +kernel
theorem dX4_due_19 : decode cX4_due 19 = .ok (.invokevirtual 72, 3) := by decide +kernel
theorem dX4_due_22 : decode cX4_due 22 = .ok (.ifCond .ne 9, 3) := by decide +kernel
theorem dX4_due_25 : decode cX4_due 25 = .ok (.iconst 1, 1) := by decide +kernel
theorem dX4_due_26 : decode cX4_due 26 = .ok (.iload_n 2, 1) := by decide +kernel
theorem dX4_due_27 : decode cX4_due 27 = .ok (.ishl, 1) := by decide +kernel
theorem dX4_due_28 : decode cX4_due 28 = .ok (.goto 4, 3) := by decide +kernel
theorem dX4_due_31 : decode cX4_due 31 = .ok (.iconst 0, 1) := by decide +kernel
theorem dX4_due_32 : decode cX4_due 32 = .ok (.ior, 1) := by decide +kernel
theorem dX4_due_33 : decode cX4_due 33 = .ok (.istore_n 1, 1) := by decide +kernel
theorem dX4_due_34 : decode cX4_due 34 = .ok (.iinc 2 1, 3) := by decide +kernel
theorem dX4_due_37 : decode cX4_due 37 = .ok (.goto (-33), 3) := by decide +kernel
theorem dX4_due_40 : decode cX4_due 40 = .ok (.iload_n 1, 1) := by decide +kernel
theorem dX4_due_41 : decode cX4_due 41 = .ok (.ireturn, 1) := by decide +kernel
theorem dX4_comes_0 : decode cX4_comes 0 = .ok (.iload_n 1, 1) := by decide +kernel
theorem dX4_comes_1 : decode cX4_comes 1 = .ok (.iconst 0, 1) := by decide +kernel
theorem dX4_comes_2 : decode cX4_comes 2 = .ok (.bipush 9, 2) := by decide +kernel
theorem dX4_comes_4 : decode cX4_comes 4 = .ok (.invokestatic 33, 3) := by decide +kernel
theorem dX4_comes_7 : decode cX4_comes 7 = .ok (.ifCond .eq 13, 3) := by decide +kernel
theorem dX4_comes_10 : decode cX4_comes 10 = .ok (.iload_n 2, 1) := by decide +kernel
theorem dX4_comes_11 : decode cX4_comes 11 = .ok (.iconst 0, 1) := by decide +kernel
theorem dX4_comes_12 : decode cX4_comes 12 = .ok (.bipush 9, 2) := by decide +kernel
theorem dX4_comes_14 : decode cX4_comes 14 = .ok (.invokestatic 33, 3) := by decide +kernel
theorem dX4_comes_17 : decode cX4_comes 17 = .ok (.ifCond .ne 6, 3) := by decide +kernel
theorem dX4_comes_20 : decode cX4_comes 20 = .ok (.bipush (-2), 2) := by decide +kernel
theorem dX4_comes_22 : decode cX4_comes 22 = .ok (.ireturn, 1) := by decide +kernel
theorem dX4_comes_23 : decode cX4_comes 23 = .ok (.aload_n 0, 1) := by decide +kernel
theorem dX4_comes_24 : decode cX4_comes 24 = .ok (.getfield 7, 3) := by decide +kernel
theorem dX4_comes_27 : decode cX4_comes 27 = .ok (.iconst 5, 1) := by decide +kernel
theorem dX4_comes_28 : decode cX4_comes 28 = .ok (.iaload, 1) := by decide +kernel
theorem dX4_comes_29 : decode cX4_comes 29 = .ok (.bipush 10, 2) := by decide +kernel
theorem dX4_comes_31 : decode cX4_comes 31 = .ok (.if_icmp .ne 6, 3) := by decide +kernel
theorem dX4_comes_34 : decode cX4_comes 34 = .ok (.bipush (-4), 2) := by decide +kernel
theorem dX4_comes_36 : decode cX4_comes 36 = .ok (.ireturn, 1) := by decide +kernel
theorem dX4_comes_37 : decode cX4_comes 37 = .ok (.bipush 6, 2) := by decide +kernel
theorem dX4_comes_39 : decode cX4_comes 39 = .ok (.iconst 4, 1) := by decide +kernel
theorem dX4_comes_40 : decode cX4_comes 40 = .ok (.aload_n 0, 1) := by decide +kernel
theorem dX4_comes_41 : decode cX4_comes 41 = .ok (.getfield 7, 3) := by decide +kernel
theorem dX4_comes_44 : decode cX4_comes 44 = .ok (.iconst 5, 1) := by decide +kernel
theorem dX4_comes_45 : decode cX4_comes 45 = .ok (.iaload, 1) := by decide +kernel
theorem dX4_comes_46 : decode cX4_comes 46 = .ok (.imul, 1) := by decide +kernel
theorem dX4_comes_47 : decode cX4_comes 47 = .ok (.iadd, 1) := by decide +kernel
theorem dX4_comes_48 : decode cX4_comes 48 = .ok (.istore_n 3, 1) := by decide +kernel
theorem dX4_comes_49 : decode cX4_comes 49 = .ok (.aload_n 0, 1) := by decide +kernel
theorem dX4_comes_50 : decode cX4_comes 50 = .ok (.getfield 7, 3) := by decide +kernel
theorem dX4_comes_53 : decode cX4_comes 53 = .ok (.iload_n 3, 1) := by decide +kernel
theorem dX4_comes_54 : decode cX4_comes 54 = .ok (.iload_n 1, 1) := by decide +kernel
theorem dX4_comes_55 : decode cX4_comes 55 = .ok (.iastore, 1) := by decide +kernel
theorem dX4_comes_56 : decode cX4_comes 56 = .ok (.aload_n 0, 1) := by decide +kernel
theorem dX4_comes_57 : decode cX4_comes 57 = .ok (.getfield 7, 3) := by decide +kernel
theorem dX4_comes_60 : decode cX4_comes 60 = .ok (.iload_n 3, 1) := by decide +kernel
theorem dX4_comes_61 : decode cX4_comes 61 = .ok (.iconst 1, 1) := by decide +kernel
theorem dX4_comes_62 : decode cX4_comes 62 = .ok (.iadd, 1) := by decide +kernel
theorem dX4_comes_63 : decode cX4_comes 63 = .ok (.iload_n 2, 1) := by decide +kernel
theorem dX4_comes_64 : decode cX4_comes 64 = .ok (.iastore, 1) := by decide +kernel
theorem dX4_comes_65 : decode cX4_comes 65 = .ok (.aload_n 0, 1) := by decide +kernel
theorem dX4_comes_66 : decode cX4_comes 66 = .ok (.getfield 7, 3) := by decide +kernel
theorem dX4_comes_69 : decode cX4_comes 69 = .ok (.iload_n 3, 1) := by decide +kernel
theorem dX4_comes_70 : decode cX4_comes 70 = .ok (.iconst 2, 1) := by decide +kernel
theorem dX4_comes_71 : decode cX4_comes 71 = .ok (.iadd, 1) := by decide +kernel
theorem dX4_comes_72 : decode cX4_comes 72 = .ok (.bipush (-6), 2) := by decide +kernel
theorem dX4_comes_74 : decode cX4_comes 74 = .ok (.iastore, 1) := by decide +kernel
theorem dX4_comes_75 : decode cX4_comes 75 = .ok (.aload_n 0, 1) := by decide +kernel
theorem dX4_comes_76 : decode cX4_comes 76 = .ok (.getfield 7, 3) := by decide +kernel
theorem dX4_comes_79 : decode cX4_comes 79 = .ok (.iload_n 3, 1) := by decide +kernel
theorem dX4_comes_80 : decode cX4_comes 80 = .ok (.iconst 3, 1) := by decide +kernel
theorem dX4_comes_81 : decode cX4_comes 81 = .ok (.iadd, 1) := by decide +kernel
theorem dX4_comes_82 : decode cX4_comes 82 = .ok (.iconst 0, 1) := by decide +kernel
theorem dX4_comes_83 : decode cX4_comes 83 = .ok (.iastore, 1) := by decide +kernel
theorem dX4_comes_84 : decode cX4_comes 84 = .ok (.aload_n 0, 1) := by decide +kernel
theorem dX4_comes_85 : decode cX4_comes 85 = .ok (.getfield 7, 3) := by decide +kernel
theorem dX4_comes_88 : decode cX4_comes 88 = .ok (.iconst 5, 1) := by decide +kernel
theorem dX4_comes_89 : decode cX4_comes 89 = .ok (.dup2, 1) := by decide +kernel
theorem dX4_comes_90 : decode cX4_comes 90 = .ok (.iaload, 1) := by decide +kernel
theorem dX4_comes_91 : decode cX4_comes 91 = .ok (.iconst 1, 1) := by decide +kernel
theorem dX4_comes_92 : decode cX4_comes 92 = .ok (.iadd, 1) := by decide +kernel
theorem dX4_comes_93 : decode cX4_comes 93 = .ok (.iastore, 1) := by decide +kernel
theorem dX4_comes_94 : decode cX4_comes 94 = .ok (.aload_n 0, 1) := by decide +kernel
theorem dX4_comes_95 : decode cX4_comes 95 = .ok (.getfield 7, 3) := by decide +kernel
theorem dX4_comes_98 : decode cX4_comes 98 = .ok (.iconst 5, 1) := by decide +kernel
theorem dX4_comes_99 : decode cX4_comes 99 = .ok (.iaload, 1) := by decide +kernel
theorem dX4_comes_100 : decode cX4_comes 100 = .ok (.iconst 1, 1) := by decide +kernel
theorem dX4_comes_101 : decode cX4_comes 101 = .ok (.isub, 1) := by decide +kernel
theorem dX4_comes_102 : decode cX4_comes 102 = .ok (.ireturn, 1) := by decide +kernel
theorem dX4_takes_0 : decode cX4_takes 0 = .ok (.aload_n 0, 1) := by decide +kernel
theorem dX4_takes_1 : decode cX4_takes 1 = .ok (.iload_n 1, 1) := by decide +kernel
theorem dX4_takes_2 : decode cX4_takes 2 = .ok (.invokevirtual 75, 3) := by decide +kernel
theorem dX4_takes_5 : decode cX4_takes 5 = .ok (.ifCond .eq 11, 3) := by decide +kernel
theorem dX4_takes_8 : decode cX4_takes 8 = .ok (.aload_n 0, 1) := by decide +kernel
theorem dX4_takes_9 : decode cX4_takes 9 = .ok (.iload_n 2, 1) := by decide +kernel
theorem dX4_takes_10 : decode cX4_takes 10 = .ok (.invokevirtual 75, 3) := by decide +kernel
theorem dX4_takes_13 : decode cX4_takes 13 = .ok (.ifCond .ne 5, 3) := by decide +kernel
theorem dX4_takes_16 : decode cX4_takes 16 = .ok (.iconst (-1), 1) := by decide +kernel
theorem dX4_takes_17 : decode cX4_takes 17 = .ok (.ireturn, 1) := by decide +kernel
theorem dX4_takes_18 : decode cX4_takes 18 = .ok (.iload_n 1, 1) := by decide +kernel
theorem dX4_takes_19 : decode cX4_takes 19 = .ok (.iload_n 2, 1) := by decide +kernel
theorem dX4_takes_20 : decode cX4_takes 20 = .ok (.if_icmp .ne 6, 3) := by decide +kernel
theorem dX4_takes_23 : decode cX4_takes 23 = .ok (.bipush (-2), 2) := by decide +kernel
theorem dX4_takes_25 : decode cX4_takes 25 = .ok (.ireturn, 1) := by decide +kernel
theorem dX4_takes_26 : decode cX4_takes 26 = .ok (.aload_n 0, 1) := by decide +kernel
theorem dX4_takes_27 : decode cX4_takes 27 = .ok (.iload_n 1, 1) := by decide +kernel
theorem dX4_takes_28 : decode cX4_takes 28 = .ok (.iconst 2, 1) := by decide +kernel
theorem dX4_takes_29 : decode cX4_takes 29 = .ok (.invokevirtual 37, 3) := by decide +kernel
theorem dX4_takes_32 : decode cX4_takes 32 = .ok (.istore_n 3, 1) := by decide +kernel
theorem dX4_takes_33 : decode cX4_takes 33 = .ok (.aload_n 0, 1) := by decide +kernel
theorem dX4_takes_34 : decode cX4_takes 34 = .ok (.getfield 7, 3) := by decide +kernel
theorem dX4_takes_37 : decode cX4_takes 37 = .ok (.bipush 6, 2) := by decide +kernel
theorem dX4_takes_39 : decode cX4_takes 39 = .ok (.iconst 4, 1) := by decide +kernel
theorem dX4_takes_40 : decode cX4_takes 40 = .ok (.iload_n 1, 1) := by decide +kernel
theorem dX4_takes_41 : decode cX4_takes 41 = .ok (.imul, 1) := by decide +kernel
theorem dX4_takes_42 : decode cX4_takes 42 = .ok (.iadd, 1) := by decide +kernel
theorem dX4_takes_43 : decode cX4_takes 43 = .ok (.iconst 2, 1) := by decide +kernel
theorem dX4_takes_44 : decode cX4_takes 44 = .ok (.iadd, 1) := by decide +kernel
theorem dX4_takes_45 : decode cX4_takes 45 = .ok (.iload_n 2, 1) := by decide +kernel
theorem dX4_takes_46 : decode cX4_takes 46 = .ok (.iastore, 1) := by decide +kernel
theorem dX4_takes_47 : decode cX4_takes 47 = .ok (.iload_n 3, 1) := by decide +kernel
theorem dX4_takes_48 : decode cX4_takes 48 = .ok (.ireturn, 1) := by decide +kernel
theorem dX4_turns_0 : decode cX4_turns 0 = .ok (.iload_n 1, 1) := by decide +kernel
theorem dX4_turns_1 : decode cX4_turns 1 = .ok (.iconst 0, 1) := by decide +kernel
theorem dX4_turns_2 : decode cX4_turns 2 = .ok (.iconst 4, 1) := by decide +kernel
theorem dX4_turns_3 : decode cX4_turns 3 = .ok (.invokestatic 33, 3) := by decide +kernel
theorem dX4_turns_6 : decode cX4_turns 6 = .ok (.ifCond .ne 5, 3) := by decide +kernel
theorem dX4_turns_9 : decode cX4_turns 9 = .ok (.iconst (-1), 1) := by decide +kernel
theorem dX4_turns_10 : decode cX4_turns 10 = .ok (.ireturn, 1) := by decide +kernel
theorem dX4_turns_11 : decode cX4_turns 11 = .ok (.aload_n 0, 1) := by decide +kernel
theorem dX4_turns_12 : decode cX4_turns 12 = .ok (.getfield 7, 3) := by decide +kernel
theorem dX4_turns_15 : decode cX4_turns 15 = .ok (.bipush 46, 2) := by decide +kernel
theorem dX4_turns_17 : decode cX4_turns 17 = .ok (.dup2, 1) := by decide +kernel
theorem dX4_turns_18 : decode cX4_turns 18 = .ok (.iaload, 1) := by decide +kernel
theorem dX4_turns_19 : decode cX4_turns 19 = .ok (.iconst 1, 1) := by decide +kernel
theorem dX4_turns_20 : decode cX4_turns 20 = .ok (.iload_n 1, 1) := by decide +kernel
theorem dX4_turns_21 : decode cX4_turns 21 = .ok (.ishl, 1) := by decide +kernel
theorem dX4_turns_22 : decode cX4_turns 22 = .ok (.ixor, 1) := by decide +kernel
theorem dX4_turns_23 : decode cX4_turns 23 = .ok (.iastore, 1) := by decide +kernel
theorem dX4_turns_24 : decode cX4_turns 24 = .ok (.aload_n 0, 1) := by decide +kernel
theorem dX4_turns_25 : decode cX4_turns 25 = .ok (.getfield 7, 3) := by decide +kernel
theorem dX4_turns_28 : decode cX4_turns 28 = .ok (.bipush 46, 2) := by decide +kernel
theorem dX4_turns_30 : decode cX4_turns 30 = .ok (.iaload, 1) := by decide +kernel
theorem dX4_turns_31 : decode cX4_turns 31 = .ok (.ireturn, 1) := by decide +kernel
theorem dX4_offends_0 : decode cX4_offends 0 = .ok (.aload_n 0, 1) := by decide +kernel
theorem dX4_offends_1 : decode cX4_offends 1 = .ok (.iload_n 1, 1) := by decide +kernel
theorem dX4_offends_2 : decode cX4_offends 2 = .ok (.invokevirtual 75, 3) := by decide +kernel
theorem dX4_offends_5 : decode cX4_offends 5 = .ok (.ifCond .eq 11, 3) := by decide +kernel
theorem dX4_offends_8 : decode cX4_offends 8 = .ok (.aload_n 0, 1) := by decide +kernel
theorem dX4_offends_9 : decode cX4_offends 9 = .ok (.iload_n 2, 1) := by decide +kernel
theorem dX4_offends_10 : decode cX4_offends 10 = .ok (.invokevirtual 75, 3) := by decide +kernel
theorem dX4_offends_13 : decode cX4_offends 13 = .ok (.ifCond .ne 5, 3) := by decide +kernel
theorem dX4_offends_16 : decode cX4_offends 16 = .ok (.iconst (-1), 1) := by decide +kernel
theorem dX4_offends_17 : decode cX4_offends 17 = .ok (.ireturn, 1) := by decide +kernel
theorem dX4_offends_18 : decode cX4_offends 18 = .ok (.iload_n 1, 1) := by decide +kernel
theorem dX4_offends_19 : decode cX4_offends 19 = .ok (.iload_n 2, 1) := by decide +kernel
theorem dX4_offends_20 : decode cX4_offends 20 = .ok (.if_icmp .eq 13, 3) := by decide +kernel
theorem dX4_offends_23 : decode cX4_offends 23 = .ok (.iload_n 3, 1) := by decide +kernel
theorem dX4_offends_24 : decode cX4_offends 24 = .ok (.iconst 1, 1) := by decide +kernel
theorem dX4_offends_25 : decode cX4_offends 25 = .ok (.bipush 9, 2) := by decide +kernel
theorem dX4_offends_27 : decode cX4_offends 27 = .ok (.invokestatic 33, 3) := by decide +kernel
theorem dX4_offends_30 : decode cX4_offends 30 = .ok (.ifCond .ne 6, 3) := by decide +kernel
theorem dX4_offends_33 : decode cX4_offends 33 = .ok (.bipush (-2), 2) := by decide +kernel
theorem dX4_offends_35 : decode cX4_offends 35 = .ok (.ireturn, 1) := by decide +kernel
theorem dX4_offends_36 : decode cX4_offends 36 = .ok (.iconst 0, 1) := by decide +kernel
theorem dX4_offends_37 : decode cX4_offends 37 = .ok (.istore 4, 2) := by decide +kernel
theorem dX4_offends_39 : decode cX4_offends 39 = .ok (.iload 4, 2) := by decide +kernel
theorem dX4_offends_41 : decode cX4_offends 41 = .ok (.aload_n 0, 1) := by decide +kernel
theorem dX4_offends_42 : decode cX4_offends 42 = .ok (.getfield 7, 3) := by decide +kernel
theorem dX4_offends_45 : decode cX4_offends 45 = .ok (.bipush 47, 2) := by decide +kernel
theorem dX4_offends_47 : decode cX4_offends 47 = .ok (.iaload, 1) := by decide +kernel
theorem dX4_offends_48 : decode cX4_offends 48 = .ok (.if_icmp .ge 33, 3) := by decide +kernel
theorem dX4_offends_51 : decode cX4_offends 51 = .ok (.aload_n 0, 1) := by decide +kernel
theorem dX4_offends_52 : decode cX4_offends 52 = .ok (.iload 4, 2) := by decide +kernel
theorem dX4_offends_54 : decode cX4_offends 54 = .ok (.iload_n 1, 1) := by decide +kernel
theorem dX4_offends_55 : decode cX4_offends 55 = .ok (.iload_n 2, 1) := by decide +kernel
theorem dX4_offends_56 : decode cX4_offends 56 = .ok (.invokevirtual 44, 3) := by decide +kernel
theorem dX4_offends_59 : decode cX4_offends 59 = .ok (.ifCond .eq 16, 3) := by decide +kernel
theorem dX4_offends_62 : decode cX4_offends 62 = .ok (.aload_n 0, 1) := by decide +kernel
theorem dX4_offends_63 : decode cX4_offends 63 = .ok (.iload 4, 2) := by decide +kernel
theorem dX4_offends_65 : decode cX4_offends 65 = .ok (.iconst 4, 1) := by decide +kernel
theorem dX4_offends_66 : decode cX4_offends 66 = .ok (.invokevirtual 41, 3) := by decide +kernel
theorem dX4_offends_69 : decode cX4_offends 69 = .ok (.ifCond .ne 6, 3) := by decide +kernel
theorem dX4_offends_72 : decode cX4_offends 72 = .ok (.bipush (-5), 2) := by decide +kernel
theorem dX4_offends_74 : decode cX4_offends 74 = .ok (.ireturn, 1) := by decide +kernel
theorem dX4_offends_75 : decode cX4_offends 75 = .ok (.iinc 4 1, 3) := by decide +kernel
theorem dX4_offends_78 : decode cX4_offends 78 = .ok (.goto (-39), 3) := by decide +kernel
theorem dX4_offends_81 : decode cX4_offends 81 = .ok (.aload_n 0, 1) := by decide +kernel
theorem dX4_offends_82 : decode cX4_offends 82 = .ok (.getfield 7, 3) := by decide +kernel
theorem dX4_offends_85 : decode cX4_offends 85 = .ok (.bipush 47, 2) := by decide +kernel
theorem dX4_offends_87 : decode cX4_offends 87 = .ok (.iaload, 1) := by decide +kernel
theorem dX4_offends_88 : decode cX4_offends 88 = .ok (.bipush 12, 2) := by decide +kernel
theorem dX4_offends_90 : decode cX4_offends 90 = .ok (.if_icmp .ne 6, 3) := by decide +kernel
theorem dX4_offends_93 : decode cX4_offends 93 = .ok (.bipush (-4), 2) := by decide +kernel
theorem dX4_offends_95 : decode cX4_offends 95 = .ok (.ireturn, 1) := by decide +kernel
theorem dX4_offends_96 : decode cX4_offends 96 = .ok (.bipush 48, 2) := by decide +kernel
theorem dX4_offends_98 : decode cX4_offends 98 = .ok (.bipush 8, 2) := by decide +kernel
theorem dX4_offends_100 : decode cX4_offends 100 = .ok (.aload_n 0, 1) := by decide +kernel
theorem dX4_offends_101 : decode cX4_offends 101 = .ok (.getfield 7, 3) := by decide +kernel
theorem dX4_offends_104 : decode cX4_offends 104 = .ok (.bipush 47, 2) := by decide +kernel
theorem dX4_offends_106 : decode cX4_offends 106 = .ok (.iaload, 1) := by decide +kernel
theorem dX4_offends_107 : decode cX4_offends 107 = .ok (.imul, 1) := by decide +kernel
theorem dX4_offends_108 : decode cX4_offends 108 = .ok (.iadd, 1) := by decide +kernel
theorem dX4_offends_109 : decode cX4_offends 109 = .ok (.istore 4, 2) := by decide +kernel
theorem dX4_offends_111 : decode cX4_offends 111 = .ok (.aload_n 0, 1) := by decide +kernel
theorem dX4_offends_112 : decode cX4_offends 112 = .ok (.getfield 7, 3) := by decide +kernel
theorem dX4_offends_115 : decode cX4_offends 115 = .ok (.iload 4, 2) := by decide +kernel
theorem dX4_offends_117 : decode cX4_offends 117 = .ok (.iload_n 1, 1) := by decide +kernel
theorem dX4_offends_118 : decode cX4_offends 118 = .ok (.iastore, 1) := by decide +kernel
theorem dX4_offends_119 : decode cX4_offends 119 = .ok (.aload_n 0, 1) := by decide +kernel
theorem dX4_offends_120 : decode cX4_offends 120 = .ok (.getfield 7, 3) := by decide +kernel
theorem dX4_offends_123 : decode cX4_offends 123 = .ok (.iload 4, 2) := by decide +kernel
theorem dX4_offends_125 : decode cX4_offends 125 = .ok (.iconst 1, 1) := by decide +kernel
theorem dX4_offends_126 : decode cX4_offends 126 = .ok (.iadd, 1) := by decide +kernel
theorem dX4_offends_127 : decode cX4_offends 127 = .ok (.iload_n 2, 1) := by decide +kernel
theorem dX4_offends_128 : decode cX4_offends 128 = .ok (.iastore, 1) := by decide +kernel
theorem dX4_offends_129 : decode cX4_offends 129 = .ok (.aload_n 0, 1) := by decide +kernel
theorem dX4_offends_130 : decode cX4_offends 130 = .ok (.getfield 7, 3) := by decide +kernel
theorem dX4_offends_133 : decode cX4_offends 133 = .ok (.iload 4, 2) := by decide +kernel
theorem dX4_offends_135 : decode cX4_offends 135 = .ok (.iconst 2, 1) := by decide +kernel
theorem dX4_offends_136 : decode cX4_offends 136 = .ok (.iadd, 1) := by decide +kernel
theorem dX4_offends_137 : decode cX4_offends 137 = .ok (.iload_n 3, 1) := by decide +kernel
theorem dX4_offends_138 : decode cX4_offends 138 = .ok (.iastore, 1) := by decide +kernel
theorem dX4_offends_139 : decode cX4_offends 139 = .ok (.aload_n 0, 1) := by decide +kernel
theorem dX4_offends_140 : decode cX4_offends 140 = .ok (.getfield 7, 3) := by decide +kernel
theorem dX4_offends_143 : decode cX4_offends 143 = .ok (.iload 4, 2) := by decide +kernel
theorem dX4_offends_145 : decode cX4_offends 145 = .ok (.iconst 3, 1) := by decide +kernel
theorem dX4_offends_146 : decode cX4_offends 146 = .ok (.iadd, 1) := by decide +kernel
theorem dX4_offends_147 : decode cX4_offends 147 = .ok (.aload_n 0, 1) := by decide +kernel
theorem dX4_offends_148 : decode cX4_offends 148 = .ok (.getfield 7, 3) := by decide +kernel
theorem dX4_offends_151 : decode cX4_offends 151 = .ok (.iconst 4, 1) := by decide +kernel
theorem dX4_offends_152 : decode cX4_offends 152 = .ok (.iaload, 1) := by decide +kernel
theorem dX4_offends_153 : decode cX4_offends 153 = .ok (.iastore, 1) := by decide +kernel
theorem dX4_offends_154 : decode cX4_offends 154 = .ok (.aload_n 0, 1) := by decide +kernel
theorem dX4_offends_155 : decode cX4_offends 155 = .ok (.getfield 7, 3) := by decide +kernel
theorem dX4_offends_158 : decode cX4_offends 158 = .ok (.iload 4, 2) := by decide +kernel
theorem dX4_offends_160 : decode cX4_offends 160 = .ok (.iconst 4, 1) := by decide +kernel
theorem dX4_offends_161 : decode cX4_offends 161 = .ok (.iadd, 1) := by decide +kernel
theorem dX4_offends_162 : decode cX4_offends 162 = .ok (.iconst 0, 1) := by decide +kernel
theorem dX4_offends_163 : decode cX4_offends 163 = .ok (.iastore, 1) := by decide +kernel
theorem dX4_offends_164 : decode cX4_offends 164 = .ok (.aload_n 0, 1) := by decide +kernel
theorem dX4_offends_165 : decode cX4_offends 165 = .ok (.getfield 7, 3) := by decide +kernel
theorem dX4_offends_168 : decode cX4_offends 168 = .ok (.iload 4, 2) := by decide +kernel
theorem dX4_offends_170 : decode cX4_offends 170 = .ok (.iconst 5, 1) := by decide +kernel
theorem dX4_offends_171 : decode cX4_offends 171 = .ok (.iadd, 1) := by decide +kernel
theorem dX4_offends_172 : decode cX4_offends 172 = .ok (.bipush (-6), 2) := by decide +kernel
theorem dX4_offends_174 : decode cX4_offends 174 = .ok (.iastore, 1) := by decide +kernel
theorem dX4_offends_175 : decode cX4_offends 175 = .ok (.aload_n 0, 1) := by decide +kernel
theorem dX4_offends_176 : decode cX4_offends 176 = .ok (.getfield 7, 3) := by decide +kernel
theorem dX4_offends_179 : decode cX4_offends 179 = .ok (.iload 4, 2) := by decide +kernel
theorem dX4_offends_181 : decode cX4_offends 181 = .ok (.bipush 6, 2) := by decide +kernel
theorem dX4_offends_183 : decode cX4_offends 183 = .ok (.iadd, 1) := by decide +kernel
theorem dX4_offends_184 : decode cX4_offends 184 = .ok (.bipush (-6), 2) := by decide +kernel
theorem dX4_offends_186 : decode cX4_offends 186 = .ok (.iastore, 1) := by decide +kernel
theorem dX4_offends_187 : decode cX4_offends 187 = .ok (.aload_n 0, 1) := by decide +kernel
theorem dX4_offends_188 : decode cX4_offends 188 = .ok (.getfield 7, 3) := by decide +kernel
theorem dX4_offends_191 : decode cX4_offends 191 = .ok (.iload 4, 2) := by decide +kernel
theorem dX4_offends_193 : decode cX4_offends 193 = .ok (.bipush 7, 2) := by decide +kernel
theorem dX4_offends_195 : decode cX4_offends 195 = .ok (.iadd, 1) := by decide +kernel
theorem dX4_offends_196 : decode cX4_offends 196 = .ok (.iconst 0, 1) := by decide +kernel
theorem dX4_offends_197 : decode cX4_offends 197 = .ok (.iastore, 1) := by decide +kernel
theorem dX4_offends_198 : decode cX4_offends 198 = .ok (.aload_n 0, 1) := by decide +kernel
theorem dX4_offends_199 : decode cX4_offends 199 = .ok (.getfield 7, 3) := by decide +kernel
theorem dX4_offends_202 : decode cX4_offends 202 = .ok (.bipush 47, 2) := by decide +kernel
theorem dX4_offends_204 : decode cX4_offends 204 = .ok (.dup2, 1) := by decide +kernel
theorem dX4_offends_205 : decode cX4_offends 205 = .ok (.iaload, 1) := by decide +kernel
theorem dX4_offends_206 : decode cX4_offends 206 = .ok (.iconst 1, 1) := by decide +kernel
theorem dX4_offends_207 : decode cX4_offends 207 = .ok (.iadd, 1) := by decide +kernel
theorem dX4_offends_208 : decode cX4_offends 208 = .ok (.iastore, 1) := by decide +kernel
theorem dX4_offends_209 : decode cX4_offends 209 = .ok (.aload_n 0, 1) := by decide +kernel
theorem dX4_offends_210 : decode cX4_offends 210 = .ok (.iconst 0, 1) := by decide +kernel
theorem dX4_offends_211 : decode cX4_offends 211 = .ok (.aload_n 0, 1) := by decide +kernel
theorem dX4_offends_212 : decode cX4_offends 212 = .ok (.getfield 7, 3) := by decide +kernel
theorem dX4_offends_215 : decode cX4_offends 215 = .ok (.bipush 47, 2) := by decide +kernel
theorem dX4_offends_217 : decode cX4_offends 217 = .ok (.iaload, 1) := by decide +kernel
theorem dX4_offends_218 : decode cX4_offends 218 = .ok (.iconst 1, 1) := by decide +kernel
theorem dX4_offends_219 : decode cX4_offends 219 = .ok (.isub, 1) := by decide +kernel
theorem dX4_offends_220 : decode cX4_offends 220 = .ok (.invokevirtual 79, 3) := by decide +kernel
theorem dX4_offends_223 : decode cX4_offends 223 = .ok (.aload_n 0, 1) := by decide +kernel
theorem dX4_offends_224 : decode cX4_offends 224 = .ok (.getfield 7, 3) := by decide +kernel
theorem dX4_offends_227 : decode cX4_offends 227 = .ok (.bipush 47, 2) := by decide +kernel
theorem dX4_offends_229 : decode cX4_offends 229 = .ok (.iaload, 1) := by decide +kernel
theorem dX4_offends_230 : decode cX4_offends 230 = .ok (.iconst 1, 1) := by decide +kernel
theorem dX4_offends_231 : decode cX4_offends 231 = .ok (.isub, 1) := by decide +kernel
theorem dX4_offends_232 : decode cX4_offends 232 = .ok (.ireturn, 1) := by decide +kernel
theorem dX4_settles_0 : decode cX4_settles 0 = .ok (.aload_n 0, 1) := by decide +kernel
theorem dX4_settles_1 : decode cX4_settles 1 = .ok (.iload_n 1, 1) := by decide +kernel
theorem dX4_settles_2 : decode cX4_settles 2 = .ok (.invokevirtual 83, 3) := by decide +kernel
theorem dX4_settles_5 : decode cX4_settles 5 = .ok (.ifCond .eq 12, 3) := by decide +kernel
theorem dX4_settles_8 : decode cX4_settles 8 = .ok (.iload_n 2, 1) := by decide +kernel
theorem dX4_settles_9 : decode cX4_settles 9 = .ok (.iconst 0, 1) := by decide +kernel
theorem dX4_settles_10 : decode cX4_settles 10 = .ok (.iconst 4, 1) := by decide +kernel
theorem dX4_settles_11 : decode cX4_settles 11 = .ok (.invokestatic 33, 3) := by decide +kernel
theorem dX4_settles_14 : decode cX4_settles 14 = .ok (.ifCond .ne 5, 3) := by decide +kernel
theorem dX4_settles_17 : decode cX4_settles 17 = .ok (.iconst (-1), 1) := by decide +kernel
theorem dX4_settles_18 : decode cX4_settles 18 = .ok (.ireturn, 1) := by decide +kernel
theorem dX4_settles_19 : decode cX4_settles 19 = .ok (.aload_n 0, 1) := by decide +kernel
theorem dX4_settles_20 : decode cX4_settles 20 = .ok (.iload_n 1, 1) := by decide +kernel
theorem dX4_settles_21 : decode cX4_settles 21 = .ok (.iconst 0, 1) := by decide +kernel
theorem dX4_settles_22 : decode cX4_settles 22 = .ok (.invokevirtual 66, 3) := by decide +kernel
theorem dX4_settles_25 : decode cX4_settles 25 = .ok (.iload_n 2, 1) := by decide +kernel
theorem dX4_settles_26 : decode cX4_settles 26 = .ok (.ishr, 1) := by decide +kernel
theorem dX4_settles_27 : decode cX4_settles 27 = .ok (.iconst 1, 1) := by decide +kernel
theorem dX4_settles_28 : decode cX4_settles 28 = .ok (.iand, 1) := by decide +kernel
theorem dX4_settles_29 : decode cX4_settles 29 = .ok (.ifCond .ne 6, 3) := by decide +kernel
theorem dX4_settles_32 : decode cX4_settles 32 = .ok (.bipush (-5), 2) := by decide +kernel
theorem dX4_settles_34 : decode cX4_settles 34 = .ok (.ireturn, 1) := by decide +kernel
theorem dX4_settles_35 : decode cX4_settles 35 = .ok (.bipush 48, 2) := by decide +kernel
theorem dX4_settles_37 : decode cX4_settles 37 = .ok (.bipush 8, 2) := by decide +kernel
theorem dX4_settles_39 : decode cX4_settles 39 = .ok (.iload_n 1, 1) := by decide +kernel
theorem dX4_settles_40 : decode cX4_settles 40 = .ok (.imul, 1) := by decide +kernel
theorem dX4_settles_41 : decode cX4_settles 41 = .ok (.iadd, 1) := by decide +kernel
theorem dX4_settles_42 : decode cX4_settles 42 = .ok (.istore_n 3, 1) := by decide +kernel
theorem dX4_settles_43 : decode cX4_settles 43 = .ok (.aload_n 0, 1) := by decide +kernel
theorem dX4_settles_44 : decode cX4_settles 44 = .ok (.getfield 7, 3) := by decide +kernel
theorem dX4_settles_47 : decode cX4_settles 47 = .ok (.iload_n 3, 1) := by decide +kernel
theorem dX4_settles_48 : decode cX4_settles 48 = .ok (.iconst 4, 1) := by decide +kernel
theorem dX4_settles_49 : decode cX4_settles 49 = .ok (.iadd, 1) := by decide +kernel
theorem dX4_settles_50 : decode cX4_settles 50 = .ok (.iconst 1, 1) := by decide +kernel
theorem dX4_settles_51 : decode cX4_settles 51 = .ok (.iastore, 1) := by decide +kernel
theorem dX4_settles_52 : decode cX4_settles 52 = .ok (.aload_n 0, 1) := by decide +kernel
theorem dX4_settles_53 : decode cX4_settles 53 = .ok (.getfield 7, 3) := by decide +kernel
theorem dX4_settles_56 : decode cX4_settles 56 = .ok (.iload_n 3, 1) := by decide +kernel
theorem dX4_settles_57 : decode cX4_settles 57 = .ok (.iconst 5, 1) := by decide +kernel
theorem dX4_settles_58 : decode cX4_settles 58 = .ok (.iadd, 1) := by decide +kernel
theorem dX4_settles_59 : decode cX4_settles 59 = .ok (.iload_n 2, 1) := by decide +kernel
theorem dX4_settles_60 : decode cX4_settles 60 = .ok (.iastore, 1) := by decide +kernel
theorem dX4_settles_61 : decode cX4_settles 61 = .ok (.aload_n 0, 1) := by decide +kernel
theorem dX4_settles_62 : decode cX4_settles 62 = .ok (.getfield 7, 3) := by decide +kernel
theorem dX4_settles_65 : decode cX4_settles 65 = .ok (.iload_n 3, 1) := by decide +kernel
theorem dX4_settles_66 : decode cX4_settles 66 = .ok (.bipush 7, 2) := by decide +kernel
theorem dX4_settles_68 : decode cX4_settles 68 = .ok (.iadd, 1) := by decide +kernel
theorem dX4_settles_69 : decode cX4_settles 69 = .ok (.aload_n 0, 1) := by decide +kernel
theorem dX4_settles_70 : decode cX4_settles 70 = .ok (.getfield 7, 3) := by decide +kernel
theorem dX4_settles_73 : decode cX4_settles 73 = .ok (.iconst 4, 1) := by decide +kernel
theorem dX4_settles_74 : decode cX4_settles 74 = .ok (.iaload, 1) := by decide +kernel
theorem dX4_settles_75 : decode cX4_settles 75 = .ok (.iastore, 1) := by decide +kernel
theorem dX4_settles_76 : decode cX4_settles 76 = .ok (.iload_n 2, 1) := by decide +kernel
theorem dX4_settles_77 : decode cX4_settles 77 = .ok (.ifCond .ne 15, 3) := by decide +kernel
theorem dX4_settles_80 : decode cX4_settles 80 = .ok (.aload_n 0, 1) := by decide +kernel
theorem dX4_settles_81 : decode cX4_settles 81 = .ok (.aload_n 0, 1) := by decide +kernel
theorem dX4_settles_82 : decode cX4_settles 82 = .ok (.getfield 7, 3) := by decide +kernel
theorem dX4_settles_85 : decode cX4_settles 85 = .ok (.iload_n 3, 1) := by decide +kernel
theorem dX4_settles_86 : decode cX4_settles 86 = .ok (.iaload, 1) := by decide +kernel
theorem dX4_settles_87 : decode cX4_settles 87 = .ok (.iconst 0, 1) := by decide +kernel
theorem dX4_settles_88 : decode cX4_settles 88 = .ok (.iconst (-1), 1) := by decide +kernel
theorem dX4_settles_89 : decode cX4_settles 89 = .ok (.invokevirtual 86, 3) := by decide +kernel
theorem dX4_settles_92 : decode cX4_settles 92 = .ok (.iload_n 2, 1) := by decide +kernel
theorem dX4_settles_93 : decode cX4_settles 93 = .ok (.iconst 1, 1) := by decide +kernel
theorem dX4_settles_94 : decode cX4_settles 94 = .ok (.if_icmp .ne 39, 3) := by decide +kernel
theorem dX4_settles_97 : decode cX4_settles 97 = .ok (.aload_n 0, 1) := by decide +kernel
theorem dX4_settles_98 : decode cX4_settles 98 = .ok (.aload_n 0, 1) := by decide +kernel
theorem dX4_settles_99 : decode cX4_settles 99 = .ok (.aload_n 0, 1) := by decide +kernel
theorem dX4_settles_100 : decode cX4_settles 100 = .ok (.getfield 7, 3) := by decide +kernel
theorem dX4_settles_103 : decode cX4_settles 103 = .ok (.iload_n 3, 1) := by decide +kernel
theorem dX4_settles_104 : decode cX4_settles 104 = .ok (.iaload, 1) := by decide +kernel
theorem dX4_settles_105 : decode cX4_settles 105 = .ok (.iconst 2, 1) := by decide +kernel
theorem dX4_settles_106 : decode cX4_settles 106 = .ok (.invokevirtual 37, 3) := by decide +kernel
theorem dX4_settles_109 : decode cX4_settles 109 = .ok (.iconst 1, 1) := by decide +kernel
theorem dX4_settles_110 : decode cX4_settles 110 = .ok (.iconst 1, 1) := by decide +kernel
theorem dX4_settles_111 : decode cX4_settles 111 = .ok (.invokevirtual 86, 3) := by decide +kernel
theorem dX4_settles_114 : decode cX4_settles 114 = .ok (.aload_n 0, 1) := by decide +kernel
theorem dX4_settles_115 : decode cX4_settles 115 = .ok (.aload_n 0, 1) := by decide +kernel
theorem dX4_settles_116 : decode cX4_settles 116 = .ok (.aload_n 0, 1) := by decide +kernel
theorem dX4_settles_117 : decode cX4_settles 117 = .ok (.getfield 7, 3) := by decide +kernel
theorem dX4_settles_120 : decode cX4_settles 120 = .ok (.iload_n 3, 1) := by decide +kernel
theorem dX4_settles_121 : decode cX4_settles 121 = .ok (.iconst 1, 1) := by decide +kernel
theorem dX4_settles_122 : decode cX4_settles 122 = .ok (.iadd, 1) := by decide +kernel
theorem dX4_settles_123 : decode cX4_settles 123 = .ok (.iaload, 1) := by decide +kernel
theorem dX4_settles_124 : decode cX4_settles 124 = .ok (.iconst 2, 1) := by decide +kernel
theorem dX4_settles_125 : decode cX4_settles 125 = .ok (.invokevirtual 37, 3) := by decide +kernel
theorem dX4_settles_128 : decode cX4_settles 128 = .ok (.iconst 1, 1) := by decide +kernel
theorem dX4_settles_129 : decode cX4_settles 129 = .ok (.iconst 1, 1) := by decide +kernel
theorem dX4_settles_130 : decode cX4_settles 130 = .ok (.invokevirtual 86, 3) := by decide +kernel
theorem dX4_settles_133 : decode cX4_settles 133 = .ok (.aload_n 0, 1) := by decide +kernel
theorem dX4_settles_134 : decode cX4_settles 134 = .ok (.iconst 1, 1) := by decide +kernel
theorem dX4_settles_135 : decode cX4_settles 135 = .ok (.iload_n 1, 1) := by decide +kernel
theorem dX4_settles_136 : decode cX4_settles 136 = .ok (.invokevirtual 79, 3) := by decide +kernel
theorem dX4_settles_139 : decode cX4_settles 139 = .ok (.aload_n 0, 1) := by decide +kernel
theorem dX4_settles_140 : decode cX4_settles 140 = .ok (.iconst 0, 1) := by decide +kernel
theorem dX4_settles_141 : decode cX4_settles 141 = .ok (.invokevirtual 90, 3) := by decide +kernel
theorem dX4_settles_144 : decode cX4_settles 144 = .ok (.invokestatic 93, 3) := by decide +kernel
theorem dX4_settles_147 : decode cX4_settles 147 = .ok (.ireturn, 1) := by decide +kernel
theorem dX4_fights_0 : decode cX4_fights 0 = .ok (.aload_n 0, 1) := by decide +kernel
theorem dX4_fights_1 : decode cX4_fights 1 = .ok (.iload_n 1, 1) := by decide +kernel
theorem dX4_fights_2 : decode cX4_fights 2 = .ok (.invokevirtual 83, 3) := by decide +kernel
theorem dX4_fights_5 : decode cX4_fights 5 = .ok (.ifCond .ne 5, 3) := by decide +kernel
theorem dX4_fights_8 : decode cX4_fights 8 = .ok (.iconst (-1), 1) := by decide +kernel
theorem dX4_fights_9 : decode cX4_fights 9 = .ok (.ireturn, 1) := by decide +kernel
theorem dX4_fights_10 : decode cX4_fights 10 = .ok (.aload_n 0, 1) := by decide +kernel
theorem dX4_fights_11 : decode cX4_fights 11 = .ok (.iload_n 1, 1) := by decide +kernel
theorem dX4_fights_12 : decode cX4_fights 12 = .ok (.iconst 0, 1) := by decide +kernel
theorem dX4_fights_13 : decode cX4_fights 13 = .ok (.invokevirtual 72, 3) := by decide +kernel
theorem dX4_fights_16 : decode cX4_fights 16 = .ok (.ifCond .eq 6, 3) := by decide +kernel
theorem dX4_fights_19 : decode cX4_fights 19 = .ok (.bipush (-5), 2) := by decide +kernel
theorem dX4_fights_21 : decode cX4_fights 21 = .ok (.ireturn, 1) := by decide +kernel
theorem dX4_fights_22 : decode cX4_fights 22 = .ok (.bipush 48, 2) := by decide +kernel
theorem dX4_fights_24 : decode cX4_fights 24 = .ok (.bipush 8, 2) := by decide +kernel
theorem dX4_fights_26 : decode cX4_fights 26 = .ok (.iload_n 1, 1) := by decide +kernel
theorem dX4_fights_27 : decode cX4_fights 27 = .ok (.imul, 1) := by decide +kernel
theorem dX4_fights_28 : decode cX4_fights 28 = .ok (.iadd, 1) := by decide +kernel
theorem dX4_fights_29 : decode cX4_fights 29 = .ok (.istore_n 2, 1) := by decide +kernel
theorem dX4_fights_30 : decode cX4_fights 30 = .ok (.aload_n 0, 1) := by decide +kernel
theorem dX4_fights_31 : decode cX4_fights 31 = .ok (.iload_n 1, 1) := by decide +kernel
theorem dX4_fights_32 : decode cX4_fights 32 = .ok (.invokevirtual 96, 3) := by decide +kernel
theorem dX4_fights_35 : decode cX4_fights 35 = .ok (.istore_n 3, 1) := by decide +kernel
theorem dX4_fights_36 : decode cX4_fights 36 = .ok (.aload_n 0, 1) := by decide +kernel
theorem dX4_fights_37 : decode cX4_fights 37 = .ok (.getfield 7, 3) := by decide +kernel
theorem dX4_fights_40 : decode cX4_fights 40 = .ok (.iload_n 2, 1) := by decide +kernel
theorem dX4_fights_41 : decode cX4_fights 41 = .ok (.iaload, 1) := by decide +kernel
theorem dX4_fights_42 : decode cX4_fights 42 = .ok (.aload_n 0, 1) := by decide +kernel
theorem dX4_fights_43 : decode cX4_fights 43 = .ok (.getfield 7, 3) := by decide +kernel
theorem dX4_fights_46 : decode cX4_fights 46 = .ok (.iload_n 2, 1) := by decide +kernel
theorem dX4_fights_47 : decode cX4_fights 47 = .ok (.iconst 1, 1) := by decide +kernel
theorem dX4_fights_48 : decode cX4_fights 48 = .ok (.iadd, 1) := by decide +kernel
theorem dX4_fights_49 : decode cX4_fights 49 = .ok (.iaload, 1) := by decide +kernel
theorem dX4_fights_50 : decode cX4_fights 50 = .ok (.iadd, 1) := by decide +kernel
theorem dX4_fights_51 : decode cX4_fights 51 = .ok (.iload_n 3, 1) := by decide +kernel
theorem dX4_fights_52 : decode cX4_fights 52 = .ok (.isub, 1) := by decide +kernel
theorem dX4_fights_53 : decode cX4_fights 53 = .ok (.istore 4, 2) := by decide +kernel
theorem dX4_fights_55 : decode cX4_fights 55 = .ok (.aload_n 0, 1) := by decide +kernel
theorem dX4_fights_56 : decode cX4_fights 56 = .ok (.getfield 7, 3) := by decide +kernel
theorem dX4_fights_59 : decode cX4_fights 59 = .ok (.iload_n 2, 1) := by decide +kernel
theorem dX4_fights_60 : decode cX4_fights 60 = .ok (.iconst 4, 1) := by decide +kernel
theorem dX4_fights_61 : decode cX4_fights 61 = .ok (.iadd, 1) := by decide +kernel
theorem dX4_fights_62 : decode cX4_fights 62 = .ok (.iconst 2, 1) := by decide +kernel
theorem dX4_fights_63 : decode cX4_fights 63 = .ok (.iastore, 1) := by decide +kernel
theorem dX4_fights_64 : decode cX4_fights 64 = .ok (.aload_n 0, 1) := by decide +kernel
theorem dX4_fights_65 : decode cX4_fights 65 = .ok (.getfield 7, 3) := by decide +kernel
theorem dX4_fights_68 : decode cX4_fights 68 = .ok (.iload_n 2, 1) := by decide +kernel
theorem dX4_fights_69 : decode cX4_fights 69 = .ok (.bipush 6, 2) := by decide +kernel
theorem dX4_fights_71 : decode cX4_fights 71 = .ok (.iadd, 1) := by decide +kernel
theorem dX4_fights_72 : decode cX4_fights 72 = .ok (.iload_n 3, 1) := by decide +kernel
theorem dX4_fights_73 : decode cX4_fights 73 = .ok (.iastore, 1) := by decide +kernel
theorem dX4_fights_74 : decode cX4_fights 74 = .ok (.aload_n 0, 1) := by decide +kernel
theorem dX4_fights_75 : decode cX4_fights 75 = .ok (.iload_n 3, 1) := by decide +kernel
theorem dX4_fights_76 : decode cX4_fights 76 = .ok (.iconst 0, 1) := by decide +kernel
theorem dX4_fights_77 : decode cX4_fights 77 = .ok (.iconst 1, 1) := by decide +kernel
theorem dX4_fights_78 : decode cX4_fights 78 = .ok (.invokevirtual 86, 3) := by decide +kernel
theorem dX4_fights_81 : decode cX4_fights 81 = .ok (.aload_n 0, 1) := by decide +kernel
theorem dX4_fights_82 : decode cX4_fights 82 = .ok (.iload 4, 2) := by decide +kernel
theorem dX4_fights_84 : decode cX4_fights 84 = .ok (.iconst 0, 1) := by decide +kernel
theorem dX4_fights_85 : decode cX4_fights 85 = .ok (.bipush (-2), 2) := by decide +kernel
theorem dX4_fights_87 : decode cX4_fights 87 = .ok (.invokevirtual 86, 3) := by decide +kernel
theorem dX4_fights_90 : decode cX4_fights 90 = .ok (.aload_n 0, 1) := by decide +kernel
theorem dX4_fights_91 : decode cX4_fights 91 = .ok (.iload_n 3, 1) := by decide +kernel
theorem dX4_fights_92 : decode cX4_fights 92 = .ok (.invokevirtual 99, 3) := by decide +kernel
theorem dX4_fights_95 : decode cX4_fights 95 = .ok (.aload_n 0, 1) := by decide +kernel
theorem dX4_fights_96 : decode cX4_fights 96 = .ok (.iload 4, 2) := by decide +kernel
theorem dX4_fights_98 : decode cX4_fights 98 = .ok (.invokevirtual 99, 3) := by decide +kernel
theorem dX4_fights_101 : decode cX4_fights 101 = .ok (.aload_n 0, 1) := by decide +kernel
theorem dX4_fights_102 : decode cX4_fights 102 = .ok (.iconst 2, 1) := by decide +kernel
theorem dX4_fights_103 : decode cX4_fights 103 = .ok (.iload_n 1, 1) := by decide +kernel
theorem dX4_fights_104 : decode cX4_fights 104 = .ok (.invokevirtual 79, 3) := by decide +kernel
theorem dX4_fights_107 : decode cX4_fights 107 = .ok (.iload_n 3, 1) := by decide +kernel
theorem dX4_fights_108 : decode cX4_fights 108 = .ok (.ireturn, 1) := by decide +kernel
theorem dX4_swears_0 : decode cX4_swears 0 = .ok (.aload_n 0, 1) := by decide +kernel
theorem dX4_swears_1 : decode cX4_swears 1 = .ok (.iload_n 1, 1) := by decide +kernel
theorem dX4_swears_2 : decode cX4_swears 2 = .ok (.invokevirtual 75, 3) := by decide +kernel
theorem dX4_swears_5 : decode cX4_swears 5 = .ok (.ifCond .ne 5, 3) := by decide +kernel
theorem dX4_swears_8 : decode cX4_swears 8 = .ok (.iconst (-1), 1) := by decide +kernel
theorem dX4_swears_9 : decode cX4_swears 9 = .ok (.ireturn, 1) := by decide +kernel
theorem dX4_swears_10 : decode cX4_swears 10 = .ok (.aload_n 0, 1) := by decide +kernel
theorem dX4_swears_11 : decode cX4_swears 11 = .ok (.iload_n 1, 1) := by decide +kernel
theorem dX4_swears_12 : decode cX4_swears 12 = .ok (.iconst 0, 1) := by decide +kernel
theorem dX4_swears_13 : decode cX4_swears 13 = .ok (.invokevirtual 50, 3) := by decide +kernel
theorem dX4_swears_16 : decode cX4_swears 16 = .ok (.ifCond .eq 6, 3) := by decide +kernel
theorem dX4_swears_19 : decode cX4_swears 19 = .ok (.bipush (-5), 2) := by decide +kernel
theorem dX4_swears_21 : decode cX4_swears 21 = .ok (.ireturn, 1) := by decide +kernel
theorem dX4_swears_22 : decode cX4_swears 22 = .ok (.aload_n 0, 1) := by decide +kernel
theorem dX4_swears_23 : decode cX4_swears 23 = .ok (.iload_n 1, 1) := by decide +kernel
theorem dX4_swears_24 : decode cX4_swears 24 = .ok (.invokevirtual 99, 3) := by decide +kernel
theorem dX4_swears_27 : decode cX4_swears 27 = .ok (.aload_n 0, 1) := by decide +kernel
theorem dX4_swears_28 : decode cX4_swears 28 = .ok (.iconst 3, 1) := by decide +kernel
theorem dX4_swears_29 : decode cX4_swears 29 = .ok (.iload_n 1, 1) := by decide +kernel
theorem dX4_swears_30 : decode cX4_swears 30 = .ok (.invokevirtual 79, 3) := by decide +kernel
theorem dX4_swears_33 : decode cX4_swears 33 = .ok (.aload_n 0, 1) := by decide +kernel
theorem dX4_swears_34 : decode cX4_swears 34 = .ok (.iload_n 1, 1) := by decide +kernel
theorem dX4_swears_35 : decode cX4_swears 35 = .ok (.iconst 3, 1) := by decide +kernel
theorem dX4_swears_36 : decode cX4_swears 36 = .ok (.invokevirtual 37, 3) := by decide +kernel
theorem dX4_swears_39 : decode cX4_swears 39 = .ok (.ireturn, 1) := by decide +kernel
theorem dX4_passes_0 : decode cX4_passes 0 = .ok (.iload_n 1, 1) := by decide +kernel
theorem dX4_passes_1 : decode cX4_passes 1 = .ok (.iconst 1, 1) := by decide +kernel
theorem dX4_passes_2 : decode cX4_passes 2 = .ok (.bipush 99, 2) := by decide +kernel
theorem dX4_passes_4 : decode cX4_passes 4 = .ok (.invokestatic 33, 3) := by decide +kernel
theorem dX4_passes_7 : decode cX4_passes 7 = .ok (.ifCond .ne 6, 3) := by decide +kernel
theorem dX4_passes_10 : decode cX4_passes 10 = .ok (.bipush (-2), 2) := by decide +kernel
theorem dX4_passes_12 : decode cX4_passes 12 = .ok (.ireturn, 1) := by decide +kernel
theorem dX4_passes_13 : decode cX4_passes 13 = .ok (.aload_n 0, 1) := by decide +kernel
theorem dX4_passes_14 : decode cX4_passes 14 = .ok (.getfield 7, 3) := by decide +kernel
theorem dX4_passes_17 : decode cX4_passes 17 = .ok (.iconst 4, 1) := by decide +kernel
theorem dX4_passes_18 : decode cX4_passes 18 = .ok (.iaload, 1) := by decide +kernel
theorem dX4_passes_19 : decode cX4_passes 19 = .ok (.iload_n 1, 1) := by decide +kernel
theorem dX4_passes_20 : decode cX4_passes 20 = .ok (.iadd, 1) := by decide +kernel
theorem dX4_passes_21 : decode cX4_passes 21 = .ok (.sipush 9999, 3) := by decide +kernel
theorem dX4_passes_24 : decode cX4_passes 24 = .ok (.if_icmp .le 6, 3) := by decide +kernel
theorem dX4_passes_27 : decode cX4_passes 27 = .ok (.bipush (-5), 2) := by decide +kernel
theorem dX4_passes_29 : decode cX4_passes 29 = .ok (.ireturn, 1) := by decide +kernel
theorem dX4_passes_30 : decode cX4_passes 30 = .ok (.aload_n 0, 1) := by decide +kernel
theorem dX4_passes_31 : decode cX4_passes 31 = .ok (.getfield 7, 3) := by decide +kernel
theorem dX4_passes_34 : decode cX4_passes 34 = .ok (.iconst 4, 1) := by decide +kernel
theorem dX4_passes_35 : decode cX4_passes 35 = .ok (.dup2, 1) := by decide +kernel
theorem dX4_passes_36 : decode cX4_passes 36 = .ok (.iaload, 1) := by decide +kernel
theorem dX4_passes_37 : decode cX4_passes 37 = .ok (.iload_n 1, 1) := by decide +kernel
theorem dX4_passes_38 : decode cX4_passes 38 = .ok (.iadd, 1) := by decide +kernel
theorem dX4_passes_39 : decode cX4_passes 39 = .ok (.iastore, 1) := by decide +kernel
theorem dX4_passes_40 : decode cX4_passes 40 = .ok (.aload_n 0, 1) := by decide +kernel
theorem dX4_passes_41 : decode cX4_passes 41 = .ok (.invokevirtual 103, 3) := by decide +kernel
theorem dX4_passes_44 : decode cX4_passes 44 = .ok (.invokestatic 93, 3) := by decide +kernel
theorem dX4_passes_47 : decode cX4_passes 47 = .ok (.ireturn, 1) := by decide +kernel
theorem dX4_set_0 : decode cX4_set 0 = .ok (.iload_n 1, 1) := by decide +kernel
theorem dX4_set_1 : decode cX4_set 1 = .ok (.ifCond .eq 8, 3) := by decide +kernel
theorem dX4_set_4 : decode cX4_set 4 = .ok (.iload_n 1, 1) := by decide +kernel
theorem dX4_set_5 : decode cX4_set 5 = .ok (.iconst 2, 1) := by decide +kernel
theorem dX4_set_6 : decode cX4_set 6 = .ok (.if_icmp .ne 7, 3) := by decide +kernel
theorem dX4_set_9 : decode cX4_set 9 = .ok (.iconst 1, 1) := by decide +kernel
theorem dX4_set_10 : decode cX4_set 10 = .ok (.goto 4, 3) := by decide +kernel
theorem dX4_set_13 : decode cX4_set 13 = .ok (.iconst 0, 1) := by decide +kernel
theorem dX4_set_14 : decode cX4_set 14 = .ok (.istore_n 3, 1) := by decide +kernel
theorem dX4_set_15 : decode cX4_set 15 = .ok (.iload_n 1, 1) := by decide +kernel
theorem dX4_set_16 : decode cX4_set 16 = .ok (.ifCond .ne 8, 3) := by decide +kernel
theorem dX4_set_19 : decode cX4_set 19 = .ok (.bipush 48, 2) := by decide +kernel
theorem dX4_set_21 : decode cX4_set 21 = .ok (.goto 27, 3) := by decide +kernel
theorem dX4_set_24 : decode cX4_set 24 = .ok (.iload_n 1, 1) := by decide +kernel
theorem dX4_set_25 : decode cX4_set 25 = .ok (.iconst 1, 1) := by decide +kernel
theorem dX4_set_26 : decode cX4_set 26 = .ok (.if_icmp .ne 8, 3) := by decide +kernel
theorem dX4_set_29 : decode cX4_set 29 = .ok (.bipush 99, 2) := by decide +kernel
theorem dX4_set_31 : decode cX4_set 31 = .ok (.goto 17, 3) := by decide +kernel
theorem dX4_set_34 : decode cX4_set 34 = .ok (.iload_n 1, 1) := by decide +kernel
theorem dX4_set_35 : decode cX4_set 35 = .ok (.iconst 2, 1) := by decide +kernel
theorem dX4_set_36 : decode cX4_set 36 = .ok (.if_icmp .ne 9, 3) := by decide +kernel
theorem dX4_set_39 : decode cX4_set 39 = .ok (.sipush 200, 3) := by decide +kernel
theorem dX4_set_42 : decode cX4_set 42 = .ok (.goto 6, 3) := by decide +kernel
theorem dX4_set_45 : decode cX4_set 45 = .ok (.sipush 400, 3) := by decide +kernel
theorem dX4_set_48 : decode cX4_set 48 = .ok (.istore 4, 2) := by decide +kernel
theorem dX4_set_50 : decode cX4_set 50 = .ok (.iload_n 1, 1) := by decide +kernel
theorem dX4_set_51 : decode cX4_set 51 = .ok (.iconst 0, 1) := by decide +kernel
theorem dX4_set_52 : decode cX4_set 52 = .ok (.iconst 3, 1) := by decide +kernel
theorem dX4_set_53 : decode cX4_set 53 = .ok (.invokestatic 33, 3) := by decide +kernel
theorem dX4_set_56 : decode cX4_set 56 = .ok (.ifCond .eq 13, 3) := by decide +kernel
theorem dX4_set_59 : decode cX4_set 59 = .ok (.iload_n 2, 1) := by decide +kernel
theorem dX4_set_60 : decode cX4_set 60 = .ok (.iload_n 3, 1) := by decide +kernel
theorem dX4_set_61 : decode cX4_set 61 = .ok (.iload 4, 2) := by decide +kernel
theorem dX4_set_63 : decode cX4_set 63 = .ok (.invokestatic 33, 3) := by decide +kernel
theorem dX4_set_66 : decode cX4_set 66 = .ok (.ifCond .ne 6, 3) := by decide +kernel
theorem dX4_set_69 : decode cX4_set 69 = .ok (.bipush (-2), 2) := by decide +kernel
theorem dX4_set_71 : decode cX4_set 71 = .ok (.ireturn, 1) := by decide +kernel
theorem dX4_set_72 : decode cX4_set 72 = .ok (.aload_n 0, 1) := by decide +kernel
theorem dX4_set_73 : decode cX4_set 73 = .ok (.invokevirtual 107, 3) := by decide +kernel
theorem dX4_set_76 : decode cX4_set 76 = .ok (.aload_n 0, 1) := by decide +kernel
theorem dX4_set_77 : decode cX4_set 77 = .ok (.getfield 7, 3) := by decide +kernel
theorem dX4_set_80 : decode cX4_set 80 = .ok (.iload_n 1, 1) := by decide +kernel
theorem dX4_set_81 : decode cX4_set 81 = .ok (.iaload, 1) := by decide +kernel
theorem dX4_set_82 : decode cX4_set 82 = .ok (.istore 5, 2) := by decide +kernel
theorem dX4_set_84 : decode cX4_set 84 = .ok (.aload_n 0, 1) := by decide +kernel
theorem dX4_set_85 : decode cX4_set 85 = .ok (.getfield 7, 3) := by decide +kernel
theorem dX4_set_88 : decode cX4_set 88 = .ok (.iload_n 1, 1) := by decide +kernel
theorem dX4_set_89 : decode cX4_set 89 = .ok (.iload_n 2, 1) := by decide +kernel
theorem dX4_set_90 : decode cX4_set 90 = .ok (.iastore, 1) := by decide +kernel
theorem dX4_set_91 : decode cX4_set 91 = .ok (.aload_n 0, 1) := by decide +kernel
theorem dX4_set_92 : decode cX4_set 92 = .ok (.iload 5, 2) := by decide +kernel
theorem dX4_set_94 : decode cX4_set 94 = .ok (.invokevirtual 110, 3) := by decide +kernel
theorem dX4_set_97 : decode cX4_set 97 = .ok (.ireturn, 1) := by decide +kernel
theorem dX4_person_0 : decode cX4_person 0 = .ok (.aload_n 0, 1) := by decide +kernel
theorem dX4_person_1 : decode cX4_person 1 = .ok (.invokevirtual 107, 3) := by decide +kernel
theorem dX4_person_4 : decode cX4_person 4 = .ok (.aload_n 0, 1) := by decide +kernel
theorem dX4_person_5 : decode cX4_person 5 = .ok (.aload_n 0, 1) := by decide +kernel
theorem dX4_person_6 : decode cX4_person 6 = .ok (.iload_n 1, 1) := by decide +kernel
theorem dX4_person_7 : decode cX4_person 7 = .ok (.iload_n 2, 1) := by decide +kernel
theorem dX4_person_8 : decode cX4_person 8 = .ok (.invokevirtual 113, 3) := by decide +kernel
theorem dX4_person_11 : decode cX4_person 11 = .ok (.invokevirtual 110, 3) := by decide +kernel
theorem dX4_person_14 : decode cX4_person 14 = .ok (.ireturn, 1) := by decide +kernel
theorem dX4_second_0 : decode cX4_second 0 = .ok (.aload_n 0, 1) := by decide +kernel
theorem dX4_second_1 : decode cX4_second 1 = .ok (.invokevirtual 107, 3) := by decide +kernel
theorem dX4_second_4 : decode cX4_second 4 = .ok (.aload_n 0, 1) := by decide +kernel
theorem dX4_second_5 : decode cX4_second 5 = .ok (.aload_n 0, 1) := by decide +kernel
theorem dX4_second_6 : decode cX4_second 6 = .ok (.iload_n 1, 1) := by decide +kernel
theorem dX4_second_7 : decode cX4_second 7 = .ok (.iload_n 2, 1) := by decide +kernel
theorem dX4_second_8 : decode cX4_second 8 = .ok (.invokevirtual 116, 3) := by decide +kernel
theorem dX4_second_11 : decode cX4_second 11 = .ok (.invokevirtual 110, 3) := by decide +kernel
theorem dX4_second_14 : decode cX4_second 14 = .ok (.ireturn, 1) := by decide +kernel
theorem dX4_allow_0 : decode cX4_allow 0 = .ok (.aload_n 0, 1) := by decide +kernel
theorem dX4_allow_1 : decode cX4_allow 1 = .ok (.invokevirtual 107, 3) := by decide +kernel
theorem dX4_allow_4 : decode cX4_allow 4 = .ok (.aload_n 0, 1) := by decide +kernel
theorem dX4_allow_5 : decode cX4_allow 5 = .ok (.aload_n 0, 1) := by decide +kernel
theorem dX4_allow_6 : decode cX4_allow 6 = .ok (.iload_n 1, 1) := by decide +kernel
theorem dX4_allow_7 : decode cX4_allow 7 = .ok (.invokevirtual 119, 3) := by decide +kernel
theorem dX4_allow_10 : decode cX4_allow 10 = .ok (.invokevirtual 110, 3) := by decide +kernel
theorem dX4_allow_13 : decode cX4_allow 13 = .ok (.ireturn, 1) := by decide +kernel
theorem dX4_insult_0 : decode cX4_insult 0 = .ok (.aload_n 0, 1) := by decide +kernel
theorem dX4_insult_1 : decode cX4_insult 1 = .ok (.invokevirtual 107, 3) := by decide +kernel
theorem dX4_insult_4 : decode cX4_insult 4 = .ok (.aload_n 0, 1) := by decide +kernel
theorem dX4_insult_5 : decode cX4_insult 5 = .ok (.aload_n 0, 1) := by decide +kernel
theorem dX4_insult_6 : decode cX4_insult 6 = .ok (.iload_n 1, 1) := by decide +kernel
theorem dX4_insult_7 : decode cX4_insult 7 = .ok (.iload_n 2, 1) := by decide +kernel
theorem dX4_insult_8 : decode cX4_insult 8 = .ok (.iload_n 3, 1) := by decide +kernel
theorem dX4_insult_9 : decode cX4_insult 9 = .ok (.invokevirtual 122, 3) := by decide +kernel
theorem dX4_insult_12 : decode cX4_insult 12 = .ok (.invokevirtual 110, 3) := by decide +kernel
theorem dX4_insult_15 : decode cX4_insult 15 = .ok (.ireturn, 1) := by decide +kernel
theorem dX4_settle_0 : decode cX4_settle 0 = .ok (.aload_n 0, 1) := by decide +kernel
theorem dX4_settle_1 : decode cX4_settle 1 = .ok (.invokevirtual 107, 3) := by decide +kernel
theorem dX4_settle_4 : decode cX4_settle 4 = .ok (.aload_n 0, 1) := by decide +kernel
theorem dX4_settle_5 : decode cX4_settle 5 = .ok (.aload_n 0, 1) := by decide +kernel
theorem dX4_settle_6 : decode cX4_settle 6 = .ok (.iload_n 1, 1) := by decide +kernel
theorem dX4_settle_7 : decode cX4_settle 7 = .ok (.iload_n 2, 1) := by decide +kernel
theorem dX4_settle_8 : decode cX4_settle 8 = .ok (.invokevirtual 126, 3) := by decide +kernel
end
section
theorem dX4_settle_11 : decode cX4_settle 11 = .ok (.invokevirtual 110, 3) := by decide +kernel
theorem dX4_settle_14 : decode cX4_settle 14 = .ok (.ireturn, 1) := by decide +kernel
theorem dX4_fight_0 : decode cX4_fight 0 = .ok (.aload_n 0, 1) := by decide +kernel
theorem dX4_fight_1 : decode cX4_fight 1 = .ok (.invokevirtual 107, 3) := by decide +kernel
theorem dX4_fight_4 : decode cX4_fight 4 = .ok (.aload_n 0, 1) := by decide +kernel
theorem dX4_fight_5 : decode cX4_fight 5 = .ok (.aload_n 0, 1) := by decide +kernel
theorem dX4_fight_6 : decode cX4_fight 6 = .ok (.iload_n 1, 1) := by decide +kernel
theorem dX4_fight_7 : decode cX4_fight 7 = .ok (.invokevirtual 129, 3) := by decide +kernel
theorem dX4_fight_10 : decode cX4_fight 10 = .ok (.invokevirtual 110, 3) := by decide +kernel
theorem dX4_fight_13 : decode cX4_fight 13 = .ok (.ireturn, 1) := by decide +kernel
theorem dX4_swear_0 : decode cX4_swear 0 = .ok (.aload_n 0, 1) := by decide +kernel
theorem dX4_swear_1 : decode cX4_swear 1 = .ok (.invokevirtual 107, 3) := by decide +kernel
theorem dX4_swear_4 : decode cX4_swear 4 = .ok (.aload_n 0, 1) := by decide +kernel
theorem dX4_swear_5 : decode cX4_swear 5 = .ok (.aload_n 0, 1) := by decide +kernel
theorem dX4_swear_6 : decode cX4_swear 6 = .ok (.iload_n 1, 1) := by decide +kernel
theorem dX4_swear_7 : decode cX4_swear 7 = .ok (.invokevirtual 132, 3) := by decide +kernel
theorem dX4_swear_10 : decode cX4_swear 10 = .ok (.invokevirtual 110, 3) := by decide +kernel
theorem dX4_swear_13 : decode cX4_swear 13 = .ok (.ireturn, 1) := by decide +kernel
theorem dX4_pass_0 : decode cX4_pass 0 = .ok (.aload_n 0, 1) := by decide +kernel
theorem dX4_pass_1 : decode cX4_pass 1 = .ok (.invokevirtual 107, 3) := by decide +kernel
theorem dX4_pass_4 : decode cX4_pass 4 = .ok (.aload_n 0, 1) := by decide +kernel
theorem dX4_pass_5 : decode cX4_pass 5 = .ok (.aload_n 0, 1) := by decide +kernel
theorem dX4_pass_6 : decode cX4_pass 6 = .ok (.iload_n 1, 1) := by decide +kernel
theorem dX4_pass_7 : decode cX4_pass 7 = .ok (.invokevirtual 135, 3) := by decide +kernel
theorem dX4_pass_10 : decode cX4_pass 10 = .ok (.invokevirtual 110, 3) := by decide +kernel
theorem dX4_pass_13 : decode cX4_pass 13 = .ok (.ireturn, 1) := by decide +kernel
theorem dX4_parts_0 : decode cX4_parts 0 = .ok (.iconst 0, 1) := by decide +kernel
theorem dX4_parts_1 : decode cX4_parts 1 = .ok (.istore_n 3, 1) := by decide +kernel
theorem dX4_parts_2 : decode cX4_parts 2 = .ok (.iconst 0, 1) := by decide +kernel
theorem dX4_parts_3 : decode cX4_parts 3 = .ok (.istore 4, 2) := by decide +kernel
theorem dX4_parts_5 : decode cX4_parts 5 = .ok (.iload 4, 2) := by decide +kernel
theorem dX4_parts_7 : decode cX4_parts 7 = .ok (.aload_n 0, 1) := by decide +kernel
theorem dX4_parts_8 : decode cX4_parts 8 = .ok (.getfield 7, 3) := by decide +kernel
theorem dX4_parts_11 : decode cX4_parts 11 = .ok (.bipush 47, 2) := by decide +kernel
theorem dX4_parts_13 : decode cX4_parts 13 = .ok (.iaload, 1) := by decide +kernel
theorem dX4_parts_14 : decode cX4_parts 14 = .ok (.if_icmp .ge 148, 3) := by decide +kernel
theorem dX4_parts_17 : decode cX4_parts 17 = .ok (.aload_n 0, 1) := by decide +kernel
theorem dX4_parts_18 : decode cX4_parts 18 = .ok (.iload 4, 2) := by decide +kernel
theorem dX4_parts_20 : decode cX4_parts 20 = .ok (.iconst 0, 1) := by decide +kernel
theorem dX4_parts_21 : decode cX4_parts 21 = .ok (.invokevirtual 41, 3) := by decide +kernel
theorem dX4_parts_24 : decode cX4_parts 24 = .ok (.iload_n 1, 1) := by decide +kernel
theorem dX4_parts_25 : decode cX4_parts 25 = .ok (.if_icmp .eq 14, 3) := by decide +kernel
theorem dX4_parts_28 : decode cX4_parts 28 = .ok (.aload_n 0, 1) := by decide +kernel
theorem dX4_parts_29 : decode cX4_parts 29 = .ok (.iload 4, 2) := by decide +kernel
theorem dX4_parts_31 : decode cX4_parts 31 = .ok (.iconst 1, 1) := by decide +kernel
theorem dX4_parts_32 : decode cX4_parts 32 = .ok (.invokevirtual 41, 3) := by decide +kernel
theorem dX4_parts_35 : decode cX4_parts 35 = .ok (.iload_n 1, 1) := by decide +kernel
theorem dX4_parts_36 : decode cX4_parts 36 = .ok (.if_icmp .ne 7, 3) := by decide +kernel
theorem dX4_parts_39 : decode cX4_parts 39 = .ok (.iconst 1, 1) := by decide +kernel
theorem dX4_parts_40 : decode cX4_parts 40 = .ok (.goto 4, 3) := by decide +kernel
theorem dX4_parts_43 : decode cX4_parts 43 = .ok (.iconst 0, 1) := by decide +kernel
theorem dX4_parts_44 : decode cX4_parts 44 = .ok (.istore 5, 2) := by decide +kernel
theorem dX4_parts_46 : decode cX4_parts 46 = .ok (.iload_n 2, 1) := by decide +kernel
theorem dX4_parts_47 : decode cX4_parts 47 = .ok (.iconst 4, 1) := by decide +kernel
theorem dX4_parts_48 : decode cX4_parts 48 = .ok (.if_icmp .ne 22, 3) := by decide +kernel
theorem dX4_parts_51 : decode cX4_parts 51 = .ok (.aload_n 0, 1) := by decide +kernel
theorem dX4_parts_52 : decode cX4_parts 52 = .ok (.iload 4, 2) := by decide +kernel
theorem dX4_parts_54 : decode cX4_parts 54 = .ok (.iconst 0, 1) := by decide +kernel
theorem dX4_parts_55 : decode cX4_parts 55 = .ok (.invokevirtual 41, 3) := by decide +kernel
theorem dX4_parts_58 : decode cX4_parts 58 = .ok (.iload_n 1, 1) := by decide +kernel
theorem dX4_parts_59 : decode cX4_parts 59 = .ok (.if_icmp .ne 7, 3) := by decide +kernel
theorem dX4_parts_62 : decode cX4_parts 62 = .ok (.iconst 1, 1) := by decide +kernel
theorem dX4_parts_63 : decode cX4_parts 63 = .ok (.goto 78, 3) := by decide +kernel
theorem dX4_parts_66 : decode cX4_parts 66 = .ok (.iconst 0, 1) := by decide +kernel
theorem dX4_parts_67 : decode cX4_parts 67 = .ok (.goto 74, 3) := by decide +kernel
theorem dX4_parts_70 : decode cX4_parts 70 = .ok (.iload_n 2, 1) := by decide +kernel
theorem dX4_parts_71 : decode cX4_parts 71 = .ok (.iconst 5, 1) := by decide +kernel
theorem dX4_parts_72 : decode cX4_parts 72 = .ok (.if_icmp .ne 22, 3) := by decide +kernel
theorem dX4_parts_75 : decode cX4_parts 75 = .ok (.aload_n 0, 1) := by decide +kernel
theorem dX4_parts_76 : decode cX4_parts 76 = .ok (.iload 4, 2) := by decide +kernel
theorem dX4_parts_78 : decode cX4_parts 78 = .ok (.iconst 1, 1) := by decide +kernel
theorem dX4_parts_79 : decode cX4_parts 79 = .ok (.invokevirtual 41, 3) := by decide +kernel
theorem dX4_parts_82 : decode cX4_parts 82 = .ok (.iload_n 1, 1) := by decide +kernel
theorem dX4_parts_83 : decode cX4_parts 83 = .ok (.if_icmp .ne 7, 3) := by decide +kernel
theorem dX4_parts_86 : decode cX4_parts 86 = .ok (.iconst 1, 1) := by decide +kernel
theorem dX4_parts_87 : decode cX4_parts 87 = .ok (.goto 54, 3) := by decide +kernel
theorem dX4_parts_90 : decode cX4_parts 90 = .ok (.iconst 0, 1) := by decide +kernel
theorem dX4_parts_91 : decode cX4_parts 91 = .ok (.goto 50, 3) := by decide +kernel
theorem dX4_parts_94 : decode cX4_parts 94 = .ok (.iload_n 2, 1) := by decide +kernel
theorem dX4_parts_95 : decode cX4_parts 95 = .ok (.bipush 6, 2) := by decide +kernel
theorem dX4_parts_97 : decode cX4_parts 97 = .ok (.if_icmp .ne 23, 3) := by decide +kernel
theorem dX4_parts_100 : decode cX4_parts 100 = .ok (.aload_n 0, 1) := by decide +kernel
theorem dX4_parts_101 : decode cX4_parts 101 = .ok (.iload 4, 2) := by decide +kernel
theorem dX4_parts_103 : decode cX4_parts 103 = .ok (.bipush 6, 2) := by decide +kernel
theorem dX4_parts_105 : decode cX4_parts 105 = .ok (.invokevirtual 41, 3) := by decide +kernel
theorem dX4_parts_108 : decode cX4_parts 108 = .ok (.iload_n 1, 1) := by decide +kernel
theorem dX4_parts_109 : decode cX4_parts 109 = .ok (.if_icmp .ne 7, 3) := by decide +kernel
theorem dX4_parts_112 : decode cX4_parts 112 = .ok (.iconst 1, 1) := by decide +kernel
theorem dX4_parts_113 : decode cX4_parts 113 = .ok (.goto 28, 3) := by decide +kernel
theorem dX4_parts_116 : decode cX4_parts 116 = .ok (.iconst 0, 1) := by decide +kernel
theorem dX4_parts_117 : decode cX4_parts 117 = .ok (.goto 24, 3) := by decide +kernel
theorem dX4_parts_120 : decode cX4_parts 120 = .ok (.iload 5, 2) := by decide +kernel
theorem dX4_parts_122 : decode cX4_parts 122 = .ok (.ifCond .eq 18, 3) := by decide +kernel
theorem dX4_parts_125 : decode cX4_parts 125 = .ok (.aload_n 0, 1) := by decide +kernel
theorem dX4_parts_126 : decode cX4_parts 126 = .ok (.iload 4, 2) := by decide +kernel
theorem dX4_parts_128 : decode cX4_parts 128 = .ok (.iconst 4, 1) := by decide +kernel
theorem dX4_parts_129 : decode cX4_parts 129 = .ok (.invokevirtual 41, 3) := by decide +kernel
theorem dX4_parts_132 : decode cX4_parts 132 = .ok (.iconst 2, 1) := by decide +kernel
theorem dX4_parts_133 : decode cX4_parts 133 = .ok (.if_icmp .ne 7, 3) := by decide +kernel
theorem dX4_parts_136 : decode cX4_parts 136 = .ok (.iconst 1, 1) := by decide +kernel
theorem dX4_parts_137 : decode cX4_parts 137 = .ok (.goto 4, 3) := by decide +kernel
theorem dX4_parts_140 : decode cX4_parts 140 = .ok (.iconst 0, 1) := by decide +kernel
theorem dX4_parts_141 : decode cX4_parts 141 = .ok (.istore 6, 2) := by decide +kernel
theorem dX4_parts_143 : decode cX4_parts 143 = .ok (.iload_n 3, 1) := by decide +kernel
theorem dX4_parts_144 : decode cX4_parts 144 = .ok (.iload 6, 2) := by decide +kernel
theorem dX4_parts_146 : decode cX4_parts 146 = .ok (.ifCond .eq 7, 3) := by decide +kernel
theorem dX4_parts_149 : decode cX4_parts 149 = .ok (.iconst 1, 1) := by decide +kernel
theorem dX4_parts_150 : decode cX4_parts 150 = .ok (.goto 4, 3) := by decide +kernel
theorem dX4_parts_153 : decode cX4_parts 153 = .ok (.iconst 0, 1) := by decide +kernel
theorem dX4_parts_154 : decode cX4_parts 154 = .ok (.iadd, 1) := by decide +kernel
theorem dX4_parts_155 : decode cX4_parts 155 = .ok (.istore_n 3, 1) := by decide +kernel
theorem dX4_parts_156 : decode cX4_parts 156 = .ok (.iinc 4 1, 3) := by decide +kernel
theorem dX4_parts_159 : decode cX4_parts 159 = .ok (.goto (-154), 3) := by decide +kernel
theorem dX4_parts_162 : decode cX4_parts 162 = .ok (.iload_n 3, 1) := by decide +kernel
theorem dX4_parts_163 : decode cX4_parts 163 = .ok (.ireturn, 1) := by decide +kernel
theorem dX4_secondOf_0 : decode cX4_secondOf 0 = .ok (.iconst 0, 1) := by decide +kernel
theorem dX4_secondOf_1 : decode cX4_secondOf 1 = .ok (.istore_n 2, 1) := by decide +kernel
theorem dX4_secondOf_2 : decode cX4_secondOf 2 = .ok (.iconst 0, 1) := by decide +kernel
theorem dX4_secondOf_3 : decode cX4_secondOf 3 = .ok (.istore_n 3, 1) := by decide +kernel
theorem dX4_secondOf_4 : decode cX4_secondOf 4 = .ok (.iload_n 3, 1) := by decide +kernel
theorem dX4_secondOf_5 : decode cX4_secondOf 5 = .ok (.aload_n 0, 1) := by decide +kernel
theorem dX4_secondOf_6 : decode cX4_secondOf 6 = .ok (.getfield 7, 3) := by decide +kernel
theorem dX4_secondOf_9 : decode cX4_secondOf 9 = .ok (.iconst 5, 1) := by decide +kernel
theorem dX4_secondOf_10 : decode cX4_secondOf 10 = .ok (.iaload, 1) := by decide +kernel
theorem dX4_secondOf_11 : decode cX4_secondOf 11 = .ok (.if_icmp .ge 29, 3) := by decide +kernel
theorem dX4_secondOf_14 : decode cX4_secondOf 14 = .ok (.iload_n 2, 1) := by decide +kernel
theorem dX4_secondOf_15 : decode cX4_secondOf 15 = .ok (.aload_n 0, 1) := by decide +kernel
theorem dX4_secondOf_16 : decode cX4_secondOf 16 = .ok (.iload_n 3, 1) := by decide +kernel
theorem dX4_secondOf_17 : decode cX4_secondOf 17 = .ok (.iconst 2, 1) := by decide +kernel
theorem dX4_secondOf_18 : decode cX4_secondOf 18 = .ok (.invokevirtual 37, 3) := by decide +kernel
theorem dX4_secondOf_21 : decode cX4_secondOf 21 = .ok (.iload_n 1, 1) := by decide +kernel
theorem dX4_secondOf_22 : decode cX4_secondOf 22 = .ok (.if_icmp .ne 9, 3) := by decide +kernel
theorem dX4_secondOf_25 : decode cX4_secondOf 25 = .ok (.iconst 1, 1) := by decide +kernel
theorem dX4_secondOf_26 : decode cX4_secondOf 26 = .ok (.iload_n 3, 1) := by decide +kernel
theorem dX4_secondOf_27 : decode cX4_secondOf 27 = .ok (.ishl, 1) := by decide +kernel
theorem dX4_secondOf_28 : decode cX4_secondOf 28 = .ok (.goto 4, 3) := by decide +kernel
theorem dX4_secondOf_31 : decode cX4_secondOf 31 = .ok (.iconst 0, 1) := by decide +kernel
theorem dX4_secondOf_32 : decode cX4_secondOf 32 = .ok (.ior, 1) := by decide +kernel
theorem dX4_secondOf_33 : decode cX4_secondOf 33 = .ok (.istore_n 2, 1) := by decide +kernel
theorem dX4_secondOf_34 : decode cX4_secondOf 34 = .ok (.iinc 3 1, 3) := by decide +kernel
theorem dX4_secondOf_37 : decode cX4_secondOf 37 = .ok (.goto (-33), 3) := by decide +kernel
theorem dX4_secondOf_40 : decode cX4_secondOf 40 = .ok (.iload_n 2, 1) := by decide +kernel
theorem dX4_secondOf_41 : decode cX4_secondOf 41 = .ok (.ireturn, 1) := by decide +kernel
theorem dX4_oathLeft_0 : decode cX4_oathLeft 0 = .ok (.aload_n 0, 1) := by decide +kernel
theorem dX4_oathLeft_1 : decode cX4_oathLeft 1 = .ok (.iload_n 1, 1) := by decide +kernel
theorem dX4_oathLeft_2 : decode cX4_oathLeft 2 = .ok (.iconst 3, 1) := by decide +kernel
theorem dX4_oathLeft_3 : decode cX4_oathLeft 3 = .ok (.invokevirtual 37, 3) := by decide +kernel
theorem dX4_oathLeft_6 : decode cX4_oathLeft 6 = .ok (.aload_n 0, 1) := by decide +kernel
theorem dX4_oathLeft_7 : decode cX4_oathLeft 7 = .ok (.getfield 7, 3) := by decide +kernel
theorem dX4_oathLeft_10 : decode cX4_oathLeft 10 = .ok (.iconst 4, 1) := by decide +kernel
theorem dX4_oathLeft_11 : decode cX4_oathLeft 11 = .ok (.iaload, 1) := by decide +kernel
theorem dX4_oathLeft_12 : decode cX4_oathLeft 12 = .ok (.isub, 1) := by decide +kernel
theorem dX4_oathLeft_13 : decode cX4_oathLeft 13 = .ok (.istore_n 2, 1) := by decide +kernel
theorem dX4_oathLeft_14 : decode cX4_oathLeft 14 = .ok (.iload_n 2, 1) := by decide +kernel
theorem dX4_oathLeft_15 : decode cX4_oathLeft 15 = .ok (.ifCond .ge 7, 3) := by decide +kernel
theorem dX4_oathLeft_18 : decode cX4_oathLeft 18 = .ok (.iconst 0, 1) := by decide +kernel
theorem dX4_oathLeft_19 : decode cX4_oathLeft 19 = .ok (.goto 4, 3) := by decide +kernel
theorem dX4_oathLeft_22 : decode cX4_oathLeft 22 = .ok (.iload_n 2, 1) := by decide +kernel
theorem dX4_oathLeft_23 : decode cX4_oathLeft 23 = .ok (.ireturn, 1) := by decide +kernel
theorem dX4_of_0 : decode cX4_of 0 = .ok (.aload_n 0, 1) := by decide +kernel
theorem dX4_of_1 : decode cX4_of 1 = .ok (.iload_n 1, 1) := by decide +kernel
theorem dX4_of_2 : decode cX4_of 2 = .ok (.invokevirtual 75, 3) := by decide +kernel
theorem dX4_of_5 : decode cX4_of 5 = .ok (.ifCond .ne 5, 3) := by decide +kernel
theorem dX4_of_8 : decode cX4_of 8 = .ok (.iconst (-1), 1) := by decide +kernel
theorem dX4_of_9 : decode cX4_of 9 = .ok (.ireturn, 1) := by decide +kernel
theorem dX4_of_10 : decode cX4_of 10 = .ok (.iload_n 2, 1) := by decide +kernel
theorem dX4_of_11 : decode cX4_of 11 = .ok (.tableswitch 75 0 8 #[49, 49, 49, 56, 62, 62, 62, 62, 69], 49) := by decide +kernel
theorem dX4_of_60 : decode cX4_of 60 = .ok (.aload_n 0, 1) := by decide +kernel
theorem dX4_of_61 : decode cX4_of 61 = .ok (.iload_n 1, 1) := by decide +kernel
theorem dX4_of_62 : decode cX4_of 62 = .ok (.iload_n 2, 1) := by decide +kernel
theorem dX4_of_63 : decode cX4_of 63 = .ok (.invokevirtual 37, 3) := by decide +kernel
theorem dX4_of_66 : decode cX4_of 66 = .ok (.ireturn, 1) := by decide +kernel
theorem dX4_of_67 : decode cX4_of 67 = .ok (.aload_n 0, 1) := by decide +kernel
theorem dX4_of_68 : decode cX4_of 68 = .ok (.iload_n 1, 1) := by decide +kernel
theorem dX4_of_69 : decode cX4_of 69 = .ok (.invokevirtual 138, 3) := by decide +kernel
theorem dX4_of_72 : decode cX4_of 72 = .ok (.ireturn, 1) := by decide +kernel
theorem dX4_of_73 : decode cX4_of 73 = .ok (.aload_n 0, 1) := by decide +kernel
theorem dX4_of_74 : decode cX4_of 74 = .ok (.iload_n 1, 1) := by decide +kernel
theorem dX4_of_75 : decode cX4_of 75 = .ok (.iload_n 2, 1) := by decide +kernel
theorem dX4_of_76 : decode cX4_of 76 = .ok (.invokevirtual 141, 3) := by decide +kernel
theorem dX4_of_79 : decode cX4_of 79 = .ok (.ireturn, 1) := by decide +kernel
theorem dX4_of_80 : decode cX4_of 80 = .ok (.aload_n 0, 1) := by decide +kernel
theorem dX4_of_81 : decode cX4_of 81 = .ok (.iload_n 1, 1) := by decide +kernel
theorem dX4_of_82 : decode cX4_of 82 = .ok (.invokevirtual 144, 3) := by decide +kernel
theorem dX4_of_85 : decode cX4_of 85 = .ok (.ireturn, 1) := by decide +kernel
theorem dX4_of_86 : decode cX4_of 86 = .ok (.bipush (-2), 2) := by decide +kernel
theorem dX4_of_88 : decode cX4_of 88 = .ok (.ireturn, 1) := by decide +kernel
theorem dX4_quarrel_0 : decode cX4_quarrel 0 = .ok (.aload_n 0, 1) := by decide +kernel
theorem dX4_quarrel_1 : decode cX4_quarrel 1 = .ok (.iload_n 1, 1) := by decide +kernel
theorem dX4_quarrel_2 : decode cX4_quarrel 2 = .ok (.invokevirtual 83, 3) := by decide +kernel
theorem dX4_quarrel_5 : decode cX4_quarrel 5 = .ok (.ifCond .ne 5, 3) := by decide +kernel
theorem dX4_quarrel_8 : decode cX4_quarrel 8 = .ok (.iconst (-1), 1) := by decide +kernel
theorem dX4_quarrel_9 : decode cX4_quarrel 9 = .ok (.ireturn, 1) := by decide +kernel
theorem dX4_quarrel_10 : decode cX4_quarrel 10 = .ok (.iload_n 2, 1) := by decide +kernel
theorem dX4_quarrel_11 : decode cX4_quarrel 11 = .ok (.iconst 0, 1) := by decide +kernel
theorem dX4_quarrel_12 : decode cX4_quarrel 12 = .ok (.bipush 7, 2) := by decide +kernel
theorem dX4_quarrel_14 : decode cX4_quarrel 14 = .ok (.invokestatic 33, 3) := by decide +kernel
theorem dX4_quarrel_17 : decode cX4_quarrel 17 = .ok (.ifCond .ne 6, 3) := by decide +kernel
theorem dX4_quarrel_20 : decode cX4_quarrel 20 = .ok (.bipush (-2), 2) := by decide +kernel
theorem dX4_quarrel_22 : decode cX4_quarrel 22 = .ok (.ireturn, 1) := by decide +kernel
theorem dX4_quarrel_23 : decode cX4_quarrel 23 = .ok (.iload_n 2, 1) := by decide +kernel
theorem dX4_quarrel_24 : decode cX4_quarrel 24 = .ok (.iconst 3, 1) := by decide +kernel
theorem dX4_quarrel_25 : decode cX4_quarrel 25 = .ok (.if_icmp .ne 11, 3) := by decide +kernel
theorem dX4_quarrel_28 : decode cX4_quarrel 28 = .ok (.aload_n 0, 1) := by decide +kernel
theorem dX4_quarrel_29 : decode cX4_quarrel 29 = .ok (.iload_n 1, 1) := by decide +kernel
theorem dX4_quarrel_30 : decode cX4_quarrel 30 = .ok (.invokevirtual 58, 3) := by decide +kernel
theorem dX4_quarrel_33 : decode cX4_quarrel 33 = .ok (.goto 24, 3) := by decide +kernel
theorem dX4_quarrel_36 : decode cX4_quarrel 36 = .ok (.iload_n 2, 1) := by decide +kernel
theorem dX4_quarrel_37 : decode cX4_quarrel 37 = .ok (.bipush 7, 2) := by decide +kernel
theorem dX4_quarrel_39 : decode cX4_quarrel 39 = .ok (.if_icmp .ne 12, 3) := by decide +kernel
theorem dX4_quarrel_42 : decode cX4_quarrel 42 = .ok (.aload_n 0, 1) := by decide +kernel
theorem dX4_quarrel_43 : decode cX4_quarrel 43 = .ok (.iload_n 1, 1) := by decide +kernel
theorem dX4_quarrel_44 : decode cX4_quarrel 44 = .ok (.iconst 0, 1) := by decide +kernel
theorem dX4_quarrel_45 : decode cX4_quarrel 45 = .ok (.invokevirtual 66, 3) := by decide +kernel
theorem dX4_quarrel_48 : decode cX4_quarrel 48 = .ok (.goto 9, 3) := by decide +kernel
theorem dX4_quarrel_51 : decode cX4_quarrel 51 = .ok (.aload_n 0, 1) := by decide +kernel
theorem dX4_quarrel_52 : decode cX4_quarrel 52 = .ok (.iload_n 1, 1) := by decide +kernel
theorem dX4_quarrel_53 : decode cX4_quarrel 53 = .ok (.iload_n 2, 1) := by decide +kernel
theorem dX4_quarrel_54 : decode cX4_quarrel 54 = .ok (.invokevirtual 41, 3) := by decide +kernel
theorem dX4_quarrel_57 : decode cX4_quarrel 57 = .ok (.ireturn, 1) := by decide +kernel
theorem dX4_record_0 : decode cX4_record 0 = .ok (.iload_n 1, 1) := by decide +kernel
theorem dX4_record_1 : decode cX4_record 1 = .ok (.iconst 0, 1) := by decide +kernel
theorem dX4_record_2 : decode cX4_record 2 = .ok (.aload_n 0, 1) := by decide +kernel
theorem dX4_record_3 : decode cX4_record 3 = .ok (.getfield 7, 3) := by decide +kernel
theorem dX4_record_6 : decode cX4_record 6 = .ok (.sipush 144, 3) := by decide +kernel
theorem dX4_record_9 : decode cX4_record 9 = .ok (.iaload, 1) := by decide +kernel
theorem dX4_record_10 : decode cX4_record 10 = .ok (.iconst 1, 1) := by decide +kernel
theorem dX4_record_11 : decode cX4_record 11 = .ok (.isub, 1) := by decide +kernel
theorem dX4_record_12 : decode cX4_record 12 = .ok (.invokestatic 33, 3) := by decide +kernel
theorem dX4_record_15 : decode cX4_record 15 = .ok (.ifCond .ne 5, 3) := by decide +kernel
theorem dX4_record_18 : decode cX4_record 18 = .ok (.iconst (-1), 1) := by decide +kernel
theorem dX4_record_19 : decode cX4_record 19 = .ok (.ireturn, 1) := by decide +kernel
theorem dX4_record_20 : decode cX4_record 20 = .ok (.iload_n 2, 1) := by decide +kernel
theorem dX4_record_21 : decode cX4_record 21 = .ok (.iconst 0, 1) := by decide +kernel
theorem dX4_record_22 : decode cX4_record 22 = .ok (.iconst 2, 1) := by decide +kernel
theorem dX4_record_23 : decode cX4_record 23 = .ok (.invokestatic 33, 3) := by decide +kernel
theorem dX4_record_26 : decode cX4_record 26 = .ok (.ifCond .eq 20, 3) := by decide +kernel
theorem dX4_record_29 : decode cX4_record 29 = .ok (.aload_n 0, 1) := by decide +kernel
theorem dX4_record_30 : decode cX4_record 30 = .ok (.getfield 7, 3) := by decide +kernel
theorem dX4_record_33 : decode cX4_record 33 = .ok (.sipush 145, 3) := by decide +kernel
theorem dX4_record_36 : decode cX4_record 36 = .ok (.iconst 3, 1) := by decide +kernel
theorem dX4_record_37 : decode cX4_record 37 = .ok (.iload_n 1, 1) := by decide +kernel
theorem dX4_record_38 : decode cX4_record 38 = .ok (.imul, 1) := by decide +kernel
theorem dX4_record_39 : decode cX4_record 39 = .ok (.iadd, 1) := by decide +kernel
theorem dX4_record_40 : decode cX4_record 40 = .ok (.iload_n 2, 1) := by decide +kernel
theorem dX4_record_41 : decode cX4_record 41 = .ok (.iadd, 1) := by decide +kernel
theorem dX4_record_42 : decode cX4_record 42 = .ok (.iaload, 1) := by decide +kernel
theorem dX4_record_43 : decode cX4_record 43 = .ok (.goto 5, 3) := by decide +kernel
theorem dX4_record_46 : decode cX4_record 46 = .ok (.bipush (-2), 2) := by decide +kernel
theorem dX4_record_48 : decode cX4_record 48 = .ok (.ireturn, 1) := by decide +kernel
theorem dX4_press_0 : decode cX4_press 0 = .ok (.aload_n 0, 1) := by decide +kernel
theorem dX4_press_1 : decode cX4_press 1 = .ok (.iload_n 1, 1) := by decide +kernel
theorem dX4_press_2 : decode cX4_press 2 = .ok (.invokevirtual 58, 3) := by decide +kernel
theorem dX4_press_5 : decode cX4_press 5 = .ok (.iconst 1, 1) := by decide +kernel
theorem dX4_press_6 : decode cX4_press 6 = .ok (.iadd, 1) := by decide +kernel
theorem dX4_press_7 : decode cX4_press 7 = .ok (.aload_n 0, 1) := by decide +kernel
theorem dX4_press_8 : decode cX4_press 8 = .ok (.iload_n 1, 1) := by decide +kernel
theorem dX4_press_9 : decode cX4_press 9 = .ok (.iconst 2, 1) := by decide +kernel
theorem dX4_press_10 : decode cX4_press 10 = .ok (.invokevirtual 41, 3) := by decide +kernel
theorem dX4_press_13 : decode cX4_press 13 = .ok (.imul, 1) := by decide +kernel
theorem dX4_press_14 : decode cX4_press 14 = .ok (.ireturn, 1) := by decide +kernel
theorem dX4_pressing_0 : decode cX4_pressing 0 = .ok (.iconst 0, 1) := by decide +kernel
theorem dX4_pressing_1 : decode cX4_pressing 1 = .ok (.istore_n 2, 1) := by decide +kernel
theorem dX4_pressing_2 : decode cX4_pressing 2 = .ok (.iload_n 2, 1) := by decide +kernel
theorem dX4_pressing_3 : decode cX4_pressing 3 = .ok (.aload_n 0, 1) := by decide +kernel
theorem dX4_pressing_4 : decode cX4_pressing 4 = .ok (.getfield 7, 3) := by decide +kernel
theorem dX4_pressing_7 : decode cX4_pressing 7 = .ok (.bipush 47, 2) := by decide +kernel
theorem dX4_pressing_9 : decode cX4_pressing 9 = .ok (.iaload, 1) := by decide +kernel
theorem dX4_pressing_10 : decode cX4_pressing 10 = .ok (.if_icmp .ge 112, 3) := by decide +kernel
theorem dX4_pressing_13 : decode cX4_pressing 13 = .ok (.iconst 0, 1) := by decide +kernel
theorem dX4_pressing_14 : decode cX4_pressing 14 = .ok (.istore_n 3, 1) := by decide +kernel
theorem dX4_pressing_15 : decode cX4_pressing 15 = .ok (.iconst 0, 1) := by decide +kernel
theorem dX4_pressing_16 : decode cX4_pressing 16 = .ok (.istore 4, 2) := by decide +kernel
theorem dX4_pressing_18 : decode cX4_pressing 18 = .ok (.iload 4, 2) := by decide +kernel
theorem dX4_pressing_20 : decode cX4_pressing 20 = .ok (.aload_n 0, 1) := by decide +kernel
theorem dX4_pressing_21 : decode cX4_pressing 21 = .ok (.getfield 7, 3) := by decide +kernel
theorem dX4_pressing_24 : decode cX4_pressing 24 = .ok (.bipush 47, 2) := by decide +kernel
theorem dX4_pressing_26 : decode cX4_pressing 26 = .ok (.iaload, 1) := by decide +kernel
theorem dX4_pressing_27 : decode cX4_pressing 27 = .ok (.if_icmp .ge 73, 3) := by decide +kernel
theorem dX4_pressing_30 : decode cX4_pressing 30 = .ok (.aload_n 0, 1) := by decide +kernel
theorem dX4_pressing_31 : decode cX4_pressing 31 = .ok (.iload 4, 2) := by decide +kernel
theorem dX4_pressing_33 : decode cX4_pressing 33 = .ok (.invokevirtual 147, 3) := by decide +kernel
theorem dX4_pressing_36 : decode cX4_pressing 36 = .ok (.aload_n 0, 1) := by decide +kernel
theorem dX4_pressing_37 : decode cX4_pressing 37 = .ok (.iload_n 2, 1) := by decide +kernel
theorem dX4_pressing_38 : decode cX4_pressing 38 = .ok (.invokevirtual 147, 3) := by decide +kernel
theorem dX4_pressing_41 : decode cX4_pressing 41 = .ok (.if_icmp .gt 23, 3) := by decide +kernel
theorem dX4_pressing_44 : decode cX4_pressing 44 = .ok (.aload_n 0, 1) := by decide +kernel
theorem dX4_pressing_45 : decode cX4_pressing 45 = .ok (.iload 4, 2) := by decide +kernel
theorem dX4_pressing_47 : decode cX4_pressing 47 = .ok (.invokevirtual 147, 3) := by decide +kernel
theorem dX4_pressing_50 : decode cX4_pressing 50 = .ok (.aload_n 0, 1) := by decide +kernel
theorem dX4_pressing_51 : decode cX4_pressing 51 = .ok (.iload_n 2, 1) := by decide +kernel
theorem dX4_pressing_52 : decode cX4_pressing 52 = .ok (.invokevirtual 147, 3) := by decide +kernel
theorem dX4_pressing_55 : decode cX4_pressing 55 = .ok (.if_icmp .ne 13, 3) := by decide +kernel
theorem dX4_pressing_58 : decode cX4_pressing 58 = .ok (.iload 4, 2) := by decide +kernel
theorem dX4_pressing_60 : decode cX4_pressing 60 = .ok (.iload_n 2, 1) := by decide +kernel
theorem dX4_pressing_61 : decode cX4_pressing 61 = .ok (.if_icmp .ge 7, 3) := by decide +kernel
theorem dX4_pressing_64 : decode cX4_pressing 64 = .ok (.iconst 1, 1) := by decide +kernel
theorem dX4_pressing_65 : decode cX4_pressing 65 = .ok (.goto 4, 3) := by decide +kernel
theorem dX4_pressing_68 : decode cX4_pressing 68 = .ok (.iconst 0, 1) := by decide +kernel
theorem dX4_pressing_69 : decode cX4_pressing 69 = .ok (.istore 5, 2) := by decide +kernel
theorem dX4_pressing_71 : decode cX4_pressing 71 = .ok (.iload_n 3, 1) := by decide +kernel
theorem dX4_pressing_72 : decode cX4_pressing 72 = .ok (.aload_n 0, 1) := by decide +kernel
theorem dX4_pressing_73 : decode cX4_pressing 73 = .ok (.iload 4, 2) := by decide +kernel
theorem dX4_pressing_75 : decode cX4_pressing 75 = .ok (.iconst 4, 1) := by decide +kernel
theorem dX4_pressing_76 : decode cX4_pressing 76 = .ok (.invokevirtual 41, 3) := by decide +kernel
theorem dX4_pressing_79 : decode cX4_pressing 79 = .ok (.ifCond .ne 12, 3) := by decide +kernel
theorem dX4_pressing_82 : decode cX4_pressing 82 = .ok (.iload 5, 2) := by decide +kernel
theorem dX4_pressing_84 : decode cX4_pressing 84 = .ok (.ifCond .eq 7, 3) := by decide +kernel
theorem dX4_pressing_87 : decode cX4_pressing 87 = .ok (.iconst 1, 1) := by decide +kernel
theorem dX4_pressing_88 : decode cX4_pressing 88 = .ok (.goto 4, 3) := by decide +kernel
theorem dX4_pressing_91 : decode cX4_pressing 91 = .ok (.iconst 0, 1) := by decide +kernel
theorem dX4_pressing_92 : decode cX4_pressing 92 = .ok (.iadd, 1) := by decide +kernel
theorem dX4_pressing_93 : decode cX4_pressing 93 = .ok (.istore_n 3, 1) := by decide +kernel
theorem dX4_pressing_94 : decode cX4_pressing 94 = .ok (.iinc 4 1, 3) := by decide +kernel
theorem dX4_pressing_97 : decode cX4_pressing 97 = .ok (.goto (-79), 3) := by decide +kernel
theorem dX4_pressing_100 : decode cX4_pressing 100 = .ok (.aload_n 0, 1) := by decide +kernel
theorem dX4_pressing_101 : decode cX4_pressing 101 = .ok (.iload_n 2, 1) := by decide +kernel
theorem dX4_pressing_102 : decode cX4_pressing 102 = .ok (.iconst 4, 1) := by decide +kernel
theorem dX4_pressing_103 : decode cX4_pressing 103 = .ok (.invokevirtual 41, 3) := by decide +kernel
theorem dX4_pressing_106 : decode cX4_pressing 106 = .ok (.ifCond .ne 10, 3) := by decide +kernel
theorem dX4_pressing_109 : decode cX4_pressing 109 = .ok (.iload_n 3, 1) := by decide +kernel
theorem dX4_pressing_110 : decode cX4_pressing 110 = .ok (.iload_n 1, 1) := by decide +kernel
theorem dX4_pressing_111 : decode cX4_pressing 111 = .ok (.if_icmp .ne 5, 3) := by decide +kernel
theorem dX4_pressing_114 : decode cX4_pressing 114 = .ok (.iload_n 2, 1) := by decide +kernel
theorem dX4_pressing_115 : decode cX4_pressing 115 = .ok (.ireturn, 1) := by decide +kernel
theorem dX4_pressing_116 : decode cX4_pressing 116 = .ok (.iinc 2 1, 3) := by decide +kernel
theorem dX4_pressing_119 : decode cX4_pressing 119 = .ok (.goto (-117), 3) := by decide +kernel
theorem dX4_pressing_122 : decode cX4_pressing 122 = .ok (.iconst (-1), 1) := by decide +kernel
theorem dX4_pressing_123 : decode cX4_pressing 123 = .ok (.ireturn, 1) := by decide +kernel
theorem dX4_insults_0 : decode cX4_insults 0 = .ok (.iload_n 1, 1) := by decide +kernel
theorem dX4_insults_1 : decode cX4_insults 1 = .ok (.iconst 1, 1) := by decide +kernel
theorem dX4_insults_2 : decode cX4_insults 2 = .ok (.bipush 9, 2) := by decide +kernel
theorem dX4_insults_4 : decode cX4_insults 4 = .ok (.invokestatic 33, 3) := by decide +kernel
theorem dX4_insults_7 : decode cX4_insults 7 = .ok (.ifCond .ne 6, 3) := by decide +kernel
theorem dX4_insults_10 : decode cX4_insults 10 = .ok (.bipush (-2), 2) := by decide +kernel
theorem dX4_insults_12 : decode cX4_insults 12 = .ok (.ireturn, 1) := by decide +kernel
theorem dX4_insults_13 : decode cX4_insults 13 = .ok (.iconst 0, 1) := by decide +kernel
theorem dX4_insults_14 : decode cX4_insults 14 = .ok (.istore_n 2, 1) := by decide +kernel
theorem dX4_insults_15 : decode cX4_insults 15 = .ok (.iconst 0, 1) := by decide +kernel
theorem dX4_insults_16 : decode cX4_insults 16 = .ok (.istore_n 3, 1) := by decide +kernel
theorem dX4_insults_17 : decode cX4_insults 17 = .ok (.iload_n 3, 1) := by decide +kernel
theorem dX4_insults_18 : decode cX4_insults 18 = .ok (.aload_n 0, 1) := by decide +kernel
theorem dX4_insults_19 : decode cX4_insults 19 = .ok (.getfield 7, 3) := by decide +kernel
theorem dX4_insults_22 : decode cX4_insults 22 = .ok (.bipush 47, 2) := by decide +kernel
theorem dX4_insults_24 : decode cX4_insults 24 = .ok (.iaload, 1) := by decide +kernel
theorem dX4_insults_25 : decode cX4_insults 25 = .ok (.if_icmp .ge 27, 3) := by decide +kernel
theorem dX4_insults_28 : decode cX4_insults 28 = .ok (.iload_n 2, 1) := by decide +kernel
theorem dX4_insults_29 : decode cX4_insults 29 = .ok (.aload_n 0, 1) := by decide +kernel
theorem dX4_insults_30 : decode cX4_insults 30 = .ok (.iload_n 3, 1) := by decide +kernel
theorem dX4_insults_31 : decode cX4_insults 31 = .ok (.iconst 2, 1) := by decide +kernel
theorem dX4_insults_32 : decode cX4_insults 32 = .ok (.invokevirtual 41, 3) := by decide +kernel
theorem dX4_insults_35 : decode cX4_insults 35 = .ok (.iload_n 1, 1) := by decide +kernel
theorem dX4_insults_36 : decode cX4_insults 36 = .ok (.if_icmp .lt 7, 3) := by decide +kernel
theorem dX4_insults_39 : decode cX4_insults 39 = .ok (.iconst 1, 1) := by decide +kernel
theorem dX4_insults_40 : decode cX4_insults 40 = .ok (.goto 4, 3) := by decide +kernel
theorem dX4_insults_43 : decode cX4_insults 43 = .ok (.iconst 0, 1) := by decide +kernel
theorem dX4_insults_44 : decode cX4_insults 44 = .ok (.iadd, 1) := by decide +kernel
theorem dX4_insults_45 : decode cX4_insults 45 = .ok (.istore_n 2, 1) := by decide +kernel
theorem dX4_insults_46 : decode cX4_insults 46 = .ok (.iinc 3 1, 3) := by decide +kernel
theorem dX4_insults_49 : decode cX4_insults 49 = .ok (.goto (-32), 3) := by decide +kernel
theorem dX4_insults_52 : decode cX4_insults 52 = .ok (.iload_n 2, 1) := by decide +kernel
theorem dX4_insults_53 : decode cX4_insults 53 = .ok (.ireturn, 1) := by decide +kernel
theorem dX4_sworn_0 : decode cX4_sworn 0 = .ok (.iconst 0, 1) := by decide +kernel
theorem dX4_sworn_1 : decode cX4_sworn 1 = .ok (.istore_n 1, 1) := by decide +kernel
theorem dX4_sworn_2 : decode cX4_sworn 2 = .ok (.iconst 0, 1) := by decide +kernel
theorem dX4_sworn_3 : decode cX4_sworn 3 = .ok (.istore_n 2, 1) := by decide +kernel
theorem dX4_sworn_4 : decode cX4_sworn 4 = .ok (.iload_n 2, 1) := by decide +kernel
theorem dX4_sworn_5 : decode cX4_sworn 5 = .ok (.aload_n 0, 1) := by decide +kernel
theorem dX4_sworn_6 : decode cX4_sworn 6 = .ok (.getfield 7, 3) := by decide +kernel
theorem dX4_sworn_9 : decode cX4_sworn 9 = .ok (.iconst 5, 1) := by decide +kernel
theorem dX4_sworn_10 : decode cX4_sworn 10 = .ok (.iaload, 1) := by decide +kernel
theorem dX4_sworn_11 : decode cX4_sworn 11 = .ok (.if_icmp .ge 28, 3) := by decide +kernel
theorem dX4_sworn_14 : decode cX4_sworn 14 = .ok (.iload_n 1, 1) := by decide +kernel
theorem dX4_sworn_15 : decode cX4_sworn 15 = .ok (.aload_n 0, 1) := by decide +kernel
theorem dX4_sworn_16 : decode cX4_sworn 16 = .ok (.iload_n 2, 1) := by decide +kernel
theorem dX4_sworn_17 : decode cX4_sworn 17 = .ok (.iconst 0, 1) := by decide +kernel
theorem dX4_sworn_18 : decode cX4_sworn 18 = .ok (.invokevirtual 50, 3) := by decide +kernel
theorem dX4_sworn_21 : decode cX4_sworn 21 = .ok (.ifCond .eq 9, 3) := by decide +kernel
theorem dX4_sworn_24 : decode cX4_sworn 24 = .ok (.iconst 1, 1) := by decide +kernel
theorem dX4_sworn_25 : decode cX4_sworn 25 = .ok (.iload_n 2, 1) := by decide +kernel
theorem dX4_sworn_26 : decode cX4_sworn 26 = .ok (.ishl, 1) := by decide +kernel
theorem dX4_sworn_27 : decode cX4_sworn 27 = .ok (.goto 4, 3) := by decide +kernel
theorem dX4_sworn_30 : decode cX4_sworn 30 = .ok (.iconst 0, 1) := by decide +kernel
theorem dX4_sworn_31 : decode cX4_sworn 31 = .ok (.ior, 1) := by decide +kernel
theorem dX4_sworn_32 : decode cX4_sworn 32 = .ok (.istore_n 1, 1) := by decide +kernel
theorem dX4_sworn_33 : decode cX4_sworn 33 = .ok (.iinc 2 1, 3) := by decide +kernel
theorem dX4_sworn_36 : decode cX4_sworn 36 = .ok (.goto (-32), 3) := by decide +kernel
theorem dX4_sworn_39 : decode cX4_sworn 39 = .ok (.iload_n 1, 1) := by decide +kernel
theorem dX4_sworn_40 : decode cX4_sworn 40 = .ok (.ireturn, 1) := by decide +kernel
theorem dX4_count_0 : decode cX4_count 0 = .ok (.iload_n 1, 1) := by decide +kernel
theorem dX4_count_1 : decode cX4_count 1 = .ok (.tableswitch 159 0 14 #[75, 82, 89, 97, 103, 108, 117, 126, 134, 139, 139, 139, 139, 149, 154], 75) := by decide +kernel
theorem dX4_count_76 : decode cX4_count 76 = .ok (.aload_n 0, 1) := by decide +kernel
theorem dX4_count_77 : decode cX4_count 77 = .ok (.getfield 7, 3) := by decide +kernel
theorem dX4_count_80 : decode cX4_count 80 = .ok (.iconst 4, 1) := by decide +kernel
theorem dX4_count_81 : decode cX4_count 81 = .ok (.iaload, 1) := by decide +kernel
theorem dX4_count_82 : decode cX4_count 82 = .ok (.ireturn, 1) := by decide +kernel
theorem dX4_count_83 : decode cX4_count 83 = .ok (.aload_n 0, 1) := by decide +kernel
theorem dX4_count_84 : decode cX4_count 84 = .ok (.getfield 7, 3) := by decide +kernel
theorem dX4_count_87 : decode cX4_count 87 = .ok (.iconst 5, 1) := by decide +kernel
theorem dX4_count_88 : decode cX4_count 88 = .ok (.iaload, 1) := by decide +kernel
theorem dX4_count_89 : decode cX4_count 89 = .ok (.ireturn, 1) := by decide +kernel
theorem dX4_count_90 : decode cX4_count 90 = .ok (.aload_n 0, 1) := by decide +kernel
theorem dX4_count_91 : decode cX4_count 91 = .ok (.getfield 7, 3) := by decide +kernel
theorem dX4_count_94 : decode cX4_count 94 = .ok (.bipush 47, 2) := by decide +kernel
theorem dX4_count_96 : decode cX4_count 96 = .ok (.iaload, 1) := by decide +kernel
theorem dX4_count_97 : decode cX4_count 97 = .ok (.ireturn, 1) := by decide +kernel
theorem dX4_count_98 : decode cX4_count 98 = .ok (.aload_n 0, 1) := by decide +kernel
theorem dX4_count_99 : decode cX4_count 99 = .ok (.iconst 0, 1) := by decide +kernel
theorem dX4_count_100 : decode cX4_count 100 = .ok (.invokevirtual 90, 3) := by decide +kernel
theorem dX4_count_103 : decode cX4_count 103 = .ok (.ireturn, 1) := by decide +kernel
theorem dX4_count_104 : decode cX4_count 104 = .ok (.aload_n 0, 1) := by decide +kernel
theorem dX4_count_105 : decode cX4_count 105 = .ok (.invokevirtual 103, 3) := by decide +kernel
theorem dX4_count_108 : decode cX4_count 108 = .ok (.ireturn, 1) := by decide +kernel
theorem dX4_count_109 : decode cX4_count 109 = .ok (.aload_n 0, 1) := by decide +kernel
theorem dX4_count_110 : decode cX4_count 110 = .ok (.iconst 1, 1) := by decide +kernel
theorem dX4_count_111 : decode cX4_count 111 = .ok (.invokevirtual 90, 3) := by decide +kernel
theorem dX4_count_114 : decode cX4_count 114 = .ok (.invokestatic 93, 3) := by decide +kernel
theorem dX4_count_117 : decode cX4_count 117 = .ok (.ireturn, 1) := by decide +kernel
theorem dX4_count_118 : decode cX4_count 118 = .ok (.aload_n 0, 1) := by decide +kernel
theorem dX4_count_119 : decode cX4_count 119 = .ok (.iconst 2, 1) := by decide +kernel
theorem dX4_count_120 : decode cX4_count 120 = .ok (.invokevirtual 90, 3) := by decide +kernel
theorem dX4_count_123 : decode cX4_count 123 = .ok (.invokestatic 93, 3) := by decide +kernel
theorem dX4_count_126 : decode cX4_count 126 = .ok (.ireturn, 1) := by decide +kernel
theorem dX4_count_127 : decode cX4_count 127 = .ok (.aload_n 0, 1) := by decide +kernel
theorem dX4_count_128 : decode cX4_count 128 = .ok (.getfield 7, 3) := by decide +kernel
theorem dX4_count_131 : decode cX4_count 131 = .ok (.bipush 46, 2) := by decide +kernel
theorem dX4_count_133 : decode cX4_count 133 = .ok (.iaload, 1) := by decide +kernel
theorem dX4_count_134 : decode cX4_count 134 = .ok (.ireturn, 1) := by decide +kernel
theorem dX4_count_135 : decode cX4_count 135 = .ok (.aload_n 0, 1) := by decide +kernel
theorem dX4_count_136 : decode cX4_count 136 = .ok (.invokevirtual 150, 3) := by decide +kernel
theorem dX4_count_139 : decode cX4_count 139 = .ok (.ireturn, 1) := by decide +kernel
theorem dX4_count_140 : decode cX4_count 140 = .ok (.aload_n 0, 1) := by decide +kernel
theorem dX4_count_141 : decode cX4_count 141 = .ok (.getfield 7, 3) := by decide +kernel
theorem dX4_count_144 : decode cX4_count 144 = .ok (.iload_n 1, 1) := by decide +kernel
theorem dX4_count_145 : decode cX4_count 145 = .ok (.bipush 9, 2) := by decide +kernel
theorem dX4_count_147 : decode cX4_count 147 = .ok (.isub, 1) := by decide +kernel
theorem dX4_count_148 : decode cX4_count 148 = .ok (.iaload, 1) := by decide +kernel
theorem dX4_count_149 : decode cX4_count 149 = .ok (.ireturn, 1) := by decide +kernel
theorem dX4_count_150 : decode cX4_count 150 = .ok (.aload_n 0, 1) := by decide +kernel
theorem dX4_count_151 : decode cX4_count 151 = .ok (.getfield 153, 3) := by decide +kernel
theorem dX4_count_154 : decode cX4_count 154 = .ok (.ireturn, 1) := by decide +kernel
theorem dX4_count_155 : decode cX4_count 155 = .ok (.aload_n 0, 1) := by decide +kernel
theorem dX4_count_156 : decode cX4_count 156 = .ok (.getfield 29, 3) := by decide +kernel
theorem dX4_count_159 : decode cX4_count 159 = .ok (.ireturn, 1) := by decide +kernel
theorem dX4_count_160 : decode cX4_count 160 = .ok (.bipush (-2), 2) := by decide +kernel
theorem dX4_count_162 : decode cX4_count 162 = .ok (.ireturn, 1) := by decide +kernel
theorem dX4_why_0 : decode cX4_why 0 = .ok (.aload_n 0, 1) := by decide +kernel
theorem dX4_why_1 : decode cX4_why 1 = .ok (.iload_n 1, 1) := by decide +kernel
theorem dX4_why_2 : decode cX4_why 2 = .ok (.invokevirtual 83, 3) := by decide +kernel
theorem dX4_why_5 : decode cX4_why 5 = .ok (.ifCond .eq 12, 3) := by decide +kernel
theorem dX4_why_8 : decode cX4_why 8 = .ok (.aload_n 0, 1) := by decide +kernel
theorem dX4_why_9 : decode cX4_why 9 = .ok (.iload_n 1, 1) := by decide +kernel
theorem dX4_why_10 : decode cX4_why 10 = .ok (.iconst 0, 1) := by decide +kernel
theorem dX4_why_11 : decode cX4_why 11 = .ok (.invokevirtual 72, 3) := by decide +kernel
theorem dX4_why_14 : decode cX4_why 14 = .ok (.goto 4, 3) := by decide +kernel
theorem dX4_why_17 : decode cX4_why 17 = .ok (.iconst (-1), 1) := by decide +kernel
theorem dX4_why_18 : decode cX4_why 18 = .ok (.ireturn, 1) := by decide +kernel
theorem dX4_firstWay_0 : decode cX4_firstWay 0 = .ok (.aload_n 0, 1) := by decide +kernel
theorem dX4_firstWay_1 : decode cX4_firstWay 1 = .ok (.iload_n 1, 1) := by decide +kernel
theorem dX4_firstWay_2 : decode cX4_firstWay 2 = .ok (.invokevirtual 83, 3) := by decide +kernel
theorem dX4_firstWay_5 : decode cX4_firstWay 5 = .ok (.ifCond .ne 5, 3) := by decide +kernel
theorem dX4_firstWay_8 : decode cX4_firstWay 8 = .ok (.iconst (-1), 1) := by decide +kernel
theorem dX4_firstWay_9 : decode cX4_firstWay 9 = .ok (.ireturn, 1) := by decide +kernel
theorem dX4_firstWay_10 : decode cX4_firstWay 10 = .ok (.iconst 0, 1) := by decide +kernel
theorem dX4_firstWay_11 : decode cX4_firstWay 11 = .ok (.istore_n 2, 1) := by decide +kernel
theorem dX4_firstWay_12 : decode cX4_firstWay 12 = .ok (.iload_n 2, 1) := by decide +kernel
theorem dX4_firstWay_13 : decode cX4_firstWay 13 = .ok (.iconst 5, 1) := by decide +kernel
theorem dX4_firstWay_14 : decode cX4_firstWay 14 = .ok (.if_icmp .ge 25, 3) := by decide +kernel
theorem dX4_firstWay_17 : decode cX4_firstWay 17 = .ok (.aload_n 0, 1) := by decide +kernel
theorem dX4_firstWay_18 : decode cX4_firstWay 18 = .ok (.iload_n 1, 1) := by decide +kernel
theorem dX4_firstWay_19 : decode cX4_firstWay 19 = .ok (.iconst 0, 1) := by decide +kernel
theorem dX4_firstWay_20 : decode cX4_firstWay 20 = .ok (.invokevirtual 66, 3) := by decide +kernel
theorem dX4_firstWay_23 : decode cX4_firstWay 23 = .ok (.iload_n 2, 1) := by decide +kernel
theorem dX4_firstWay_24 : decode cX4_firstWay 24 = .ok (.ishr, 1) := by decide +kernel
theorem dX4_firstWay_25 : decode cX4_firstWay 25 = .ok (.iconst 1, 1) := by decide +kernel
theorem dX4_firstWay_26 : decode cX4_firstWay 26 = .ok (.iand, 1) := by decide +kernel
theorem dX4_firstWay_27 : decode cX4_firstWay 27 = .ok (.iconst 1, 1) := by decide +kernel
theorem dX4_firstWay_28 : decode cX4_firstWay 28 = .ok (.if_icmp .ne 5, 3) := by decide +kernel
theorem dX4_firstWay_31 : decode cX4_firstWay 31 = .ok (.iload_n 2, 1) := by decide +kernel
theorem dX4_firstWay_32 : decode cX4_firstWay 32 = .ok (.ireturn, 1) := by decide +kernel
theorem dX4_firstWay_33 : decode cX4_firstWay 33 = .ok (.iinc 2 1, 3) := by decide +kernel
theorem dX4_firstWay_36 : decode cX4_firstWay 36 = .ok (.goto (-24), 3) := by decide +kernel
theorem dX4_firstWay_39 : decode cX4_firstWay 39 = .ok (.bipush (-6), 2) := by decide +kernel
theorem dX4_firstWay_41 : decode cX4_firstWay 41 = .ok (.ireturn, 1) := by decide +kernel
theorem dX4_opensIn_0 : decode cX4_opensIn 0 = .ok (.aload_n 0, 1) := by decide +kernel
theorem dX4_opensIn_1 : decode cX4_opensIn 1 = .ok (.iload_n 1, 1) := by decide +kernel
theorem dX4_opensIn_2 : decode cX4_opensIn 2 = .ok (.invokevirtual 83, 3) := by decide +kernel
theorem dX4_opensIn_5 : decode cX4_opensIn 5 = .ok (.ifCond .ne 5, 3) := by decide +kernel
theorem dX4_opensIn_8 : decode cX4_opensIn 8 = .ok (.iconst (-1), 1) := by decide +kernel
theorem dX4_opensIn_9 : decode cX4_opensIn 9 = .ok (.ireturn, 1) := by decide +kernel
theorem dX4_opensIn_10 : decode cX4_opensIn 10 = .ok (.aload_n 0, 1) := by decide +kernel
theorem dX4_opensIn_11 : decode cX4_opensIn 11 = .ok (.iload_n 1, 1) := by decide +kernel
theorem dX4_opensIn_12 : decode cX4_opensIn 12 = .ok (.iconst 4, 1) := by decide +kernel
theorem dX4_opensIn_13 : decode cX4_opensIn 13 = .ok (.invokevirtual 41, 3) := by decide +kernel
theorem dX4_opensIn_16 : decode cX4_opensIn 16 = .ok (.ifCond .eq 6, 3) := by decide +kernel
theorem dX4_opensIn_19 : decode cX4_opensIn 19 = .ok (.bipush (-5), 2) := by decide +kernel
theorem dX4_opensIn_21 : decode cX4_opensIn 21 = .ok (.ireturn, 1) := by decide +kernel
theorem dX4_opensIn_22 : decode cX4_opensIn 22 = .ok (.iconst 0, 1) := by decide +kernel
theorem dX4_opensIn_23 : decode cX4_opensIn 23 = .ok (.istore_n 2, 1) := by decide +kernel
theorem dX4_opensIn_24 : decode cX4_opensIn 24 = .ok (.iload_n 2, 1) := by decide +kernel
theorem dX4_opensIn_25 : decode cX4_opensIn 25 = .ok (.sipush 500, 3) := by decide +kernel
theorem dX4_opensIn_28 : decode cX4_opensIn 28 = .ok (.if_icmp .gt 20, 3) := by decide +kernel
theorem dX4_opensIn_31 : decode cX4_opensIn 31 = .ok (.aload_n 0, 1) := by decide +kernel
theorem dX4_opensIn_32 : decode cX4_opensIn 32 = .ok (.iload_n 1, 1) := by decide +kernel
theorem dX4_opensIn_33 : decode cX4_opensIn 33 = .ok (.iload_n 2, 1) := by decide +kernel
theorem dX4_opensIn_34 : decode cX4_opensIn 34 = .ok (.invokevirtual 66, 3) := by decide +kernel
theorem dX4_opensIn_37 : decode cX4_opensIn 37 = .ok (.ifCond .eq 5, 3) := by decide +kernel
theorem dX4_opensIn_40 : decode cX4_opensIn 40 = .ok (.iload_n 2, 1) := by decide +kernel
theorem dX4_opensIn_41 : decode cX4_opensIn 41 = .ok (.ireturn, 1) := by decide +kernel
theorem dX4_opensIn_42 : decode cX4_opensIn 42 = .ok (.iinc 2 1, 3) := by decide +kernel
theorem dX4_opensIn_45 : decode cX4_opensIn 45 = .ok (.goto (-21), 3) := by decide +kernel
theorem dX4_opensIn_48 : decode cX4_opensIn 48 = .ok (.bipush (-6), 2) := by decide +kernel
theorem dX4_opensIn_50 : decode cX4_opensIn 50 = .ok (.ireturn, 1) := by decide +kernel
theorem dX4_dueIn_0 : decode cX4_dueIn 0 = .ok (.aload_n 0, 1) := by decide +kernel
theorem dX4_dueIn_1 : decode cX4_dueIn 1 = .ok (.iload_n 1, 1) := by decide +kernel
theorem dX4_dueIn_2 : decode cX4_dueIn 2 = .ok (.invokevirtual 83, 3) := by decide +kernel
theorem dX4_dueIn_5 : decode cX4_dueIn 5 = .ok (.ifCond .ne 5, 3) := by decide +kernel
theorem dX4_dueIn_8 : decode cX4_dueIn 8 = .ok (.iconst (-1), 1) := by decide +kernel
theorem dX4_dueIn_9 : decode cX4_dueIn 9 = .ok (.ireturn, 1) := by decide +kernel
theorem dX4_dueIn_10 : decode cX4_dueIn 10 = .ok (.aload_n 0, 1) := by decide +kernel
theorem dX4_dueIn_11 : decode cX4_dueIn 11 = .ok (.iload_n 1, 1) := by decide +kernel
theorem dX4_dueIn_12 : decode cX4_dueIn 12 = .ok (.iconst 4, 1) := by decide +kernel
theorem dX4_dueIn_13 : decode cX4_dueIn 13 = .ok (.invokevirtual 41, 3) := by decide +kernel
theorem dX4_dueIn_16 : decode cX4_dueIn 16 = .ok (.ifCond .eq 6, 3) := by decide +kernel
theorem dX4_dueIn_19 : decode cX4_dueIn 19 = .ok (.bipush (-5), 2) := by decide +kernel
theorem dX4_dueIn_21 : decode cX4_dueIn 21 = .ok (.ireturn, 1) := by decide +kernel
theorem dX4_dueIn_22 : decode cX4_dueIn 22 = .ok (.iconst 0, 1) := by decide +kernel
theorem dX4_dueIn_23 : decode cX4_dueIn 23 = .ok (.istore_n 2, 1) := by decide +kernel
theorem dX4_dueIn_24 : decode cX4_dueIn 24 = .ok (.iload_n 2, 1) := by decide +kernel
theorem dX4_dueIn_25 : decode cX4_dueIn 25 = .ok (.sipush 500, 3) := by decide +kernel
theorem dX4_dueIn_28 : decode cX4_dueIn 28 = .ok (.if_icmp .gt 20, 3) := by decide +kernel
theorem dX4_dueIn_31 : decode cX4_dueIn 31 = .ok (.aload_n 0, 1) := by decide +kernel
theorem dX4_dueIn_32 : decode cX4_dueIn 32 = .ok (.iload_n 1, 1) := by decide +kernel
theorem dX4_dueIn_33 : decode cX4_dueIn 33 = .ok (.iload_n 2, 1) := by decide +kernel
theorem dX4_dueIn_34 : decode cX4_dueIn 34 = .ok (.invokevirtual 72, 3) := by decide +kernel
theorem dX4_dueIn_37 : decode cX4_dueIn 37 = .ok (.ifCond .ne 5, 3) := by decide +kernel
theorem dX4_dueIn_40 : decode cX4_dueIn 40 = .ok (.iload_n 2, 1) := by decide +kernel
theorem dX4_dueIn_41 : decode cX4_dueIn 41 = .ok (.ireturn, 1) := by decide +kernel
theorem dX4_dueIn_42 : decode cX4_dueIn 42 = .ok (.iinc 2 1, 3) := by decide +kernel
theorem dX4_dueIn_45 : decode cX4_dueIn 45 = .ok (.goto (-21), 3) := by decide +kernel
theorem dX4_dueIn_48 : decode cX4_dueIn 48 = .ok (.bipush (-6), 2) := by decide +kernel
theorem dX4_dueIn_50 : decode cX4_dueIn 50 = .ok (.ireturn, 1) := by decide +kernel
theorem dX4_ifInsulted_0 : decode cX4_ifInsulted 0 = .ok (.aload_n 0, 1) := by decide +kernel
theorem dX4_ifInsulted_1 : decode cX4_ifInsulted 1 = .ok (.iload_n 1, 1) := by decide +kernel
theorem dX4_ifInsulted_2 : decode cX4_ifInsulted 2 = .ok (.invokevirtual 75, 3) := by decide +kernel
theorem dX4_ifInsulted_5 : decode cX4_ifInsulted 5 = .ok (.ifCond .eq 11, 3) := by decide +kernel
theorem dX4_ifInsulted_8 : decode cX4_ifInsulted 8 = .ok (.aload_n 0, 1) := by decide +kernel
theorem dX4_ifInsulted_9 : decode cX4_ifInsulted 9 = .ok (.iload_n 2, 1) := by decide +kernel
theorem dX4_ifInsulted_10 : decode cX4_ifInsulted 10 = .ok (.invokevirtual 75, 3) := by decide +kernel
theorem dX4_ifInsulted_13 : decode cX4_ifInsulted 13 = .ok (.ifCond .ne 5, 3) := by decide +kernel
theorem dX4_ifInsulted_16 : decode cX4_ifInsulted 16 = .ok (.iconst (-1), 1) := by decide +kernel
theorem dX4_ifInsulted_17 : decode cX4_ifInsulted 17 = .ok (.ireturn, 1) := by decide +kernel
theorem dX4_ifInsulted_18 : decode cX4_ifInsulted 18 = .ok (.iload_n 1, 1) := by decide +kernel
theorem dX4_ifInsulted_19 : decode cX4_ifInsulted 19 = .ok (.iload_n 2, 1) := by decide +kernel
theorem dX4_ifInsulted_20 : decode cX4_ifInsulted 20 = .ok (.if_icmp .eq 13, 3) := by decide +kernel
theorem dX4_ifInsulted_23 : decode cX4_ifInsulted 23 = .ok (.iload_n 3, 1) := by decide +kernel
theorem dX4_ifInsulted_24 : decode cX4_ifInsulted 24 = .ok (.iconst 1, 1) := by decide +kernel
theorem dX4_ifInsulted_25 : decode cX4_ifInsulted 25 = .ok (.bipush 9, 2) := by decide +kernel
theorem dX4_ifInsulted_27 : decode cX4_ifInsulted 27 = .ok (.invokestatic 33, 3) := by decide +kernel
theorem dX4_ifInsulted_30 : decode cX4_ifInsulted 30 = .ok (.ifCond .ne 6, 3) := by decide +kernel
theorem dX4_ifInsulted_33 : decode cX4_ifInsulted 33 = .ok (.bipush (-2), 2) := by decide +kernel
theorem dX4_ifInsulted_35 : decode cX4_ifInsulted 35 = .ok (.ireturn, 1) := by decide +kernel
theorem dX4_ifInsulted_36 : decode cX4_ifInsulted 36 = .ok (.aload_n 0, 1) := by decide +kernel
theorem dX4_ifInsulted_37 : decode cX4_ifInsulted 37 = .ok (.iload_n 1, 1) := by decide +kernel
theorem dX4_ifInsulted_38 : decode cX4_ifInsulted 38 = .ok (.iload_n 2, 1) := by decide +kernel
theorem dX4_ifInsulted_39 : decode cX4_ifInsulted 39 = .ok (.iload_n 3, 1) := by decide +kernel
theorem dX4_ifInsulted_40 : decode cX4_ifInsulted 40 = .ok (.iconst 0, 1) := by decide +kernel
theorem dX4_ifInsulted_41 : decode cX4_ifInsulted 41 = .ok (.bipush (-6), 2) := by decide +kernel
theorem dX4_ifInsulted_43 : decode cX4_ifInsulted 43 = .ok (.iconst 0, 1) := by decide +kernel
theorem dX4_ifInsulted_44 : decode cX4_ifInsulted 44 = .ok (.invokevirtual 62, 3) := by decide +kernel
theorem dX4_ifInsulted_47 : decode cX4_ifInsulted 47 = .ok (.ireturn, 1) := by decide +kernel
theorem dX4_ifFought_0 : decode cX4_ifFought 0 = .ok (.aload_n 0, 1) := by decide +kernel
theorem dX4_ifFought_1 : decode cX4_ifFought 1 = .ok (.iload_n 1, 1) := by decide +kernel
theorem dX4_ifFought_2 : decode cX4_ifFought 2 = .ok (.invokevirtual 83, 3) := by decide +kernel
theorem dX4_ifFought_5 : decode cX4_ifFought 5 = .ok (.ifCond .eq 11, 3) := by decide +kernel
theorem dX4_ifFought_8 : decode cX4_ifFought 8 = .ok (.aload_n 0, 1) := by decide +kernel
theorem dX4_ifFought_9 : decode cX4_ifFought 9 = .ok (.iload_n 1, 1) := by decide +kernel
theorem dX4_ifFought_10 : decode cX4_ifFought 10 = .ok (.invokevirtual 96, 3) := by decide +kernel
theorem dX4_ifFought_13 : decode cX4_ifFought 13 = .ok (.goto 4, 3) := by decide +kernel
theorem dX4_ifFought_16 : decode cX4_ifFought 16 = .ok (.iconst (-1), 1) := by decide +kernel
theorem dX4_ifFought_17 : decode cX4_ifFought 17 = .ok (.ireturn, 1) := by decide +kernel
theorem dX4_code_0 : decode cX4_code 0 = .ok (.lload_n 0, 1) := by decide +kernel
theorem dX4_code_1 : decode cX4_code 1 = .ok (.bipush 8, 2) := by decide +kernel
theorem dX4_code_3 : decode cX4_code 3 = .ok (.iload_n 2, 1) := by decide +kernel
theorem dX4_code_4 : decode cX4_code 4 = .ok (.imul, 1) := by decide +kernel
theorem dX4_code_5 : decode cX4_code 5 = .ok (.lushr, 1) := by decide +kernel
theorem dX4_code_6 : decode cX4_code 6 = .ok (.ldc2_w 156, 3) := by decide +kernel
theorem dX4_code_9 : decode cX4_code 9 = .ok (.land, 1) := by decide +kernel
theorem dX4_code_10 : decode cX4_code 10 = .ok (.l2i, 1) := by decide +kernel
theorem dX4_code_11 : decode cX4_code 11 = .ok (.ireturn, 1) := by decide +kernel
theorem dX4_put_0 : decode cX4_put 0 = .ok (.iconst 0, 1) := by decide +kernel
theorem dX4_put_1 : decode cX4_put 1 = .ok (.istore_n 3, 1) := by decide +kernel
theorem dX4_put_2 : decode cX4_put 2 = .ok (.iload_n 3, 1) := by decide +kernel
theorem dX4_put_3 : decode cX4_put 3 = .ok (.bipush 8, 2) := by decide +kernel
theorem dX4_put_5 : decode cX4_put 5 = .ok (.if_icmp .ge 35, 3) := by decide +kernel
theorem dX4_put_8 : decode cX4_put 8 = .ok (.lload_n 1, 1) := by decide +kernel
theorem dX4_put_9 : decode cX4_put 9 = .ok (.iload_n 3, 1) := by decide +kernel
theorem dX4_put_10 : decode cX4_put 10 = .ok (.invokestatic 158, 3) := by decide +kernel
theorem dX4_put_13 : decode cX4_put 13 = .ok (.ifCond .eq 27, 3) := by decide +kernel
theorem dX4_put_16 : decode cX4_put 16 = .ok (.lload_n 1, 1) := by decide +kernel
theorem dX4_put_17 : decode cX4_put 17 = .ok (.iload_n 3, 1) := by decide +kernel
theorem dX4_put_18 : decode cX4_put 18 = .ok (.invokestatic 158, 3) := by decide +kernel
theorem dX4_put_21 : decode cX4_put 21 = .ok (.bipush 33, 2) := by decide +kernel
theorem dX4_put_23 : decode cX4_put 23 = .ok (.bipush 126, 2) := by decide +kernel
theorem dX4_put_25 : decode cX4_put 25 = .ok (.invokestatic 33, 3) := by decide +kernel
theorem dX4_put_28 : decode cX4_put 28 = .ok (.ifCond .ne 6, 3) := by decide +kernel
theorem dX4_put_31 : decode cX4_put 31 = .ok (.bipush (-2), 2) := by decide +kernel
theorem dX4_put_33 : decode cX4_put 33 = .ok (.ireturn, 1) := by decide +kernel
theorem dX4_put_34 : decode cX4_put 34 = .ok (.iinc 3 1, 3) := by decide +kernel
theorem dX4_put_37 : decode cX4_put 37 = .ok (.goto (-35), 3) := by decide +kernel
theorem dX4_put_40 : decode cX4_put 40 = .ok (.iload_n 3, 1) := by decide +kernel
theorem dX4_put_41 : decode cX4_put 41 = .ok (.ifCond .eq 20, 3) := by decide +kernel
theorem dX4_put_44 : decode cX4_put 44 = .ok (.iload_n 3, 1) := by decide +kernel
theorem dX4_put_45 : decode cX4_put 45 = .ok (.bipush 8, 2) := by decide +kernel
theorem dX4_put_47 : decode cX4_put 47 = .ok (.if_icmp .ge 17, 3) := by decide +kernel
theorem dX4_put_50 : decode cX4_put 50 = .ok (.lload_n 1, 1) := by decide +kernel
theorem dX4_put_51 : decode cX4_put 51 = .ok (.bipush 8, 2) := by decide +kernel
theorem dX4_put_53 : decode cX4_put 53 = .ok (.iload_n 3, 1) := by decide +kernel
theorem dX4_put_54 : decode cX4_put 54 = .ok (.imul, 1) := by decide +kernel
theorem dX4_put_55 : decode cX4_put 55 = .ok (.lushr, 1) := by decide +kernel
theorem dX4_put_56 : decode cX4_put 56 = .ok (.lconst 0, 1) := by decide +kernel
theorem dX4_put_57 : decode cX4_put 57 = .ok (.lcmp, 1) := by decide +kernel
theorem dX4_put_58 : decode cX4_put 58 = .ok (.ifCond .eq 6, 3) := by decide +kernel
theorem dX4_put_61 : decode cX4_put 61 = .ok (.bipush (-2), 2) := by decide +kernel
theorem dX4_put_63 : decode cX4_put 63 = .ok (.ireturn, 1) := by decide +kernel
theorem dX4_put_64 : decode cX4_put 64 = .ok (.aload_n 0, 1) := by decide +kernel
theorem dX4_put_65 : decode cX4_put 65 = .ok (.getfield 153, 3) := by decide +kernel
theorem dX4_put_68 : decode cX4_put 68 = .ok (.iload_n 3, 1) := by decide +kernel
theorem dX4_put_69 : decode cX4_put 69 = .ok (.iadd, 1) := by decide +kernel
theorem dX4_put_70 : decode cX4_put 70 = .ok (.bipush 80, 2) := by decide +kernel
theorem dX4_put_72 : decode cX4_put 72 = .ok (.if_icmp .le 6, 3) := by decide +kernel
theorem dX4_put_75 : decode cX4_put 75 = .ok (.bipush (-4), 2) := by decide +kernel
theorem dX4_put_77 : decode cX4_put 77 = .ok (.ireturn, 1) := by decide +kernel
theorem dX4_put_78 : decode cX4_put 78 = .ok (.iload_n 3, 1) := by decide +kernel
theorem dX4_put_79 : decode cX4_put 79 = .ok (.iconst 1, 1) := by decide +kernel
theorem dX4_put_80 : decode cX4_put 80 = .ok (.isub, 1) := by decide +kernel
theorem dX4_put_81 : decode cX4_put 81 = .ok (.istore 4, 2) := by decide +kernel
theorem dX4_put_83 : decode cX4_put 83 = .ok (.iload 4, 2) := by decide +kernel
theorem dX4_put_85 : decode cX4_put 85 = .ok (.ifCond .lt 34, 3) := by decide +kernel
theorem dX4_put_88 : decode cX4_put 88 = .ok (.aload_n 0, 1) := by decide +kernel
theorem dX4_put_89 : decode cX4_put 89 = .ok (.getfield 26, 3) := by decide +kernel
theorem dX4_put_92 : decode cX4_put 92 = .ok (.aload_n 0, 1) := by decide +kernel
theorem dX4_put_93 : decode cX4_put 93 = .ok (.getfield 153, 3) := by decide +kernel
theorem dX4_put_96 : decode cX4_put 96 = .ok (.lload_n 1, 1) := by decide +kernel
theorem dX4_put_97 : decode cX4_put 97 = .ok (.iload 4, 2) := by decide +kernel
theorem dX4_put_99 : decode cX4_put 99 = .ok (.invokestatic 158, 3) := by decide +kernel
theorem dX4_put_102 : decode cX4_put 102 = .ok (.iastore, 1) := by decide +kernel
theorem dX4_put_103 : decode cX4_put 103 = .ok (.aload_n 0, 1) := by decide +kernel
theorem dX4_put_104 : decode cX4_put 104 = .ok (.dup, 1) := by decide +kernel
theorem dX4_put_105 : decode cX4_put 105 = .ok (.getfield 153, 3) := by decide +kernel
theorem dX4_put_108 : decode cX4_put 108 = .ok (.iconst 1, 1) := by decide +kernel
theorem dX4_put_109 : decode cX4_put 109 = .ok (.iadd, 1) := by decide +kernel
theorem dX4_put_110 : decode cX4_put 110 = .ok (.putfield 153, 3) := by decide +kernel
theorem dX4_put_113 : decode cX4_put 113 = .ok (.iinc 4 (-1), 3) := by decide +kernel
theorem dX4_put_116 : decode cX4_put 116 = .ok (.goto (-33), 3) := by decide +kernel
theorem dX4_put_119 : decode cX4_put 119 = .ok (.aload_n 0, 1) := by decide +kernel
theorem dX4_put_120 : decode cX4_put 120 = .ok (.getfield 153, 3) := by decide +kernel
theorem dX4_put_123 : decode cX4_put 123 = .ok (.ireturn, 1) := by decide +kernel
theorem dX4_wipe_0 : decode cX4_wipe 0 = .ok (.aload_n 0, 1) := by decide +kernel
theorem dX4_wipe_1 : decode cX4_wipe 1 = .ok (.getfield 153, 3) := by decide +kernel
theorem dX4_wipe_4 : decode cX4_wipe 4 = .ok (.istore_n 1, 1) := by decide +kernel
theorem dX4_wipe_5 : decode cX4_wipe 5 = .ok (.aload_n 0, 1) := by decide +kernel
theorem dX4_wipe_6 : decode cX4_wipe 6 = .ok (.iconst 0, 1) := by decide +kernel
theorem dX4_wipe_7 : decode cX4_wipe 7 = .ok (.putfield 153, 3) := by decide +kernel
theorem dX4_wipe_10 : decode cX4_wipe 10 = .ok (.iload_n 1, 1) := by decide +kernel
theorem dX4_wipe_11 : decode cX4_wipe 11 = .ok (.ireturn, 1) := by decide +kernel
theorem dX4_sign_0 : decode cX4_sign 0 = .ok (.aload_n 0, 1) := by decide +kernel
theorem dX4_sign_1 : decode cX4_sign 1 = .ok (.getfield 162, 3) := by decide +kernel
theorem dX4_sign_4 : decode cX4_sign 4 = .ok (.aload_n 0, 1) := by decide +kernel
theorem dX4_sign_5 : decode cX4_sign 5 = .ok (.getfield 153, 3) := by decide +kernel
theorem dX4_sign_8 : decode cX4_sign 8 = .ok (.if_icmp .ge 15, 3) := by decide +kernel
theorem dX4_sign_11 : decode cX4_sign 11 = .ok (.aload_n 0, 1) := by decide +kernel
theorem dX4_sign_12 : decode cX4_sign 12 = .ok (.getfield 26, 3) := by decide +kernel
theorem dX4_sign_15 : decode cX4_sign 15 = .ok (.aload_n 0, 1) := by decide +kernel
theorem dX4_sign_16 : decode cX4_sign 16 = .ok (.getfield 162, 3) := by decide +kernel
theorem dX4_sign_19 : decode cX4_sign 19 = .ok (.iaload, 1) := by decide +kernel
theorem dX4_sign_20 : decode cX4_sign 20 = .ok (.goto 4, 3) := by decide +kernel
theorem dX4_sign_23 : decode cX4_sign 23 = .ok (.iconst 0, 1) := by decide +kernel
theorem dX4_sign_24 : decode cX4_sign 24 = .ok (.istore_n 3, 1) := by decide +kernel
theorem dX4_sign_25 : decode cX4_sign 25 = .ok (.aload_n 0, 1) := by decide +kernel
theorem dX4_sign_26 : decode cX4_sign 26 = .ok (.aload_n 0, 1) := by decide +kernel
theorem dX4_sign_27 : decode cX4_sign 27 = .ok (.getfield 165, 3) := by decide +kernel
theorem dX4_sign_30 : decode cX4_sign 30 = .ok (.ifCond .ne 23, 3) := by decide +kernel
theorem dX4_sign_33 : decode cX4_sign 33 = .ok (.aload_n 0, 1) := by decide +kernel
theorem dX4_sign_34 : decode cX4_sign 34 = .ok (.getfield 162, 3) := by decide +kernel
theorem dX4_sign_37 : decode cX4_sign 37 = .ok (.aload_n 0, 1) := by decide +kernel
theorem dX4_sign_38 : decode cX4_sign 38 = .ok (.getfield 153, 3) := by decide +kernel
theorem dX4_sign_41 : decode cX4_sign 41 = .ok (.if_icmp .ge 12, 3) := by decide +kernel
theorem dX4_sign_44 : decode cX4_sign 44 = .ok (.iload_n 3, 1) := by decide +kernel
theorem dX4_sign_45 : decode cX4_sign 45 = .ok (.iload_n 1, 1) := by decide +kernel
theorem dX4_sign_46 : decode cX4_sign 46 = .ok (.iload_n 2, 1) := by decide +kernel
theorem dX4_sign_47 : decode cX4_sign 47 = .ok (.invokestatic 33, 3) := by decide +kernel
theorem dX4_sign_50 : decode cX4_sign 50 = .ok (.ifCond .ne 7, 3) := by decide +kernel
theorem dX4_sign_53 : decode cX4_sign 53 = .ok (.iconst 1, 1) := by decide +kernel
theorem dX4_sign_54 : decode cX4_sign 54 = .ok (.goto 4, 3) := by decide +kernel
theorem dX4_sign_57 : decode cX4_sign 57 = .ok (.iconst 0, 1) := by decide +kernel
theorem dX4_sign_58 : decode cX4_sign 58 = .ok (.putfield 165, 3) := by decide +kernel
theorem dX4_sign_61 : decode cX4_sign 61 = .ok (.aload_n 0, 1) := by decide +kernel
theorem dX4_sign_62 : decode cX4_sign 62 = .ok (.dup, 1) := by decide +kernel
theorem dX4_sign_63 : decode cX4_sign 63 = .ok (.getfield 162, 3) := by decide +kernel
theorem dX4_sign_66 : decode cX4_sign 66 = .ok (.aload_n 0, 1) := by decide +kernel
theorem dX4_sign_67 : decode cX4_sign 67 = .ok (.getfield 165, 3) := by decide +kernel
theorem dX4_sign_70 : decode cX4_sign 70 = .ok (.ifCond .eq 7, 3) := by decide +kernel
theorem dX4_sign_73 : decode cX4_sign 73 = .ok (.iconst 0, 1) := by decide +kernel
theorem dX4_sign_74 : decode cX4_sign 74 = .ok (.goto 4, 3) := by decide +kernel
theorem dX4_sign_77 : decode cX4_sign 77 = .ok (.iconst 1, 1) := by decide +kernel
theorem dX4_sign_78 : decode cX4_sign 78 = .ok (.iadd, 1) := by decide +kernel
theorem dX4_sign_79 : decode cX4_sign 79 = .ok (.putfield 162, 3) := by decide +kernel
theorem dX4_sign_82 : decode cX4_sign 82 = .ok (.iload_n 3, 1) := by decide +kernel
theorem dX4_sign_83 : decode cX4_sign 83 = .ok (.ireturn, 1) := by decide +kernel
theorem dX4_digit_0 : decode cX4_digit 0 = .ok (.aload_n 0, 1) := by decide +kernel
theorem dX4_digit_1 : decode cX4_digit 1 = .ok (.bipush 48, 2) := by decide +kernel
theorem dX4_digit_3 : decode cX4_digit 3 = .ok (.bipush 57, 2) := by decide +kernel
theorem dX4_digit_5 : decode cX4_digit 5 = .ok (.invokevirtual 169, 3) := by decide +kernel
theorem dX4_digit_8 : decode cX4_digit 8 = .ok (.bipush 48, 2) := by decide +kernel
theorem dX4_digit_10 : decode cX4_digit 10 = .ok (.isub, 1) := by decide +kernel
theorem dX4_digit_11 : decode cX4_digit 11 = .ok (.ireturn, 1) := by decide +kernel
theorem dX4_number_0 : decode cX4_number 0 = .ok (.aload_n 0, 1) := by decide +kernel
theorem dX4_number_1 : decode cX4_number 1 = .ok (.invokevirtual 172, 3) := by decide +kernel
theorem dX4_number_4 : decode cX4_number 4 = .ok (.istore_n 1, 1) := by decide +kernel
theorem dX4_number_5 : decode cX4_number 5 = .ok (.iload_n 1, 1) := by decide +kernel
theorem dX4_number_6 : decode cX4_number 6 = .ok (.ifCond .le 50, 3) := by decide +kernel
theorem dX4_number_9 : decode cX4_number 9 = .ok (.aload_n 0, 1) := by decide +kernel
theorem dX4_number_10 : decode cX4_number 10 = .ok (.getfield 165, 3) := by decide +kernel
theorem dX4_number_13 : decode cX4_number 13 = .ok (.ifCond .ne 43, 3) := by decide +kernel
theorem dX4_number_16 : decode cX4_number 16 = .ok (.aload_n 0, 1) := by decide +kernel
theorem dX4_number_17 : decode cX4_number 17 = .ok (.getfield 162, 3) := by decide +kernel
theorem dX4_number_20 : decode cX4_number 20 = .ok (.aload_n 0, 1) := by decide +kernel
theorem dX4_number_21 : decode cX4_number 21 = .ok (.getfield 153, 3) := by decide +kernel
theorem dX4_number_24 : decode cX4_number 24 = .ok (.if_icmp .ge 32, 3) := by decide +kernel
theorem dX4_number_27 : decode cX4_number 27 = .ok (.aload_n 0, 1) := by decide +kernel
theorem dX4_number_28 : decode cX4_number 28 = .ok (.getfield 26, 3) := by decide +kernel
theorem dX4_number_31 : decode cX4_number 31 = .ok (.aload_n 0, 1) := by decide +kernel
theorem dX4_number_32 : decode cX4_number 32 = .ok (.getfield 162, 3) := by decide +kernel
theorem dX4_number_35 : decode cX4_number 35 = .ok (.iaload, 1) := by decide +kernel
theorem dX4_number_36 : decode cX4_number 36 = .ok (.bipush 48, 2) := by decide +kernel
theorem dX4_number_38 : decode cX4_number 38 = .ok (.bipush 57, 2) := by decide +kernel
theorem dX4_number_40 : decode cX4_number 40 = .ok (.invokestatic 33, 3) := by decide +kernel
theorem dX4_number_43 : decode cX4_number 43 = .ok (.ifCond .eq 13, 3) := by decide +kernel
theorem dX4_number_46 : decode cX4_number 46 = .ok (.bipush 10, 2) := by decide +kernel
theorem dX4_number_48 : decode cX4_number 48 = .ok (.iload_n 1, 1) := by decide +kernel
theorem dX4_number_49 : decode cX4_number 49 = .ok (.imul, 1) := by decide +kernel
theorem dX4_number_50 : decode cX4_number 50 = .ok (.aload_n 0, 1) := by decide +kernel
theorem dX4_number_51 : decode cX4_number 51 = .ok (.invokevirtual 172, 3) := by decide +kernel
theorem dX4_number_54 : decode cX4_number 54 = .ok (.iadd, 1) := by decide +kernel
theorem dX4_number_55 : decode cX4_number 55 = .ok (.istore_n 1, 1) := by decide +kernel
theorem dX4_number_56 : decode cX4_number 56 = .ok (.iload_n 1, 1) := by decide +kernel
theorem dX4_number_57 : decode cX4_number 57 = .ok (.ireturn, 1) := by decide +kernel
theorem dX4_order_0 : decode cX4_order 0 = .ok (.aload_n 0, 1) := by decide +kernel
theorem dX4_order_1 : decode cX4_order 1 = .ok (.getfield 162, 3) := by decide +kernel
theorem dX4_order_4 : decode cX4_order 4 = .ok (.aload_n 0, 1) := by decide +kernel
theorem dX4_order_5 : decode cX4_order 5 = .ok (.getfield 153, 3) := by decide +kernel
theorem dX4_order_8 : decode cX4_order 8 = .ok (.if_icmp .ge 15, 3) := by decide +kernel
theorem dX4_order_11 : decode cX4_order 11 = .ok (.aload_n 0, 1) := by decide +kernel
theorem dX4_order_12 : decode cX4_order 12 = .ok (.getfield 26, 3) := by decide +kernel
theorem dX4_order_15 : decode cX4_order 15 = .ok (.aload_n 0, 1) := by decide +kernel
theorem dX4_order_16 : decode cX4_order 16 = .ok (.getfield 162, 3) := by decide +kernel
theorem dX4_order_19 : decode cX4_order 19 = .ok (.iaload, 1) := by decide +kernel
theorem dX4_order_20 : decode cX4_order 20 = .ok (.goto 4, 3) := by decide +kernel
theorem dX4_order_23 : decode cX4_order 23 = .ok (.iconst 0, 1) := by decide +kernel
theorem dX4_order_24 : decode cX4_order 24 = .ok (.istore_n 2, 1) := by decide +kernel
theorem dX4_order_25 : decode cX4_order 25 = .ok (.iload_n 2, 1) := by decide +kernel
theorem dX4_order_26 : decode cX4_order 26 = .ok (.bipush 112, 2) := by decide +kernel
theorem dX4_order_28 : decode cX4_order 28 = .ok (.if_icmp .eq 45, 3) := by decide +kernel
theorem dX4_order_31 : decode cX4_order 31 = .ok (.iload_n 2, 1) := by decide +kernel
theorem dX4_order_32 : decode cX4_order 32 = .ok (.bipush 115, 2) := by decide +kernel
theorem dX4_order_34 : decode cX4_order 34 = .ok (.if_icmp .eq 39, 3) := by decide +kernel
theorem dX4_order_37 : decode cX4_order 37 = .ok (.iload_n 2, 1) := by decide +kernel
theorem dX4_order_38 : decode cX4_order 38 = .ok (.bipush 105, 2) := by decide +kernel
theorem dX4_order_40 : decode cX4_order 40 = .ok (.if_icmp .eq 33, 3) := by decide +kernel
theorem dX4_order_43 : decode cX4_order 43 = .ok (.iload_n 2, 1) := by decide +kernel
theorem dX4_order_44 : decode cX4_order 44 = .ok (.bipush 119, 2) := by decide +kernel
theorem dX4_order_46 : decode cX4_order 46 = .ok (.if_icmp .eq 27, 3) := by decide +kernel
theorem dX4_order_49 : decode cX4_order 49 = .ok (.iload_n 2, 1) := by decide +kernel
theorem dX4_order_50 : decode cX4_order 50 = .ok (.bipush 102, 2) := by decide +kernel
theorem dX4_order_52 : decode cX4_order 52 = .ok (.if_icmp .eq 21, 3) := by decide +kernel
theorem dX4_order_55 : decode cX4_order 55 = .ok (.iload_n 2, 1) := by decide +kernel
theorem dX4_order_56 : decode cX4_order 56 = .ok (.bipush 111, 2) := by decide +kernel
theorem dX4_order_58 : decode cX4_order 58 = .ok (.if_icmp .eq 15, 3) := by decide +kernel
theorem dX4_order_61 : decode cX4_order 61 = .ok (.iload_n 2, 1) := by decide +kernel
theorem dX4_order_62 : decode cX4_order 62 = .ok (.bipush 116, 2) := by decide +kernel
theorem dX4_order_64 : decode cX4_order 64 = .ok (.if_icmp .eq 9, 3) := by decide +kernel
theorem dX4_order_67 : decode cX4_order 67 = .ok (.iload_n 2, 1) := by decide +kernel
theorem dX4_order_68 : decode cX4_order 68 = .ok (.bipush 97, 2) := by decide +kernel
theorem dX4_order_70 : decode cX4_order 70 = .ok (.if_icmp .ne 7, 3) := by decide +kernel
theorem dX4_order_73 : decode cX4_order 73 = .ok (.iconst 1, 1) := by decide +kernel
theorem dX4_order_74 : decode cX4_order 74 = .ok (.goto 4, 3) := by decide +kernel
theorem dX4_order_77 : decode cX4_order 77 = .ok (.iconst 0, 1) := by decide +kernel
theorem dX4_order_78 : decode cX4_order 78 = .ok (.istore_n 3, 1) := by decide +kernel
theorem dX4_order_79 : decode cX4_order 79 = .ok (.aload_n 0, 1) := by decide +kernel
theorem dX4_order_80 : decode cX4_order 80 = .ok (.aload_n 0, 1) := by decide +kernel
theorem dX4_order_81 : decode cX4_order 81 = .ok (.getfield 165, 3) := by decide +kernel
theorem dX4_order_84 : decode cX4_order 84 = .ok (.ifCond .ne 7, 3) := by decide +kernel
theorem dX4_order_87 : decode cX4_order 87 = .ok (.iload_n 3, 1) := by decide +kernel
theorem dX4_order_88 : decode cX4_order 88 = .ok (.ifCond .ne 7, 3) := by decide +kernel
theorem dX4_order_91 : decode cX4_order 91 = .ok (.iconst 1, 1) := by decide +kernel
theorem dX4_order_92 : decode cX4_order 92 = .ok (.goto 4, 3) := by decide +kernel
theorem dX4_order_95 : decode cX4_order 95 = .ok (.iconst 0, 1) := by decide +kernel
theorem dX4_order_96 : decode cX4_order 96 = .ok (.putfield 165, 3) := by decide +kernel
theorem dX4_order_99 : decode cX4_order 99 = .ok (.aload_n 0, 1) := by decide +kernel
theorem dX4_order_100 : decode cX4_order 100 = .ok (.dup, 1) := by decide +kernel
theorem dX4_order_101 : decode cX4_order 101 = .ok (.getfield 162, 3) := by decide +kernel
theorem dX4_order_104 : decode cX4_order 104 = .ok (.aload_n 0, 1) := by decide +kernel
theorem dX4_order_105 : decode cX4_order 105 = .ok (.getfield 165, 3) := by decide +kernel
theorem dX4_order_108 : decode cX4_order 108 = .ok (.ifCond .eq 7, 3) := by decide +kernel
theorem dX4_order_111 : decode cX4_order 111 = .ok (.iconst 0, 1) := by decide +kernel
theorem dX4_order_112 : decode cX4_order 112 = .ok (.goto 4, 3) := by decide +kernel
theorem dX4_order_115 : decode cX4_order 115 = .ok (.iconst 1, 1) := by decide +kernel
theorem dX4_order_116 : decode cX4_order 116 = .ok (.iadd, 1) := by decide +kernel
theorem dX4_order_117 : decode cX4_order 117 = .ok (.putfield 162, 3) := by decide +kernel
theorem dX4_order_120 : decode cX4_order 120 = .ok (.iload_n 2, 1) := by decide +kernel
theorem dX4_order_121 : decode cX4_order 121 = .ok (.bipush 119, 2) := by decide +kernel
theorem dX4_order_123 : decode cX4_order 123 = .ok (.if_icmp .eq 15, 3) := by decide +kernel
theorem dX4_order_126 : decode cX4_order 126 = .ok (.iload_n 2, 1) := by decide +kernel
theorem dX4_order_127 : decode cX4_order 127 = .ok (.bipush 102, 2) := by decide +kernel
theorem dX4_order_129 : decode cX4_order 129 = .ok (.if_icmp .eq 9, 3) := by decide +kernel
theorem dX4_order_132 : decode cX4_order 132 = .ok (.iload_n 2, 1) := by decide +kernel
theorem dX4_order_133 : decode cX4_order 133 = .ok (.bipush 116, 2) := by decide +kernel
theorem dX4_order_135 : decode cX4_order 135 = .ok (.if_icmp .ne 10, 3) := by decide +kernel
theorem dX4_order_138 : decode cX4_order 138 = .ok (.aload_n 0, 1) := by decide +kernel
theorem dX4_order_139 : decode cX4_order 139 = .ok (.invokevirtual 175, 3) := by decide +kernel
theorem dX4_order_142 : decode cX4_order 142 = .ok (.goto 7, 3) := by decide +kernel
theorem dX4_order_145 : decode cX4_order 145 = .ok (.aload_n 0, 1) := by decide +kernel
theorem dX4_order_146 : decode cX4_order 146 = .ok (.invokevirtual 172, 3) := by decide +kernel
theorem dX4_order_149 : decode cX4_order 149 = .ok (.istore 4, 2) := by decide +kernel
theorem dX4_order_151 : decode cX4_order 151 = .ok (.iconst 0, 1) := by decide +kernel
theorem dX4_order_152 : decode cX4_order 152 = .ok (.istore 5, 2) := by decide +kernel
theorem dX4_order_154 : decode cX4_order 154 = .ok (.iconst 0, 1) := by decide +kernel
theorem dX4_order_155 : decode cX4_order 155 = .ok (.istore 6, 2) := by decide +kernel
theorem dX4_order_157 : decode cX4_order 157 = .ok (.iload_n 2, 1) := by decide +kernel
theorem dX4_order_158 : decode cX4_order 158 = .ok (.bipush 115, 2) := by decide +kernel
theorem dX4_order_160 : decode cX4_order 160 = .ok (.if_icmp .ne 13, 3) := by decide +kernel
theorem dX4_order_163 : decode cX4_order 163 = .ok (.aload_n 0, 1) := by decide +kernel
theorem dX4_order_164 : decode cX4_order 164 = .ok (.bipush 62, 2) := by decide +kernel
theorem dX4_order_166 : decode cX4_order 166 = .ok (.bipush 62, 2) := by decide +kernel
theorem dX4_order_168 : decode cX4_order 168 = .ok (.invokevirtual 169, 3) := by decide +kernel
theorem dX4_order_171 : decode cX4_order 171 = .ok (.istore 7, 2) := by decide +kernel
theorem dX4_order_173 : decode cX4_order 173 = .ok (.iload_n 2, 1) := by decide +kernel
theorem dX4_order_174 : decode cX4_order 174 = .ok (.bipush 119, 2) := by decide +kernel
theorem dX4_order_176 : decode cX4_order 176 = .ok (.if_icmp .ne 13, 3) := by decide +kernel
theorem dX4_order_179 : decode cX4_order 179 = .ok (.aload_n 0, 1) := by decide +kernel
theorem dX4_order_180 : decode cX4_order 180 = .ok (.bipush 46, 2) := by decide +kernel
theorem dX4_order_182 : decode cX4_order 182 = .ok (.bipush 46, 2) := by decide +kernel
theorem dX4_order_184 : decode cX4_order 184 = .ok (.invokevirtual 169, 3) := by decide +kernel
theorem dX4_order_187 : decode cX4_order 187 = .ok (.istore 7, 2) := by decide +kernel
theorem dX4_order_189 : decode cX4_order 189 = .ok (.iload_n 2, 1) := by decide +kernel
theorem dX4_order_190 : decode cX4_order 190 = .ok (.bipush 112, 2) := by decide +kernel
theorem dX4_order_192 : decode cX4_order 192 = .ok (.if_icmp .eq 21, 3) := by decide +kernel
theorem dX4_order_195 : decode cX4_order 195 = .ok (.iload_n 2, 1) := by decide +kernel
theorem dX4_order_196 : decode cX4_order 196 = .ok (.bipush 115, 2) := by decide +kernel
theorem dX4_order_198 : decode cX4_order 198 = .ok (.if_icmp .eq 15, 3) := by decide +kernel
theorem dX4_order_201 : decode cX4_order 201 = .ok (.iload_n 2, 1) := by decide +kernel
theorem dX4_order_202 : decode cX4_order 202 = .ok (.bipush 105, 2) := by decide +kernel
theorem dX4_order_204 : decode cX4_order 204 = .ok (.if_icmp .eq 9, 3) := by decide +kernel
theorem dX4_order_207 : decode cX4_order 207 = .ok (.iload_n 2, 1) := by decide +kernel
theorem dX4_order_208 : decode cX4_order 208 = .ok (.bipush 119, 2) := by decide +kernel
theorem dX4_order_210 : decode cX4_order 210 = .ok (.if_icmp .ne 9, 3) := by decide +kernel
theorem dX4_order_213 : decode cX4_order 213 = .ok (.aload_n 0, 1) := by decide +kernel
theorem dX4_order_214 : decode cX4_order 214 = .ok (.invokevirtual 172, 3) := by decide +kernel
theorem dX4_order_217 : decode cX4_order 217 = .ok (.istore 5, 2) := by decide +kernel
theorem dX4_order_219 : decode cX4_order 219 = .ok (.iload_n 2, 1) := by decide +kernel
theorem dX4_order_220 : decode cX4_order 220 = .ok (.bipush 105, 2) := by decide +kernel
theorem dX4_order_222 : decode cX4_order 222 = .ok (.if_icmp .ne 19, 3) := by decide +kernel
theorem dX4_order_225 : decode cX4_order 225 = .ok (.aload_n 0, 1) := by decide +kernel
theorem dX4_order_226 : decode cX4_order 226 = .ok (.bipush 47, 2) := by decide +kernel
theorem dX4_order_228 : decode cX4_order 228 = .ok (.bipush 47, 2) := by decide +kernel
theorem dX4_order_230 : decode cX4_order 230 = .ok (.invokevirtual 169, 3) := by decide +kernel
theorem dX4_order_233 : decode cX4_order 233 = .ok (.istore 7, 2) := by decide +kernel
theorem dX4_order_235 : decode cX4_order 235 = .ok (.aload_n 0, 1) := by decide +kernel
theorem dX4_order_236 : decode cX4_order 236 = .ok (.invokevirtual 172, 3) := by decide +kernel
theorem dX4_order_239 : decode cX4_order 239 = .ok (.istore 6, 2) := by decide +kernel
theorem dX4_order_241 : decode cX4_order 241 = .ok (.iload_n 1, 1) := by decide +kernel
theorem dX4_order_242 : decode cX4_order 242 = .ok (.ifCond .ne 5, 3) := by decide +kernel
theorem dX4_order_245 : decode cX4_order 245 = .ok (.iconst 0, 1) := by decide +kernel
theorem dX4_order_246 : decode cX4_order 246 = .ok (.ireturn, 1) := by decide +kernel
theorem dX4_order_247 : decode cX4_order 247 = .ok (.iload_n 2, 1) := by decide +kernel
theorem dX4_order_248 : decode cX4_order 248 = .ok (.tableswitch 147 102 119 #[126, 147, 147, 106, 147, 147, 147, 147, 147, 133, 88, 147, 147, 97, 140, 147, 147, 117], 88) := by decide +kernel
theorem dX4_order_336 : decode cX4_order 336 = .ok (.aload_n 0, 1) := by decide +kernel
theorem dX4_order_337 : decode cX4_order 337 = .ok (.iload 4, 2) := by decide +kernel
theorem dX4_order_339 : decode cX4_order 339 = .ok (.iload 5, 2) := by decide +kernel
theorem dX4_order_341 : decode cX4_order 341 = .ok (.invokevirtual 113, 3) := by decide +kernel
theorem dX4_order_344 : decode cX4_order 344 = .ok (.ireturn, 1) := by decide +kernel
theorem dX4_order_345 : decode cX4_order 345 = .ok (.aload_n 0, 1) := by decide +kernel
theorem dX4_order_346 : decode cX4_order 346 = .ok (.iload 4, 2) := by decide +kernel
theorem dX4_order_348 : decode cX4_order 348 = .ok (.iload 5, 2) := by decide +kernel
theorem dX4_order_350 : decode cX4_order 350 = .ok (.invokevirtual 116, 3) := by decide +kernel
theorem dX4_order_353 : decode cX4_order 353 = .ok (.ireturn, 1) := by decide +kernel
theorem dX4_order_354 : decode cX4_order 354 = .ok (.aload_n 0, 1) := by decide +kernel
theorem dX4_order_355 : decode cX4_order 355 = .ok (.iload 4, 2) := by decide +kernel
theorem dX4_order_357 : decode cX4_order 357 = .ok (.iload 5, 2) := by decide +kernel
theorem dX4_order_359 : decode cX4_order 359 = .ok (.iload 6, 2) := by decide +kernel
theorem dX4_order_361 : decode cX4_order 361 = .ok (.invokevirtual 122, 3) := by decide +kernel
theorem dX4_order_364 : decode cX4_order 364 = .ok (.ireturn, 1) := by decide +kernel
theorem dX4_order_365 : decode cX4_order 365 = .ok (.aload_n 0, 1) := by decide +kernel
theorem dX4_order_366 : decode cX4_order 366 = .ok (.iload 4, 2) := by decide +kernel
theorem dX4_order_368 : decode cX4_order 368 = .ok (.iload 5, 2) := by decide +kernel
theorem dX4_order_370 : decode cX4_order 370 = .ok (.invokevirtual 126, 3) := by decide +kernel
theorem dX4_order_373 : decode cX4_order 373 = .ok (.ireturn, 1) := by decide +kernel
theorem dX4_order_374 : decode cX4_order 374 = .ok (.aload_n 0, 1) := by decide +kernel
theorem dX4_order_375 : decode cX4_order 375 = .ok (.iload 4, 2) := by decide +kernel
theorem dX4_order_377 : decode cX4_order 377 = .ok (.invokevirtual 129, 3) := by decide +kernel
theorem dX4_order_380 : decode cX4_order 380 = .ok (.ireturn, 1) := by decide +kernel
theorem dX4_order_381 : decode cX4_order 381 = .ok (.aload_n 0, 1) := by decide +kernel
theorem dX4_order_382 : decode cX4_order 382 = .ok (.iload 4, 2) := by decide +kernel
theorem dX4_order_384 : decode cX4_order 384 = .ok (.invokevirtual 132, 3) := by decide +kernel
theorem dX4_order_387 : decode cX4_order 387 = .ok (.ireturn, 1) := by decide +kernel
theorem dX4_order_388 : decode cX4_order 388 = .ok (.aload_n 0, 1) := by decide +kernel
theorem dX4_order_389 : decode cX4_order 389 = .ok (.iload 4, 2) := by decide +kernel
theorem dX4_order_391 : decode cX4_order 391 = .ok (.invokevirtual 135, 3) := by decide +kernel
theorem dX4_order_394 : decode cX4_order 394 = .ok (.ireturn, 1) := by decide +kernel
theorem dX4_order_395 : decode cX4_order 395 = .ok (.aload_n 0, 1) := by decide +kernel
theorem dX4_order_396 : decode cX4_order 396 = .ok (.iload 4, 2) := by decide +kernel
theorem dX4_order_398 : decode cX4_order 398 = .ok (.invokevirtual 119, 3) := by decide +kernel
theorem dX4_order_401 : decode cX4_order 401 = .ok (.ireturn, 1) := by decide +kernel
theorem dX4_go_0 : decode cX4_go 0 = .ok (.aload_n 0, 1) := by decide +kernel
theorem dX4_go_1 : decode cX4_go 1 = .ok (.iconst 0, 1) := by decide +kernel
theorem dX4_go_2 : decode cX4_go 2 = .ok (.putfield 162, 3) := by decide +kernel
theorem dX4_go_5 : decode cX4_go 5 = .ok (.aload_n 0, 1) := by decide +kernel
theorem dX4_go_6 : decode cX4_go 6 = .ok (.iconst 0, 1) := by decide +kernel
theorem dX4_go_7 : decode cX4_go 7 = .ok (.putfield 165, 3) := by decide +kernel
theorem dX4_go_10 : decode cX4_go 10 = .ok (.iconst 0, 1) := by decide +kernel
theorem dX4_go_11 : decode cX4_go 11 = .ok (.istore_n 2, 1) := by decide +kernel
theorem dX4_go_12 : decode cX4_go 12 = .ok (.iconst 1, 1) := by decide +kernel
theorem dX4_go_13 : decode cX4_go 13 = .ok (.istore_n 3, 1) := by decide +kernel
theorem dX4_go_14 : decode cX4_go 14 = .ok (.iload_n 3, 1) := by decide +kernel
theorem dX4_go_15 : decode cX4_go 15 = .ok (.ifCond .eq 81, 3) := by decide +kernel
theorem dX4_go_18 : decode cX4_go 18 = .ok (.aload_n 0, 1) := by decide +kernel
theorem dX4_go_19 : decode cX4_go 19 = .ok (.iload_n 1, 1) := by decide +kernel
theorem dX4_go_20 : decode cX4_go 20 = .ok (.invokevirtual 178, 3) := by decide +kernel
theorem dX4_go_23 : decode cX4_go 23 = .ok (.istore 4, 2) := by decide +kernel
theorem dX4_go_25 : decode cX4_go 25 = .ok (.iload 4, 2) := by decide +kernel
theorem dX4_go_27 : decode cX4_go 27 = .ok (.ifCond .ge 12, 3) := by decide +kernel
theorem dX4_go_30 : decode cX4_go 30 = .ok (.iload 4, 2) := by decide +kernel
theorem dX4_go_32 : decode cX4_go 32 = .ok (.bipush (-6), 2) := by decide +kernel
theorem dX4_go_34 : decode cX4_go 34 = .ok (.if_icmp .eq 5, 3) := by decide +kernel
theorem dX4_go_37 : decode cX4_go 37 = .ok (.iload_n 2, 1) := by decide +kernel
theorem dX4_go_38 : decode cX4_go 38 = .ok (.ireturn, 1) := by decide +kernel
theorem dX4_go_39 : decode cX4_go 39 = .ok (.iinc 2 1, 3) := by decide +kernel
theorem dX4_go_42 : decode cX4_go 42 = .ok (.aload_n 0, 1) := by decide +kernel
theorem dX4_go_43 : decode cX4_go 43 = .ok (.getfield 165, 3) := by decide +kernel
theorem dX4_go_46 : decode cX4_go 46 = .ok (.ifCond .ne 18, 3) := by decide +kernel
theorem dX4_go_49 : decode cX4_go 49 = .ok (.aload_n 0, 1) := by decide +kernel
theorem dX4_go_50 : decode cX4_go 50 = .ok (.getfield 162, 3) := by decide +kernel
theorem dX4_go_53 : decode cX4_go 53 = .ok (.aload_n 0, 1) := by decide +kernel
theorem dX4_go_54 : decode cX4_go 54 = .ok (.getfield 153, 3) := by decide +kernel
theorem dX4_go_57 : decode cX4_go 57 = .ok (.if_icmp .ge 7, 3) := by decide +kernel
theorem dX4_go_60 : decode cX4_go 60 = .ok (.iconst 1, 1) := by decide +kernel
theorem dX4_go_61 : decode cX4_go 61 = .ok (.goto 4, 3) := by decide +kernel
theorem dX4_go_64 : decode cX4_go 64 = .ok (.iconst 0, 1) := by decide +kernel
theorem dX4_go_65 : decode cX4_go 65 = .ok (.istore_n 3, 1) := by decide +kernel
theorem dX4_go_66 : decode cX4_go 66 = .ok (.iload_n 3, 1) := by decide +kernel
theorem dX4_go_67 : decode cX4_go 67 = .ok (.ifCond .eq 26, 3) := by decide +kernel
theorem dX4_go_70 : decode cX4_go 70 = .ok (.aload_n 0, 1) := by decide +kernel
theorem dX4_go_71 : decode cX4_go 71 = .ok (.bipush 59, 2) := by decide +kernel
theorem dX4_go_73 : decode cX4_go 73 = .ok (.bipush 59, 2) := by decide +kernel
theorem dX4_go_75 : decode cX4_go 75 = .ok (.invokevirtual 169, 3) := by decide +kernel
theorem dX4_go_78 : decode cX4_go 78 = .ok (.istore 5, 2) := by decide +kernel
theorem dX4_go_80 : decode cX4_go 80 = .ok (.aload_n 0, 1) := by decide +kernel
theorem dX4_go_81 : decode cX4_go 81 = .ok (.getfield 165, 3) := by decide +kernel
theorem dX4_go_84 : decode cX4_go 84 = .ok (.ifCond .ne 7, 3) := by decide +kernel
theorem dX4_go_87 : decode cX4_go 87 = .ok (.iconst 1, 1) := by decide +kernel
theorem dX4_go_88 : decode cX4_go 88 = .ok (.goto 4, 3) := by decide +kernel
theorem dX4_go_91 : decode cX4_go 91 = .ok (.iconst 0, 1) := by decide +kernel
theorem dX4_go_92 : decode cX4_go 92 = .ok (.istore_n 3, 1) := by decide +kernel
theorem dX4_go_93 : decode cX4_go 93 = .ok (.goto (-79), 3) := by decide +kernel
theorem dX4_go_96 : decode cX4_go 96 = .ok (.iload_n 2, 1) := by decide +kernel
theorem dX4_go_97 : decode cX4_go 97 = .ok (.ireturn, 1) := by decide +kernel
theorem dX4_fault_0 : decode cX4_fault 0 = .ok (.aload_n 0, 1) := by decide +kernel
theorem dX4_fault_1 : decode cX4_fault 1 = .ok (.iconst 0, 1) := by decide +kernel
theorem dX4_fault_2 : decode cX4_fault 2 = .ok (.invokevirtual 182, 3) := by decide +kernel
theorem dX4_fault_5 : decode cX4_fault 5 = .ok (.istore_n 1, 1) := by decide +kernel
theorem dX4_fault_6 : decode cX4_fault 6 = .ok (.aload_n 0, 1) := by decide +kernel
theorem dX4_fault_7 : decode cX4_fault 7 = .ok (.getfield 165, 3) := by decide +kernel
theorem dX4_fault_10 : decode cX4_fault 10 = .ok (.ifCond .eq 10, 3) := by decide +kernel
theorem dX4_fault_13 : decode cX4_fault 13 = .ok (.aload_n 0, 1) := by decide +kernel
theorem dX4_fault_14 : decode cX4_fault 14 = .ok (.getfield 162, 3) := by decide +kernel
theorem dX4_fault_17 : decode cX4_fault 17 = .ok (.goto 5, 3) := by decide +kernel
theorem dX4_fault_20 : decode cX4_fault 20 = .ok (.bipush (-6), 2) := by decide +kernel
theorem dX4_fault_22 : decode cX4_fault 22 = .ok (.ireturn, 1) := by decide +kernel
theorem dX4_carryOut_0 : decode cX4_carryOut 0 = .ok (.aload_n 0, 1) := by decide +kernel
theorem dX4_carryOut_1 : decode cX4_carryOut 1 = .ok (.iconst 0, 1) := by decide +kernel
theorem dX4_carryOut_2 : decode cX4_carryOut 2 = .ok (.invokevirtual 182, 3) := by decide +kernel
theorem dX4_carryOut_5 : decode cX4_carryOut 5 = .ok (.istore_n 1, 1) := by decide +kernel
theorem dX4_carryOut_6 : decode cX4_carryOut 6 = .ok (.aload_n 0, 1) := by decide +kernel
theorem dX4_carryOut_7 : decode cX4_carryOut 7 = .ok (.getfield 165, 3) := by decide +kernel
theorem dX4_carryOut_10 : decode cX4_carryOut 10 = .ok (.ifCond .eq 6, 3) := by decide +kernel
theorem dX4_carryOut_13 : decode cX4_carryOut 13 = .ok (.bipush (-3), 2) := by decide +kernel
theorem dX4_carryOut_15 : decode cX4_carryOut 15 = .ok (.ireturn, 1) := by decide +kernel
theorem dX4_carryOut_16 : decode cX4_carryOut 16 = .ok (.aload_n 0, 1) := by decide +kernel
theorem dX4_carryOut_17 : decode cX4_carryOut 17 = .ok (.invokevirtual 107, 3) := by decide +kernel
theorem dX4_carryOut_20 : decode cX4_carryOut 20 = .ok (.aload_n 0, 1) := by decide +kernel
theorem dX4_carryOut_21 : decode cX4_carryOut 21 = .ok (.iconst 1, 1) := by decide +kernel
theorem dX4_carryOut_22 : decode cX4_carryOut 22 = .ok (.invokevirtual 182, 3) := by decide +kernel
theorem dX4_carryOut_25 : decode cX4_carryOut 25 = .ok (.istore_n 2, 1) := by decide +kernel
theorem dX4_carryOut_26 : decode cX4_carryOut 26 = .ok (.aload_n 0, 1) := by decide +kernel
theorem dX4_carryOut_27 : decode cX4_carryOut 27 = .ok (.iconst 0, 1) := by decide +kernel
theorem dX4_carryOut_28 : decode cX4_carryOut 28 = .ok (.putfield 153, 3) := by decide +kernel
theorem dX4_carryOut_31 : decode cX4_carryOut 31 = .ok (.aload_n 0, 1) := by decide +kernel
theorem dX4_carryOut_32 : decode cX4_carryOut 32 = .ok (.iload_n 2, 1) := by decide +kernel
theorem dX4_carryOut_33 : decode cX4_carryOut 33 = .ok (.invokevirtual 110, 3) := by decide +kernel
theorem dX4_carryOut_36 : decode cX4_carryOut 36 = .ok (.ireturn, 1) := by decide +kernel
theorem dX4_undo_0 : decode cX4_undo 0 = .ok (.aload_n 0, 1) := by decide +kernel
theorem dX4_undo_1 : decode cX4_undo 1 = .ok (.getfield 29, 3) := by decide +kernel
theorem dX4_undo_4 : decode cX4_undo 4 = .ok (.ifCond .ne 6, 3) := by decide +kernel
theorem dX4_undo_7 : decode cX4_undo 7 = .ok (.bipush (-5), 2) := by decide +kernel
theorem dX4_undo_9 : decode cX4_undo 9 = .ok (.ireturn, 1) := by decide +kernel
theorem dX4_undo_10 : decode cX4_undo 10 = .ok (.aload_n 0, 1) := by decide +kernel
theorem dX4_undo_11 : decode cX4_undo 11 = .ok (.dup, 1) := by decide +kernel
theorem dX4_undo_12 : decode cX4_undo 12 = .ok (.getfield 29, 3) := by decide +kernel
theorem dX4_undo_15 : decode cX4_undo 15 = .ok (.iconst 1, 1) := by decide +kernel
theorem dX4_undo_16 : decode cX4_undo 16 = .ok (.isub, 1) := by decide +kernel
theorem dX4_undo_17 : decode cX4_undo 17 = .ok (.putfield 29, 3) := by decide +kernel
theorem dX4_undo_20 : decode cX4_undo 20 = .ok (.iconst 0, 1) := by decide +kernel
theorem dX4_undo_21 : decode cX4_undo 21 = .ok (.istore_n 1, 1) := by decide +kernel
theorem dX4_undo_22 : decode cX4_undo 22 = .ok (.iload_n 1, 1) := by decide +kernel
theorem dX4_undo_23 : decode cX4_undo 23 = .ok (.sipush 181, 3) := by decide +kernel
theorem dX4_undo_26 : decode cX4_undo 26 = .ok (.if_icmp .ge 30, 3) := by decide +kernel
theorem dX4_undo_29 : decode cX4_undo 29 = .ok (.aload_n 0, 1) := by decide +kernel
theorem dX4_undo_30 : decode cX4_undo 30 = .ok (.getfield 7, 3) := by decide +kernel
theorem dX4_undo_33 : decode cX4_undo 33 = .ok (.iload_n 1, 1) := by decide +kernel
theorem dX4_undo_34 : decode cX4_undo 34 = .ok (.aload_n 0, 1) := by decide +kernel
theorem dX4_undo_35 : decode cX4_undo 35 = .ok (.getfield 16, 3) := by decide +kernel
theorem dX4_undo_38 : decode cX4_undo 38 = .ok (.sipush 181, 3) := by decide +kernel
theorem dX4_undo_41 : decode cX4_undo 41 = .ok (.aload_n 0, 1) := by decide +kernel
theorem dX4_undo_42 : decode cX4_undo 42 = .ok (.getfield 29, 3) := by decide +kernel
theorem dX4_undo_45 : decode cX4_undo 45 = .ok (.imul, 1) := by decide +kernel
theorem dX4_undo_46 : decode cX4_undo 46 = .ok (.iload_n 1, 1) := by decide +kernel
theorem dX4_undo_47 : decode cX4_undo 47 = .ok (.iadd, 1) := by decide +kernel
theorem dX4_undo_48 : decode cX4_undo 48 = .ok (.iaload, 1) := by decide +kernel
theorem dX4_undo_49 : decode cX4_undo 49 = .ok (.iastore, 1) := by decide +kernel
theorem dX4_undo_50 : decode cX4_undo 50 = .ok (.iinc 1 1, 3) := by decide +kernel
theorem dX4_undo_53 : decode cX4_undo 53 = .ok (.goto (-31), 3) := by decide +kernel
theorem dX4_undo_56 : decode cX4_undo 56 = .ok (.aload_n 0, 1) := by decide +kernel
theorem dX4_undo_57 : decode cX4_undo 57 = .ok (.getfield 29, 3) := by decide +kernel
theorem dX4_undo_60 : decode cX4_undo 60 = .ok (.ireturn, 1) := by decide +kernel
theorem dX4_save_0 : decode cX4_save 0 = .ok (.iload_n 1, 1) := by decide +kernel
theorem dX4_save_1 : decode cX4_save 1 = .ok (.iconst 0, 1) := by decide +kernel
theorem dX4_save_2 : decode cX4_save 2 = .ok (.iconst 1, 1) := by decide +kernel
theorem dX4_save_3 : decode cX4_save 3 = .ok (.invokestatic 33, 3) := by decide +kernel
theorem dX4_save_6 : decode cX4_save 6 = .ok (.ifCond .ne 6, 3) := by decide +kernel
theorem dX4_save_9 : decode cX4_save 9 = .ok (.bipush (-2), 2) := by decide +kernel
theorem dX4_save_11 : decode cX4_save 11 = .ok (.ireturn, 1) := by decide +kernel
theorem dX4_save_12 : decode cX4_save 12 = .ok (.iconst 0, 1) := by decide +kernel
theorem dX4_save_13 : decode cX4_save 13 = .ok (.istore_n 2, 1) := by decide +kernel
theorem dX4_save_14 : decode cX4_save 14 = .ok (.iload_n 2, 1) := by decide +kernel
theorem dX4_save_15 : decode cX4_save 15 = .ok (.sipush 181, 3) := by decide +kernel
theorem dX4_save_18 : decode cX4_save 18 = .ok (.if_icmp .ge 27, 3) := by decide +kernel
theorem dX4_save_21 : decode cX4_save 21 = .ok (.aload_n 0, 1) := by decide +kernel
theorem dX4_save_22 : decode cX4_save 22 = .ok (.getfield 19, 3) := by decide +kernel
theorem dX4_save_25 : decode cX4_save 25 = .ok (.sipush 181, 3) := by decide +kernel
theorem dX4_save_28 : decode cX4_save 28 = .ok (.iload_n 1, 1) := by decide +kernel
theorem dX4_save_29 : decode cX4_save 29 = .ok (.imul, 1) := by decide +kernel
theorem dX4_save_30 : decode cX4_save 30 = .ok (.iload_n 2, 1) := by decide +kernel
theorem dX4_save_31 : decode cX4_save 31 = .ok (.iadd, 1) := by decide +kernel
theorem dX4_save_32 : decode cX4_save 32 = .ok (.aload_n 0, 1) := by decide +kernel
theorem dX4_save_33 : decode cX4_save 33 = .ok (.getfield 7, 3) := by decide +kernel
theorem dX4_save_36 : decode cX4_save 36 = .ok (.iload_n 2, 1) := by decide +kernel
theorem dX4_save_37 : decode cX4_save 37 = .ok (.iaload, 1) := by decide +kernel
theorem dX4_save_38 : decode cX4_save 38 = .ok (.iastore, 1) := by decide +kernel
theorem dX4_save_39 : decode cX4_save 39 = .ok (.iinc 2 1, 3) := by decide +kernel
theorem dX4_save_42 : decode cX4_save 42 = .ok (.goto (-28), 3) := by decide +kernel
theorem dX4_save_45 : decode cX4_save 45 = .ok (.aload_n 0, 1) := by decide +kernel
theorem dX4_save_46 : decode cX4_save 46 = .ok (.getfield 22, 3) := by decide +kernel
theorem dX4_save_49 : decode cX4_save 49 = .ok (.iload_n 1, 1) := by decide +kernel
theorem dX4_save_50 : decode cX4_save 50 = .ok (.iconst 1, 1) := by decide +kernel
theorem dX4_save_51 : decode cX4_save 51 = .ok (.bastore, 1) := by decide +kernel
theorem dX4_save_52 : decode cX4_save 52 = .ok (.aload_n 0, 1) := by decide +kernel
theorem dX4_save_53 : decode cX4_save 53 = .ok (.getfield 7, 3) := by decide +kernel
theorem dX4_save_56 : decode cX4_save 56 = .ok (.bipush 47, 2) := by decide +kernel
theorem dX4_save_58 : decode cX4_save 58 = .ok (.iaload, 1) := by decide +kernel
theorem dX4_save_59 : decode cX4_save 59 = .ok (.ireturn, 1) := by decide +kernel
theorem dX4_restore_0 : decode cX4_restore 0 = .ok (.iload_n 1, 1) := by decide +kernel
theorem dX4_restore_1 : decode cX4_restore 1 = .ok (.iconst 0, 1) := by decide +kernel
theorem dX4_restore_2 : decode cX4_restore 2 = .ok (.iconst 1, 1) := by decide +kernel
theorem dX4_restore_3 : decode cX4_restore 3 = .ok (.invokestatic 33, 3) := by decide +kernel
theorem dX4_restore_6 : decode cX4_restore 6 = .ok (.ifCond .ne 6, 3) := by decide +kernel
theorem dX4_restore_9 : decode cX4_restore 9 = .ok (.bipush (-2), 2) := by decide +kernel
theorem dX4_restore_11 : decode cX4_restore 11 = .ok (.ireturn, 1) := by decide +kernel
theorem dX4_restore_12 : decode cX4_restore 12 = .ok (.aload_n 0, 1) := by decide +kernel
theorem dX4_restore_13 : decode cX4_restore 13 = .ok (.getfield 22, 3) := by decide +kernel
theorem dX4_restore_16 : decode cX4_restore 16 = .ok (.iload_n 1, 1) := by decide +kernel
theorem dX4_restore_17 : decode cX4_restore 17 = .ok (.baload, 1) := by decide +kernel
theorem dX4_restore_18 : decode cX4_restore 18 = .ok (.ifCond .ne 6, 3) := by decide +kernel
theorem dX4_restore_21 : decode cX4_restore 21 = .ok (.bipush (-5), 2) := by decide +kernel
theorem dX4_restore_23 : decode cX4_restore 23 = .ok (.ireturn, 1) := by decide +kernel
theorem dX4_restore_24 : decode cX4_restore 24 = .ok (.aload_n 0, 1) := by decide +kernel
theorem dX4_restore_25 : decode cX4_restore 25 = .ok (.invokevirtual 107, 3) := by decide +kernel
theorem dX4_restore_28 : decode cX4_restore 28 = .ok (.iconst 0, 1) := by decide +kernel
theorem dX4_restore_29 : decode cX4_restore 29 = .ok (.istore_n 2, 1) := by decide +kernel
theorem dX4_restore_30 : decode cX4_restore 30 = .ok (.iload_n 2, 1) := by decide +kernel
theorem dX4_restore_31 : decode cX4_restore 31 = .ok (.sipush 181, 3) := by decide +kernel
theorem dX4_restore_34 : decode cX4_restore 34 = .ok (.if_icmp .ge 27, 3) := by decide +kernel
theorem dX4_restore_37 : decode cX4_restore 37 = .ok (.aload_n 0, 1) := by decide +kernel
theorem dX4_restore_38 : decode cX4_restore 38 = .ok (.getfield 7, 3) := by decide +kernel
theorem dX4_restore_41 : decode cX4_restore 41 = .ok (.iload_n 2, 1) := by decide +kernel
theorem dX4_restore_42 : decode cX4_restore 42 = .ok (.aload_n 0, 1) := by decide +kernel
theorem dX4_restore_43 : decode cX4_restore 43 = .ok (.getfield 19, 3) := by decide +kernel
theorem dX4_restore_46 : decode cX4_restore 46 = .ok (.sipush 181, 3) := by decide +kernel
theorem dX4_restore_49 : decode cX4_restore 49 = .ok (.iload_n 1, 1) := by decide +kernel
theorem dX4_restore_50 : decode cX4_restore 50 = .ok (.imul, 1) := by decide +kernel
theorem dX4_restore_51 : decode cX4_restore 51 = .ok (.iload_n 2, 1) := by decide +kernel
theorem dX4_restore_52 : decode cX4_restore 52 = .ok (.iadd, 1) := by decide +kernel
theorem dX4_restore_53 : decode cX4_restore 53 = .ok (.iaload, 1) := by decide +kernel
theorem dX4_restore_54 : decode cX4_restore 54 = .ok (.iastore, 1) := by decide +kernel
theorem dX4_restore_55 : decode cX4_restore 55 = .ok (.iinc 2 1, 3) := by decide +kernel
theorem dX4_restore_58 : decode cX4_restore 58 = .ok (.goto (-28), 3) := by decide +kernel
theorem dX4_restore_61 : decode cX4_restore 61 = .ok (.aload_n 0, 1) := by decide +kernel
theorem dX4_restore_62 : decode cX4_restore 62 = .ok (.aload_n 0, 1) := by decide +kernel
theorem dX4_restore_63 : decode cX4_restore 63 = .ok (.getfield 7, 3) := by decide +kernel
theorem dX4_restore_66 : decode cX4_restore 66 = .ok (.bipush 47, 2) := by decide +kernel
theorem dX4_restore_68 : decode cX4_restore 68 = .ok (.iaload, 1) := by decide +kernel
theorem dX4_restore_69 : decode cX4_restore 69 = .ok (.invokevirtual 110, 3) := by decide +kernel
theorem dX4_restore_72 : decode cX4_restore 72 = .ok (.ireturn, 1) := by decide +kernel
theorem dJ6_bitCount_0f7a4_0 : decode cJ6_bitCount_0f7a4 0 = .ok (.iload_n 0, 1) := by decide +kernel
theorem dJ6_bitCount_0f7a4_1 : decode cJ6_bitCount_0f7a4 1 = .ok (.iload_n 0, 1) := by decide +kernel
theorem dJ6_bitCount_0f7a4_2 : decode cJ6_bitCount_0f7a4 2 = .ok (.iconst 1, 1) := by decide +kernel
theorem dJ6_bitCount_0f7a4_3 : decode cJ6_bitCount_0f7a4 3 = .ok (.iushr, 1) := by decide +kernel
theorem dJ6_bitCount_0f7a4_4 : decode cJ6_bitCount_0f7a4 4 = .ok (.ldc_w 265, 3) := by decide +kernel
theorem dJ6_bitCount_0f7a4_7 : decode cJ6_bitCount_0f7a4 7 = .ok (.iand, 1) := by decide +kernel
theorem dJ6_bitCount_0f7a4_8 : decode cJ6_bitCount_0f7a4 8 = .ok (.isub, 1) := by decide +kernel
theorem dJ6_bitCount_0f7a4_9 : decode cJ6_bitCount_0f7a4 9 = .ok (.istore_n 0, 1) := by decide +kernel
theorem dJ6_bitCount_0f7a4_10 : decode cJ6_bitCount_0f7a4 10 = .ok (.iload_n 0, 1) := by decide +kernel
theorem dJ6_bitCount_0f7a4_11 : decode cJ6_bitCount_0f7a4 11 = .ok (.ldc_w 266, 3) := by decide +kernel
theorem dJ6_bitCount_0f7a4_14 : decode cJ6_bitCount_0f7a4 14 = .ok (.iand, 1) := by decide +kernel
theorem dJ6_bitCount_0f7a4_15 : decode cJ6_bitCount_0f7a4 15 = .ok (.iload_n 0, 1) := by decide +kernel
theorem dJ6_bitCount_0f7a4_16 : decode cJ6_bitCount_0f7a4 16 = .ok (.iconst 2, 1) := by decide +kernel
theorem dJ6_bitCount_0f7a4_17 : decode cJ6_bitCount_0f7a4 17 = .ok (.iushr, 1) := by decide +kernel
theorem dJ6_bitCount_0f7a4_18 : decode cJ6_bitCount_0f7a4 18 = .ok (.ldc_w 266, 3) := by decide +kernel
theorem dJ6_bitCount_0f7a4_21 : decode cJ6_bitCount_0f7a4 21 = .ok (.iand, 1) := by decide +kernel
theorem dJ6_bitCount_0f7a4_22 : decode cJ6_bitCount_0f7a4 22 = .ok (.iadd, 1) := by decide +kernel
theorem dJ6_bitCount_0f7a4_23 : decode cJ6_bitCount_0f7a4 23 = .ok (.istore_n 0, 1) := by decide +kernel
theorem dJ6_bitCount_0f7a4_24 : decode cJ6_bitCount_0f7a4 24 = .ok (.iload_n 0, 1) := by decide +kernel
theorem dJ6_bitCount_0f7a4_25 : decode cJ6_bitCount_0f7a4 25 = .ok (.iload_n 0, 1) := by decide +kernel
theorem dJ6_bitCount_0f7a4_26 : decode cJ6_bitCount_0f7a4 26 = .ok (.iconst 4, 1) := by decide +kernel
theorem dJ6_bitCount_0f7a4_27 : decode cJ6_bitCount_0f7a4 27 = .ok (.iushr, 1) := by decide +kernel
theorem dJ6_bitCount_0f7a4_28 : decode cJ6_bitCount_0f7a4 28 = .ok (.iadd, 1) := by decide +kernel
theorem dJ6_bitCount_0f7a4_29 : decode cJ6_bitCount_0f7a4 29 = .ok (.ldc_w 267, 3) := by decide +kernel
theorem dJ6_bitCount_0f7a4_32 : decode cJ6_bitCount_0f7a4 32 = .ok (.iand, 1) := by decide +kernel
theorem dJ6_bitCount_0f7a4_33 : decode cJ6_bitCount_0f7a4 33 = .ok (.istore_n 0, 1) := by decide +kernel
theorem dJ6_bitCount_0f7a4_34 : decode cJ6_bitCount_0f7a4 34 = .ok (.iload_n 0, 1) := by decide +kernel
theorem dJ6_bitCount_0f7a4_35 : decode cJ6_bitCount_0f7a4 35 = .ok (.iload_n 0, 1) := by decide +kernel
theorem dJ6_bitCount_0f7a4_36 : decode cJ6_bitCount_0f7a4 36 = .ok (.bipush 8, 2) := by decide +kernel
theorem dJ6_bitCount_0f7a4_38 : decode cJ6_bitCount_0f7a4 38 = .ok (.iushr, 1) := by decide +kernel
theorem dJ6_bitCount_0f7a4_39 : decode cJ6_bitCount_0f7a4 39 = .ok (.iadd, 1) := by decide +kernel
theorem dJ6_bitCount_0f7a4_40 : decode cJ6_bitCount_0f7a4 40 = .ok (.istore_n 0, 1) := by decide +kernel
theorem dJ6_bitCount_0f7a4_41 : decode cJ6_bitCount_0f7a4 41 = .ok (.iload_n 0, 1) := by decide +kernel
theorem dJ6_bitCount_0f7a4_42 : decode cJ6_bitCount_0f7a4 42 = .ok (.iload_n 0, 1) := by decide +kernel
theorem dJ6_bitCount_0f7a4_43 : decode cJ6_bitCount_0f7a4 43 = .ok (.bipush 16, 2) := by decide +kernel
theorem dJ6_bitCount_0f7a4_45 : decode cJ6_bitCount_0f7a4 45 = .ok (.iushr, 1) := by decide +kernel
theorem dJ6_bitCount_0f7a4_46 : decode cJ6_bitCount_0f7a4 46 = .ok (.iadd, 1) := by decide +kernel
theorem dJ6_bitCount_0f7a4_47 : decode cJ6_bitCount_0f7a4 47 = .ok (.istore_n 0, 1) := by decide +kernel
theorem dJ6_bitCount_0f7a4_48 : decode cJ6_bitCount_0f7a4 48 = .ok (.iload_n 0, 1) := by decide +kernel
theorem dJ6_bitCount_0f7a4_49 : decode cJ6_bitCount_0f7a4 49 = .ok (.bipush 63, 2) := by decide +kernel
theorem dJ6_bitCount_0f7a4_51 : decode cJ6_bitCount_0f7a4 51 = .ok (.iand, 1) := by decide +kernel
theorem dJ6_bitCount_0f7a4_52 : decode cJ6_bitCount_0f7a4 52 = .ok (.ireturn, 1) := by decide +kernel
theorem dJ9_floorMod_7cf53_0 : decode cJ9_floorMod_7cf53 0 = .ok (.iload_n 0, 1) := by decide +kernel
theorem dJ9_floorMod_7cf53_1 : decode cJ9_floorMod_7cf53 1 = .ok (.iload_n 1, 1) := by decide +kernel
theorem dJ9_floorMod_7cf53_2 : decode cJ9_floorMod_7cf53 2 = .ok (.irem, 1) := by decide +kernel
theorem dJ9_floorMod_7cf53_3 : decode cJ9_floorMod_7cf53 3 = .ok (.istore_n 2, 1) := by decide +kernel
theorem dJ9_floorMod_7cf53_4 : decode cJ9_floorMod_7cf53 4 = .ok (.iload_n 0, 1) := by decide +kernel
theorem dJ9_floorMod_7cf53_5 : decode cJ9_floorMod_7cf53 5 = .ok (.iload_n 1, 1) := by decide +kernel
theorem dJ9_floorMod_7cf53_6 : decode cJ9_floorMod_7cf53 6 = .ok (.ixor, 1) := by decide +kernel
theorem dJ9_floorMod_7cf53_7 : decode cJ9_floorMod_7cf53 7 = .ok (.ifCond .ge 11, 3) := by decide +kernel
theorem dJ9_floorMod_7cf53_10 : decode cJ9_floorMod_7cf53 10 = .ok (.iload_n 2, 1) := by decide +kernel
theorem dJ9_floorMod_7cf53_11 : decode cJ9_floorMod_7cf53 11 = .ok (.ifCond .eq 7, 3) := by decide +kernel
theorem dJ9_floorMod_7cf53_14 : decode cJ9_floorMod_7cf53 14 = .ok (.iload_n 2, 1) := by decide +kernel
theorem dJ9_floorMod_7cf53_15 : decode cJ9_floorMod_7cf53 15 = .ok (.iload_n 1, 1) := by decide +kernel
theorem dJ9_floorMod_7cf53_16 : decode cJ9_floorMod_7cf53 16 = .ok (.iadd, 1) := by decide +kernel
theorem dJ9_floorMod_7cf53_17 : decode cJ9_floorMod_7cf53 17 = .ok (.ireturn, 1) := by decide +kernel
theorem dJ9_floorMod_7cf53_18 : decode cJ9_floorMod_7cf53 18 = .ok (.iload_n 2, 1) := by decide +kernel
theorem dJ9_floorMod_7cf53_19 : decode cJ9_floorMod_7cf53 19 = .ok (.ireturn, 1) := by decide +kernel
theorem dJ9_max_7cf53_0 : decode cJ9_max_7cf53 0 = .ok (.iload_n 0, 1) := by decide +kernel
theorem dJ9_max_7cf53_1 : decode cJ9_max_7cf53 1 = .ok (.iload_n 1, 1) := by decide +kernel
theorem dJ9_max_7cf53_2 : decode cJ9_max_7cf53 2 = .ok (.if_icmp .lt 7, 3) := by decide +kernel
theorem dJ9_max_7cf53_5 : decode cJ9_max_7cf53 5 = .ok (.iload_n 0, 1) := by decide +kernel
theorem dJ9_max_7cf53_6 : decode cJ9_max_7cf53 6 = .ok (.goto 4, 3) := by decide +kernel
theorem dJ9_max_7cf53_9 : decode cJ9_max_7cf53 9 = .ok (.iload_n 1, 1) := by decide +kernel
theorem dJ9_max_7cf53_10 : decode cJ9_max_7cf53 10 = .ok (.ireturn, 1) := by decide +kernel
theorem dJ9_min_7cf53_0 : decode cJ9_min_7cf53 0 = .ok (.iload_n 0, 1) := by decide +kernel
theorem dJ9_min_7cf53_1 : decode cJ9_min_7cf53 1 = .ok (.iload_n 1, 1) := by decide +kernel
theorem dJ9_min_7cf53_2 : decode cJ9_min_7cf53 2 = .ok (.if_icmp .gt 7, 3) := by decide +kernel
theorem dJ9_min_7cf53_5 : decode cJ9_min_7cf53 5 = .ok (.iload_n 0, 1) := by decide +kernel
theorem dJ9_min_7cf53_6 : decode cJ9_min_7cf53 6 = .ok (.goto 4, 3) := by decide +kernel
theorem dJ9_min_7cf53_9 : decode cJ9_min_7cf53 9 = .ok (.iload_n 1, 1) := by decide +kernel
theorem dJ9_min_7cf53_10 : decode cJ9_min_7cf53 10 = .ok (.ireturn, 1) := by decide +kernel
theorem dJ0_length_8abf5_0 : decode cJ0_length_8abf5 0 = .ok (.aload_n 0, 1) := by decide +kernel
theorem dJ0_length_8abf5_1 : decode cJ0_length_8abf5 1 = .ok (.getfield 9, 3) := by decide +kernel
theorem dJ0_length_8abf5_4 : decode cJ0_length_8abf5 4 = .ok (.arraylength, 1) := by decide +kernel
theorem dJ0_length_8abf5_5 : decode cJ0_length_8abf5 5 = .ok (.aload_n 0, 1) := by decide +kernel
theorem dJ0_length_8abf5_6 : decode cJ0_length_8abf5 6 = .ok (.invokevirtual 335, 3) := by decide +kernel
theorem dJ0_length_8abf5_9 : decode cJ0_length_8abf5 9 = .ok (.ishr, 1) := by decide +kernel
theorem dJ0_length_8abf5_10 : decode cJ0_length_8abf5 10 = .ok (.ireturn, 1) := by decide +kernel
theorem dJ0_isEmpty_aae02_0 : decode cJ0_isEmpty_aae02 0 = .ok (.aload_n 0, 1) := by decide +kernel
theorem dJ0_isEmpty_aae02_1 : decode cJ0_isEmpty_aae02 1 = .ok (.getfield 9, 3) := by decide +kernel
theorem dJ0_isEmpty_aae02_4 : decode cJ0_isEmpty_aae02 4 = .ok (.arraylength, 1) := by decide +kernel
theorem dJ0_isEmpty_aae02_5 : decode cJ0_isEmpty_aae02 5 = .ok (.ifCond .ne 7, 3) := by decide +kernel
theorem dJ0_isEmpty_aae02_8 : decode cJ0_isEmpty_aae02 8 = .ok (.iconst 1, 1) := by decide +kernel
theorem dJ0_isEmpty_aae02_9 : decode cJ0_isEmpty_aae02 9 = .ok (.goto 4, 3) := by decide +kernel
theorem dJ0_isEmpty_aae02_12 : decode cJ0_isEmpty_aae02 12 = .ok (.iconst 0, 1) := by decide +kernel
theorem dJ0_isEmpty_aae02_13 : decode cJ0_isEmpty_aae02 13 = .ok (.ireturn, 1) := by decide +kernel
theorem dJ0_charAt_5068e_0 : decode cJ0_charAt_5068e 0 = .ok (.aload_n 0, 1) := by decide +kernel
theorem dJ0_charAt_5068e_1 : decode cJ0_charAt_5068e 1 = .ok (.invokevirtual 492, 3) := by decide +kernel
theorem dJ0_charAt_5068e_4 : decode cJ0_charAt_5068e 4 = .ok (.ifCond .eq 12, 3) := by decide +kernel
theorem dJ0_charAt_5068e_7 : decode cJ0_charAt_5068e 7 = .ok (.aload_n 0, 1) := by decide +kernel
theorem dJ0_charAt_5068e_8 : decode cJ0_charAt_5068e 8 = .ok (.getfield 9, 3) := by decide +kernel
theorem dJ0_charAt_5068e_11 : decode cJ0_charAt_5068e 11 = .ok (.iload_n 1, 1) := by decide +kernel
theorem dJ0_charAt_5068e_12 : decode cJ0_charAt_5068e 12 = .ok (.invokestatic 495, 3) := by decide +kernel
theorem dJ0_charAt_5068e_15 : decode cJ0_charAt_5068e 15 = .ok (.ireturn, 1) := by decide +kernel
theorem dJ0_charAt_5068e_16 : decode cJ0_charAt_5068e 16 = .ok (.aload_n 0, 1) := by decide +kernel
theorem dJ0_charAt_5068e_17 : decode cJ0_charAt_5068e 17 = .ok (.getfield 9, 3) := by decide +kernel
theorem dJ0_charAt_5068e_20 : decode cJ0_charAt_5068e 20 = .ok (.iload_n 1, 1) := by decide +kernel
theorem dJ0_charAt_5068e_21 : decode cJ0_charAt_5068e 21 = .ok (.invokestatic 498, 3) := by decide +kernel
theorem dJ0_charAt_5068e_24 : decode cJ0_charAt_5068e 24 = .ok (.ireturn, 1) := by decide +kernel
theorem dJ0_coder_7d493_0 : decode cJ0_coder_7d493 0 = .ok (.getstatic 38, 3) := by decide +kernel
theorem dJ0_coder_7d493_3 : decode cJ0_coder_7d493 3 = .ok (.ifCond .eq 10, 3) := by decide +kernel
theorem dJ0_coder_7d493_6 : decode cJ0_coder_7d493 6 = .ok (.aload_n 0, 1) := by decide +kernel
theorem dJ0_coder_7d493_7 : decode cJ0_coder_7d493 7 = .ok (.getfield 15, 3) := by decide +kernel
theorem dJ0_coder_7d493_10 : decode cJ0_coder_7d493 10 = .ok (.goto 4, 3) := by decide +kernel
theorem dJ0_coder_7d493_13 : decode cJ0_coder_7d493 13 = .ok (.iconst 1, 1) := by decide +kernel
theorem dJ0_coder_7d493_14 : decode cJ0_coder_7d493 14 = .ok (.ireturn, 1) := by decide +kernel
theorem dJ0_isLatin1_aae02_0 : decode cJ0_isLatin1_aae02 0 = .ok (.getstatic 38, 3) := by decide +kernel
theorem dJ0_isLatin1_aae02_3 : decode cJ0_isLatin1_aae02 3 = .ok (.ifCond .eq 14, 3) := by decide +kernel
theorem dJ0_isLatin1_aae02_6 : decode cJ0_isLatin1_aae02 6 = .ok (.aload_n 0, 1) := by decide +kernel
theorem dJ0_isLatin1_aae02_7 : decode cJ0_isLatin1_aae02 7 = .ok (.getfield 15, 3) := by decide +kernel
theorem dJ0_isLatin1_aae02_10 : decode cJ0_isLatin1_aae02 10 = .ok (.ifCond .ne 7, 3) := by decide +kernel
theorem dJ0_isLatin1_aae02_13 : decode cJ0_isLatin1_aae02 13 = .ok (.iconst 1, 1) := by decide +kernel
theorem dJ0_isLatin1_aae02_14 : decode cJ0_isLatin1_aae02 14 = .ok (.goto 4, 3) := by decide +kernel
theorem dJ0_isLatin1_aae02_17 : decode cJ0_isLatin1_aae02 17 = .ok (.iconst 0, 1) := by decide +kernel
theorem dJ0_isLatin1_aae02_18 : decode cJ0_isLatin1_aae02 18 = .ok (.ireturn, 1) := by decide +kernel
theorem dJ0_checkIndex_df160_0 : decode cJ0_checkIndex_df160 0 = .ok (.iload_n 0, 1) := by decide +kernel
theorem dJ0_checkIndex_df160_1 : decode cJ0_checkIndex_df160 1 = .ok (.iload_n 1, 1) := by decide +kernel
theorem dJ0_checkIndex_df160_2 : decode cJ0_checkIndex_df160 2 = .ok (.getstatic 1053, 3) := by decide +kernel
theorem dJ0_checkIndex_df160_5 : decode cJ0_checkIndex_df160 5 = .ok (.invokestatic 1059, 3) := by decide +kernel
theorem dJ0_checkIndex_df160_8 : decode cJ0_checkIndex_df160 8 = .ok (.pop, 1) := by decide +kernel
theorem dJ0_checkIndex_df160_9 : decode cJ0_checkIndex_df160 9 = .ok (.return_, 1) := by decide +kernel
theorem dJ1_charAt_3b067_0 : decode cJ1_charAt_3b067 0 = .ok (.iload_n 1, 1) := by decide +kernel
theorem dJ1_charAt_3b067_1 : decode cJ1_charAt_3b067 1 = .ok (.aload_n 0, 1) := by decide +kernel
theorem dJ1_charAt_3b067_2 : decode cJ1_charAt_3b067 2 = .ok (.arraylength, 1) := by decide +kernel
theorem dJ1_charAt_3b067_3 : decode cJ1_charAt_3b067 3 = .ok (.invokestatic 9, 3) := by decide +kernel
theorem dJ1_charAt_3b067_6 : decode cJ1_charAt_3b067 6 = .ok (.aload_n 0, 1) := by decide +kernel
theorem dJ1_charAt_3b067_7 : decode cJ1_charAt_3b067 7 = .ok (.iload_n 1, 1) := by decide +kernel
theorem dJ1_charAt_3b067_8 : decode cJ1_charAt_3b067 8 = .ok (.baload, 1) := by decide +kernel
theorem dJ1_charAt_3b067_9 : decode cJ1_charAt_3b067 9 = .ok (.sipush 255, 3) := by decide +kernel
theorem dJ1_charAt_3b067_12 : decode cJ1_charAt_3b067 12 = .ok (.iand, 1) := by decide +kernel
theorem dJ1_charAt_3b067_13 : decode cJ1_charAt_3b067 13 = .ok (.i2c, 1) := by decide +kernel
theorem dJ1_charAt_3b067_14 : decode cJ1_charAt_3b067 14 = .ok (.ireturn, 1) := by decide +kernel
theorem dJ2_getChar_3b067_0 : decode cJ2_getChar_3b067 0 = .ok (.getstatic 44, 3) := by decide +kernel
theorem dJ2_getChar_3b067_3 : decode cJ2_getChar_3b067 3 = .ok (.ifCond .ne 25, 3) := by decide +kernel
theorem dJ2_getChar_3b067_6 : decode cJ2_getChar_3b067 6 = .ok (.iload_n 1, 1) := by decide +kernel
theorem dJ2_getChar_3b067_7 : decode cJ2_getChar_3b067 7 = .ok (.ifCond .lt 11, 3) := by decide +kernel
theorem dJ2_getChar_3b067_10 : decode cJ2_getChar_3b067 10 = .ok (.iload_n 1, 1) := by decide +kernel
theorem dJ2_getChar_3b067_11 : decode cJ2_getChar_3b067 11 = .ok (.aload_n 0, 1) := by decide +kernel
theorem dJ2_getChar_3b067_12 : decode cJ2_getChar_3b067 12 = .ok (.invokestatic 48, 3) := by decide +kernel
theorem dJ2_getChar_3b067_15 : decode cJ2_getChar_3b067 15 = .ok (.if_icmp .lt 13, 3) := by decide +kernel
theorem dJ2_getChar_3b067_18 : decode cJ2_getChar_3b067 18 = .ok (.new 52, 3) := by decide +kernel
theorem dJ2_getChar_3b067_21 : decode cJ2_getChar_3b067 21 = .ok (.dup, 1) := by decide +kernel
theorem dJ2_getChar_3b067_22 : decode cJ2_getChar_3b067 22 = .ok (.ldc 54, 2) := by decide +kernel
theorem dJ2_getChar_3b067_24 : decode cJ2_getChar_3b067 24 = .ok (.invokespecial 56, 3) := by decide +kernel
theorem dJ2_getChar_3b067_27 : decode cJ2_getChar_3b067 27 = .ok (.athrow, 1) := by decide +kernel
theorem dJ2_getChar_3b067_28 : decode cJ2_getChar_3b067 28 = .ok (.iload_n 1, 1) := by decide +kernel
theorem dJ2_getChar_3b067_29 : decode cJ2_getChar_3b067 29 = .ok (.iconst 1, 1) := by decide +kernel
theorem dJ2_getChar_3b067_30 : decode cJ2_getChar_3b067 30 = .ok (.ishl, 1) := by decide +kernel
theorem dJ2_getChar_3b067_31 : decode cJ2_getChar_3b067 31 = .ok (.istore_n 1, 1) := by decide +kernel
theorem dJ2_getChar_3b067_32 : decode cJ2_getChar_3b067 32 = .ok (.aload_n 0, 1) := by decide +kernel
theorem dJ2_getChar_3b067_33 : decode cJ2_getChar_3b067 33 = .ok (.iload_n 1, 1) := by decide +kernel
theorem dJ2_getChar_3b067_34 : decode cJ2_getChar_3b067 34 = .ok (.iinc 1 1, 3) := by decide +kernel
theorem dJ2_getChar_3b067_37 : decode cJ2_getChar_3b067 37 = .ok (.baload, 1) := by decide +kernel
theorem dJ2_getChar_3b067_38 : decode cJ2_getChar_3b067 38 = .ok (.sipush 255, 3) := by decide +kernel
theorem dJ2_getChar_3b067_41 : decode cJ2_getChar_3b067 41 = .ok (.iand, 1) := by decide +kernel
theorem dJ2_getChar_3b067_42 : decode cJ2_getChar_3b067 42 = .ok (.getstatic 59, 3) := by decide +kernel
theorem dJ2_getChar_3b067_45 : decode cJ2_getChar_3b067 45 = .ok (.ishl, 1) := by decide +kernel
theorem dJ2_getChar_3b067_46 : decode cJ2_getChar_3b067 46 = .ok (.aload_n 0, 1) := by decide +kernel
theorem dJ2_getChar_3b067_47 : decode cJ2_getChar_3b067 47 = .ok (.iload_n 1, 1) := by decide +kernel
theorem dJ2_getChar_3b067_48 : decode cJ2_getChar_3b067 48 = .ok (.baload, 1) := by decide +kernel
theorem dJ2_getChar_3b067_49 : decode cJ2_getChar_3b067 49 = .ok (.sipush 255, 3) := by decide +kernel
theorem dJ2_getChar_3b067_52 : decode cJ2_getChar_3b067 52 = .ok (.iand, 1) := by decide +kernel
theorem dJ2_getChar_3b067_53 : decode cJ2_getChar_3b067 53 = .ok (.getstatic 63, 3) := by decide +kernel
theorem dJ2_getChar_3b067_56 : decode cJ2_getChar_3b067 56 = .ok (.ishl, 1) := by decide +kernel
theorem dJ2_getChar_3b067_57 : decode cJ2_getChar_3b067 57 = .ok (.ior, 1) := by decide +kernel
theorem dJ2_getChar_3b067_58 : decode cJ2_getChar_3b067 58 = .ok (.i2c, 1) := by decide +kernel
theorem dJ2_getChar_3b067_59 : decode cJ2_getChar_3b067 59 = .ok (.ireturn, 1) := by decide +kernel
theorem dJ2_length_9d52b_0 : decode cJ2_length_9d52b 0 = .ok (.aload_n 0, 1) := by decide +kernel
theorem dJ2_length_9d52b_1 : decode cJ2_length_9d52b 1 = .ok (.arraylength, 1) := by decide +kernel
theorem dJ2_length_9d52b_2 : decode cJ2_length_9d52b 2 = .ok (.iconst 1, 1) := by decide +kernel
theorem dJ2_length_9d52b_3 : decode cJ2_length_9d52b 3 = .ok (.ishr, 1) := by decide +kernel
theorem dJ2_length_9d52b_4 : decode cJ2_length_9d52b 4 = .ok (.ireturn, 1) := by decide +kernel
theorem dJ2_charAt_3b067_0 : decode cJ2_charAt_3b067 0 = .ok (.iload_n 1, 1) := by decide +kernel
theorem dJ2_charAt_3b067_1 : decode cJ2_charAt_3b067 1 = .ok (.aload_n 0, 1) := by decide +kernel
theorem dJ2_charAt_3b067_2 : decode cJ2_charAt_3b067 2 = .ok (.invokestatic 67, 3) := by decide +kernel
theorem dJ2_charAt_3b067_5 : decode cJ2_charAt_3b067 5 = .ok (.aload_n 0, 1) := by decide +kernel
theorem dJ2_charAt_3b067_6 : decode cJ2_charAt_3b067 6 = .ok (.iload_n 1, 1) := by decide +kernel
theorem dJ2_charAt_3b067_7 : decode cJ2_charAt_3b067 7 = .ok (.invokestatic 71, 3) := by decide +kernel
theorem dJ2_charAt_3b067_10 : decode cJ2_charAt_3b067 10 = .ok (.ireturn, 1) := by decide +kernel
theorem dJ2_checkIndex_2214a_0 : decode cJ2_checkIndex_2214a 0 = .ok (.iload_n 0, 1) := by decide +kernel
theorem dJ2_checkIndex_2214a_1 : decode cJ2_checkIndex_2214a 1 = .ok (.aload_n 1, 1) := by decide +kernel
theorem dJ2_checkIndex_2214a_2 : decode cJ2_checkIndex_2214a 2 = .ok (.invokestatic 48, 3) := by decide +kernel
theorem dJ2_checkIndex_2214a_5 : decode cJ2_checkIndex_2214a 5 = .ok (.invokestatic 414, 3) := by decide +kernel
theorem dJ2_checkIndex_2214a_8 : decode cJ2_checkIndex_2214a 8 = .ok (.return_, 1) := by decide +kernel
theorem dJ3_checkIndex_8e157_0 : decode cJ3_checkIndex_8e157 0 = .ok (.iload_n 0, 1) := by decide +kernel
theorem dJ3_checkIndex_8e157_1 : decode cJ3_checkIndex_8e157 1 = .ok (.ifCond .lt 8, 3) := by decide +kernel
theorem dJ3_checkIndex_8e157_4 : decode cJ3_checkIndex_8e157 4 = .ok (.iload_n 0, 1) := by decide +kernel
theorem dJ3_checkIndex_8e157_5 : decode cJ3_checkIndex_8e157 5 = .ok (.iload_n 1, 1) := by decide +kernel
theorem dJ3_checkIndex_8e157_6 : decode cJ3_checkIndex_8e157 6 = .ok (.if_icmp .lt 10, 3) := by decide +kernel
theorem dJ3_checkIndex_8e157_9 : decode cJ3_checkIndex_8e157 9 = .ok (.aload_n 2, 1) := by decide +kernel
theorem dJ3_checkIndex_8e157_10 : decode cJ3_checkIndex_8e157 10 = .ok (.iload_n 0, 1) := by decide +kernel
theorem dJ3_checkIndex_8e157_11 : decode cJ3_checkIndex_8e157 11 = .ok (.iload_n 1, 1) := by decide +kernel
theorem dJ3_checkIndex_8e157_12 : decode cJ3_checkIndex_8e157 12 = .ok (.invokestatic 95, 3) := by decide +kernel
theorem dJ3_checkIndex_8e157_15 : decode cJ3_checkIndex_8e157 15 = .ok (.athrow, 1) := by decide +kernel
theorem dJ3_checkIndex_8e157_16 : decode cJ3_checkIndex_8e157 16 = .ok (.iload_n 0, 1) := by decide +kernel
theorem dJ3_checkIndex_8e157_17 : decode cJ3_checkIndex_8e157 17 = .ok (.ireturn, 1) := by decide +kernel
theorem dL_law_0 : decode cL_law 0 = .ok (.new 7, 3) := by decide +kernel
theorem dL_law_3 : decode cL_law 3 = .ok (.dup, 1) := by decide +kernel
theorem dL_law_4 : decode cL_law 4 = .ok (.invokespecial 9, 3) := by decide +kernel
theorem dL_law_7 : decode cL_law 7 = .ok (.astore_n 1, 1) := by decide +kernel
theorem dL_law_8 : decode cL_law 8 = .ok (.new 10, 3) := by decide +kernel
theorem dL_law_11 : decode cL_law 11 = .ok (.dup, 1) := by decide +kernel
theorem dL_law_12 : decode cL_law 12 = .ok (.invokespecial 12, 3) := by decide +kernel
theorem dL_law_15 : decode cL_law 15 = .ok (.astore_n 2, 1) := by decide +kernel
theorem dL_law_16 : decode cL_law 16 = .ok (.iconst 0, 1) := by decide +kernel
theorem dL_law_17 : decode cL_law 17 = .ok (.istore_n 3, 1) := by decide +kernel
theorem dL_law_18 : decode cL_law 18 = .ok (.iload_n 3, 1) := by decide +kernel
theorem dL_law_19 : decode cL_law 19 = .ok (.aload_n 0, 1) := by decide +kernel
theorem dL_law_20 : decode cL_law 20 = .ok (.arraylength, 1) := by decide +kernel
theorem dL_law_21 : decode cL_law 21 = .ok (.iconst 4, 1) := by decide +kernel
theorem dL_law_22 : decode cL_law 22 = .ok (.isub, 1) := by decide +kernel
theorem dL_law_23 : decode cL_law 23 = .ok (.if_icmp .gt 887, 3) := by decide +kernel
theorem dL_law_26 : decode cL_law 26 = .ok (.aload_n 0, 1) := by decide +kernel
theorem dL_law_27 : decode cL_law 27 = .ok (.iload_n 3, 1) := by decide +kernel
theorem dL_law_28 : decode cL_law 28 = .ok (.iaload, 1) := by decide +kernel
theorem dL_law_29 : decode cL_law 29 = .ok (.bipush 31, 2) := by decide +kernel
theorem dL_law_31 : decode cL_law 31 = .ok (.iand, 1) := by decide +kernel
theorem dL_law_32 : decode cL_law 32 = .ok (.tableswitch 872 0 27 #[128, 161, 194, 227, 250, 293, 326, 349, 372, 395, 428, 461, 494, 517, 540, 563, 586, 609, 632, 655, 698, 721, 774, 787, 800, 813, 826, 849], 128) := by decide +kernel
theorem dL_law_160 : decode cL_law 160 = .ok (.aload_n 1, 1) := by decide +kernel
theorem dL_law_161 : decode cL_law 161 = .ok (.aload_n 0, 1) := by decide +kernel
theorem dL_law_162 : decode cL_law 162 = .ok (.iload_n 3, 1) := by decide +kernel
theorem dL_law_163 : decode cL_law 163 = .ok (.iconst 1, 1) := by decide +kernel
theorem dL_law_164 : decode cL_law 164 = .ok (.iadd, 1) := by decide +kernel
theorem dL_law_165 : decode cL_law 165 = .ok (.iaload, 1) := by decide +kernel
theorem dL_law_166 : decode cL_law 166 = .ok (.aload_n 0, 1) := by decide +kernel
theorem dL_law_167 : decode cL_law 167 = .ok (.iload_n 3, 1) := by decide +kernel
theorem dL_law_168 : decode cL_law 168 = .ok (.iconst 2, 1) := by decide +kernel
theorem dL_law_169 : decode cL_law 169 = .ok (.iadd, 1) := by decide +kernel
theorem dL_law_170 : decode cL_law 170 = .ok (.iaload, 1) := by decide +kernel
theorem dL_law_171 : decode cL_law 171 = .ok (.invokevirtual 13, 3) := by decide +kernel
theorem dL_law_174 : decode cL_law 174 = .ok (.aload_n 2, 1) := by decide +kernel
theorem dL_law_175 : decode cL_law 175 = .ok (.aload_n 0, 1) := by decide +kernel
theorem dL_law_176 : decode cL_law 176 = .ok (.iload_n 3, 1) := by decide +kernel
theorem dL_law_177 : decode cL_law 177 = .ok (.iconst 1, 1) := by decide +kernel
theorem dL_law_178 : decode cL_law 178 = .ok (.iadd, 1) := by decide +kernel
theorem dL_law_179 : decode cL_law 179 = .ok (.iaload, 1) := by decide +kernel
theorem dL_law_180 : decode cL_law 180 = .ok (.aload_n 0, 1) := by decide +kernel
theorem dL_law_181 : decode cL_law 181 = .ok (.iload_n 3, 1) := by decide +kernel
theorem dL_law_182 : decode cL_law 182 = .ok (.iconst 2, 1) := by decide +kernel
theorem dL_law_183 : decode cL_law 183 = .ok (.iadd, 1) := by decide +kernel
theorem dL_law_184 : decode cL_law 184 = .ok (.iaload, 1) := by decide +kernel
theorem dL_law_185 : decode cL_law 185 = .ok (.invokevirtual 17, 3) := by decide +kernel
theorem dL_law_188 : decode cL_law 188 = .ok (.if_icmp .eq 716, 3) := by decide +kernel
theorem dL_law_191 : decode cL_law 191 = .ok (.iconst 0, 1) := by decide +kernel
theorem dL_law_192 : decode cL_law 192 = .ok (.ireturn, 1) := by decide +kernel
theorem dL_law_193 : decode cL_law 193 = .ok (.aload_n 1, 1) := by decide +kernel
theorem dL_law_194 : decode cL_law 194 = .ok (.aload_n 0, 1) := by decide +kernel
theorem dL_law_195 : decode cL_law 195 = .ok (.iload_n 3, 1) := by decide +kernel
theorem dL_law_196 : decode cL_law 196 = .ok (.iconst 1, 1) := by decide +kernel
theorem dL_law_197 : decode cL_law 197 = .ok (.iadd, 1) := by decide +kernel
theorem dL_law_198 : decode cL_law 198 = .ok (.iaload, 1) := by decide +kernel
theorem dL_law_199 : decode cL_law 199 = .ok (.aload_n 0, 1) := by decide +kernel
theorem dL_law_200 : decode cL_law 200 = .ok (.iload_n 3, 1) := by decide +kernel
theorem dL_law_201 : decode cL_law 201 = .ok (.iconst 2, 1) := by decide +kernel
theorem dL_law_202 : decode cL_law 202 = .ok (.iadd, 1) := by decide +kernel
theorem dL_law_203 : decode cL_law 203 = .ok (.iaload, 1) := by decide +kernel
theorem dL_law_204 : decode cL_law 204 = .ok (.invokevirtual 18, 3) := by decide +kernel
theorem dL_law_207 : decode cL_law 207 = .ok (.aload_n 2, 1) := by decide +kernel
theorem dL_law_208 : decode cL_law 208 = .ok (.aload_n 0, 1) := by decide +kernel
theorem dL_law_209 : decode cL_law 209 = .ok (.iload_n 3, 1) := by decide +kernel
theorem dL_law_210 : decode cL_law 210 = .ok (.iconst 1, 1) := by decide +kernel
theorem dL_law_211 : decode cL_law 211 = .ok (.iadd, 1) := by decide +kernel
theorem dL_law_212 : decode cL_law 212 = .ok (.iaload, 1) := by decide +kernel
theorem dL_law_213 : decode cL_law 213 = .ok (.aload_n 0, 1) := by decide +kernel
theorem dL_law_214 : decode cL_law 214 = .ok (.iload_n 3, 1) := by decide +kernel
theorem dL_law_215 : decode cL_law 215 = .ok (.iconst 2, 1) := by decide +kernel
theorem dL_law_216 : decode cL_law 216 = .ok (.iadd, 1) := by decide +kernel
theorem dL_law_217 : decode cL_law 217 = .ok (.iaload, 1) := by decide +kernel
theorem dL_law_218 : decode cL_law 218 = .ok (.invokevirtual 21, 3) := by decide +kernel
theorem dL_law_221 : decode cL_law 221 = .ok (.if_icmp .eq 683, 3) := by decide +kernel
theorem dL_law_224 : decode cL_law 224 = .ok (.iconst 0, 1) := by decide +kernel
theorem dL_law_225 : decode cL_law 225 = .ok (.ireturn, 1) := by decide +kernel
theorem dL_law_226 : decode cL_law 226 = .ok (.aload_n 1, 1) := by decide +kernel
theorem dL_law_227 : decode cL_law 227 = .ok (.aload_n 0, 1) := by decide +kernel
theorem dL_law_228 : decode cL_law 228 = .ok (.iload_n 3, 1) := by decide +kernel
theorem dL_law_229 : decode cL_law 229 = .ok (.iconst 1, 1) := by decide +kernel
theorem dL_law_230 : decode cL_law 230 = .ok (.iadd, 1) := by decide +kernel
theorem dL_law_231 : decode cL_law 231 = .ok (.iaload, 1) := by decide +kernel
theorem dL_law_232 : decode cL_law 232 = .ok (.aload_n 0, 1) := by decide +kernel
theorem dL_law_233 : decode cL_law 233 = .ok (.iload_n 3, 1) := by decide +kernel
theorem dL_law_234 : decode cL_law 234 = .ok (.iconst 2, 1) := by decide +kernel
theorem dL_law_235 : decode cL_law 235 = .ok (.iadd, 1) := by decide +kernel
theorem dL_law_236 : decode cL_law 236 = .ok (.iaload, 1) := by decide +kernel
theorem dL_law_237 : decode cL_law 237 = .ok (.invokevirtual 22, 3) := by decide +kernel
theorem dL_law_240 : decode cL_law 240 = .ok (.aload_n 2, 1) := by decide +kernel
theorem dL_law_241 : decode cL_law 241 = .ok (.aload_n 0, 1) := by decide +kernel
theorem dL_law_242 : decode cL_law 242 = .ok (.iload_n 3, 1) := by decide +kernel
theorem dL_law_243 : decode cL_law 243 = .ok (.iconst 1, 1) := by decide +kernel
theorem dL_law_244 : decode cL_law 244 = .ok (.iadd, 1) := by decide +kernel
theorem dL_law_245 : decode cL_law 245 = .ok (.iaload, 1) := by decide +kernel
theorem dL_law_246 : decode cL_law 246 = .ok (.aload_n 0, 1) := by decide +kernel
theorem dL_law_247 : decode cL_law 247 = .ok (.iload_n 3, 1) := by decide +kernel
theorem dL_law_248 : decode cL_law 248 = .ok (.iconst 2, 1) := by decide +kernel
theorem dL_law_249 : decode cL_law 249 = .ok (.iadd, 1) := by decide +kernel
theorem dL_law_250 : decode cL_law 250 = .ok (.iaload, 1) := by decide +kernel
theorem dL_law_251 : decode cL_law 251 = .ok (.invokevirtual 25, 3) := by decide +kernel
theorem dL_law_254 : decode cL_law 254 = .ok (.if_icmp .eq 650, 3) := by decide +kernel
theorem dL_law_257 : decode cL_law 257 = .ok (.iconst 0, 1) := by decide +kernel
theorem dL_law_258 : decode cL_law 258 = .ok (.ireturn, 1) := by decide +kernel
theorem dL_law_259 : decode cL_law 259 = .ok (.aload_n 1, 1) := by decide +kernel
theorem dL_law_260 : decode cL_law 260 = .ok (.aload_n 0, 1) := by decide +kernel
theorem dL_law_261 : decode cL_law 261 = .ok (.iload_n 3, 1) := by decide +kernel
theorem dL_law_262 : decode cL_law 262 = .ok (.iconst 1, 1) := by decide +kernel
theorem dL_law_263 : decode cL_law 263 = .ok (.iadd, 1) := by decide +kernel
theorem dL_law_264 : decode cL_law 264 = .ok (.iaload, 1) := by decide +kernel
theorem dL_law_265 : decode cL_law 265 = .ok (.invokevirtual 26, 3) := by decide +kernel
theorem dL_law_268 : decode cL_law 268 = .ok (.aload_n 2, 1) := by decide +kernel
theorem dL_law_269 : decode cL_law 269 = .ok (.aload_n 0, 1) := by decide +kernel
theorem dL_law_270 : decode cL_law 270 = .ok (.iload_n 3, 1) := by decide +kernel
theorem dL_law_271 : decode cL_law 271 = .ok (.iconst 1, 1) := by decide +kernel
theorem dL_law_272 : decode cL_law 272 = .ok (.iadd, 1) := by decide +kernel
theorem dL_law_273 : decode cL_law 273 = .ok (.iaload, 1) := by decide +kernel
theorem dL_law_274 : decode cL_law 274 = .ok (.invokevirtual 30, 3) := by decide +kernel
theorem dL_law_277 : decode cL_law 277 = .ok (.if_icmp .eq 627, 3) := by decide +kernel
theorem dL_law_280 : decode cL_law 280 = .ok (.iconst 0, 1) := by decide +kernel
theorem dL_law_281 : decode cL_law 281 = .ok (.ireturn, 1) := by decide +kernel
theorem dL_law_282 : decode cL_law 282 = .ok (.aload_n 1, 1) := by decide +kernel
theorem dL_law_283 : decode cL_law 283 = .ok (.aload_n 0, 1) := by decide +kernel
theorem dL_law_284 : decode cL_law 284 = .ok (.iload_n 3, 1) := by decide +kernel
theorem dL_law_285 : decode cL_law 285 = .ok (.iconst 1, 1) := by decide +kernel
theorem dL_law_286 : decode cL_law 286 = .ok (.iadd, 1) := by decide +kernel
theorem dL_law_287 : decode cL_law 287 = .ok (.iaload, 1) := by decide +kernel
theorem dL_law_288 : decode cL_law 288 = .ok (.aload_n 0, 1) := by decide +kernel
theorem dL_law_289 : decode cL_law 289 = .ok (.iload_n 3, 1) := by decide +kernel
theorem dL_law_290 : decode cL_law 290 = .ok (.iconst 2, 1) := by decide +kernel
theorem dL_law_291 : decode cL_law 291 = .ok (.iadd, 1) := by decide +kernel
theorem dL_law_292 : decode cL_law 292 = .ok (.iaload, 1) := by decide +kernel
theorem dL_law_293 : decode cL_law 293 = .ok (.aload_n 0, 1) := by decide +kernel
theorem dL_law_294 : decode cL_law 294 = .ok (.iload_n 3, 1) := by decide +kernel
theorem dL_law_295 : decode cL_law 295 = .ok (.iconst 3, 1) := by decide +kernel
theorem dL_law_296 : decode cL_law 296 = .ok (.iadd, 1) := by decide +kernel
theorem dL_law_297 : decode cL_law 297 = .ok (.iaload, 1) := by decide +kernel
theorem dL_law_298 : decode cL_law 298 = .ok (.invokevirtual 31, 3) := by decide +kernel
theorem dL_law_301 : decode cL_law 301 = .ok (.aload_n 2, 1) := by decide +kernel
theorem dL_law_302 : decode cL_law 302 = .ok (.aload_n 0, 1) := by decide +kernel
theorem dL_law_303 : decode cL_law 303 = .ok (.iload_n 3, 1) := by decide +kernel
theorem dL_law_304 : decode cL_law 304 = .ok (.iconst 1, 1) := by decide +kernel
theorem dL_law_305 : decode cL_law 305 = .ok (.iadd, 1) := by decide +kernel
theorem dL_law_306 : decode cL_law 306 = .ok (.iaload, 1) := by decide +kernel
theorem dL_law_307 : decode cL_law 307 = .ok (.aload_n 0, 1) := by decide +kernel
theorem dL_law_308 : decode cL_law 308 = .ok (.iload_n 3, 1) := by decide +kernel
theorem dL_law_309 : decode cL_law 309 = .ok (.iconst 2, 1) := by decide +kernel
theorem dL_law_310 : decode cL_law 310 = .ok (.iadd, 1) := by decide +kernel
theorem dL_law_311 : decode cL_law 311 = .ok (.iaload, 1) := by decide +kernel
theorem dL_law_312 : decode cL_law 312 = .ok (.aload_n 0, 1) := by decide +kernel
theorem dL_law_313 : decode cL_law 313 = .ok (.iload_n 3, 1) := by decide +kernel
theorem dL_law_314 : decode cL_law 314 = .ok (.iconst 3, 1) := by decide +kernel
theorem dL_law_315 : decode cL_law 315 = .ok (.iadd, 1) := by decide +kernel
theorem dL_law_316 : decode cL_law 316 = .ok (.iaload, 1) := by decide +kernel
theorem dL_law_317 : decode cL_law 317 = .ok (.invokevirtual 35, 3) := by decide +kernel
theorem dL_law_320 : decode cL_law 320 = .ok (.if_icmp .eq 584, 3) := by decide +kernel
theorem dL_law_323 : decode cL_law 323 = .ok (.iconst 0, 1) := by decide +kernel
theorem dL_law_324 : decode cL_law 324 = .ok (.ireturn, 1) := by decide +kernel
theorem dL_law_325 : decode cL_law 325 = .ok (.aload_n 1, 1) := by decide +kernel
theorem dL_law_326 : decode cL_law 326 = .ok (.aload_n 0, 1) := by decide +kernel
theorem dL_law_327 : decode cL_law 327 = .ok (.iload_n 3, 1) := by decide +kernel
theorem dL_law_328 : decode cL_law 328 = .ok (.iconst 1, 1) := by decide +kernel
theorem dL_law_329 : decode cL_law 329 = .ok (.iadd, 1) := by decide +kernel
theorem dL_law_330 : decode cL_law 330 = .ok (.iaload, 1) := by decide +kernel
theorem dL_law_331 : decode cL_law 331 = .ok (.aload_n 0, 1) := by decide +kernel
theorem dL_law_332 : decode cL_law 332 = .ok (.iload_n 3, 1) := by decide +kernel
theorem dL_law_333 : decode cL_law 333 = .ok (.iconst 2, 1) := by decide +kernel
theorem dL_law_334 : decode cL_law 334 = .ok (.iadd, 1) := by decide +kernel
theorem dL_law_335 : decode cL_law 335 = .ok (.iaload, 1) := by decide +kernel
theorem dL_law_336 : decode cL_law 336 = .ok (.invokevirtual 36, 3) := by decide +kernel
theorem dL_law_339 : decode cL_law 339 = .ok (.aload_n 2, 1) := by decide +kernel
theorem dL_law_340 : decode cL_law 340 = .ok (.aload_n 0, 1) := by decide +kernel
theorem dL_law_341 : decode cL_law 341 = .ok (.iload_n 3, 1) := by decide +kernel
theorem dL_law_342 : decode cL_law 342 = .ok (.iconst 1, 1) := by decide +kernel
theorem dL_law_343 : decode cL_law 343 = .ok (.iadd, 1) := by decide +kernel
theorem dL_law_344 : decode cL_law 344 = .ok (.iaload, 1) := by decide +kernel
theorem dL_law_345 : decode cL_law 345 = .ok (.aload_n 0, 1) := by decide +kernel
theorem dL_law_346 : decode cL_law 346 = .ok (.iload_n 3, 1) := by decide +kernel
theorem dL_law_347 : decode cL_law 347 = .ok (.iconst 2, 1) := by decide +kernel
theorem dL_law_348 : decode cL_law 348 = .ok (.iadd, 1) := by decide +kernel
theorem dL_law_349 : decode cL_law 349 = .ok (.iaload, 1) := by decide +kernel
theorem dL_law_350 : decode cL_law 350 = .ok (.invokevirtual 39, 3) := by decide +kernel
theorem dL_law_353 : decode cL_law 353 = .ok (.if_icmp .eq 551, 3) := by decide +kernel
theorem dL_law_356 : decode cL_law 356 = .ok (.iconst 0, 1) := by decide +kernel
theorem dL_law_357 : decode cL_law 357 = .ok (.ireturn, 1) := by decide +kernel
theorem dL_law_358 : decode cL_law 358 = .ok (.aload_n 1, 1) := by decide +kernel
theorem dL_law_359 : decode cL_law 359 = .ok (.aload_n 0, 1) := by decide +kernel
theorem dL_law_360 : decode cL_law 360 = .ok (.iload_n 3, 1) := by decide +kernel
theorem dL_law_361 : decode cL_law 361 = .ok (.iconst 1, 1) := by decide +kernel
theorem dL_law_362 : decode cL_law 362 = .ok (.iadd, 1) := by decide +kernel
theorem dL_law_363 : decode cL_law 363 = .ok (.iaload, 1) := by decide +kernel
theorem dL_law_364 : decode cL_law 364 = .ok (.invokevirtual 40, 3) := by decide +kernel
theorem dL_law_367 : decode cL_law 367 = .ok (.aload_n 2, 1) := by decide +kernel
theorem dL_law_368 : decode cL_law 368 = .ok (.aload_n 0, 1) := by decide +kernel
theorem dL_law_369 : decode cL_law 369 = .ok (.iload_n 3, 1) := by decide +kernel
theorem dL_law_370 : decode cL_law 370 = .ok (.iconst 1, 1) := by decide +kernel
theorem dL_law_371 : decode cL_law 371 = .ok (.iadd, 1) := by decide +kernel
theorem dL_law_372 : decode cL_law 372 = .ok (.iaload, 1) := by decide +kernel
theorem dL_law_373 : decode cL_law 373 = .ok (.invokevirtual 43, 3) := by decide +kernel
theorem dL_law_376 : decode cL_law 376 = .ok (.if_icmp .eq 528, 3) := by decide +kernel
theorem dL_law_379 : decode cL_law 379 = .ok (.iconst 0, 1) := by decide +kernel
theorem dL_law_380 : decode cL_law 380 = .ok (.ireturn, 1) := by decide +kernel
theorem dL_law_381 : decode cL_law 381 = .ok (.aload_n 1, 1) := by decide +kernel
theorem dL_law_382 : decode cL_law 382 = .ok (.aload_n 0, 1) := by decide +kernel
theorem dL_law_383 : decode cL_law 383 = .ok (.iload_n 3, 1) := by decide +kernel
theorem dL_law_384 : decode cL_law 384 = .ok (.iconst 1, 1) := by decide +kernel
theorem dL_law_385 : decode cL_law 385 = .ok (.iadd, 1) := by decide +kernel
theorem dL_law_386 : decode cL_law 386 = .ok (.iaload, 1) := by decide +kernel
theorem dL_law_387 : decode cL_law 387 = .ok (.invokevirtual 44, 3) := by decide +kernel
theorem dL_law_390 : decode cL_law 390 = .ok (.aload_n 2, 1) := by decide +kernel
theorem dL_law_391 : decode cL_law 391 = .ok (.aload_n 0, 1) := by decide +kernel
theorem dL_law_392 : decode cL_law 392 = .ok (.iload_n 3, 1) := by decide +kernel
theorem dL_law_393 : decode cL_law 393 = .ok (.iconst 1, 1) := by decide +kernel
theorem dL_law_394 : decode cL_law 394 = .ok (.iadd, 1) := by decide +kernel
theorem dL_law_395 : decode cL_law 395 = .ok (.iaload, 1) := by decide +kernel
theorem dL_law_396 : decode cL_law 396 = .ok (.invokevirtual 47, 3) := by decide +kernel
theorem dL_law_399 : decode cL_law 399 = .ok (.if_icmp .eq 505, 3) := by decide +kernel
theorem dL_law_402 : decode cL_law 402 = .ok (.iconst 0, 1) := by decide +kernel
theorem dL_law_403 : decode cL_law 403 = .ok (.ireturn, 1) := by decide +kernel
theorem dL_law_404 : decode cL_law 404 = .ok (.aload_n 1, 1) := by decide +kernel
theorem dL_law_405 : decode cL_law 405 = .ok (.aload_n 0, 1) := by decide +kernel
theorem dL_law_406 : decode cL_law 406 = .ok (.iload_n 3, 1) := by decide +kernel
theorem dL_law_407 : decode cL_law 407 = .ok (.iconst 1, 1) := by decide +kernel
theorem dL_law_408 : decode cL_law 408 = .ok (.iadd, 1) := by decide +kernel
theorem dL_law_409 : decode cL_law 409 = .ok (.iaload, 1) := by decide +kernel
theorem dL_law_410 : decode cL_law 410 = .ok (.invokevirtual 48, 3) := by decide +kernel
theorem dL_law_413 : decode cL_law 413 = .ok (.aload_n 2, 1) := by decide +kernel
theorem dL_law_414 : decode cL_law 414 = .ok (.aload_n 0, 1) := by decide +kernel
theorem dL_law_415 : decode cL_law 415 = .ok (.iload_n 3, 1) := by decide +kernel
theorem dL_law_416 : decode cL_law 416 = .ok (.iconst 1, 1) := by decide +kernel
theorem dL_law_417 : decode cL_law 417 = .ok (.iadd, 1) := by decide +kernel
theorem dL_law_418 : decode cL_law 418 = .ok (.iaload, 1) := by decide +kernel
theorem dL_law_419 : decode cL_law 419 = .ok (.invokevirtual 51, 3) := by decide +kernel
theorem dL_law_422 : decode cL_law 422 = .ok (.if_icmp .eq 482, 3) := by decide +kernel
theorem dL_law_425 : decode cL_law 425 = .ok (.iconst 0, 1) := by decide +kernel
theorem dL_law_426 : decode cL_law 426 = .ok (.ireturn, 1) := by decide +kernel
theorem dL_law_427 : decode cL_law 427 = .ok (.aload_n 1, 1) := by decide +kernel
theorem dL_law_428 : decode cL_law 428 = .ok (.aload_n 0, 1) := by decide +kernel
theorem dL_law_429 : decode cL_law 429 = .ok (.iload_n 3, 1) := by decide +kernel
theorem dL_law_430 : decode cL_law 430 = .ok (.iconst 1, 1) := by decide +kernel
theorem dL_law_431 : decode cL_law 431 = .ok (.iadd, 1) := by decide +kernel
theorem dL_law_432 : decode cL_law 432 = .ok (.iaload, 1) := by decide +kernel
theorem dL_law_433 : decode cL_law 433 = .ok (.aload_n 0, 1) := by decide +kernel
theorem dL_law_434 : decode cL_law 434 = .ok (.iload_n 3, 1) := by decide +kernel
theorem dL_law_435 : decode cL_law 435 = .ok (.iconst 2, 1) := by decide +kernel
theorem dL_law_436 : decode cL_law 436 = .ok (.iadd, 1) := by decide +kernel
theorem dL_law_437 : decode cL_law 437 = .ok (.iaload, 1) := by decide +kernel
theorem dL_law_438 : decode cL_law 438 = .ok (.invokevirtual 52, 3) := by decide +kernel
theorem dL_law_441 : decode cL_law 441 = .ok (.aload_n 2, 1) := by decide +kernel
theorem dL_law_442 : decode cL_law 442 = .ok (.aload_n 0, 1) := by decide +kernel
theorem dL_law_443 : decode cL_law 443 = .ok (.iload_n 3, 1) := by decide +kernel
theorem dL_law_444 : decode cL_law 444 = .ok (.iconst 1, 1) := by decide +kernel
theorem dL_law_445 : decode cL_law 445 = .ok (.iadd, 1) := by decide +kernel
theorem dL_law_446 : decode cL_law 446 = .ok (.iaload, 1) := by decide +kernel
theorem dL_law_447 : decode cL_law 447 = .ok (.aload_n 0, 1) := by decide +kernel
theorem dL_law_448 : decode cL_law 448 = .ok (.iload_n 3, 1) := by decide +kernel
theorem dL_law_449 : decode cL_law 449 = .ok (.iconst 2, 1) := by decide +kernel
theorem dL_law_450 : decode cL_law 450 = .ok (.iadd, 1) := by decide +kernel
theorem dL_law_451 : decode cL_law 451 = .ok (.iaload, 1) := by decide +kernel
theorem dL_law_452 : decode cL_law 452 = .ok (.invokevirtual 55, 3) := by decide +kernel
theorem dL_law_455 : decode cL_law 455 = .ok (.if_icmp .eq 449, 3) := by decide +kernel
theorem dL_law_458 : decode cL_law 458 = .ok (.iconst 0, 1) := by decide +kernel
theorem dL_law_459 : decode cL_law 459 = .ok (.ireturn, 1) := by decide +kernel
theorem dL_law_460 : decode cL_law 460 = .ok (.aload_n 1, 1) := by decide +kernel
theorem dL_law_461 : decode cL_law 461 = .ok (.aload_n 0, 1) := by decide +kernel
theorem dL_law_462 : decode cL_law 462 = .ok (.iload_n 3, 1) := by decide +kernel
theorem dL_law_463 : decode cL_law 463 = .ok (.iconst 1, 1) := by decide +kernel
theorem dL_law_464 : decode cL_law 464 = .ok (.iadd, 1) := by decide +kernel
theorem dL_law_465 : decode cL_law 465 = .ok (.iaload, 1) := by decide +kernel
theorem dL_law_466 : decode cL_law 466 = .ok (.aload_n 0, 1) := by decide +kernel
theorem dL_law_467 : decode cL_law 467 = .ok (.iload_n 3, 1) := by decide +kernel
theorem dL_law_468 : decode cL_law 468 = .ok (.iconst 2, 1) := by decide +kernel
theorem dL_law_469 : decode cL_law 469 = .ok (.iadd, 1) := by decide +kernel
theorem dL_law_470 : decode cL_law 470 = .ok (.iaload, 1) := by decide +kernel
theorem dL_law_471 : decode cL_law 471 = .ok (.invokevirtual 56, 3) := by decide +kernel
theorem dL_law_474 : decode cL_law 474 = .ok (.aload_n 2, 1) := by decide +kernel
theorem dL_law_475 : decode cL_law 475 = .ok (.aload_n 0, 1) := by decide +kernel
theorem dL_law_476 : decode cL_law 476 = .ok (.iload_n 3, 1) := by decide +kernel
theorem dL_law_477 : decode cL_law 477 = .ok (.iconst 1, 1) := by decide +kernel
theorem dL_law_478 : decode cL_law 478 = .ok (.iadd, 1) := by decide +kernel
theorem dL_law_479 : decode cL_law 479 = .ok (.iaload, 1) := by decide +kernel
theorem dL_law_480 : decode cL_law 480 = .ok (.aload_n 0, 1) := by decide +kernel
theorem dL_law_481 : decode cL_law 481 = .ok (.iload_n 3, 1) := by decide +kernel
theorem dL_law_482 : decode cL_law 482 = .ok (.iconst 2, 1) := by decide +kernel
theorem dL_law_483 : decode cL_law 483 = .ok (.iadd, 1) := by decide +kernel
theorem dL_law_484 : decode cL_law 484 = .ok (.iaload, 1) := by decide +kernel
theorem dL_law_485 : decode cL_law 485 = .ok (.invokevirtual 59, 3) := by decide +kernel
theorem dL_law_488 : decode cL_law 488 = .ok (.if_icmp .eq 416, 3) := by decide +kernel
theorem dL_law_491 : decode cL_law 491 = .ok (.iconst 0, 1) := by decide +kernel
theorem dL_law_492 : decode cL_law 492 = .ok (.ireturn, 1) := by decide +kernel
theorem dL_law_493 : decode cL_law 493 = .ok (.aload_n 1, 1) := by decide +kernel
theorem dL_law_494 : decode cL_law 494 = .ok (.aload_n 0, 1) := by decide +kernel
theorem dL_law_495 : decode cL_law 495 = .ok (.iload_n 3, 1) := by decide +kernel
theorem dL_law_496 : decode cL_law 496 = .ok (.iconst 1, 1) := by decide +kernel
theorem dL_law_497 : decode cL_law 497 = .ok (.iadd, 1) := by decide +kernel
theorem dL_law_498 : decode cL_law 498 = .ok (.iaload, 1) := by decide +kernel
theorem dL_law_499 : decode cL_law 499 = .ok (.aload_n 0, 1) := by decide +kernel
theorem dL_law_500 : decode cL_law 500 = .ok (.iload_n 3, 1) := by decide +kernel
theorem dL_law_501 : decode cL_law 501 = .ok (.iconst 2, 1) := by decide +kernel
theorem dL_law_502 : decode cL_law 502 = .ok (.iadd, 1) := by decide +kernel
theorem dL_law_503 : decode cL_law 503 = .ok (.iaload, 1) := by decide +kernel
theorem dL_law_504 : decode cL_law 504 = .ok (.invokevirtual 60, 3) := by decide +kernel
theorem dL_law_507 : decode cL_law 507 = .ok (.aload_n 2, 1) := by decide +kernel
theorem dL_law_508 : decode cL_law 508 = .ok (.aload_n 0, 1) := by decide +kernel
theorem dL_law_509 : decode cL_law 509 = .ok (.iload_n 3, 1) := by decide +kernel
theorem dL_law_510 : decode cL_law 510 = .ok (.iconst 1, 1) := by decide +kernel
theorem dL_law_511 : decode cL_law 511 = .ok (.iadd, 1) := by decide +kernel
theorem dL_law_512 : decode cL_law 512 = .ok (.iaload, 1) := by decide +kernel
theorem dL_law_513 : decode cL_law 513 = .ok (.aload_n 0, 1) := by decide +kernel
theorem dL_law_514 : decode cL_law 514 = .ok (.iload_n 3, 1) := by decide +kernel
theorem dL_law_515 : decode cL_law 515 = .ok (.iconst 2, 1) := by decide +kernel
theorem dL_law_516 : decode cL_law 516 = .ok (.iadd, 1) := by decide +kernel
theorem dL_law_517 : decode cL_law 517 = .ok (.iaload, 1) := by decide +kernel
theorem dL_law_518 : decode cL_law 518 = .ok (.invokevirtual 63, 3) := by decide +kernel
theorem dL_law_521 : decode cL_law 521 = .ok (.if_icmp .eq 383, 3) := by decide +kernel
theorem dL_law_524 : decode cL_law 524 = .ok (.iconst 0, 1) := by decide +kernel
theorem dL_law_525 : decode cL_law 525 = .ok (.ireturn, 1) := by decide +kernel
theorem dL_law_526 : decode cL_law 526 = .ok (.aload_n 1, 1) := by decide +kernel
theorem dL_law_527 : decode cL_law 527 = .ok (.aload_n 0, 1) := by decide +kernel
theorem dL_law_528 : decode cL_law 528 = .ok (.iload_n 3, 1) := by decide +kernel
theorem dL_law_529 : decode cL_law 529 = .ok (.iconst 1, 1) := by decide +kernel
theorem dL_law_530 : decode cL_law 530 = .ok (.iadd, 1) := by decide +kernel
theorem dL_law_531 : decode cL_law 531 = .ok (.iaload, 1) := by decide +kernel
theorem dL_law_532 : decode cL_law 532 = .ok (.invokevirtual 64, 3) := by decide +kernel
theorem dL_law_535 : decode cL_law 535 = .ok (.aload_n 2, 1) := by decide +kernel
theorem dL_law_536 : decode cL_law 536 = .ok (.aload_n 0, 1) := by decide +kernel
theorem dL_law_537 : decode cL_law 537 = .ok (.iload_n 3, 1) := by decide +kernel
theorem dL_law_538 : decode cL_law 538 = .ok (.iconst 1, 1) := by decide +kernel
theorem dL_law_539 : decode cL_law 539 = .ok (.iadd, 1) := by decide +kernel
theorem dL_law_540 : decode cL_law 540 = .ok (.iaload, 1) := by decide +kernel
theorem dL_law_541 : decode cL_law 541 = .ok (.invokevirtual 67, 3) := by decide +kernel
theorem dL_law_544 : decode cL_law 544 = .ok (.if_icmp .eq 360, 3) := by decide +kernel
theorem dL_law_547 : decode cL_law 547 = .ok (.iconst 0, 1) := by decide +kernel
theorem dL_law_548 : decode cL_law 548 = .ok (.ireturn, 1) := by decide +kernel
theorem dL_law_549 : decode cL_law 549 = .ok (.aload_n 1, 1) := by decide +kernel
theorem dL_law_550 : decode cL_law 550 = .ok (.aload_n 0, 1) := by decide +kernel
theorem dL_law_551 : decode cL_law 551 = .ok (.iload_n 3, 1) := by decide +kernel
theorem dL_law_552 : decode cL_law 552 = .ok (.iconst 1, 1) := by decide +kernel
theorem dL_law_553 : decode cL_law 553 = .ok (.iadd, 1) := by decide +kernel
theorem dL_law_554 : decode cL_law 554 = .ok (.iaload, 1) := by decide +kernel
theorem dL_law_555 : decode cL_law 555 = .ok (.invokevirtual 68, 3) := by decide +kernel
theorem dL_law_558 : decode cL_law 558 = .ok (.aload_n 2, 1) := by decide +kernel
theorem dL_law_559 : decode cL_law 559 = .ok (.aload_n 0, 1) := by decide +kernel
theorem dL_law_560 : decode cL_law 560 = .ok (.iload_n 3, 1) := by decide +kernel
theorem dL_law_561 : decode cL_law 561 = .ok (.iconst 1, 1) := by decide +kernel
theorem dL_law_562 : decode cL_law 562 = .ok (.iadd, 1) := by decide +kernel
theorem dL_law_563 : decode cL_law 563 = .ok (.iaload, 1) := by decide +kernel
theorem dL_law_564 : decode cL_law 564 = .ok (.invokevirtual 71, 3) := by decide +kernel
theorem dL_law_567 : decode cL_law 567 = .ok (.if_icmp .eq 337, 3) := by decide +kernel
theorem dL_law_570 : decode cL_law 570 = .ok (.iconst 0, 1) := by decide +kernel
theorem dL_law_571 : decode cL_law 571 = .ok (.ireturn, 1) := by decide +kernel
theorem dL_law_572 : decode cL_law 572 = .ok (.aload_n 1, 1) := by decide +kernel
theorem dL_law_573 : decode cL_law 573 = .ok (.aload_n 0, 1) := by decide +kernel
theorem dL_law_574 : decode cL_law 574 = .ok (.iload_n 3, 1) := by decide +kernel
theorem dL_law_575 : decode cL_law 575 = .ok (.iconst 1, 1) := by decide +kernel
theorem dL_law_576 : decode cL_law 576 = .ok (.iadd, 1) := by decide +kernel
theorem dL_law_577 : decode cL_law 577 = .ok (.iaload, 1) := by decide +kernel
theorem dL_law_578 : decode cL_law 578 = .ok (.invokevirtual 72, 3) := by decide +kernel
theorem dL_law_581 : decode cL_law 581 = .ok (.aload_n 2, 1) := by decide +kernel
theorem dL_law_582 : decode cL_law 582 = .ok (.aload_n 0, 1) := by decide +kernel
theorem dL_law_583 : decode cL_law 583 = .ok (.iload_n 3, 1) := by decide +kernel
theorem dL_law_584 : decode cL_law 584 = .ok (.iconst 1, 1) := by decide +kernel
theorem dL_law_585 : decode cL_law 585 = .ok (.iadd, 1) := by decide +kernel
theorem dL_law_586 : decode cL_law 586 = .ok (.iaload, 1) := by decide +kernel
theorem dL_law_587 : decode cL_law 587 = .ok (.invokevirtual 75, 3) := by decide +kernel
theorem dL_law_590 : decode cL_law 590 = .ok (.if_icmp .eq 314, 3) := by decide +kernel
theorem dL_law_593 : decode cL_law 593 = .ok (.iconst 0, 1) := by decide +kernel
theorem dL_law_594 : decode cL_law 594 = .ok (.ireturn, 1) := by decide +kernel
theorem dL_law_595 : decode cL_law 595 = .ok (.aload_n 1, 1) := by decide +kernel
theorem dL_law_596 : decode cL_law 596 = .ok (.aload_n 0, 1) := by decide +kernel
theorem dL_law_597 : decode cL_law 597 = .ok (.iload_n 3, 1) := by decide +kernel
theorem dL_law_598 : decode cL_law 598 = .ok (.iconst 1, 1) := by decide +kernel
theorem dL_law_599 : decode cL_law 599 = .ok (.iadd, 1) := by decide +kernel
theorem dL_law_600 : decode cL_law 600 = .ok (.iaload, 1) := by decide +kernel
theorem dL_law_601 : decode cL_law 601 = .ok (.invokevirtual 76, 3) := by decide +kernel
theorem dL_law_604 : decode cL_law 604 = .ok (.aload_n 2, 1) := by decide +kernel
theorem dL_law_605 : decode cL_law 605 = .ok (.aload_n 0, 1) := by decide +kernel
theorem dL_law_606 : decode cL_law 606 = .ok (.iload_n 3, 1) := by decide +kernel
theorem dL_law_607 : decode cL_law 607 = .ok (.iconst 1, 1) := by decide +kernel
theorem dL_law_608 : decode cL_law 608 = .ok (.iadd, 1) := by decide +kernel
theorem dL_law_609 : decode cL_law 609 = .ok (.iaload, 1) := by decide +kernel
theorem dL_law_610 : decode cL_law 610 = .ok (.invokevirtual 79, 3) := by decide +kernel
theorem dL_law_613 : decode cL_law 613 = .ok (.if_icmp .eq 291, 3) := by decide +kernel
theorem dL_law_616 : decode cL_law 616 = .ok (.iconst 0, 1) := by decide +kernel
theorem dL_law_617 : decode cL_law 617 = .ok (.ireturn, 1) := by decide +kernel
theorem dL_law_618 : decode cL_law 618 = .ok (.aload_n 1, 1) := by decide +kernel
theorem dL_law_619 : decode cL_law 619 = .ok (.aload_n 0, 1) := by decide +kernel
theorem dL_law_620 : decode cL_law 620 = .ok (.iload_n 3, 1) := by decide +kernel
theorem dL_law_621 : decode cL_law 621 = .ok (.iconst 1, 1) := by decide +kernel
theorem dL_law_622 : decode cL_law 622 = .ok (.iadd, 1) := by decide +kernel
theorem dL_law_623 : decode cL_law 623 = .ok (.iaload, 1) := by decide +kernel
theorem dL_law_624 : decode cL_law 624 = .ok (.invokevirtual 80, 3) := by decide +kernel
theorem dL_law_627 : decode cL_law 627 = .ok (.aload_n 2, 1) := by decide +kernel
theorem dL_law_628 : decode cL_law 628 = .ok (.aload_n 0, 1) := by decide +kernel
theorem dL_law_629 : decode cL_law 629 = .ok (.iload_n 3, 1) := by decide +kernel
theorem dL_law_630 : decode cL_law 630 = .ok (.iconst 1, 1) := by decide +kernel
theorem dL_law_631 : decode cL_law 631 = .ok (.iadd, 1) := by decide +kernel
theorem dL_law_632 : decode cL_law 632 = .ok (.iaload, 1) := by decide +kernel
theorem dL_law_633 : decode cL_law 633 = .ok (.invokevirtual 83, 3) := by decide +kernel
theorem dL_law_636 : decode cL_law 636 = .ok (.if_icmp .eq 268, 3) := by decide +kernel
theorem dL_law_639 : decode cL_law 639 = .ok (.iconst 0, 1) := by decide +kernel
theorem dL_law_640 : decode cL_law 640 = .ok (.ireturn, 1) := by decide +kernel
theorem dL_law_641 : decode cL_law 641 = .ok (.aload_n 1, 1) := by decide +kernel
theorem dL_law_642 : decode cL_law 642 = .ok (.aload_n 0, 1) := by decide +kernel
theorem dL_law_643 : decode cL_law 643 = .ok (.iload_n 3, 1) := by decide +kernel
theorem dL_law_644 : decode cL_law 644 = .ok (.iconst 1, 1) := by decide +kernel
theorem dL_law_645 : decode cL_law 645 = .ok (.iadd, 1) := by decide +kernel
theorem dL_law_646 : decode cL_law 646 = .ok (.iaload, 1) := by decide +kernel
theorem dL_law_647 : decode cL_law 647 = .ok (.invokevirtual 84, 3) := by decide +kernel
theorem dL_law_650 : decode cL_law 650 = .ok (.aload_n 2, 1) := by decide +kernel
theorem dL_law_651 : decode cL_law 651 = .ok (.aload_n 0, 1) := by decide +kernel
theorem dL_law_652 : decode cL_law 652 = .ok (.iload_n 3, 1) := by decide +kernel
theorem dL_law_653 : decode cL_law 653 = .ok (.iconst 1, 1) := by decide +kernel
theorem dL_law_654 : decode cL_law 654 = .ok (.iadd, 1) := by decide +kernel
theorem dL_law_655 : decode cL_law 655 = .ok (.iaload, 1) := by decide +kernel
theorem dL_law_656 : decode cL_law 656 = .ok (.invokevirtual 87, 3) := by decide +kernel
theorem dL_law_659 : decode cL_law 659 = .ok (.if_icmp .eq 245, 3) := by decide +kernel
theorem dL_law_662 : decode cL_law 662 = .ok (.iconst 0, 1) := by decide +kernel
theorem dL_law_663 : decode cL_law 663 = .ok (.ireturn, 1) := by decide +kernel
theorem dL_law_664 : decode cL_law 664 = .ok (.aload_n 1, 1) := by decide +kernel
theorem dL_law_665 : decode cL_law 665 = .ok (.aload_n 0, 1) := by decide +kernel
theorem dL_law_666 : decode cL_law 666 = .ok (.iload_n 3, 1) := by decide +kernel
theorem dL_law_667 : decode cL_law 667 = .ok (.iconst 1, 1) := by decide +kernel
theorem dL_law_668 : decode cL_law 668 = .ok (.iadd, 1) := by decide +kernel
theorem dL_law_669 : decode cL_law 669 = .ok (.iaload, 1) := by decide +kernel
theorem dL_law_670 : decode cL_law 670 = .ok (.invokevirtual 88, 3) := by decide +kernel
theorem dL_law_673 : decode cL_law 673 = .ok (.aload_n 2, 1) := by decide +kernel
theorem dL_law_674 : decode cL_law 674 = .ok (.aload_n 0, 1) := by decide +kernel
theorem dL_law_675 : decode cL_law 675 = .ok (.iload_n 3, 1) := by decide +kernel
theorem dL_law_676 : decode cL_law 676 = .ok (.iconst 1, 1) := by decide +kernel
theorem dL_law_677 : decode cL_law 677 = .ok (.iadd, 1) := by decide +kernel
theorem dL_law_678 : decode cL_law 678 = .ok (.iaload, 1) := by decide +kernel
theorem dL_law_679 : decode cL_law 679 = .ok (.invokevirtual 91, 3) := by decide +kernel
theorem dL_law_682 : decode cL_law 682 = .ok (.if_icmp .eq 222, 3) := by decide +kernel
theorem dL_law_685 : decode cL_law 685 = .ok (.iconst 0, 1) := by decide +kernel
theorem dL_law_686 : decode cL_law 686 = .ok (.ireturn, 1) := by decide +kernel
theorem dL_law_687 : decode cL_law 687 = .ok (.aload_n 1, 1) := by decide +kernel
theorem dL_law_688 : decode cL_law 688 = .ok (.aload_n 0, 1) := by decide +kernel
theorem dL_law_689 : decode cL_law 689 = .ok (.iload_n 3, 1) := by decide +kernel
theorem dL_law_690 : decode cL_law 690 = .ok (.iconst 1, 1) := by decide +kernel
theorem dL_law_691 : decode cL_law 691 = .ok (.iadd, 1) := by decide +kernel
theorem dL_law_692 : decode cL_law 692 = .ok (.iaload, 1) := by decide +kernel
theorem dL_law_693 : decode cL_law 693 = .ok (.aload_n 0, 1) := by decide +kernel
theorem dL_law_694 : decode cL_law 694 = .ok (.iload_n 3, 1) := by decide +kernel
theorem dL_law_695 : decode cL_law 695 = .ok (.iconst 2, 1) := by decide +kernel
theorem dL_law_696 : decode cL_law 696 = .ok (.iadd, 1) := by decide +kernel
theorem dL_law_697 : decode cL_law 697 = .ok (.iaload, 1) := by decide +kernel
theorem dL_law_698 : decode cL_law 698 = .ok (.aload_n 0, 1) := by decide +kernel
theorem dL_law_699 : decode cL_law 699 = .ok (.iload_n 3, 1) := by decide +kernel
theorem dL_law_700 : decode cL_law 700 = .ok (.iconst 3, 1) := by decide +kernel
theorem dL_law_701 : decode cL_law 701 = .ok (.iadd, 1) := by decide +kernel
theorem dL_law_702 : decode cL_law 702 = .ok (.iaload, 1) := by decide +kernel
theorem dL_law_703 : decode cL_law 703 = .ok (.invokevirtual 92, 3) := by decide +kernel
theorem dL_law_706 : decode cL_law 706 = .ok (.aload_n 2, 1) := by decide +kernel
theorem dL_law_707 : decode cL_law 707 = .ok (.aload_n 0, 1) := by decide +kernel
theorem dL_law_708 : decode cL_law 708 = .ok (.iload_n 3, 1) := by decide +kernel
theorem dL_law_709 : decode cL_law 709 = .ok (.iconst 1, 1) := by decide +kernel
theorem dL_law_710 : decode cL_law 710 = .ok (.iadd, 1) := by decide +kernel
theorem dL_law_711 : decode cL_law 711 = .ok (.iaload, 1) := by decide +kernel
theorem dL_law_712 : decode cL_law 712 = .ok (.aload_n 0, 1) := by decide +kernel
theorem dL_law_713 : decode cL_law 713 = .ok (.iload_n 3, 1) := by decide +kernel
theorem dL_law_714 : decode cL_law 714 = .ok (.iconst 2, 1) := by decide +kernel
theorem dL_law_715 : decode cL_law 715 = .ok (.iadd, 1) := by decide +kernel
theorem dL_law_716 : decode cL_law 716 = .ok (.iaload, 1) := by decide +kernel
theorem dL_law_717 : decode cL_law 717 = .ok (.aload_n 0, 1) := by decide +kernel
theorem dL_law_718 : decode cL_law 718 = .ok (.iload_n 3, 1) := by decide +kernel
theorem dL_law_719 : decode cL_law 719 = .ok (.iconst 3, 1) := by decide +kernel
theorem dL_law_720 : decode cL_law 720 = .ok (.iadd, 1) := by decide +kernel
theorem dL_law_721 : decode cL_law 721 = .ok (.iaload, 1) := by decide +kernel
theorem dL_law_722 : decode cL_law 722 = .ok (.invokevirtual 95, 3) := by decide +kernel
theorem dL_law_725 : decode cL_law 725 = .ok (.if_icmp .eq 179, 3) := by decide +kernel
theorem dL_law_728 : decode cL_law 728 = .ok (.iconst 0, 1) := by decide +kernel
theorem dL_law_729 : decode cL_law 729 = .ok (.ireturn, 1) := by decide +kernel
theorem dL_law_730 : decode cL_law 730 = .ok (.aload_n 1, 1) := by decide +kernel
theorem dL_law_731 : decode cL_law 731 = .ok (.aload_n 0, 1) := by decide +kernel
theorem dL_law_732 : decode cL_law 732 = .ok (.iload_n 3, 1) := by decide +kernel
theorem dL_law_733 : decode cL_law 733 = .ok (.iconst 1, 1) := by decide +kernel
theorem dL_law_734 : decode cL_law 734 = .ok (.iadd, 1) := by decide +kernel
theorem dL_law_735 : decode cL_law 735 = .ok (.iaload, 1) := by decide +kernel
theorem dL_law_736 : decode cL_law 736 = .ok (.invokevirtual 96, 3) := by decide +kernel
theorem dL_law_739 : decode cL_law 739 = .ok (.aload_n 2, 1) := by decide +kernel
theorem dL_law_740 : decode cL_law 740 = .ok (.aload_n 0, 1) := by decide +kernel
theorem dL_law_741 : decode cL_law 741 = .ok (.iload_n 3, 1) := by decide +kernel
theorem dL_law_742 : decode cL_law 742 = .ok (.iconst 1, 1) := by decide +kernel
theorem dL_law_743 : decode cL_law 743 = .ok (.iadd, 1) := by decide +kernel
theorem dL_law_744 : decode cL_law 744 = .ok (.iaload, 1) := by decide +kernel
theorem dL_law_745 : decode cL_law 745 = .ok (.invokevirtual 99, 3) := by decide +kernel
theorem dL_law_748 : decode cL_law 748 = .ok (.if_icmp .eq 156, 3) := by decide +kernel
theorem dL_law_751 : decode cL_law 751 = .ok (.iconst 0, 1) := by decide +kernel
theorem dL_law_752 : decode cL_law 752 = .ok (.ireturn, 1) := by decide +kernel
theorem dL_law_753 : decode cL_law 753 = .ok (.aload_n 1, 1) := by decide +kernel
theorem dL_law_754 : decode cL_law 754 = .ok (.aload_n 0, 1) := by decide +kernel
theorem dL_law_755 : decode cL_law 755 = .ok (.iload_n 3, 1) := by decide +kernel
theorem dL_law_756 : decode cL_law 756 = .ok (.iconst 1, 1) := by decide +kernel
theorem dL_law_757 : decode cL_law 757 = .ok (.iadd, 1) := by decide +kernel
theorem dL_law_758 : decode cL_law 758 = .ok (.iaload, 1) := by decide +kernel
theorem dL_law_759 : decode cL_law 759 = .ok (.i2l, 1) := by decide +kernel
theorem dL_law_760 : decode cL_law 760 = .ok (.bipush 32, 2) := by decide +kernel
theorem dL_law_762 : decode cL_law 762 = .ok (.lshl, 1) := by decide +kernel
theorem dL_law_763 : decode cL_law 763 = .ok (.aload_n 0, 1) := by decide +kernel
theorem dL_law_764 : decode cL_law 764 = .ok (.iload_n 3, 1) := by decide +kernel
theorem dL_law_765 : decode cL_law 765 = .ok (.iconst 2, 1) := by decide +kernel
theorem dL_law_766 : decode cL_law 766 = .ok (.iadd, 1) := by decide +kernel
theorem dL_law_767 : decode cL_law 767 = .ok (.iaload, 1) := by decide +kernel
theorem dL_law_768 : decode cL_law 768 = .ok (.i2l, 1) := by decide +kernel
theorem dL_law_769 : decode cL_law 769 = .ok (.ldc2_w 100, 3) := by decide +kernel
theorem dL_law_772 : decode cL_law 772 = .ok (.land, 1) := by decide +kernel
theorem dL_law_773 : decode cL_law 773 = .ok (.lor, 1) := by decide +kernel
theorem dL_law_774 : decode cL_law 774 = .ok (.invokevirtual 102, 3) := by decide +kernel
theorem dL_law_777 : decode cL_law 777 = .ok (.aload_n 2, 1) := by decide +kernel
theorem dL_law_778 : decode cL_law 778 = .ok (.aload_n 0, 1) := by decide +kernel
theorem dL_law_779 : decode cL_law 779 = .ok (.iload_n 3, 1) := by decide +kernel
theorem dL_law_780 : decode cL_law 780 = .ok (.iconst 1, 1) := by decide +kernel
theorem dL_law_781 : decode cL_law 781 = .ok (.iadd, 1) := by decide +kernel
theorem dL_law_782 : decode cL_law 782 = .ok (.iaload, 1) := by decide +kernel
theorem dL_law_783 : decode cL_law 783 = .ok (.i2l, 1) := by decide +kernel
theorem dL_law_784 : decode cL_law 784 = .ok (.bipush 32, 2) := by decide +kernel
theorem dL_law_786 : decode cL_law 786 = .ok (.lshl, 1) := by decide +kernel
theorem dL_law_787 : decode cL_law 787 = .ok (.aload_n 0, 1) := by decide +kernel
theorem dL_law_788 : decode cL_law 788 = .ok (.iload_n 3, 1) := by decide +kernel
theorem dL_law_789 : decode cL_law 789 = .ok (.iconst 2, 1) := by decide +kernel
theorem dL_law_790 : decode cL_law 790 = .ok (.iadd, 1) := by decide +kernel
theorem dL_law_791 : decode cL_law 791 = .ok (.iaload, 1) := by decide +kernel
theorem dL_law_792 : decode cL_law 792 = .ok (.i2l, 1) := by decide +kernel
theorem dL_law_793 : decode cL_law 793 = .ok (.ldc2_w 100, 3) := by decide +kernel
theorem dL_law_796 : decode cL_law 796 = .ok (.land, 1) := by decide +kernel
theorem dL_law_797 : decode cL_law 797 = .ok (.lor, 1) := by decide +kernel
theorem dL_law_798 : decode cL_law 798 = .ok (.invokevirtual 106, 3) := by decide +kernel
theorem dL_law_801 : decode cL_law 801 = .ok (.if_icmp .eq 103, 3) := by decide +kernel
theorem dL_law_804 : decode cL_law 804 = .ok (.iconst 0, 1) := by decide +kernel
theorem dL_law_805 : decode cL_law 805 = .ok (.ireturn, 1) := by decide +kernel
theorem dL_law_806 : decode cL_law 806 = .ok (.aload_n 1, 1) := by decide +kernel
theorem dL_law_807 : decode cL_law 807 = .ok (.invokevirtual 107, 3) := by decide +kernel
theorem dL_law_810 : decode cL_law 810 = .ok (.aload_n 2, 1) := by decide +kernel
theorem dL_law_811 : decode cL_law 811 = .ok (.invokevirtual 111, 3) := by decide +kernel
theorem dL_law_814 : decode cL_law 814 = .ok (.if_icmp .eq 90, 3) := by decide +kernel
theorem dL_law_817 : decode cL_law 817 = .ok (.iconst 0, 1) := by decide +kernel
theorem dL_law_818 : decode cL_law 818 = .ok (.ireturn, 1) := by decide +kernel
theorem dL_law_819 : decode cL_law 819 = .ok (.aload_n 1, 1) := by decide +kernel
theorem dL_law_820 : decode cL_law 820 = .ok (.invokevirtual 112, 3) := by decide +kernel
theorem dL_law_823 : decode cL_law 823 = .ok (.aload_n 2, 1) := by decide +kernel
theorem dL_law_824 : decode cL_law 824 = .ok (.invokevirtual 115, 3) := by decide +kernel
theorem dL_law_827 : decode cL_law 827 = .ok (.if_icmp .eq 77, 3) := by decide +kernel
theorem dL_law_830 : decode cL_law 830 = .ok (.iconst 0, 1) := by decide +kernel
theorem dL_law_831 : decode cL_law 831 = .ok (.ireturn, 1) := by decide +kernel
theorem dL_law_832 : decode cL_law 832 = .ok (.aload_n 1, 1) := by decide +kernel
theorem dL_law_833 : decode cL_law 833 = .ok (.invokevirtual 116, 3) := by decide +kernel
theorem dL_law_836 : decode cL_law 836 = .ok (.aload_n 2, 1) := by decide +kernel
theorem dL_law_837 : decode cL_law 837 = .ok (.invokevirtual 119, 3) := by decide +kernel
theorem dL_law_840 : decode cL_law 840 = .ok (.if_icmp .eq 64, 3) := by decide +kernel
theorem dL_law_843 : decode cL_law 843 = .ok (.iconst 0, 1) := by decide +kernel
theorem dL_law_844 : decode cL_law 844 = .ok (.ireturn, 1) := by decide +kernel
theorem dL_law_845 : decode cL_law 845 = .ok (.aload_n 1, 1) := by decide +kernel
theorem dL_law_846 : decode cL_law 846 = .ok (.invokevirtual 120, 3) := by decide +kernel
theorem dL_law_849 : decode cL_law 849 = .ok (.aload_n 2, 1) := by decide +kernel
theorem dL_law_850 : decode cL_law 850 = .ok (.invokevirtual 123, 3) := by decide +kernel
theorem dL_law_853 : decode cL_law 853 = .ok (.if_icmp .eq 51, 3) := by decide +kernel
theorem dL_law_856 : decode cL_law 856 = .ok (.iconst 0, 1) := by decide +kernel
theorem dL_law_857 : decode cL_law 857 = .ok (.ireturn, 1) := by decide +kernel
theorem dL_law_858 : decode cL_law 858 = .ok (.aload_n 1, 1) := by decide +kernel
theorem dL_law_859 : decode cL_law 859 = .ok (.aload_n 0, 1) := by decide +kernel
theorem dL_law_860 : decode cL_law 860 = .ok (.iload_n 3, 1) := by decide +kernel
theorem dL_law_861 : decode cL_law 861 = .ok (.iconst 1, 1) := by decide +kernel
theorem dL_law_862 : decode cL_law 862 = .ok (.iadd, 1) := by decide +kernel
theorem dL_law_863 : decode cL_law 863 = .ok (.iaload, 1) := by decide +kernel
theorem dL_law_864 : decode cL_law 864 = .ok (.invokevirtual 124, 3) := by decide +kernel
theorem dL_law_867 : decode cL_law 867 = .ok (.aload_n 2, 1) := by decide +kernel
theorem dL_law_868 : decode cL_law 868 = .ok (.aload_n 0, 1) := by decide +kernel
theorem dL_law_869 : decode cL_law 869 = .ok (.iload_n 3, 1) := by decide +kernel
theorem dL_law_870 : decode cL_law 870 = .ok (.iconst 1, 1) := by decide +kernel
theorem dL_law_871 : decode cL_law 871 = .ok (.iadd, 1) := by decide +kernel
theorem dL_law_872 : decode cL_law 872 = .ok (.iaload, 1) := by decide +kernel
theorem dL_law_873 : decode cL_law 873 = .ok (.invokevirtual 127, 3) := by decide +kernel
theorem dL_law_876 : decode cL_law 876 = .ok (.if_icmp .eq 28, 3) := by decide +kernel
theorem dL_law_879 : decode cL_law 879 = .ok (.iconst 0, 1) := by decide +kernel
theorem dL_law_880 : decode cL_law 880 = .ok (.ireturn, 1) := by decide +kernel
theorem dL_law_881 : decode cL_law 881 = .ok (.aload_n 1, 1) := by decide +kernel
theorem dL_law_882 : decode cL_law 882 = .ok (.aload_n 0, 1) := by decide +kernel
theorem dL_law_883 : decode cL_law 883 = .ok (.iload_n 3, 1) := by decide +kernel
theorem dL_law_884 : decode cL_law 884 = .ok (.iconst 1, 1) := by decide +kernel
theorem dL_law_885 : decode cL_law 885 = .ok (.iadd, 1) := by decide +kernel
theorem dL_law_886 : decode cL_law 886 = .ok (.iaload, 1) := by decide +kernel
theorem dL_law_887 : decode cL_law 887 = .ok (.invokevirtual 128, 3) := by decide +kernel
theorem dL_law_890 : decode cL_law 890 = .ok (.aload_n 2, 1) := by decide +kernel
theorem dL_law_891 : decode cL_law 891 = .ok (.aload_n 0, 1) := by decide +kernel
theorem dL_law_892 : decode cL_law 892 = .ok (.iload_n 3, 1) := by decide +kernel
theorem dL_law_893 : decode cL_law 893 = .ok (.iconst 1, 1) := by decide +kernel
theorem dL_law_894 : decode cL_law 894 = .ok (.iadd, 1) := by decide +kernel
theorem dL_law_895 : decode cL_law 895 = .ok (.iaload, 1) := by decide +kernel
theorem dL_law_896 : decode cL_law 896 = .ok (.invokevirtual 131, 3) := by decide +kernel
theorem dL_law_899 : decode cL_law 899 = .ok (.if_icmp .eq 5, 3) := by decide +kernel
theorem dL_law_902 : decode cL_law 902 = .ok (.iconst 0, 1) := by decide +kernel
theorem dL_law_903 : decode cL_law 903 = .ok (.ireturn, 1) := by decide +kernel
theorem dL_law_904 : decode cL_law 904 = .ok (.iinc 3 4, 3) := by decide +kernel
theorem dL_law_907 : decode cL_law 907 = .ok (.goto (-889), 3) := by decide +kernel
theorem dL_law_910 : decode cL_law 910 = .ok (.iconst 1, 1) := by decide +kernel
theorem dL_law_911 : decode cL_law 911 = .ok (.ireturn, 1) := by decide +kernel
end
section
theorem zz_last : True := trivial
end
