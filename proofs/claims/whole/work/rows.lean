section
-- ===== PART A: goes FIRST, ahead of the names: the tables' words, and 'selects' of the private methods out of them =====
/-- a private method of a class that the tables say can be made, by its rows of tables_1 -/
def lw_okq (q : MethodName × Nat) : Prop := (q.1.cls ≠ "java/lang/invoke/MethodHandle" ∧ q.1.cls ≠ "java/lang/invoke/VarHandle") ∧ Cond.instantiable q.1.cls q.2 ∈ tables_1 ∧ Cond.privateMethod q.1 ∈ tables_1 ∧ Cond.instanceMethod q.1 ∈ tables_1
theorem lw_p0 : lw_okq (⟨"RateGraph", "isActor", "(I)Z"⟩, 9) := ⟨⟨by decide +kernel, by decide +kernel⟩, List.mem_of_getElem? (i := 7) (by decide +kernel), List.mem_of_getElem? (i := 142) (by decide +kernel), List.mem_of_getElem? (i := 143) (by decide +kernel)⟩
theorem lw_p1 : lw_okq (⟨"RateGraph", "isEdge", "(I)Z"⟩, 9) := ⟨⟨by decide +kernel, by decide +kernel⟩, List.mem_of_getElem? (i := 7) (by decide +kernel), List.mem_of_getElem? (i := 150) (by decide +kernel), List.mem_of_getElem? (i := 151) (by decide +kernel)⟩
theorem lw_p2 : lw_okq (⟨"RateGraph", "countActors", "()I"⟩, 9) := ⟨⟨by decide +kernel, by decide +kernel⟩, List.mem_of_getElem? (i := 7) (by decide +kernel), List.mem_of_getElem? (i := 158) (by decide +kernel), List.mem_of_getElem? (i := 159) (by decide +kernel)⟩
theorem lw_p3 : lw_okq (⟨"RateGraph", "findCulprit", "()I"⟩, 9) := ⟨⟨by decide +kernel, by decide +kernel⟩, List.mem_of_getElem? (i := 7) (by decide +kernel), List.mem_of_getElem? (i := 162) (by decide +kernel), List.mem_of_getElem? (i := 163) (by decide +kernel)⟩
theorem lw_p4 : lw_okq (⟨"RateGraph", "makePartsOfOne", "()V"⟩, 9) := ⟨⟨by decide +kernel, by decide +kernel⟩, List.mem_of_getElem? (i := 7) (by decide +kernel), List.mem_of_getElem? (i := 166) (by decide +kernel), List.mem_of_getElem? (i := 167) (by decide +kernel)⟩
theorem lw_p5 : lw_okq (⟨"RateGraph", "balance", "(LRateGraph$Edge;)Z"⟩, 9) := ⟨⟨by decide +kernel, by decide +kernel⟩, List.mem_of_getElem? (i := 7) (by decide +kernel), List.mem_of_getElem? (i := 170) (by decide +kernel), List.mem_of_getElem? (i := 171) (by decide +kernel)⟩
theorem lw_p6 : lw_okq (⟨"RateGraph", "scalePart", "(II)V"⟩, 9) := ⟨⟨by decide +kernel, by decide +kernel⟩, List.mem_of_getElem? (i := 7) (by decide +kernel), List.mem_of_getElem? (i := 180) (by decide +kernel), List.mem_of_getElem? (i := 181) (by decide +kernel)⟩
theorem lw_p7 : lw_okq (⟨"RateGraph", "joinParts", "(II)V"⟩, 9) := ⟨⟨by decide +kernel, by decide +kernel⟩, List.mem_of_getElem? (i := 7) (by decide +kernel), List.mem_of_getElem? (i := 184) (by decide +kernel), List.mem_of_getElem? (i := 185) (by decide +kernel)⟩
theorem lw_p8 : lw_okq (⟨"RateGraph", "keepRepetitions", "()I"⟩, 9) := ⟨⟨by decide +kernel, by decide +kernel⟩, List.mem_of_getElem? (i := 7) (by decide +kernel), List.mem_of_getElem? (i := 188) (by decide +kernel), List.mem_of_getElem? (i := 189) (by decide +kernel)⟩
theorem lw_p9 : lw_okq (⟨"RateGraph", "makeSchedule", "(I)I"⟩, 9) := ⟨⟨by decide +kernel, by decide +kernel⟩, List.mem_of_getElem? (i := 7) (by decide +kernel), List.mem_of_getElem? (i := 192) (by decide +kernel), List.mem_of_getElem? (i := 193) (by decide +kernel)⟩
theorem lw_p10 : lw_okq (⟨"RateGraph", "choose", "(II)I"⟩, 9) := ⟨⟨by decide +kernel, by decide +kernel⟩, List.mem_of_getElem? (i := 7) (by decide +kernel), List.mem_of_getElem? (i := 196) (by decide +kernel), List.mem_of_getElem? (i := 197) (by decide +kernel)⟩
theorem lw_p11 : lw_okq (⟨"RateGraph", "chooseFewestTokens", "()I"⟩, 9) := ⟨⟨by decide +kernel, by decide +kernel⟩, List.mem_of_getElem? (i := 7) (by decide +kernel), List.mem_of_getElem? (i := 200) (by decide +kernel), List.mem_of_getElem? (i := 201) (by decide +kernel)⟩
theorem lw_p12 : lw_okq (⟨"RateGraph", "canFire", "(I)Z"⟩, 9) := ⟨⟨by decide +kernel, by decide +kernel⟩, List.mem_of_getElem? (i := 7) (by decide +kernel), List.mem_of_getElem? (i := 204) (by decide +kernel), List.mem_of_getElem? (i := 205) (by decide +kernel)⟩
theorem lw_p13 : lw_okq (⟨"RateGraph$Actor", "isDue", "()Z"⟩, 10) := ⟨⟨by decide +kernel, by decide +kernel⟩, List.mem_of_getElem? (i := 20) (by decide +kernel), List.mem_of_getElem? (i := 208) (by decide +kernel), List.mem_of_getElem? (i := 209) (by decide +kernel)⟩
theorem lw_p14 : lw_okq (⟨"RateGraph", "isReady", "(I)Z"⟩, 9) := ⟨⟨by decide +kernel, by decide +kernel⟩, List.mem_of_getElem? (i := 7) (by decide +kernel), List.mem_of_getElem? (i := 212) (by decide +kernel), List.mem_of_getElem? (i := 213) (by decide +kernel)⟩
theorem lw_p15 : lw_okq (⟨"RateGraph", "tokensWonBy", "(I)I"⟩, 9) := ⟨⟨by decide +kernel, by decide +kernel⟩, List.mem_of_getElem? (i := 7) (by decide +kernel), List.mem_of_getElem? (i := 216) (by decide +kernel), List.mem_of_getElem? (i := 217) (by decide +kernel)⟩
def lw_privs_1 : List (MethodName × Nat) := [(⟨"RateGraph", "isActor", "(I)Z"⟩, 9), (⟨"RateGraph", "isEdge", "(I)Z"⟩, 9), (⟨"RateGraph", "countActors", "()I"⟩, 9), (⟨"RateGraph", "findCulprit", "()I"⟩, 9), (⟨"RateGraph", "makePartsOfOne", "()V"⟩, 9), (⟨"RateGraph", "balance", "(LRateGraph$Edge;)Z"⟩, 9), (⟨"RateGraph", "scalePart", "(II)V"⟩, 9), (⟨"RateGraph", "joinParts", "(II)V"⟩, 9), (⟨"RateGraph", "keepRepetitions", "()I"⟩, 9), (⟨"RateGraph", "makeSchedule", "(I)I"⟩, 9), (⟨"RateGraph", "choose", "(II)I"⟩, 9), (⟨"RateGraph", "chooseFewestTokens", "()I"⟩, 9), (⟨"RateGraph", "canFire", "(I)Z"⟩, 9), (⟨"RateGraph$Actor", "isDue", "()Z"⟩, 10), (⟨"RateGraph", "isReady", "(I)Z"⟩, 9), (⟨"RateGraph", "tokensWonBy", "(I)I"⟩, 9)]
theorem lw_r1 : ∀ q ∈ lw_privs_1, lw_okq q := List.forall_mem_cons.mpr ⟨lw_p0, List.forall_mem_cons.mpr ⟨lw_p1, List.forall_mem_cons.mpr ⟨lw_p2, List.forall_mem_cons.mpr ⟨lw_p3, List.forall_mem_cons.mpr ⟨lw_p4, List.forall_mem_cons.mpr ⟨lw_p5, List.forall_mem_cons.mpr ⟨lw_p6, List.forall_mem_cons.mpr ⟨lw_p7, List.forall_mem_cons.mpr ⟨lw_p8, List.forall_mem_cons.mpr ⟨lw_p9, List.forall_mem_cons.mpr ⟨lw_p10, List.forall_mem_cons.mpr ⟨lw_p11, List.forall_mem_cons.mpr ⟨lw_p12, List.forall_mem_cons.mpr ⟨lw_p13, List.forall_mem_cons.mpr ⟨lw_p14, List.forall_mem_cons.mpr ⟨lw_p15, fun _ h => absurd h List.not_mem_nil⟩⟩⟩⟩⟩⟩⟩⟩⟩⟩⟩⟩⟩⟩⟩⟩
theorem lw_p16 : lw_okq (⟨"RateGraph", "chooseFrom", "(I)I"⟩, 9) := ⟨⟨by decide +kernel, by decide +kernel⟩, List.mem_of_getElem? (i := 7) (by decide +kernel), List.mem_of_getElem? (i := 220) (by decide +kernel), List.mem_of_getElem? (i := 221) (by decide +kernel)⟩
theorem lw_p17 : lw_okq (⟨"RateGraph", "leastDue", "()I"⟩, 9) := ⟨⟨by decide +kernel, by decide +kernel⟩, List.mem_of_getElem? (i := 7) (by decide +kernel), List.mem_of_getElem? (i := 224) (by decide +kernel), List.mem_of_getElem? (i := 225) (by decide +kernel)⟩
theorem lw_p18 : lw_okq (⟨"RateGraph", "fireCounting", "(I)V"⟩, 9) := ⟨⟨by decide +kernel, by decide +kernel⟩, List.mem_of_getElem? (i := 7) (by decide +kernel), List.mem_of_getElem? (i := 228) (by decide +kernel), List.mem_of_getElem? (i := 229) (by decide +kernel)⟩
theorem lw_p19 : lw_okq (⟨"RateGraph", "setRunAsAtFirst", "()V"⟩, 9) := ⟨⟨by decide +kernel, by decide +kernel⟩, List.mem_of_getElem? (i := 7) (by decide +kernel), List.mem_of_getElem? (i := 232) (by decide +kernel), List.mem_of_getElem? (i := 233) (by decide +kernel)⟩
theorem lw_p20 : lw_okq (⟨"RateGraph$Actor", "forgetRun", "()V"⟩, 10) := ⟨⟨by decide +kernel, by decide +kernel⟩, List.mem_of_getElem? (i := 20) (by decide +kernel), List.mem_of_getElem? (i := 236) (by decide +kernel), List.mem_of_getElem? (i := 237) (by decide +kernel)⟩
theorem lw_p21 : lw_okq (⟨"RateGraph$Edge", "setAsAtFirst", "()V"⟩, 9) := ⟨⟨by decide +kernel, by decide +kernel⟩, List.mem_of_getElem? (i := 63) (by decide +kernel), List.mem_of_getElem? (i := 240) (by decide +kernel), List.mem_of_getElem? (i := 241) (by decide +kernel)⟩
theorem lw_p22 : lw_okq (⟨"RateGraph", "fire", "(I)V"⟩, 9) := ⟨⟨by decide +kernel, by decide +kernel⟩, List.mem_of_getElem? (i := 7) (by decide +kernel), List.mem_of_getElem? (i := 248) (by decide +kernel), List.mem_of_getElem? (i := 249) (by decide +kernel)⟩
theorem lw_p23 : lw_okq (⟨"RateGraph$Edge", "takeWeighed", "()I"⟩, 9) := ⟨⟨by decide +kernel, by decide +kernel⟩, List.mem_of_getElem? (i := 63) (by decide +kernel), List.mem_of_getElem? (i := 252) (by decide +kernel), List.mem_of_getElem? (i := 253) (by decide +kernel)⟩
theorem lw_p24 : lw_okq (⟨"RateGraph$Edge", "at", "(I)I"⟩, 9) := ⟨⟨by decide +kernel, by decide +kernel⟩, List.mem_of_getElem? (i := 63) (by decide +kernel), List.mem_of_getElem? (i := 256) (by decide +kernel), List.mem_of_getElem? (i := 257) (by decide +kernel)⟩
theorem lw_p25 : lw_okq (⟨"RateGraph$Actor", "answerTo", "(I)I"⟩, 10) := ⟨⟨by decide +kernel, by decide +kernel⟩, List.mem_of_getElem? (i := 20) (by decide +kernel), List.mem_of_getElem? (i := 260) (by decide +kernel), List.mem_of_getElem? (i := 261) (by decide +kernel)⟩
theorem lw_p26 : lw_okq (⟨"RateGraph$Edge", "putFrom", "(I)V"⟩, 9) := ⟨⟨by decide +kernel, by decide +kernel⟩, List.mem_of_getElem? (i := 63) (by decide +kernel), List.mem_of_getElem? (i := 264) (by decide +kernel), List.mem_of_getElem? (i := 265) (by decide +kernel)⟩
theorem lw_p27 : lw_okq (⟨"RateGraph", "canNest", "()Z"⟩, 9) := ⟨⟨by decide +kernel, by decide +kernel⟩, List.mem_of_getElem? (i := 7) (by decide +kernel), List.mem_of_getElem? (i := 284) (by decide +kernel), List.mem_of_getElem? (i := 285) (by decide +kernel)⟩
theorem lw_p28 : lw_okq (⟨"RateGraph$Edge", "isLoop", "()Z"⟩, 9) := ⟨⟨by decide +kernel, by decide +kernel⟩, List.mem_of_getElem? (i := 63) (by decide +kernel), List.mem_of_getElem? (i := 288) (by decide +kernel), List.mem_of_getElem? (i := 289) (by decide +kernel)⟩
theorem lw_p29 : lw_okq (⟨"RateGraph", "nestedRoom", "()I"⟩, 9) := ⟨⟨by decide +kernel, by decide +kernel⟩, List.mem_of_getElem? (i := 7) (by decide +kernel), List.mem_of_getElem? (i := 292) (by decide +kernel), List.mem_of_getElem? (i := 293) (by decide +kernel)⟩
theorem lw_p30 : lw_okq (⟨"RateGraph", "listActors", "()I"⟩, 9) := ⟨⟨by decide +kernel, by decide +kernel⟩, List.mem_of_getElem? (i := 7) (by decide +kernel), List.mem_of_getElem? (i := 296) (by decide +kernel), List.mem_of_getElem? (i := 297) (by decide +kernel)⟩
theorem lw_p31 : lw_okq (⟨"RateGraph", "costOfStretch", "(II)I"⟩, 9) := ⟨⟨by decide +kernel, by decide +kernel⟩, List.mem_of_getElem? (i := 7) (by decide +kernel), List.mem_of_getElem? (i := 300) (by decide +kernel), List.mem_of_getElem? (i := 301) (by decide +kernel)⟩
def lw_privs_2 : List (MethodName × Nat) := [(⟨"RateGraph", "chooseFrom", "(I)I"⟩, 9), (⟨"RateGraph", "leastDue", "()I"⟩, 9), (⟨"RateGraph", "fireCounting", "(I)V"⟩, 9), (⟨"RateGraph", "setRunAsAtFirst", "()V"⟩, 9), (⟨"RateGraph$Actor", "forgetRun", "()V"⟩, 10), (⟨"RateGraph$Edge", "setAsAtFirst", "()V"⟩, 9), (⟨"RateGraph", "fire", "(I)V"⟩, 9), (⟨"RateGraph$Edge", "takeWeighed", "()I"⟩, 9), (⟨"RateGraph$Edge", "at", "(I)I"⟩, 9), (⟨"RateGraph$Actor", "answerTo", "(I)I"⟩, 10), (⟨"RateGraph$Edge", "putFrom", "(I)V"⟩, 9), (⟨"RateGraph", "canNest", "()Z"⟩, 9), (⟨"RateGraph$Edge", "isLoop", "()Z"⟩, 9), (⟨"RateGraph", "nestedRoom", "()I"⟩, 9), (⟨"RateGraph", "listActors", "()I"⟩, 9), (⟨"RateGraph", "costOfStretch", "(II)I"⟩, 9)]
theorem lw_r2 : ∀ q ∈ lw_privs_2, lw_okq q := List.forall_mem_cons.mpr ⟨lw_p16, List.forall_mem_cons.mpr ⟨lw_p17, List.forall_mem_cons.mpr ⟨lw_p18, List.forall_mem_cons.mpr ⟨lw_p19, List.forall_mem_cons.mpr ⟨lw_p20, List.forall_mem_cons.mpr ⟨lw_p21, List.forall_mem_cons.mpr ⟨lw_p22, List.forall_mem_cons.mpr ⟨lw_p23, List.forall_mem_cons.mpr ⟨lw_p24, List.forall_mem_cons.mpr ⟨lw_p25, List.forall_mem_cons.mpr ⟨lw_p26, List.forall_mem_cons.mpr ⟨lw_p27, List.forall_mem_cons.mpr ⟨lw_p28, List.forall_mem_cons.mpr ⟨lw_p29, List.forall_mem_cons.mpr ⟨lw_p30, List.forall_mem_cons.mpr ⟨lw_p31, fun _ h => absurd h List.not_mem_nil⟩⟩⟩⟩⟩⟩⟩⟩⟩⟩⟩⟩⟩⟩⟩⟩
theorem lw_p32 : lw_okq (⟨"RateGraph", "divisorOfStretch", "(II)I"⟩, 9) := ⟨⟨by decide +kernel, by decide +kernel⟩, List.mem_of_getElem? (i := 7) (by decide +kernel), List.mem_of_getElem? (i := 304) (by decide +kernel), List.mem_of_getElem? (i := 305) (by decide +kernel)⟩
theorem lw_p33 : lw_okq (⟨"RateGraph", "tokensAcross", "(III)I"⟩, 9) := ⟨⟨by decide +kernel, by decide +kernel⟩, List.mem_of_getElem? (i := 7) (by decide +kernel), List.mem_of_getElem? (i := 309) (by decide +kernel), List.mem_of_getElem? (i := 310) (by decide +kernel)⟩
theorem lw_p34 : lw_okq (⟨"RateGraph", "countParts", "()I"⟩, 9) := ⟨⟨by decide +kernel, by decide +kernel⟩, List.mem_of_getElem? (i := 7) (by decide +kernel), List.mem_of_getElem? (i := 334) (by decide +kernel), List.mem_of_getElem? (i := 335) (by decide +kernel)⟩
theorem lw_p35 : lw_okq (⟨"RateGraph", "countRuns", "()I"⟩, 9) := ⟨⟨by decide +kernel, by decide +kernel⟩, List.mem_of_getElem? (i := 7) (by decide +kernel), List.mem_of_getElem? (i := 338) (by decide +kernel), List.mem_of_getElem? (i := 339) (by decide +kernel)⟩
theorem lw_p36 : lw_okq (⟨"RateGraph", "sumOfPeaks", "()I"⟩, 9) := ⟨⟨by decide +kernel, by decide +kernel⟩, List.mem_of_getElem? (i := 7) (by decide +kernel), List.mem_of_getElem? (i := 342) (by decide +kernel), List.mem_of_getElem? (i := 343) (by decide +kernel)⟩
theorem lw_p37 : lw_okq (⟨"RateGraph", "sumOfTokens", "()I"⟩, 9) := ⟨⟨by decide +kernel, by decide +kernel⟩, List.mem_of_getElem? (i := 7) (by decide +kernel), List.mem_of_getElem? (i := 346) (by decide +kernel), List.mem_of_getElem? (i := 347) (by decide +kernel)⟩
theorem lw_p38 : lw_okq (⟨"RateGraphModel", "isActor", "(I)Z"⟩, 25) := ⟨⟨by decide +kernel, by decide +kernel⟩, List.mem_of_getElem? (i := 350) (by decide +kernel), List.mem_of_getElem? (i := 442) (by decide +kernel), List.mem_of_getElem? (i := 443) (by decide +kernel)⟩
theorem lw_p39 : lw_okq (⟨"RateGraphModel", "balance", "(I)Z"⟩, 25) := ⟨⟨by decide +kernel, by decide +kernel⟩, List.mem_of_getElem? (i := 350) (by decide +kernel), List.mem_of_getElem? (i := 454) (by decide +kernel), List.mem_of_getElem? (i := 455) (by decide +kernel)⟩
theorem lw_p40 : lw_okq (⟨"RateGraphModel", "setFraction", "(IJJ)V"⟩, 25) := ⟨⟨by decide +kernel, by decide +kernel⟩, List.mem_of_getElem? (i := 350) (by decide +kernel), List.mem_of_getElem? (i := 458) (by decide +kernel), List.mem_of_getElem? (i := 459) (by decide +kernel)⟩
theorem lw_p41 : lw_okq (⟨"RateGraphModel", "repeat", "()I"⟩, 25) := ⟨⟨by decide +kernel, by decide +kernel⟩, List.mem_of_getElem? (i := 350) (by decide +kernel), List.mem_of_getElem? (i := 465) (by decide +kernel), List.mem_of_getElem? (i := 466) (by decide +kernel)⟩
theorem lw_p42 : lw_okq (⟨"RateGraphModel", "whole", "(II)Z"⟩, 25) := ⟨⟨by decide +kernel, by decide +kernel⟩, List.mem_of_getElem? (i := 350) (by decide +kernel), List.mem_of_getElem? (i := 469) (by decide +kernel), List.mem_of_getElem? (i := 470) (by decide +kernel)⟩
theorem lw_p43 : lw_okq (⟨"RateGraphModel", "pick", "(II)I"⟩, 25) := ⟨⟨by decide +kernel, by decide +kernel⟩, List.mem_of_getElem? (i := 350) (by decide +kernel), List.mem_of_getElem? (i := 474) (by decide +kernel), List.mem_of_getElem? (i := 475) (by decide +kernel)⟩
theorem lw_p44 : lw_okq (⟨"RateGraphModel", "ready", "(I)Z"⟩, 25) := ⟨⟨by decide +kernel, by decide +kernel⟩, List.mem_of_getElem? (i := 350) (by decide +kernel), List.mem_of_getElem? (i := 478) (by decide +kernel), List.mem_of_getElem? (i := 479) (by decide +kernel)⟩
theorem lw_p45 : lw_okq (⟨"RateGraphModel", "growth", "(I)I"⟩, 25) := ⟨⟨by decide +kernel, by decide +kernel⟩, List.mem_of_getElem? (i := 350) (by decide +kernel), List.mem_of_getElem? (i := 482) (by decide +kernel), List.mem_of_getElem? (i := 483) (by decide +kernel)⟩
theorem lw_p46 : lw_okq (⟨"RateGraphModel", "step", "(I)V"⟩, 25) := ⟨⟨by decide +kernel, by decide +kernel⟩, List.mem_of_getElem? (i := 350) (by decide +kernel), List.mem_of_getElem? (i := 486) (by decide +kernel), List.mem_of_getElem? (i := 487) (by decide +kernel)⟩
theorem lw_p47 : lw_okq (⟨"RateGraphModel", "fire", "(I)V"⟩, 25) := ⟨⟨by decide +kernel, by decide +kernel⟩, List.mem_of_getElem? (i := 350) (by decide +kernel), List.mem_of_getElem? (i := 494) (by decide +kernel), List.mem_of_getElem? (i := 495) (by decide +kernel)⟩
def lw_privs_3 : List (MethodName × Nat) := [(⟨"RateGraph", "divisorOfStretch", "(II)I"⟩, 9), (⟨"RateGraph", "tokensAcross", "(III)I"⟩, 9), (⟨"RateGraph", "countParts", "()I"⟩, 9), (⟨"RateGraph", "countRuns", "()I"⟩, 9), (⟨"RateGraph", "sumOfPeaks", "()I"⟩, 9), (⟨"RateGraph", "sumOfTokens", "()I"⟩, 9), (⟨"RateGraphModel", "isActor", "(I)Z"⟩, 25), (⟨"RateGraphModel", "balance", "(I)Z"⟩, 25), (⟨"RateGraphModel", "setFraction", "(IJJ)V"⟩, 25), (⟨"RateGraphModel", "repeat", "()I"⟩, 25), (⟨"RateGraphModel", "whole", "(II)Z"⟩, 25), (⟨"RateGraphModel", "pick", "(II)I"⟩, 25), (⟨"RateGraphModel", "ready", "(I)Z"⟩, 25), (⟨"RateGraphModel", "growth", "(I)I"⟩, 25), (⟨"RateGraphModel", "step", "(I)V"⟩, 25), (⟨"RateGraphModel", "fire", "(I)V"⟩, 25)]
theorem lw_r3 : ∀ q ∈ lw_privs_3, lw_okq q := List.forall_mem_cons.mpr ⟨lw_p32, List.forall_mem_cons.mpr ⟨lw_p33, List.forall_mem_cons.mpr ⟨lw_p34, List.forall_mem_cons.mpr ⟨lw_p35, List.forall_mem_cons.mpr ⟨lw_p36, List.forall_mem_cons.mpr ⟨lw_p37, List.forall_mem_cons.mpr ⟨lw_p38, List.forall_mem_cons.mpr ⟨lw_p39, List.forall_mem_cons.mpr ⟨lw_p40, List.forall_mem_cons.mpr ⟨lw_p41, List.forall_mem_cons.mpr ⟨lw_p42, List.forall_mem_cons.mpr ⟨lw_p43, List.forall_mem_cons.mpr ⟨lw_p44, List.forall_mem_cons.mpr ⟨lw_p45, List.forall_mem_cons.mpr ⟨lw_p46, List.forall_mem_cons.mpr ⟨lw_p47, fun _ h => absurd h List.not_mem_nil⟩⟩⟩⟩⟩⟩⟩⟩⟩⟩⟩⟩⟩⟩⟩⟩
theorem lw_p48 : lw_okq (⟨"RateGraphModel", "takeFrom", "(I)I"⟩, 25) := ⟨⟨by decide +kernel, by decide +kernel⟩, List.mem_of_getElem? (i := 350) (by decide +kernel), List.mem_of_getElem? (i := 498) (by decide +kernel), List.mem_of_getElem? (i := 499) (by decide +kernel)⟩
theorem lw_p49 : lw_okq (⟨"RateGraphModel", "cut", "(III)I"⟩, 25) := ⟨⟨by decide +kernel, by decide +kernel⟩, List.mem_of_getElem? (i := 350) (by decide +kernel), List.mem_of_getElem? (i := 518) (by decide +kernel), List.mem_of_getElem? (i := 519) (by decide +kernel)⟩
def lw_privs_4 : List (MethodName × Nat) := [(⟨"RateGraphModel", "takeFrom", "(I)I"⟩, 25), (⟨"RateGraphModel", "cut", "(III)I"⟩, 25)]
theorem lw_r4 : ∀ q ∈ lw_privs_4, lw_okq q := List.forall_mem_cons.mpr ⟨lw_p48, List.forall_mem_cons.mpr ⟨lw_p49, fun _ h => absurd h List.not_mem_nil⟩⟩
def lw_privs : List (MethodName × Nat) := lw_privs_1 ++ (lw_privs_2 ++ (lw_privs_3 ++ (lw_privs_4)))
def lw_tbl : List Cond := k2_sels lw_privs ++ tables_1
theorem lw_privs_ok : ∀ q ∈ lw_privs, lw_okq q := by
  show ∀ q ∈ lw_privs_1 ++ (lw_privs_2 ++ (lw_privs_3 ++ (lw_privs_4))), lw_okq q
  exact List.forall_mem_append.mpr ⟨lw_r1, List.forall_mem_append.mpr ⟨lw_r2, List.forall_mem_append.mpr ⟨lw_r3, lw_r4⟩⟩⟩
-- ===== end of PART A; then your names; then what follows =====
end
section
/-! the layer AW: a method's walk over a map from addresses to cells -/
abbrev AH : Type := Nat → Option va_E
def ah_set (h : AH) (a : Nat) (c : va_E) : AH := fun q => if q = a then some c else h q
theorem ah_same {h : AH} {a : Nat} {c : va_E} : ah_set h a c a = some c := by simp [ah_set]
theorem ah_ne {h : AH} {a q : Nat} {c : va_E} (hq : q ≠ a) : ah_set h a c q = h q := by simp [ah_set, hq]
/-- the map as a list of cells -/
def ah_cov (h : AH) (ws : va_W) : Prop := ∀ (a : Nat) (c : va_E), h a = some c ↔ ∃ k : Nat, ws[k]? = some (a, c)
/-- the heap holds the map's cells, and they lie in A -/
def XP (D : va_G) (cl : List vw_C) (A : Nat → Prop) (h : AH) (H : Heap) : Prop := ∃ ws : va_W, va_P D cl ws H ∧ va_D A ws ∧ ah_cov h ws
theorem ah_cov_set {A : Nat → Prop} {h : AH} {ws : va_W} (hc : ah_cov h ws) (hD : va_D A ws) {a k : Nat} {e e1 : va_E} (hk : ws[k]? = some (a, e)) : ah_cov (ah_set h a e1) (ws.set k (a, e1)) := by
  have hl := (List.getElem?_eq_some_iff.mp hk).1
  intro q c
  by_cases hq : q = a
  · subst hq
    rw [ah_same]
    constructor
    · intro h1
      cases h1
      exact ⟨k, List.getElem?_set_self hl⟩
    · rintro ⟨j, hj⟩
      by_cases hjk : j = k
      · subst hjk
        rw [List.getElem?_set_self hl] at hj
        cases hj
        rfl
      · rw [List.getElem?_set_ne (Ne.symm hjk)] at hj
        exact absurd (hD.1 j k _ _ hj hk rfl) hjk
  · rw [ah_ne hq, hc q c]
    constructor
    · rintro ⟨j, hj⟩
      have hjk : j ≠ k := by
        intro e2
        subst e2
        rw [hk] at hj
        cases hj
        exact hq rfl
      exact ⟨j, by rw [List.getElem?_set_ne (Ne.symm hjk)]; exact hj⟩
    · rintro ⟨j, hj⟩
      by_cases hjk : j = k
      · subst hjk
        rw [List.getElem?_set_self hl] at hj
        cases hj
        exact absurd rfl hq
      · rw [List.getElem?_set_ne (Ne.symm hjk)] at hj
        exact ⟨j, hj⟩
theorem ah_cov_push {A : Nat → Prop} {h : AH} {ws : va_W} (hc : ah_cov h ws) {a : Nat} {e1 : va_E} (hD : va_D A (ws ++ [(a, e1)])) : h a = none ∧ ah_cov (ah_set h a e1) (ws ++ [(a, e1)]) := by
  have hlast : (ws ++ [(a, e1)])[ws.length]? = some (a, e1) := by rw [List.getElem?_append_right (Nat.le_refl _), Nat.sub_self]; rfl
  have key : ∀ (j : Nat) (c : va_E), ws[j]? ≠ some (a, c) := by
    intro j c hj
    have hl := (List.getElem?_eq_some_iff.mp hj).1
    have h1 : (ws ++ [(a, e1)])[j]? = some (a, c) := by rw [List.getElem?_append_left hl]; exact hj
    have := hD.1 j ws.length _ _ h1 hlast rfl
    omega
  refine ⟨?_, ?_⟩
  · cases hh : h a with
    | none => rfl
    | some c =>
      obtain ⟨j, hj⟩ := (hc a c).mp hh
      exact absurd hj (key j c)
  · intro q c
    by_cases hq : q = a
    · subst hq
      rw [ah_same]
      constructor
      · intro h1
        cases h1
        exact ⟨_, hlast⟩
      · rintro ⟨j, hj⟩
        have h2 := hD.1 j ws.length _ _ hj hlast rfl
        subst h2
        rw [hlast] at hj
        cases hj
        rfl
    · rw [ah_ne hq, hc q c]
      constructor
      · rintro ⟨j, hj⟩
        exact ⟨j, by rw [List.getElem?_append_left (List.getElem?_eq_some_iff.mp hj).1]; exact hj⟩
      · rintro ⟨j, hj⟩
        by_cases hl : j < ws.length
        · rw [List.getElem?_append_left hl] at hj
          exact ⟨j, hj⟩
        · rw [List.getElem?_append_right (by omega)] at hj
          have hz : j - ws.length < 1 := (List.getElem?_eq_some_iff.mp hj).1
          rw [show j - ws.length = 0 by omega] at hj
          cases hj
          exact absurd rfl hq
/-- which cells a method may change: those of its map, and those that it makes -/
def ah_A (h : AH) (sz : Nat) : Nat → Prop := fun q => h q ≠ none ∨ sz ≤ q
theorem XP.weaken {D : va_G} {cl : List vw_C} {A B : Nat → Prop} {h : AH} {H : Heap} (hP : XP D cl A h H) (hAB : ∀ q, A q → B q) : XP D cl B h H := by
  obtain ⟨ws, h1, h2, h3⟩ := hP
  exact ⟨ws, h1, h2.weaken (fun _ _ _ hq => hAB _ hq), h3⟩
theorem XP.self {D : va_G} {cl : List vw_C} {A : Nat → Prop} {h : AH} {H : Heap} (hP : XP D cl A h H) (sz : Nat) : XP D cl (ah_A h sz) h H := by
  obtain ⟨ws, h1, h2, h3⟩ := hP
  refine ⟨ws, h1, ⟨h2.1, fun k q hk => Or.inl ?_⟩, h3⟩
  rw [(h3 q.1 q.2).mpr ⟨k, hk⟩]
  exact fun hn => by cases hn
theorem XP.in {D : va_G} {cl : List vw_C} {A : Nat → Prop} {h : AH} {H : Heap} (hP : XP D cl A h H) {q : Nat} (hq : h q ≠ none) : A q := by
  obtain ⟨ws, h1, h2, h3⟩ := hP
  cases hh : h q with
  | none => exact absurd hh hq
  | some c =>
    obtain ⟨k, hk⟩ := (h3 q c).mp hh
    exact h2.2 k _ hk
/-- what stays along a walk: program, env, start, method, arguments, frames below, its method, its code, region, end -/
abbrev CX : Type := Program × Env × State × MethodId × Array Value × List Frame × Method × Code × (Nat → Prop) × (State → Prop)
abbrev xp (X : CX) : Program := X.1
abbrev xe (X : CX) : Env := X.2.1
abbrev xs (X : CX) : State := X.2.2.1
abbrev xm (X : CX) : MethodId := X.2.2.2.1
abbrev xa (X : CX) : Array Value := X.2.2.2.2.1
abbrev xb (X : CX) : List Frame := X.2.2.2.2.2.1
abbrev xh (X : CX) : Method := X.2.2.2.2.2.2.1
abbrev xc (X : CX) : Code := X.2.2.2.2.2.2.2.1
abbrev xA (X : CX) : Nat → Prop := X.2.2.2.2.2.2.2.2.1
abbrev xQ (X : CX) : State → Prop := X.2.2.2.2.2.2.2.2.2
def AW (l : Launch) (D : va_G) (cl : List vw_C) (R : Room) (nL : Nat) (X : CX) (cells slots : Nat) (h : AH) (pc : Nat) (lv : List (Nat × Value)) (st : List Value) : Prop :=
  ∀ (H : Heap) (locs : List Loc) (ls : Array Slot), XP D cl (xA X) h H → va_S (xA X) (xs X).heap H locs → lv_has ls nL lv →
    W (xp X) l (xe X) R (xs X) (xm X) (xa X) (xb X) (xh X) (xc X) H locs cells slots (xQ X) (F0 (xm X) pc ls st)
/-- what a walk knows: its code, its own class's name, its words, the array classes -/
def Mx (D : va_G) (cl : List vw_C) (nL : Nat) (X : CX) (cc : ByteArray) (own : String) (Ts : List Cond) (tys : List (ClassId × FieldType)) : Prop :=
  (xp X).tables.exec = Jvm.exec ∧ (xc X).code = cc ∧ (xc X).maxLocals = nL ∧ (xs X).vm.findClass own = some (xm X).cls ∧ (∀ w ∈ Ts, w.before (xa X) (xs X) = true) ∧ va_K D cl tys (xs X) ∧ (xh X).locks = false ∧ ∀ q, (xs X).heap.size ≤ q → xA X q
/-- a method's end -/
def Qx (D : va_G) (cl : List vw_C) (A : Nat → Prop) (post : Option Value → AH → Prop) : Array Value → State → Outcome → State → Prop := fun _ st oc t => (∃ (r : Option Value) (h' : AH), oc = .returned r ∧ post r h' ∧ XP D cl A h' t.heap) ∧ va_F A st t
def Rx (D : va_G) (cl : List vw_C) (R : Room) (X : CX) (ret : Option FieldType) (post : Option Value → AH → Prop) : Prop :=
  xQ X = MQ (xb X) (Qx D cl (xA X) post) (xa X) (xs X) R.cells R.slots (xA X) ∧ (xh X).sig.returnType = ret
/-- a contract: from the map h with these arguments the method returns, with post -/
def AC (l : Launch) (D : va_G) (cl : List vw_C) (tys : List (ClassId × FieldType)) (y : MethodName) (ws : List Cond) (rm : Room) (av : List Value) (h : AH) (post : Option Value → AH → Prop) : Prop :=
  ∀ sz : Nat, Met l y ws rm (va_Pc av (fun U => U.heap.size = sz ∧ XP D cl (fun _ => True) h U.heap ∧ va_K D cl tys U)) (Qx D cl (ah_A h sz) post) rm.cells rm.slots (ah_A h sz)
section AX
variable {l : Launch} {D : va_G} {cl : List vw_C} {R : Room} {nL : Nat} {X : CX} {cc : ByteArray} {own : String} {Ts : List Cond} {tys : List (ClassId × FieldType)} {cells slots pc : Nat} {h : AH} {lv lv' : List (Nat × Value)} {rest : List Value}
theorem ax_iconst (M : Mx D cl nL X cc own Ts tys) {n : Int} {v : Int32} (d : decode cc pc = .ok (.iconst n, 1)) (hv : Int32.ofInt n = v) (k : AW l D cl R nL X cells slots h (pc + 1) lv (.int v :: rest)) : AW l D cl R nL X cells slots h pc lv (rest) := fun H locs ls hP hS hl => lv_iconst M.1 M.2.1 d hv (k H locs ls hP hS hl)
theorem ax_bipush (M : Mx D cl nL X cc own Ts tys) {n : Int} {v : Int32} (d : decode cc pc = .ok (.bipush n, 2)) (hv : (Int8.ofInt n).toInt32 = v) (k : AW l D cl R nL X cells slots h (pc + 2) lv (.int v :: rest)) : AW l D cl R nL X cells slots h pc lv (rest) := fun H locs ls hP hS hl => lv_bipush M.1 M.2.1 d hv (k H locs ls hP hS hl)
theorem ax_sipush (M : Mx D cl nL X cc own Ts tys) {n : Int} {v : Int32} (d : decode cc pc = .ok (.sipush n, 3)) (hv : (Int16.ofInt n).toInt32 = v) (k : AW l D cl R nL X cells slots h (pc + 3) lv (.int v :: rest)) : AW l D cl R nL X cells slots h pc lv (rest) := fun H locs ls hP hS hl => lv_sipush M.1 M.2.1 d hv (k H locs ls hP hS hl)
theorem ax_lconst (M : Mx D cl nL X cc own Ts tys) {n : Fin 2} {v : Int64} (d : decode cc pc = .ok (.lconst n, 1)) (hv : Int64.ofNat (n : Nat) = v) (k : AW l D cl R nL X cells slots h (pc + 1) lv (.long v :: rest)) : AW l D cl R nL X cells slots h pc lv (rest) := fun H locs ls hP hS hl => lv_lconst M.1 M.2.1 d hv (k H locs ls hP hS hl)
theorem ax_iload_n (M : Mx D cl nL X cc own Ts tys) {kf : Fin 4} {x : Int32} (d : decode cc pc = .ok (.iload_n kf, 1)) (j : Nat) (hj : lv[j]? = some ((kf : Nat), .int x)) (k : AW l D cl R nL X cells slots h (pc + 1) lv (.int x :: rest)) : AW l D cl R nL X cells slots h pc lv rest := fun H locs ls hP hS hl => lv_iload_n M.1 M.2.1 d rfl (lv_at hl j hj) (k H locs ls hP hS hl)
theorem ax_iload (M : Mx D cl nL X cc own Ts tys) {i : Nat} {x : Int32} (d : decode cc pc = .ok (.iload i, 2)) (j : Nat) (hj : lv[j]? = some (i, .int x)) (k : AW l D cl R nL X cells slots h (pc + 2) lv (.int x :: rest)) : AW l D cl R nL X cells slots h pc lv rest := fun H locs ls hP hS hl => lv_iload M.1 M.2.1 d (lv_at hl j hj) (k H locs ls hP hS hl)
theorem ax_lload_n (M : Mx D cl nL X cc own Ts tys) {kf : Fin 4} {x : Int64} (d : decode cc pc = .ok (.lload_n kf, 1)) (j : Nat) (hj : lv[j]? = some ((kf : Nat), .long x)) (k : AW l D cl R nL X cells slots h (pc + 1) lv (.long x :: rest)) : AW l D cl R nL X cells slots h pc lv rest := fun H locs ls hP hS hl => lv_lload_n M.1 M.2.1 d rfl (lv_at hl j hj) (k H locs ls hP hS hl)
theorem ax_lload (M : Mx D cl nL X cc own Ts tys) {i : Nat} {x : Int64} (d : decode cc pc = .ok (.lload i, 2)) (j : Nat) (hj : lv[j]? = some (i, .long x)) (k : AW l D cl R nL X cells slots h (pc + 2) lv (.long x :: rest)) : AW l D cl R nL X cells slots h pc lv rest := fun H locs ls hP hS hl => lv_lload M.1 M.2.1 d (lv_at hl j hj) (k H locs ls hP hS hl)
theorem ax_aload_n (M : Mx D cl nL X cc own Ts tys) {kf : Fin 4} {x : Nat} (d : decode cc pc = .ok (.aload_n kf, 1)) (j : Nat) (hj : lv[j]? = some ((kf : Nat), .ref x)) (k : AW l D cl R nL X cells slots h (pc + 1) lv (.ref x :: rest)) : AW l D cl R nL X cells slots h pc lv rest := fun H locs ls hP hS hl => lv_aload_n M.1 M.2.1 d rfl (lv_at hl j hj) (k H locs ls hP hS hl)
theorem ax_aload (M : Mx D cl nL X cc own Ts tys) {i : Nat} {x : Nat} (d : decode cc pc = .ok (.aload i, 2)) (j : Nat) (hj : lv[j]? = some (i, .ref x)) (k : AW l D cl R nL X cells slots h (pc + 2) lv (.ref x :: rest)) : AW l D cl R nL X cells slots h pc lv rest := fun H locs ls hP hS hl => lv_aload M.1 M.2.1 d (lv_at hl j hj) (k H locs ls hP hS hl)
theorem ax_istore_n (M : Mx D cl nL X cc own Ts tys) {kf : Fin 4} {x : Int32} (d : decode cc pc = .ok (.istore_n kf, 1)) (hn : (kf : Nat) < nL) (js : List Nat) (hl' : lv_pick (((kf : Nat), Value.int x) :: lv.filter (fun q => !(q.1 == (kf : Nat)) && !(q.1 + 1 == (kf : Nat) && q.2.category == 2))) js = lv') (k : AW l D cl R nL X cells slots h (pc + 1) lv' rest) : AW l D cl R nL X cells slots h pc lv (.int x :: rest) := fun H locs ls hP hS hl => lv_istore_n M.1 M.2.1 d rfl hl hn rfl (fun ls' hl2 => k H locs ls' hP hS (lv_sub hl2 js hl'))
theorem ax_istore (M : Mx D cl nL X cc own Ts tys) {i : Nat} {x : Int32} (d : decode cc pc = .ok (.istore i, 2)) (hn : i < nL) (js : List Nat) (hl' : lv_pick ((i, Value.int x) :: lv.filter (fun q => !(q.1 == i) && !(q.1 + 1 == i && q.2.category == 2))) js = lv') (k : AW l D cl R nL X cells slots h (pc + 2) lv' rest) : AW l D cl R nL X cells slots h pc lv (.int x :: rest) := fun H locs ls hP hS hl => lv_istore M.1 M.2.1 d hl hn rfl (fun ls' hl2 => k H locs ls' hP hS (lv_sub hl2 js hl'))
theorem ax_astore_n (M : Mx D cl nL X cc own Ts tys) {kf : Fin 4} {x : Nat} (d : decode cc pc = .ok (.astore_n kf, 1)) (hn : (kf : Nat) < nL) (js : List Nat) (hl' : lv_pick (((kf : Nat), Value.ref x) :: lv.filter (fun q => !(q.1 == (kf : Nat)) && !(q.1 + 1 == (kf : Nat) && q.2.category == 2))) js = lv') (k : AW l D cl R nL X cells slots h (pc + 1) lv' rest) : AW l D cl R nL X cells slots h pc lv (.ref x :: rest) := fun H locs ls hP hS hl => lv_astore_n M.1 M.2.1 d rfl hl hn rfl (fun ls' hl2 => k H locs ls' hP hS (lv_sub hl2 js hl'))
theorem ax_astore (M : Mx D cl nL X cc own Ts tys) {i : Nat} {x : Nat} (d : decode cc pc = .ok (.astore i, 2)) (hn : i < nL) (js : List Nat) (hl' : lv_pick ((i, Value.ref x) :: lv.filter (fun q => !(q.1 == i) && !(q.1 + 1 == i && q.2.category == 2))) js = lv') (k : AW l D cl R nL X cells slots h (pc + 2) lv' rest) : AW l D cl R nL X cells slots h pc lv (.ref x :: rest) := fun H locs ls hP hS hl => lv_astore M.1 M.2.1 d hl hn rfl (fun ls' hl2 => k H locs ls' hP hS (lv_sub hl2 js hl'))
theorem ax_lstore_n (M : Mx D cl nL X cc own Ts tys) {kf : Fin 4} {x : Int64} (d : decode cc pc = .ok (.lstore_n kf, 1)) (hn : (kf : Nat) + 1 < nL) (js : List Nat) (hl' : lv_pick (((kf : Nat), Value.long x) :: lv.filter (fun q => !(q.1 == (kf : Nat)) && (!(q.1 == (kf : Nat) + 1) && !(q.1 + 1 == (kf : Nat) && q.2.category == 2)))) js = lv') (k : AW l D cl R nL X cells slots h (pc + 1) lv' rest) : AW l D cl R nL X cells slots h pc lv (.long x :: rest) := fun H locs ls hP hS hl => lv_lstore_n M.1 M.2.1 d rfl hl hn rfl (fun ls' hl2 => k H locs ls' hP hS (lv_sub hl2 js hl'))
theorem ax_lstore (M : Mx D cl nL X cc own Ts tys) {i : Nat} {x : Int64} (d : decode cc pc = .ok (.lstore i, 2)) (hn : i + 1 < nL) (js : List Nat) (hl' : lv_pick ((i, Value.long x) :: lv.filter (fun q => !(q.1 == i) && (!(q.1 == i + 1) && !(q.1 + 1 == i && q.2.category == 2)))) js = lv') (k : AW l D cl R nL X cells slots h (pc + 2) lv' rest) : AW l D cl R nL X cells slots h pc lv (.long x :: rest) := fun H locs ls hP hS hl => lv_lstore M.1 M.2.1 d hl hn rfl (fun ls' hl2 => k H locs ls' hP hS (lv_sub hl2 js hl'))
theorem ax_iinc (M : Mx D cl nL X cc own Ts tys) {i : Nat} {n : Int} {x v : Int32} (d : decode cc pc = .ok (.iinc i n, 3)) (j : Nat) (hj : lv[j]? = some (i, .int x)) (hv : x + Int32.ofInt n = v) (hn : i < nL) (js : List Nat) (hl' : lv_pick ((i, Value.int v) :: lv.filter (fun q => !(q.1 == i) && !(q.1 + 1 == i && q.2.category == 2))) js = lv') (k : AW l D cl R nL X cells slots h (pc + 3) lv' rest) : AW l D cl R nL X cells slots h pc lv rest := fun H locs ls hP hS hl => lv_iinc M.1 M.2.1 d hl hj hv hn rfl (fun ls' hl2 => k H locs ls' hP hS (lv_sub hl2 js hl'))
theorem ax_lv (js : List Nat) (hl' : lv_pick lv js = lv') (k : AW l D cl R nL X cells slots h pc lv' rest) : AW l D cl R nL X cells slots h pc lv rest := fun H locs ls hP hS hl => k H locs ls hP hS (lv_sub hl js hl')
theorem ax_topi {x : Int32} (y : Int32) (e : x = y) (k : AW l D cl R nL X cells slots h pc lv (.int y :: rest)) : AW l D cl R nL X cells slots h pc lv (.int x :: rest) := by rw [e]; exact k
theorem ax_topr {x y : Nat} (e : x = y) (k : AW l D cl R nL X cells slots h pc lv (.ref y :: rest)) : AW l D cl R nL X cells slots h pc lv (.ref x :: rest) := by rw [e]; exact k
theorem ax_widen {a b : Nat} (h1 : cells ≤ a) (h2 : slots ≤ b) (k : AW l D cl R nL X a b h pc lv rest) : AW l D cl R nL X cells slots h pc lv rest := fun H locs ls hP hS hl => W.widen h1 h2 (k H locs ls hP hS hl)
theorem ax_iadd (M : Mx D cl nL X cc own Ts tys) {x y : Int32} (d : decode cc pc = .ok (.iadd, 1))  (k : AW l D cl R nL X cells slots h (pc + 1) lv (.int (x + y) :: rest)) : AW l D cl R nL X cells slots h pc lv (.int y :: .int x :: rest) := fun H locs ls hP hS hl => lv_iadd M.1 M.2.1 d (k H locs ls hP hS hl)
theorem ax_isub (M : Mx D cl nL X cc own Ts tys) {x y : Int32} (d : decode cc pc = .ok (.isub, 1))  (k : AW l D cl R nL X cells slots h (pc + 1) lv (.int (x - y) :: rest)) : AW l D cl R nL X cells slots h pc lv (.int y :: .int x :: rest) := fun H locs ls hP hS hl => lv_isub M.1 M.2.1 d (k H locs ls hP hS hl)
theorem ax_imul (M : Mx D cl nL X cc own Ts tys) {x y : Int32} (d : decode cc pc = .ok (.imul, 1))  (k : AW l D cl R nL X cells slots h (pc + 1) lv (.int (x * y) :: rest)) : AW l D cl R nL X cells slots h pc lv (.int y :: .int x :: rest) := fun H locs ls hP hS hl => lv_imul M.1 M.2.1 d (k H locs ls hP hS hl)
theorem ax_iand (M : Mx D cl nL X cc own Ts tys) {x y : Int32} (d : decode cc pc = .ok (.iand, 1))  (k : AW l D cl R nL X cells slots h (pc + 1) lv (.int (x &&& y) :: rest)) : AW l D cl R nL X cells slots h pc lv (.int y :: .int x :: rest) := fun H locs ls hP hS hl => lv_iand M.1 M.2.1 d (k H locs ls hP hS hl)
theorem ax_ior (M : Mx D cl nL X cc own Ts tys) {x y : Int32} (d : decode cc pc = .ok (.ior, 1))  (k : AW l D cl R nL X cells slots h (pc + 1) lv (.int (x ||| y) :: rest)) : AW l D cl R nL X cells slots h pc lv (.int y :: .int x :: rest) := fun H locs ls hP hS hl => lv_ior M.1 M.2.1 d (k H locs ls hP hS hl)
theorem ax_ixor (M : Mx D cl nL X cc own Ts tys) {x y : Int32} (d : decode cc pc = .ok (.ixor, 1))  (k : AW l D cl R nL X cells slots h (pc + 1) lv (.int (x ^^^ y) :: rest)) : AW l D cl R nL X cells slots h pc lv (.int y :: .int x :: rest) := fun H locs ls hP hS hl => lv_ixor M.1 M.2.1 d (k H locs ls hP hS hl)
theorem ax_idiv (M : Mx D cl nL X cc own Ts tys) {x y : Int32} (d : decode cc pc = .ok (.idiv, 1)) (hne : ¬ y = 0) (k : AW l D cl R nL X cells slots h (pc + 1) lv (.int (x / y) :: rest)) : AW l D cl R nL X cells slots h pc lv (.int y :: .int x :: rest) := fun H locs ls hP hS hl => lv_idiv M.1 M.2.1 d hne (k H locs ls hP hS hl)
theorem ax_irem (M : Mx D cl nL X cc own Ts tys) {x y : Int32} (d : decode cc pc = .ok (.irem, 1)) (hne : ¬ y = 0) (k : AW l D cl R nL X cells slots h (pc + 1) lv (.int (x - x / y * y) :: rest)) : AW l D cl R nL X cells slots h pc lv (.int y :: .int x :: rest) := fun H locs ls hP hS hl => lv_irem M.1 M.2.1 d hne (k H locs ls hP hS hl)
theorem ax_ineg (M : Mx D cl nL X cc own Ts tys) {x : Int32} (d : decode cc pc = .ok (.ineg, 1))  (k : AW l D cl R nL X cells slots h (pc + 1) lv (.int (-x) :: rest)) : AW l D cl R nL X cells slots h pc lv (.int x :: rest) := fun H locs ls hP hS hl => lv_ineg M.1 M.2.1 d (k H locs ls hP hS hl)
theorem ax_ladd (M : Mx D cl nL X cc own Ts tys) {x y : Int64} (d : decode cc pc = .ok (.ladd, 1))  (k : AW l D cl R nL X cells slots h (pc + 1) lv (.long (x + y) :: rest)) : AW l D cl R nL X cells slots h pc lv (.long y :: .long x :: rest) := fun H locs ls hP hS hl => lv_ladd M.1 M.2.1 d (k H locs ls hP hS hl)
theorem ax_lsub (M : Mx D cl nL X cc own Ts tys) {x y : Int64} (d : decode cc pc = .ok (.lsub, 1))  (k : AW l D cl R nL X cells slots h (pc + 1) lv (.long (x - y) :: rest)) : AW l D cl R nL X cells slots h pc lv (.long y :: .long x :: rest) := fun H locs ls hP hS hl => lv_lsub M.1 M.2.1 d (k H locs ls hP hS hl)
theorem ax_lmul (M : Mx D cl nL X cc own Ts tys) {x y : Int64} (d : decode cc pc = .ok (.lmul, 1))  (k : AW l D cl R nL X cells slots h (pc + 1) lv (.long (x * y) :: rest)) : AW l D cl R nL X cells slots h pc lv (.long y :: .long x :: rest) := fun H locs ls hP hS hl => lv_lmul M.1 M.2.1 d (k H locs ls hP hS hl)
theorem ax_land (M : Mx D cl nL X cc own Ts tys) {x y : Int64} (d : decode cc pc = .ok (.land, 1))  (k : AW l D cl R nL X cells slots h (pc + 1) lv (.long (x &&& y) :: rest)) : AW l D cl R nL X cells slots h pc lv (.long y :: .long x :: rest) := fun H locs ls hP hS hl => lv_land M.1 M.2.1 d (k H locs ls hP hS hl)
theorem ax_ldiv (M : Mx D cl nL X cc own Ts tys) {x y : Int64} (d : decode cc pc = .ok (.ldiv, 1)) (hne : ¬ y = 0) (k : AW l D cl R nL X cells slots h (pc + 1) lv (.long (x / y) :: rest)) : AW l D cl R nL X cells slots h pc lv (.long y :: .long x :: rest) := fun H locs ls hP hS hl => lv_ldiv M.1 M.2.1 d hne (k H locs ls hP hS hl)
theorem ax_lrem (M : Mx D cl nL X cc own Ts tys) {x y : Int64} (d : decode cc pc = .ok (.lrem, 1)) (hne : ¬ y = 0) (k : AW l D cl R nL X cells slots h (pc + 1) lv (.long (x - x / y * y) :: rest)) : AW l D cl R nL X cells slots h pc lv (.long y :: .long x :: rest) := fun H locs ls hP hS hl => lv_lrem M.1 M.2.1 d hne (k H locs ls hP hS hl)
theorem ax_i2l (M : Mx D cl nL X cc own Ts tys) {x : Int32} {v : Int64} (d : decode cc pc = .ok (.i2l, 1)) (hv : x.toInt64 = v) (k : AW l D cl R nL X cells slots h (pc + 1) lv (.long v :: rest)) : AW l D cl R nL X cells slots h pc lv (.int x :: rest) := fun H locs ls hP hS hl => lv_i2l M.1 M.2.1 d hv (k H locs ls hP hS hl)
theorem ax_l2i (M : Mx D cl nL X cc own Ts tys) {x : Int64} {v : Int32} (d : decode cc pc = .ok (.l2i, 1)) (hv : x.toInt32 = v) (k : AW l D cl R nL X cells slots h (pc + 1) lv (.int v :: rest)) : AW l D cl R nL X cells slots h pc lv (.long x :: rest) := fun H locs ls hP hS hl => lv_l2i M.1 M.2.1 d hv (k H locs ls hP hS hl)
theorem ax_dup (M : Mx D cl nL X cc own Ts tys) {va : Value} (d : decode cc pc = .ok (.dup, 1)) (hva : va.category = 1) (k : AW l D cl R nL X cells slots h (pc + 1) lv (va :: va :: rest)) : AW l D cl R nL X cells slots h pc lv (va :: rest) := fun H locs ls hP hS hl => lv_dup M.1 M.2.1 d hva (k H locs ls hP hS hl)
theorem ax_pop (M : Mx D cl nL X cc own Ts tys) {va : Value} (d : decode cc pc = .ok (.pop, 1)) (hva : va.category = 1) (k : AW l D cl R nL X cells slots h (pc + 1) lv (rest)) : AW l D cl R nL X cells slots h pc lv (va :: rest) := fun H locs ls hP hS hl => lv_pop M.1 M.2.1 d hva (k H locs ls hP hS hl)
theorem ax_lcmp (M : Mx D cl nL X cc own Ts tys) {x y : Int64} (d : decode cc pc = .ok (.lcmp, 1))  (k : AW l D cl R nL X cells slots h (pc + 1) lv (.int (lg_cmp x y) :: rest)) : AW l D cl R nL X cells slots h pc lv (.long y :: .long x :: rest) := fun H locs ls hP hS hl => W.lcmp M.1 M.2.1 d (k H locs ls hP hS hl)
theorem ax_dup2_2 (M : Mx D cl nL X cc own Ts tys) {va : Value} (d : decode cc pc = .ok (.dup2, 1)) (hva : va.category = 2) (k : AW l D cl R nL X cells slots h (pc + 1) lv (va :: va :: rest)) : AW l D cl R nL X cells slots h pc lv (va :: rest) := fun H locs ls hP hS hl => lv_dup2_2 M.1 M.2.1 d hva (k H locs ls hP hS hl)
theorem ax_dup2_x2_2 (M : Mx D cl nL X cc own Ts tys) {va vb vd : Value} (d : decode cc pc = .ok (.dup2_x2, 1)) (hva : va.category = 2) (hvb : vb.category = 1) (hvd : vd.category = 1) (k : AW l D cl R nL X cells slots h (pc + 1) lv (va :: vb :: vd :: va :: rest)) : AW l D cl R nL X cells slots h pc lv (va :: vb :: vd :: rest) := fun H locs ls hP hS hl => lv_dup2_x2_2 M.1 M.2.1 d hva hvb hvd (k H locs ls hP hS hl)
theorem ax_dup_x1 (M : Mx D cl nL X cc own Ts tys) {va vb : Value} (d : decode cc pc = .ok (.dup_x1, 1)) (hva : va.category = 1) (hvb : vb.category = 1) (k : AW l D cl R nL X cells slots h (pc + 1) lv (va :: vb :: va :: rest)) : AW l D cl R nL X cells slots h pc lv (va :: vb :: rest) := fun H locs ls hP hS hl => lv_dup_x1 M.1 M.2.1 d hva hvb (k H locs ls hP hS hl)
theorem ax_dup_x2 (M : Mx D cl nL X cc own Ts tys) {va vb vd : Value} (d : decode cc pc = .ok (.dup_x2, 1)) (hva : va.category = 1) (hvb : vb.category = 1) (hvd : vd.category = 1) (k : AW l D cl R nL X cells slots h (pc + 1) lv (va :: vb :: vd :: va :: rest)) : AW l D cl R nL X cells slots h pc lv (va :: vb :: vd :: rest) := fun H locs ls hP hS hl => lv_dup_x2 M.1 M.2.1 d hva hvb hvd (k H locs ls hP hS hl)
theorem ax_dup2 (M : Mx D cl nL X cc own Ts tys) {va vb : Value} (d : decode cc pc = .ok (.dup2, 1)) (hva : va.category = 1) (hvb : vb.category = 1) (k : AW l D cl R nL X cells slots h (pc + 1) lv (va :: vb :: va :: vb :: rest)) : AW l D cl R nL X cells slots h pc lv (va :: vb :: rest) := fun H locs ls hP hS hl => lv_dup2_11 M.1 M.2.1 d hva hvb (k H locs ls hP hS hl)
theorem ax_if_eq (M : Mx D cl nL X cc own Ts tys) {x : Int32} {off : Int} {tgt : Nat} (d : decode cc pc = .ok (.ifCond .eq off, 3)) (ht : (pc : Int) + off = (tgt : Int)) (kt : x = 0 → AW l D cl R nL X cells slots h tgt lv rest) (kf : ¬ x = 0 → AW l D cl R nL X cells slots h (pc + 3) lv rest) : AW l D cl R nL X cells slots h pc lv (.int x :: rest) := fun H locs ls hP hS hl => lv_if_eq M.1 M.2.1 d ht (fun z => kt z H locs ls hP hS hl) (fun z => kf z H locs ls hP hS hl)
theorem ax_icmp_eq (M : Mx D cl nL X cc own Ts tys) {x y : Int32} {off : Int} {tgt : Nat} (d : decode cc pc = .ok (.if_icmp .eq off, 3)) (ht : (pc : Int) + off = (tgt : Int)) (kt : x = y → AW l D cl R nL X cells slots h tgt lv rest) (kf : ¬ x = y → AW l D cl R nL X cells slots h (pc + 3) lv rest) : AW l D cl R nL X cells slots h pc lv (.int y :: .int x :: rest) := fun H locs ls hP hS hl => lv_icmp_eq M.1 M.2.1 d ht (fun z => kt z H locs ls hP hS hl) (fun z => kf z H locs ls hP hS hl)
theorem ax_if_lt (M : Mx D cl nL X cc own Ts tys) {x : Int32} {off : Int} {tgt : Nat} (d : decode cc pc = .ok (.ifCond .lt off, 3)) (ht : (pc : Int) + off = (tgt : Int)) (kt : x < 0 → AW l D cl R nL X cells slots h tgt lv rest) (kf : ¬ x < 0 → AW l D cl R nL X cells slots h (pc + 3) lv rest) : AW l D cl R nL X cells slots h pc lv (.int x :: rest) := fun H locs ls hP hS hl => lv_if_lt M.1 M.2.1 d ht (fun z => kt z H locs ls hP hS hl) (fun z => kf z H locs ls hP hS hl)
theorem ax_icmp_lt (M : Mx D cl nL X cc own Ts tys) {x y : Int32} {off : Int} {tgt : Nat} (d : decode cc pc = .ok (.if_icmp .lt off, 3)) (ht : (pc : Int) + off = (tgt : Int)) (kt : x < y → AW l D cl R nL X cells slots h tgt lv rest) (kf : ¬ x < y → AW l D cl R nL X cells slots h (pc + 3) lv rest) : AW l D cl R nL X cells slots h pc lv (.int y :: .int x :: rest) := fun H locs ls hP hS hl => lv_icmp_lt M.1 M.2.1 d ht (fun z => kt z H locs ls hP hS hl) (fun z => kf z H locs ls hP hS hl)
theorem ax_if_ge (M : Mx D cl nL X cc own Ts tys) {x : Int32} {off : Int} {tgt : Nat} (d : decode cc pc = .ok (.ifCond .ge off, 3)) (ht : (pc : Int) + off = (tgt : Int)) (kt : 0 ≤ x → AW l D cl R nL X cells slots h tgt lv rest) (kf : ¬ 0 ≤ x → AW l D cl R nL X cells slots h (pc + 3) lv rest) : AW l D cl R nL X cells slots h pc lv (.int x :: rest) := fun H locs ls hP hS hl => lv_if_ge M.1 M.2.1 d ht (fun z => kt z H locs ls hP hS hl) (fun z => kf z H locs ls hP hS hl)
theorem ax_icmp_ge (M : Mx D cl nL X cc own Ts tys) {x y : Int32} {off : Int} {tgt : Nat} (d : decode cc pc = .ok (.if_icmp .ge off, 3)) (ht : (pc : Int) + off = (tgt : Int)) (kt : y ≤ x → AW l D cl R nL X cells slots h tgt lv rest) (kf : ¬ y ≤ x → AW l D cl R nL X cells slots h (pc + 3) lv rest) : AW l D cl R nL X cells slots h pc lv (.int y :: .int x :: rest) := fun H locs ls hP hS hl => lv_icmp_ge M.1 M.2.1 d ht (fun z => kt z H locs ls hP hS hl) (fun z => kf z H locs ls hP hS hl)
theorem ax_if_gt (M : Mx D cl nL X cc own Ts tys) {x : Int32} {off : Int} {tgt : Nat} (d : decode cc pc = .ok (.ifCond .gt off, 3)) (ht : (pc : Int) + off = (tgt : Int)) (kt : 0 < x → AW l D cl R nL X cells slots h tgt lv rest) (kf : ¬ 0 < x → AW l D cl R nL X cells slots h (pc + 3) lv rest) : AW l D cl R nL X cells slots h pc lv (.int x :: rest) := fun H locs ls hP hS hl => lv_if_gt M.1 M.2.1 d ht (fun z => kt z H locs ls hP hS hl) (fun z => kf z H locs ls hP hS hl)
theorem ax_icmp_gt (M : Mx D cl nL X cc own Ts tys) {x y : Int32} {off : Int} {tgt : Nat} (d : decode cc pc = .ok (.if_icmp .gt off, 3)) (ht : (pc : Int) + off = (tgt : Int)) (kt : y < x → AW l D cl R nL X cells slots h tgt lv rest) (kf : ¬ y < x → AW l D cl R nL X cells slots h (pc + 3) lv rest) : AW l D cl R nL X cells slots h pc lv (.int y :: .int x :: rest) := fun H locs ls hP hS hl => lv_icmp_gt M.1 M.2.1 d ht (fun z => kt z H locs ls hP hS hl) (fun z => kf z H locs ls hP hS hl)
theorem ax_if_le (M : Mx D cl nL X cc own Ts tys) {x : Int32} {off : Int} {tgt : Nat} (d : decode cc pc = .ok (.ifCond .le off, 3)) (ht : (pc : Int) + off = (tgt : Int)) (kt : x ≤ 0 → AW l D cl R nL X cells slots h tgt lv rest) (kf : ¬ x ≤ 0 → AW l D cl R nL X cells slots h (pc + 3) lv rest) : AW l D cl R nL X cells slots h pc lv (.int x :: rest) := fun H locs ls hP hS hl => lv_if_le M.1 M.2.1 d ht (fun z => kt z H locs ls hP hS hl) (fun z => kf z H locs ls hP hS hl)
theorem ax_icmp_le (M : Mx D cl nL X cc own Ts tys) {x y : Int32} {off : Int} {tgt : Nat} (d : decode cc pc = .ok (.if_icmp .le off, 3)) (ht : (pc : Int) + off = (tgt : Int)) (kt : x ≤ y → AW l D cl R nL X cells slots h tgt lv rest) (kf : ¬ x ≤ y → AW l D cl R nL X cells slots h (pc + 3) lv rest) : AW l D cl R nL X cells slots h pc lv (.int y :: .int x :: rest) := fun H locs ls hP hS hl => lv_icmp_le M.1 M.2.1 d ht (fun z => kt z H locs ls hP hS hl) (fun z => kf z H locs ls hP hS hl)
theorem ax_if_ne (M : Mx D cl nL X cc own Ts tys) {x : Int32} {off : Int} {tgt : Nat} (d : decode cc pc = .ok (.ifCond .ne off, 3)) (ht : (pc : Int) + off = (tgt : Int)) (kt : ¬ x = 0 → AW l D cl R nL X cells slots h tgt lv rest) (kf : x = 0 → AW l D cl R nL X cells slots h (pc + 3) lv rest) : AW l D cl R nL X cells slots h pc lv (.int x :: rest) := fun H locs ls hP hS hl => lv_if_ne M.1 M.2.1 d ht (fun z => kt z H locs ls hP hS hl) (fun z => kf z H locs ls hP hS hl)
theorem ax_icmp_ne (M : Mx D cl nL X cc own Ts tys) {x y : Int32} {off : Int} {tgt : Nat} (d : decode cc pc = .ok (.if_icmp .ne off, 3)) (ht : (pc : Int) + off = (tgt : Int)) (kt : ¬ x = y → AW l D cl R nL X cells slots h tgt lv rest) (kf : x = y → AW l D cl R nL X cells slots h (pc + 3) lv rest) : AW l D cl R nL X cells slots h pc lv (.int y :: .int x :: rest) := fun H locs ls hP hS hl => lv_icmp_ne M.1 M.2.1 d ht (fun z => kt z H locs ls hP hS hl) (fun z => kf z H locs ls hP hS hl)
theorem ax_goto (M : Mx D cl nL X cc own Ts tys) {off : Int} {tgt : Nat} (d : decode cc pc = .ok (.goto off, 3)) (ht : (pc : Int) + off = (tgt : Int)) (k : AW l D cl R nL X cells slots h tgt lv rest) : AW l D cl R nL X cells slots h pc lv rest := fun H locs ls hP hS hl => lv_goto M.1 M.2.1 d ht (k H locs ls hP hS hl)
theorem ax_tableOut (M : Mx D cl nL X cc own Ts tys) {dflt lo hi : Int} {offs : Array Int} {len : Nat} {x : Int32} {tgt : Nat} (d : decode cc pc = .ok (.tableswitch dflt lo hi offs, len)) (hx : x.toInt < lo ∨ hi < x.toInt) (ht : (pc : Int) + dflt = (tgt : Int)) (k : AW l D cl R nL X cells slots h tgt lv rest) : AW l D cl R nL X cells slots h pc lv (.int x :: rest) := fun H locs ls hP hS hl => lv_tableOut M.1 M.2.1 d hx ht (k H locs ls hP hS hl)
theorem ax_tableIn (M : Mx D cl nL X cc own Ts tys) {dflt lo hi : Int} {offs : Array Int} {len : Nat} {x : Int32} {off : Int} {tgt : Nat} (d : decode cc pc = .ok (.tableswitch dflt lo hi offs, len)) (h1 : ¬ x.toInt < lo) (h2 : ¬ hi < x.toInt) (ho : offs[(x.toInt - lo).toNat]? = some off) (ht : (pc : Int) + off = (tgt : Int)) (k : AW l D cl R nL X cells slots h tgt lv rest) : AW l D cl R nL X cells slots h pc lv (.int x :: rest) := fun H locs ls hP hS hl => lv_tableIn M.1 M.2.1 d h1 h2 ho ht (k H locs ls hP hS hl)
theorem ax_lookup (M : Mx D cl nL X cc own Ts tys) {dflt : Int} {ps : Array (Int × Int)} {len : Nat} {x : Int32} {off : Int} {tgt : Nat} (d : decode cc pc = .ok (.lookupswitch dflt ps, len)) (hp : (ps.toList.zip (ps.toList.drop 1)).all (fun (a, next) => a.1 < next.1) = true) (ho : Op.lookupswitch.offset ps.toList dflt x.toInt = off) (ht : (pc : Int) + off = (tgt : Int)) (k : AW l D cl R nL X cells slots h tgt lv rest) : AW l D cl R nL X cells slots h pc lv (.int x :: rest) := fun H locs ls hP hS hl => lv_lookup M.1 M.2.1 d hp ho ht (k H locs ls hP hS hl)
theorem ax_ldc (M : Mx D cl nL X cc own Ts tys) {index : Nat} {v : Int32} (hc : Jvm.Cond.constant own index v ∈ Ts) (d : decode cc pc = .ok (.ldc index, 2)) (k : AW l D cl R nL X cells slots h (pc + 2) lv (.int v :: rest)) : AW l D cl R nL X cells slots h pc lv rest := fun H locs ls hP hS hl => lv_ldc M.1 M.2.1 M.2.2.2.1 (M.2.2.2.2.1 _ hc) d (k H locs ls hP hS hl)
theorem ax_ldc2 (M : Mx D cl nL X cc own Ts tys) {index : Nat} {v : Int64} (hc : Jvm.Cond.constantLong own index v ∈ Ts) (d : decode cc pc = .ok (.ldc2_w index, 3)) (k : AW l D cl R nL X cells slots h (pc + 3) lv (.long v :: rest)) : AW l D cl R nL X cells slots h pc lv rest := fun H locs ls hP hS hl => lv_ldc2 M.1 M.2.1 M.2.2.2.1 (M.2.2.2.2.1 _ hc) d (k H locs ls hP hS hl)
/-- fields: of the own class, of a nest mate's -/
theorem ax_get (M : Mx D cl nL X cc own Ts tys) {C : String} {T : u_T} {N ci index a : Nat} (hin : ∀ w ∈ u_ws C T N, w ∈ Ts) {fs : List Value} (ha : h a = some (.inr (ci, fs))) (hc : cl[ci]? = some (C, T, N)) (k0 : Nat) (hk : k0 < N) (hlink : Cond.fieldLink own index (T k0).1 (T k0).2.1 (T k0).2.2.1 ∈ Ts) {v : Value} (hv : fs[k0]? = some v) (d : decode cc pc = .ok (.getfield index, 3)) (k : AW l D cl R nL X cells slots h (pc + 3) lv (v :: rest)) : AW l D cl R nL X cells slots h pc lv (.ref a :: rest) := fun H locs ls hP hS hl => by
  obtain ⟨ws, h1, h2, h3⟩ := id hP
  obtain ⟨q, hq⟩ := (h3 _ _).mp ha
  exact va_get M.1 M.2.1 M.2.2.2.2.1 hin M.2.2.2.1 M.2.2.2.2.2.1 h1 q hq hc k0 hk (M.2.2.2.2.1 _ hlink) (fun _ h9 => h9) hv d (k H locs ls hP hS hl)
theorem ax_getN (M : Mx D cl nL X cc own Ts tys) {C host : String} {T : u_T} {N ci index a : Nat} (hin : ∀ w ∈ u_ws C T N, w ∈ Ts) {fs : List Value} (ha : h a = some (.inr (ci, fs))) (hc : cl[ci]? = some (C, T, N)) (k0 : Nat) (hk : k0 < N) (hlink : Cond.fieldLinkNest own index (T k0).1 (T k0).2.1 (T k0).2.2.1 host ∈ Ts) {v : Value} (hv : fs[k0]? = some v) (d : decode cc pc = .ok (.getfield index, 3)) (k : AW l D cl R nL X cells slots h (pc + 3) lv (v :: rest)) : AW l D cl R nL X cells slots h pc lv (.ref a :: rest) := fun H locs ls hP hS hl => by
  obtain ⟨ws, h1, h2, h3⟩ := id hP
  obtain ⟨q, hq⟩ := (h3 _ _).mp ha
  exact va_getN M.1 M.2.1 M.2.2.2.2.1 hin M.2.2.2.1 M.2.2.2.2.2.1 h1 q hq hc k0 hk (M.2.2.2.2.1 _ hlink) (fun _ h9 => h9) hv d (k H locs ls hP hS hl)
theorem ax_put (M : Mx D cl nL X cc own Ts tys) {C : String} {T : u_T} {N ci index a : Nat} (hin : ∀ w ∈ u_ws C T N, w ∈ Ts) (ty0 : Nat → FieldType) (hty : ∀ k, k < N → parseFieldDescriptor (T k).2.2.1 = some (ty0 k)) (hnm : ∀ a, a < N → ∀ b, b < N → a ≠ b → (T a).2.1 ≠ (T b).2.1) {fs : List Value} (ha : h a = some (.inr (ci, fs))) (hc : cl[ci]? = some (C, T, N)) (k0 : Nat) (hk : k0 < N) (hlink : Cond.fieldLink own index (T k0).1 (T k0).2.1 (T k0).2.2.1 ∈ Ts) (hfin : (T k0).2.2.2 = false) {v : Value} (hn : narrow (ty0 k0) v = v) (hfit : fits (ty0 k0) v = true) (hlen : k0 < fs.length) (d : decode cc pc = .ok (.putfield index, 3)) (k : AW l D cl R nL X cells slots (ah_set h a (.inr (ci, fs.set k0 v))) (pc + 3) lv rest) : AW l D cl R nL X cells slots h pc lv (v :: .ref a :: rest) := fun H locs ls hP hS hl => by
  obtain ⟨ws, h1, h2, h3⟩ := id hP
  obtain ⟨q, hq⟩ := (h3 _ _).mp ha
  exact va_put M.1 M.2.1 M.2.2.2.2.1 hin ty0 hty hnm M.2.2.2.1 M.2.2.2.2.2.1 h1 h2 hS q hq hc k0 hk (M.2.2.2.2.1 _ hlink) (fun _ h9 => h9) hfin (hty k0 hk) hn hfit hlen d (fun H1 locs1 g1 g2 g3 => k H1 locs1 ls ⟨_, g1, g2, ah_cov_set h3 h2 hq⟩ g3 hl)
theorem ax_putN (M : Mx D cl nL X cc own Ts tys) {C host : String} {T : u_T} {N ci index a : Nat} (hin : ∀ w ∈ u_ws C T N, w ∈ Ts) (ty0 : Nat → FieldType) (hty : ∀ k, k < N → parseFieldDescriptor (T k).2.2.1 = some (ty0 k)) (hnm : ∀ a, a < N → ∀ b, b < N → a ≠ b → (T a).2.1 ≠ (T b).2.1) {fs : List Value} (ha : h a = some (.inr (ci, fs))) (hc : cl[ci]? = some (C, T, N)) (k0 : Nat) (hk : k0 < N) (hlink : Cond.fieldLinkNest own index (T k0).1 (T k0).2.1 (T k0).2.2.1 host ∈ Ts) (hfin : (T k0).2.2.2 = false) {v : Value} (hn : narrow (ty0 k0) v = v) (hfit : fits (ty0 k0) v = true) (hlen : k0 < fs.length) (d : decode cc pc = .ok (.putfield index, 3)) (k : AW l D cl R nL X cells slots (ah_set h a (.inr (ci, fs.set k0 v))) (pc + 3) lv rest) : AW l D cl R nL X cells slots h pc lv (v :: .ref a :: rest) := fun H locs ls hP hS hl => by
  obtain ⟨ws, h1, h2, h3⟩ := id hP
  obtain ⟨q, hq⟩ := (h3 _ _).mp ha
  exact va_putN M.1 M.2.1 M.2.2.2.2.1 hin ty0 hty hnm M.2.2.2.1 M.2.2.2.2.2.1 h1 h2 hS q hq hc k0 hk (M.2.2.2.2.1 _ hlink) (fun _ h9 => h9) hfin (hty k0 hk) hn hfit hlen d (fun H1 locs1 g1 g2 g3 => k H1 locs1 ls ⟨_, g1, g2, ah_cov_set h3 h2 hq⟩ g3 hl)
theorem ax_putF (M : Mx D cl nL X cc own Ts tys) {C : String} {T : u_T} {N ci index a : Nat} (hin : ∀ w ∈ u_ws C T N, w ∈ Ts) (ty0 : Nat → FieldType) (hty : ∀ k, k < N → parseFieldDescriptor (T k).2.2.1 = some (ty0 k)) (hnm : ∀ a, a < N → ∀ b, b < N → a ≠ b → (T a).2.1 ≠ (T b).2.1) {fs : List Value} (ha : h a = some (.inr (ci, fs))) (hc : cl[ci]? = some (C, T, N)) (k0 : Nat) (hk : k0 < N) (hlink : Cond.fieldLink own index (T k0).1 (T k0).2.1 (T k0).2.2.1 ∈ Ts) (hfin : (T k0).2.2.2 = true) (hi2 : (xh X).name = "<init>") (hdecl : (T k0).1 = own) {v : Value} (hn : narrow (ty0 k0) v = v) (hfit : fits (ty0 k0) v = true) (hlen : k0 < fs.length) (d : decode cc pc = .ok (.putfield index, 3)) (k : AW l D cl R nL X cells slots (ah_set h a (.inr (ci, fs.set k0 v))) (pc + 3) lv rest) : AW l D cl R nL X cells slots h pc lv (v :: .ref a :: rest) := fun H locs ls hP hS hl => by
  obtain ⟨ws, h1, h2, h3⟩ := id hP
  obtain ⟨q, hq⟩ := (h3 _ _).mp ha
  exact va_putF M.1 M.2.1 M.2.2.2.2.1 hin ty0 hty hnm M.2.2.2.1 M.2.2.2.2.2.1 h1 h2 hS q hq hc k0 hk (M.2.2.2.2.1 _ hlink) (fun _ h9 => h9) hfin hi2 hdecl (hty k0 hk) hn hfit hlen d (fun H1 locs1 g1 g2 g3 => k H1 locs1 ls ⟨_, g1, g2, ah_cov_set h3 h2 hq⟩ g3 hl)
theorem ax_iald (M : Mx D cl nL X cc own Ts tys) {a : Nat} {cA : ClassId} {n : Nat} {f : Nat → Int32} (ha : h a = some (.inl (cA, n, .inl f))) (t0 : Nat) (ht : tys[t0]? = some (cA, .int)) {i : Int32} (hi : vp_in i n) (d : decode cc pc = .ok (.iaload, 1)) (k : AW l D cl R nL X cells slots h (pc + 1) lv (.int (f i.toNatClampNeg) :: rest)) : AW l D cl R nL X cells slots h pc lv (.int i :: .ref a :: rest) := fun H locs ls hP hS hl => by
  obtain ⟨ws, h1, h2, h3⟩ := id hP
  obtain ⟨q, hq⟩ := (h3 _ _).mp ha
  exact va_iald M.1 M.2.1 M.2.2.2.2.2.1 h1 q t0 hq ht hi d (k H locs ls hP hS hl)
theorem ax_zald (M : Mx D cl nL X cc own Ts tys) {a : Nat} {cA : ClassId} {n : Nat} {f : Nat → Int32} (ha : h a = some (.inl (cA, n, .inl f))) (t0 : Nat) (ht : tys[t0]? = some (cA, .boolean)) {i : Int32} (hi : vp_in i n) (d : decode cc pc = .ok (.baload, 1)) (k : AW l D cl R nL X cells slots h (pc + 1) lv (.int (f i.toNatClampNeg) :: rest)) : AW l D cl R nL X cells slots h pc lv (.int i :: .ref a :: rest) := fun H locs ls hP hS hl => by
  obtain ⟨ws, h1, h2, h3⟩ := id hP
  obtain ⟨q, hq⟩ := (h3 _ _).mp ha
  exact va_zald M.1 M.2.1 M.2.2.2.2.2.1 h1 q t0 hq ht hi d (k H locs ls hP hS hl)
theorem ax_lald (M : Mx D cl nL X cc own Ts tys) {a : Nat} {cA : ClassId} {n : Nat} {f : Nat → Int64} (ha : h a = some (.inl (cA, n, .inr (.inl f)))) (t0 : Nat) (ht : tys[t0]? = some (cA, .long)) {i : Int32} (hi : vp_in i n) (d : decode cc pc = .ok (.laload, 1)) (k : AW l D cl R nL X cells slots h (pc + 1) lv (.long (f i.toNatClampNeg) :: rest)) : AW l D cl R nL X cells slots h pc lv (.int i :: .ref a :: rest) := fun H locs ls hP hS hl => by
  obtain ⟨ws, h1, h2, h3⟩ := id hP
  obtain ⟨q, hq⟩ := (h3 _ _).mp ha
  exact va_lald M.1 M.2.1 M.2.2.2.2.2.1 h1 q t0 hq ht hi d (k H locs ls hP hS hl)
theorem ax_last (M : Mx D cl nL X cc own Ts tys) {a : Nat} {cA : ClassId} {n : Nat} {f : Nat → Int64} (ha : h a = some (.inl (cA, n, .inr (.inl f)))) (t0 : Nat) (ht : tys[t0]? = some (cA, .long)) {i : Int32} {x : Int64} (hi : vp_in i n) (d : decode cc pc = .ok (.lastore, 1)) (k : AW l D cl R nL X cells slots (ah_set h a (.inl (cA, n, .inr (.inl (vp_updL f i.toNatClampNeg x))))) (pc + 1) lv rest) : AW l D cl R nL X cells slots h pc lv (.long x :: .int i :: .ref a :: rest) := fun H locs ls hP hS hl => by
  obtain ⟨ws, h1, h2, h3⟩ := id hP
  obtain ⟨q, hq⟩ := (h3 _ _).mp ha
  exact va_last M.1 M.2.1 M.2.2.2.2.2.1 h1 h2 hS q t0 hq ht hi d (fun H1 locs1 g1 g2 g3 => k H1 locs1 ls ⟨_, g1, g2, ah_cov_set h3 h2 hq⟩ g3 hl)
theorem ax_iast (M : Mx D cl nL X cc own Ts tys) {a : Nat} {cA : ClassId} {n : Nat} {f : Nat → Int32} (ha : h a = some (.inl (cA, n, .inl f))) (t0 : Nat) (ht : tys[t0]? = some (cA, .int)) {i x : Int32} (hi : vp_in i n) (d : decode cc pc = .ok (.iastore, 1)) (k : AW l D cl R nL X cells slots (ah_set h a (.inl (cA, n, .inl (upd f i.toNatClampNeg x)))) (pc + 1) lv rest) : AW l D cl R nL X cells slots h pc lv (.int x :: .int i :: .ref a :: rest) := fun H locs ls hP hS hl => by
  obtain ⟨ws, h1, h2, h3⟩ := id hP
  obtain ⟨q, hq⟩ := (h3 _ _).mp ha
  exact va_iast M.1 M.2.1 M.2.2.2.2.2.1 h1 h2 hS q t0 hq ht hi d (fun H1 locs1 g1 g2 g3 => k H1 locs1 ls ⟨_, g1, g2, ah_cov_set h3 h2 hq⟩ g3 hl)
theorem ax_zast (M : Mx D cl nL X cc own Ts tys) {a : Nat} {cA : ClassId} {n : Nat} {f : Nat → Int32} (ha : h a = some (.inl (cA, n, .inl f))) (t0 : Nat) (ht : tys[t0]? = some (cA, .boolean)) {i x : Int32} (hi : vp_in i n) (hb : vp_nar .boolean x = x) (d : decode cc pc = .ok (.bastore, 1)) (k : AW l D cl R nL X cells slots (ah_set h a (.inl (cA, n, .inl (upd f i.toNatClampNeg x)))) (pc + 1) lv rest) : AW l D cl R nL X cells slots h pc lv (.int x :: .int i :: .ref a :: rest) := fun H locs ls hP hS hl => by
  obtain ⟨ws, h1, h2, h3⟩ := id hP
  obtain ⟨q, hq⟩ := (h3 _ _).mp ha
  have hk := k
  rw [← hb] at hk
  exact va_zast M.1 M.2.1 M.2.2.2.2.2.1 h1 h2 hS q t0 hq ht hi d (fun H1 locs1 g1 g2 g3 => hk H1 locs1 ls ⟨_, g1, g2, ah_cov_set h3 h2 hq⟩ g3 hl)
theorem ax_aldq (M : Mx D cl nL X cc own Ts tys) {a : Nat} {cA : ClassId} {ty : FieldType} {n : Nat} {f : Nat → Option Nat} (ha : h a = some (.inl (cA, n, .inr (.inr (.inr (.inr f)))))) (t0 : Nat) (ht : tys[t0]? = some (cA, ty)) (hty : ty.isReference = true) {i : Int32} {v : Nat} (hi : vp_in i n) (hv : f i.toNatClampNeg = some v) (d : decode cc pc = .ok (.aaload, 1)) (k : AW l D cl R nL X cells slots h (pc + 1) lv (.ref v :: rest)) : AW l D cl R nL X cells slots h pc lv (.int i :: .ref a :: rest) := fun H locs ls hP hS hl => by
  obtain ⟨ws, h1, h2, h3⟩ := id hP
  obtain ⟨q, hq⟩ := (h3 _ _).mp ha
  have hlt : i.toNatClampNeg < n := Nat.not_le.mp fun q => hi (Or.inr q)
  exact W.aald (v := .ref v) (ty := ty) M.1 M.2.1 (h1 q _ hq) ((M.2.2.2.2.2.1.2 t0 _ ht).1 n (fun j => va_rf (f j))) hty (fun q => by cases q) (by show ¬ (i < 0 ∨ (arrV _ _ _).slots.size ≤ _); rw [arrV_size]; exact hi) (by show (arrV _ _ _).slots[_]? = _; rw [arrV_read _ _ hlt, hv]; rfl) rfl rfl d (k H locs ls hP hS hl)
theorem ax_astq (M : Mx D cl nL X cc own Ts tys) {a ci : Nat} {cA : ClassId} {r : vw_C} {n v : Nat} {vs : List Value} {f : Nat → Option Nat} (ha : h a = some (.inl (cA, n, .inr (.inr (.inr (.inr f)))))) (t0 : Nat) (ht : tys[t0]? = some (cA, .object r.1)) (hv : h v = some (.inr (ci, vs))) (hc : cl[ci]? = some r) {i : Int32} (hi : vp_in i n) (d : decode cc pc = .ok (.aastore, 1)) (k : AW l D cl R nL X cells slots (ah_set h a (.inl (cA, n, .inr (.inr (.inr (.inr (va_up f i.toNatClampNeg (some v)))))))) (pc + 1) lv rest) : AW l D cl R nL X cells slots h pc lv (.ref v :: .int i :: .ref a :: rest) := fun H locs ls hP hS hl => by
  obtain ⟨ws, h1, h2, h3⟩ := id hP
  obtain ⟨q, hq⟩ := (h3 _ _).mp ha
  obtain ⟨q2, hq2⟩ := (h3 _ _).mp hv
  exact va_astq M.1 M.2.1 M.2.2.2.2.2.1 h1 h2 hS q t0 q2 ci hq ht hq2 hc hi d (fun H1 locs1 g1 g2 g3 => k H1 locs1 ls ⟨_, g1, g2, ah_cov_set h3 h2 hq⟩ g3 hl)
theorem ax_alen (M : Mx D cl nL X cc own Ts tys) {a : Nat} {cA : ClassId} {x : vp_A} (ha : h a = some (.inl (cA, x))) (t0 : Nat) {ty : FieldType} (ht : tys[t0]? = some (cA, ty)) (d : decode cc pc = .ok (.arraylength, 1)) (k : AW l D cl R nL X cells slots h (pc + 1) lv (.int (nI x.1) :: rest)) : AW l D cl R nL X cells slots h pc lv (.ref a :: rest) := fun H locs ls hP hS hl => by
  obtain ⟨ws, h1, h2, h3⟩ := id hP
  obtain ⟨q, hq⟩ := (h3 _ _).mp ha
  exact va_alen M.1 M.2.1 M.2.2.2.2.2.1 h1 q t0 hq ht rfl d (k H locs ls hP hS hl)
theorem ax_new (M : Mx D cl nL X cc own Ts tys) {C : String} {T : u_T} {N ci index : Nat} (hin : ∀ w ∈ u_ws C T N, w ∈ Ts) (ty : Nat → FieldType) (hty : ∀ k, k < N → parseFieldDescriptor (T k).2.2.1 = some (ty k)) (hcl : Cond.classLink own index C ∈ Ts) (hinst : Cond.instantiable C N ∈ Ts) (hini : Cond.initialized C ∈ Ts) (hc : cl[ci]? = some (C, T, N)) {fs : List Value} (hfs : ∀ j, j < N → defaultValue (ty j) = vp_V fs j) (hcells : cells + 1 ≤ R.cells) (hslots : slots + N ≤ R.slots) (d : decode cc pc = .ok (.new index, 3)) (k : ∀ q : Nat, h q = none → AW l D cl R nL X (cells + 1) (slots + N) (ah_set h q (.inr (ci, fs))) (pc + 3) lv (.ref q :: rest)) : AW l D cl R nL X cells slots h pc lv rest := fun H locs ls hP hS hl => by
  obtain ⟨ws, h1, h2, h3⟩ := id hP
  exact va_new M.1 M.2.1 M.2.2.2.2.1 hin ty hty M.2.2.2.1 (M.2.2.2.2.1 _ hcl) (M.2.2.2.2.1 _ hinst) (M.2.2.2.2.1 _ hini) M.2.2.2.2.2.1 h1 h2 hS M.2.2.2.2.2.2.2 hc hfs hcells hslots d (fun q H1 g1 g2 g3 => k q (ah_cov_push h3 g2).1 H1 locs ls ⟨_, g1, g2, (ah_cov_push h3 g2).2⟩ g3 hl)
theorem ax_objInit (M : Mx D cl nL X cc own Ts tys) {a idx : Nat} (hlink : Cond.methodLink own idx Lib.objectInit ∈ Ts) (hinst : Cond.instanceMethod Lib.objectInit ∈ Ts) (hcode : Cond.code Lib.objectInit ⟨#[0xb1]⟩ 1 none ∈ Ts) (d : decode cc pc = .ok (.invokespecial idx, 3)) (hframes : 1 ≤ R.frames) (hlocals : (rest.map fun v => v.category).sum + 12 ≤ R.locals) (k : AW l D cl R nL X cells slots h (pc + 3) lv rest) : AW l D cl R nL X cells slots h pc lv (.ref a :: rest) := fun H locs ls hP hS hl =>
  W.objInit M.1 M.2.1 M.2.2.2.1 (M.2.2.2.2.1 _ hlink) (M.2.2.2.2.1 _ hinst) (M.2.2.2.2.1 _ hcode) rfl (by rw [M.2.2.1]; exact hl.1) rfl d hframes (by show 2 * 0 + _ + 12 ≤ _; omega) (k H locs ls hP hS hl)
theorem ax_iret (M : Mx D cl nL X cc own Ts tys) {post : Option Value → AH → Prop} (hR : Rx D cl R X (some .int) post) {v : Int32} (hc : cells ≤ R.cells) (hs : slots ≤ R.slots) (d : decode cc pc = .ok (.ireturn, 1)) (hp : post (some (.int v)) h) : AW l D cl R nL X cells slots h pc lv [.int v] := fun H locs ls hP hS hl => by
  rw [hR.1]
  refine W.widen hc hs ?_
  exact W.iret M.1 M.2.1 hR.2 (fun t ht _ => ⟨⟨_, _, rfl, hp, by rw [ht]; exact hP⟩, hS.F ht⟩) hS.2.2 d M.2.2.2.2.2.2.1
theorem ax_lret (M : Mx D cl nL X cc own Ts tys) {post : Option Value → AH → Prop} (hR : Rx D cl R X (some .long) post) {v : Int64} (hc : cells ≤ R.cells) (hs : slots ≤ R.slots) (d : decode cc pc = .ok (.lreturn, 1)) (hp : post (some (.long v)) h) : AW l D cl R nL X cells slots h pc lv [.long v] := fun H locs ls hP hS hl => by
  rw [hR.1]
  refine W.widen hc hs ?_
  exact W.lret M.1 M.2.1 hR.2 (fun t ht _ => ⟨⟨_, _, rfl, hp, by rw [ht]; exact hP⟩, hS.F ht⟩) hS.2.2 d M.2.2.2.2.2.2.1
theorem ax_zret (M : Mx D cl nL X cc own Ts tys) {post : Option Value → AH → Prop} (hR : Rx D cl R X (some .boolean) post) {v : Int32} (hn : narrow .boolean (.int v) = .int v) (hc : cells ≤ R.cells) (hs : slots ≤ R.slots) (d : decode cc pc = .ok (.ireturn, 1)) (hp : post (some (.int v)) h) : AW l D cl R nL X cells slots h pc lv [.int v] := fun H locs ls hP hS hl => by
  rw [hR.1]
  refine W.widen hc hs ?_
  exact W.zret M.1 M.2.1 hR.2 hn (fun t ht _ => ⟨⟨_, _, rfl, hp, by rw [ht]; exact hP⟩, hS.F ht⟩) hS.2.2 d M.2.2.2.2.2.2.1
theorem ax_vret (M : Mx D cl nL X cc own Ts tys) {post : Option Value → AH → Prop} (hR : Rx D cl R X none post) (hc : cells ≤ R.cells) (hs : slots ≤ R.slots) (d : decode cc pc = .ok (.return_, 1)) (hp : post none h) : AW l D cl R nL X cells slots h pc lv [] := fun H locs ls hP hS hl => by
  rw [hR.1]
  refine W.widen hc hs ?_
  exact W.vret M.1 M.2.1 hR.2 (fun t ht _ => ⟨⟨_, _, rfl, hp, by rw [ht]; exact hP⟩, hS.F ht⟩) hS.2.2 d M.2.2.2.2.2.2.1
/-- behind a call -/
theorem ax_behind {rm : Room} {post : Option Value → AH → Prop} {a : Array Value} {H : Heap} {locs : List Loc} {ls : Array Slot} {st0 : List Value} (hA : ∀ q, (xs X).heap.size ≤ q → xA X q) (hP : XP D cl (xA X) h H) (hS : va_S (xA X) (xs X).heap H locs) (hl : lv_has ls nL lv)
    (run : va_Run (xp X) l (xe X) R (xs X) (xm X) (xa X) (xb X) (xh X) (xc X) H locs cells slots rm.cells rm.slots (F0 (xm X) pc ls st0) rest (Qx D cl (ah_A h H.size) post a) (ah_A h H.size))
    (k : ∀ (r : Option Value) (h' : AH), post r h' → AW l D cl R nL X (cells + rm.cells) (slots + rm.slots) h' (pc + 3) lv (r.toList ++ rest)) :
    W (xp X) l (xe X) R (xs X) (xm X) (xa X) (xb X) (xh X) (xc X) H locs cells slots (xQ X) (F0 (xm X) pc ls st0) := by
  intro T hT X0
  obtain ⟨v, st₀, t, T', L, h0, X', hL, e1, e2, ⟨⟨r, h', hv, hp, hX⟩, hz, hk⟩, st⟩ := run T hT X0
  cases hv
  rw [h0] at hz hk
  have hin : ∀ q, ah_A h H.size q → xA X q := fun q hq => by
    rcases hq with hq | hq
    · exact hP.in hq
    · exact hA q (Nat.le_trans hS.1 hq)
  obtain ⟨t2, a1, b1⟩ := k _ h' hp T'.heap (locs ++ L) ls (by rw [e1]; exact hX.weaken hin)
    ⟨Nat.le_trans hS.1 (by rw [e1]; exact hz), fun q h1 h2 => by rw [e1, hk q (Nat.lt_of_lt_of_le h1 hS.1) (fun z => h2 (hin q z))]; exact hS.2.1 q h1 h2, fun q hq => by
      rcases List.mem_append.mp hq with h4 | h4
      · exact hS.2.2 q h4
      · exact hin _ (hL q h4)⟩ hl T' rfl X'
  exact ⟨t2, st t2 a1, b1⟩
/-- a callee's start out of the caller's map -/
theorem ax_blind {av : List Value} {sz : Nat} : FrameBlind (va_Pc av (fun U => U.heap.size = sz ∧ XP D cl (fun _ => True) h U.heap ∧ va_K D cl tys U)) := fun a U g mk q => by
  obtain ⟨q0, q1, qP, qK⟩ := q
  exact ⟨q0, q1, qP, va_K.moved (u := U) (U := U.calling g mk a) (Vm.Alike.refl U.vm) qK⟩
theorem ax_start {av : List Value} {H : Heap} (M : Mx D cl nL X cc own Ts tys) (hP : XP D cl (xA X) h H) : ∀ U : State, U.heap = H → (xs X).WarmedH U.vm → va_Pc av (fun U => U.heap.size = H.size ∧ XP D cl (fun _ => True) h U.heap ∧ va_K D cl tys U) av.toArray U :=
  fun U hU hW => ⟨rfl, by rw [hU], by rw [hU]; exact hP.weaken (fun _ _ => trivial), va_K.moved hW.alike M.2.2.2.2.2.1⟩
theorem ax_recv {H : Heap} {b ci : Nat} {q : vw_C} {fs : List Value} (M : Mx D cl nL X cc own Ts tys) (hP : XP D cl (xA X) h H) (hc : cl[ci]? = some q) (ha : h b = some (.inr (ci, fs))) : ∃ cell : Cell, H[b]? = some cell ∧ cell.vm.isStatics = false ∧ (xs X).vm.findClass q.1 = some cell.cls := by
  obtain ⟨ws, h1, h2, h3⟩ := hP
  obtain ⟨j, hj⟩ := (h3 _ _).mp ha
  exact va_recv M.2.2.2.2.2.1 h1 hc hj
/-- the words of a callee: all callees share one list of words -/
def ax_good (TT : List Cond) : Prop := ∀ w ∈ TT, (w.onTables && w.keeps) = true ∨ ∃ ty, w = .arrayClass ty
theorem ax_goodIn {ws : List Cond} (hg : ax_good Ts) (hw : ∀ w ∈ ws, w ∈ Ts) : GoodIn Ts ws := fun w h => ⟨hw w h, hg w (hw w h)⟩
theorem ax_callV (M : Mx D cl nL X cc own Ts tys) (hg : ax_good Ts) {C : String} {q : vw_C} {y : MethodName} {bytes : ByteArray} {maxL index n b ci : Nat} {ret : Option FieldType} {rm : Room} {As st0 : List Value} {fs : List Value} {post : Option Value → AH → Prop} (hq1 : q.1 = C) (hc : cl[ci]? = some q) (ha : h b = some (.inr (ci, fs))) (hM : AC l D cl tys y (Cond.code y bytes maxL ret :: Ts) rm (.ref b :: As) h post)
    (hws : ∀ w ∈ ([.methodLink own index y, .instanceMethod y, .selects C y y, .initialized C, .code y bytes maxL ret] : List Cond), w ∈ Ts) (hd : y.cls = C ∧ y.cls ≠ "java/lang/invoke/MethodHandle" ∧ y.cls ≠ "java/lang/invoke/VarHandle" ∧ (parseMethodDescriptor y.desc).map (fun d => d.parameters.length) = some n) (hR : rm.frames + 1 ≤ R.frames ∧ 8 + (maxL + 11) + rm.locals ≤ R.locals) (hn : As.length = n) (hst : st0 = As.reverse ++ .ref b :: rest) (hr : (rest.map fun v => v.category).sum ≤ 8) (d : decode cc pc = .ok (.invokevirtual index, 3)) (hf : cells + rm.cells ≤ R.cells ∧ slots + rm.slots ≤ R.slots) {c1 s1 : Nat} (hf1 : cells + rm.cells ≤ c1 ∧ slots + rm.slots ≤ s1)
    (k : ∀ (r : Option Value) (h' : AH), post r h' → AW l D cl R nL X c1 s1 h' (pc + 3) lv (r.toList ++ rest)) : AW l D cl R nL X cells slots h pc lv st0 := fun H locs ls hP hS hl => by
  subst hq1
  refine ax_behind M.2.2.2.2.2.2.2 hP hS hl (va_runV ⟨M.1, M.2.1, M.2.2.1, M.2.2.2.1, M.2.2.2.2.1⟩ (hM H.size) (cwV n M.2.2.2.2.1 (ax_goodIn hg ?_) rfl rfl rfl hd hR) ⟨ax_blind, ax_recv M hP hc ha, ax_start M hP⟩ rfl hn hl.1 hst (lv_room hr) d hf) (fun r h' hp => ax_widen hf1.1 hf1.2 (k r h' hp))
  intro w hw
  unfold wsV at hw
  rcases List.mem_append.mp hw with hw | hw
  · exact hws w (List.mem_append_left [Cond.code y bytes maxL ret] hw)
  · rcases List.mem_cons.mp hw with hw | hw
    · exact hws w (by rw [hw]; simp)
    · exact hw
theorem ax_callS (M : Mx D cl nL X cc own Ts tys) (hg : ax_good Ts) {y : MethodName} {bytes : ByteArray} {maxL index n : Nat} {ret : Option FieldType} {rm : Room} {As st0 : List Value} {post : Option Value → AH → Prop} (hM : AC l D cl tys y (Cond.code y bytes maxL ret :: Ts) rm As h post)
    (hws : ∀ w ∈ ([.methodLink own index y, .static y, .initialized y.cls, .code y bytes maxL ret] : List Cond), w ∈ Ts) (hd : y.cls ≠ "java/lang/invoke/MethodHandle" ∧ y.cls ≠ "java/lang/invoke/VarHandle" ∧ (parseMethodDescriptor y.desc).map (fun d => d.parameters.length) = some n) (hR : rm.frames + 1 ≤ R.frames ∧ 8 + (maxL + 11) + rm.locals ≤ R.locals) (hn : As.length = n) (hst : st0 = As.reverse ++ rest) (hr : (rest.map fun v => v.category).sum ≤ 8) (d : decode cc pc = .ok (.invokestatic index, 3)) (hf : cells + rm.cells ≤ R.cells ∧ slots + rm.slots ≤ R.slots) {c1 s1 : Nat} (hf1 : cells + rm.cells ≤ c1 ∧ slots + rm.slots ≤ s1)
    (k : ∀ (r : Option Value) (h' : AH), post r h' → AW l D cl R nL X c1 s1 h' (pc + 3) lv (r.toList ++ rest)) : AW l D cl R nL X cells slots h pc lv st0 := fun H locs ls hP hS hl => by
  refine ax_behind M.2.2.2.2.2.2.2 hP hS hl (va_runS ⟨M.1, M.2.1, M.2.2.1, M.2.2.2.1, M.2.2.2.2.1⟩ (hM H.size) (va_cwS n M.2.2.2.2.1 (ax_goodIn hg ?_) rfl rfl rfl hd hR) ⟨ax_blind, ax_start M hP⟩ rfl hn hl.1 hst (lv_room hr) d hf) (fun r h' hp => ax_widen hf1.1 hf1.2 (k r h' hp))
  intro w hw
  unfold va_wsS at hw
  rcases List.mem_append.mp hw with hw | hw
  · exact hws w (List.mem_append_left [Cond.code y bytes maxL ret] hw)
  · rcases List.mem_cons.mp hw with hw | hw
    · exact hws w (by rw [hw]; simp)
    · exact hw
theorem ax_callI (M : Mx D cl nL X cc own Ts tys) (hg : ax_good Ts) {y : MethodName} {bytes : ByteArray} {maxL index n b : Nat} {rm : Room} {As st0 : List Value} {post : Option Value → AH → Prop} (hM : AC l D cl tys y (Cond.code y bytes maxL none :: Ts) rm (.ref b :: As) h post)
    (hws : ∀ w ∈ ([.methodLink own index y, .instanceMethod y, .initialized y.cls, .code y bytes maxL none] : List Cond), w ∈ Ts) (hy1 : y.name = "<init>") (hd : y.cls ≠ "java/lang/invoke/MethodHandle" ∧ y.cls ≠ "java/lang/invoke/VarHandle" ∧ (parseMethodDescriptor y.desc).map (fun d => d.parameters.length) = some n) (hR : rm.frames + 1 ≤ R.frames ∧ 8 + (maxL + 11) + rm.locals ≤ R.locals) (hn : As.length = n) (hst : st0 = As.reverse ++ .ref b :: rest) (hr : (rest.map fun v => v.category).sum ≤ 8) (d : decode cc pc = .ok (.invokespecial index, 3)) (hf : cells + rm.cells ≤ R.cells ∧ slots + rm.slots ≤ R.slots) {c1 s1 : Nat} (hf1 : cells + rm.cells ≤ c1 ∧ slots + rm.slots ≤ s1)
    (k : ∀ (r : Option Value) (h' : AH), post r h' → AW l D cl R nL X c1 s1 h' (pc + 3) lv (r.toList ++ rest)) : AW l D cl R nL X cells slots h pc lv st0 := fun H locs ls hP hS hl => by
  have hm : ∀ w ∈ ([.methodLink own index y, .instanceMethod y, .initialized y.cls, .code y bytes maxL none] : List Cond), w.before (xa X) (xs X) = true := fun w h9 => M.2.2.2.2.1 w (hws w h9)
  refine ax_behind M.2.2.2.2.2.2.2 hP hS hl (va_runI ⟨M.1, M.2.1, M.2.2.1, M.2.2.2.1, M.2.2.2.2.1⟩ (hM H.size) (cwI n M.2.2.2.2.1 (ax_goodIn hg ?_) rfl rfl rfl (hm _ (by simp)) (hm _ (by simp)) (hm _ (by simp)) hy1 hd hR) ⟨ax_blind, ax_start M hP⟩ rfl hn hl.1 hst (lv_room hr) d hf) (fun r h' hp => ax_widen hf1.1 hf1.2 (k r h' hp))
  intro w hw
  rcases List.mem_cons.mp hw with hw | hw
  · exact hws w (by rw [hw]; simp)
  · exact hw
theorem ax_callVN (M : Mx D cl nL X cc own Ts tys) (hg : ax_good Ts) {host : String} {q : vw_C} {y : MethodName} {bytes : ByteArray} {maxL index n b ci : Nat} {ret : Option FieldType} {rm : Room} {As st0 : List Value} {fs : List Value} {post : Option Value → AH → Prop} (hc : cl[ci]? = some q) (ha : h b = some (.inr (ci, fs))) (hM : AC l D cl tys y (Cond.code y bytes maxL ret :: Ts) rm (.ref b :: As) h post)
    (hws : ∀ w ∈ ([.methodLinkNest own index y host, .instanceMethod y, .selects q.1 y y, .initialized y.cls, .code y bytes maxL ret] : List Cond), w ∈ Ts) (hd : y.cls ≠ "java/lang/invoke/MethodHandle" ∧ y.cls ≠ "java/lang/invoke/VarHandle" ∧ (parseMethodDescriptor y.desc).map (fun d => d.parameters.length) = some n) (hR : rm.frames + 1 ≤ R.frames ∧ 8 + (maxL + 11) + rm.locals ≤ R.locals) (hn : As.length = n) (hst : st0 = As.reverse ++ .ref b :: rest) (hr : (rest.map fun v => v.category).sum ≤ 8) (d : decode cc pc = .ok (.invokevirtual index, 3)) (hf : cells + rm.cells ≤ R.cells ∧ slots + rm.slots ≤ R.slots) {c1 s1 : Nat} (hf1 : cells + rm.cells ≤ c1 ∧ slots + rm.slots ≤ s1)
    (k : ∀ (r : Option Value) (h' : AH), post r h' → AW l D cl R nL X c1 s1 h' (pc + 3) lv (r.toList ++ rest)) : AW l D cl R nL X cells slots h pc lv st0 := fun H locs ls hP hS hl => by
  have hm : ∀ w ∈ ([.methodLinkNest own index y host, .instanceMethod y, .selects q.1 y y, .initialized y.cls, .code y bytes maxL ret] : List Cond), w.before (xa X) (xs X) = true := fun w h9 => M.2.2.2.2.1 w (hws w h9)
  refine ax_behind M.2.2.2.2.2.2.2 hP hS hl (va_runVN ⟨M.1, M.2.1, M.2.2.1, M.2.2.2.1, M.2.2.2.2.1⟩ (hM H.size) ⟨va_cnB (host := host) n M.2.2.2.2.1 (ax_goodIn hg ?_) rfl rfl rfl (va_Nw.of rfl (hm _ (by simp))) (hm _ (by simp)) hd hR, hm _ (by simp), hm _ (by simp)⟩ ⟨ax_blind, ax_recv M hP hc ha, ax_start M hP⟩ rfl hn hl.1 hst (lv_room hr) d hf) (fun r h' hp => ax_widen hf1.1 hf1.2 (k r h' hp))
  intro w hw
  rcases List.mem_cons.mp hw with hw | hw
  · exact hws w (by rw [hw]; simp)
  · exact hw
theorem ax_callIN (M : Mx D cl nL X cc own Ts tys) (hg : ax_good Ts) {host : String} {y : MethodName} {bytes : ByteArray} {maxL index n b : Nat} {rm : Room} {As st0 : List Value} {post : Option Value → AH → Prop} (hM : AC l D cl tys y (Cond.code y bytes maxL none :: Ts) rm (.ref b :: As) h post)
    (hws : ∀ w ∈ ([.methodLinkNest own index y host, .instanceMethod y, .initialized y.cls, .code y bytes maxL none] : List Cond), w ∈ Ts) (hy1 : y.name = "<init>") (hd : y.cls ≠ "java/lang/invoke/MethodHandle" ∧ y.cls ≠ "java/lang/invoke/VarHandle" ∧ (parseMethodDescriptor y.desc).map (fun d => d.parameters.length) = some n) (hR : rm.frames + 1 ≤ R.frames ∧ 8 + (maxL + 11) + rm.locals ≤ R.locals) (hn : As.length = n) (hst : st0 = As.reverse ++ .ref b :: rest) (hr : (rest.map fun v => v.category).sum ≤ 8) (d : decode cc pc = .ok (.invokespecial index, 3)) (hf : cells + rm.cells ≤ R.cells ∧ slots + rm.slots ≤ R.slots) {c1 s1 : Nat} (hf1 : cells + rm.cells ≤ c1 ∧ slots + rm.slots ≤ s1)
    (k : ∀ (r : Option Value) (h' : AH), post r h' → AW l D cl R nL X c1 s1 h' (pc + 3) lv (r.toList ++ rest)) : AW l D cl R nL X cells slots h pc lv st0 := fun H locs ls hP hS hl => by
  have hm : ∀ w ∈ ([.methodLinkNest own index y host, .instanceMethod y, .initialized y.cls, .code y bytes maxL none] : List Cond), w.before (xa X) (xs X) = true := fun w h9 => M.2.2.2.2.1 w (hws w h9)
  refine ax_behind M.2.2.2.2.2.2.2 hP hS hl (va_runIN ⟨M.1, M.2.1, M.2.2.1, M.2.2.2.1, M.2.2.2.2.1⟩ (hM H.size) ⟨va_cnB (host := host) n M.2.2.2.2.1 (ax_goodIn hg ?_) rfl rfl rfl (va_Nw.of rfl (hm _ (by simp))) (hm _ (by simp)) hd hR, hy1, hm _ (by simp)⟩ ⟨ax_blind, ax_start M hP⟩ rfl hn hl.1 hst (lv_room hr) d hf) (fun r h' hp => ax_widen hf1.1 hf1.2 (k r h' hp))
  intro w hw
  rcases List.mem_cons.mp hw with hw | hw
  · exact hws w (by rw [hw]; simp)
  · exact hw
/-- a contract out of the walk of the body -/
theorem AC.of {y : MethodName} {ws ws' : List Cond} {rm : Room} {ret : Option FieldType} {av : List Value} {post : Option Value → AH → Prop} (hy : plainName y.cls = true) (hw : ws = Cond.code y cc nL ret :: ws') (hn : (lg_sl av).length ≤ nL)
    (body : ∀ X : CX, Mx D cl nL X cc y.cls ws' tys → Rx D cl rm X ret post → (xh X).name = y.name → AW l D cl rm nL X 0 0 h 0 (lv_args 0 av) []) : AC l D cl tys y ws rm av h post := by
  intro sz
  refine Met.ofW (cc := cc) (maxL := nL) (ret := ret) hy hw ?_
  intro p e s m args below meth c s₁ B hml hv
  obtain ⟨rfl, hsz, hP, hK⟩ := hv
  subst hsz
  have hts := atoms_spec (ws := ws) B.pre
  have hl := lv_entry av (n := nL) hn
  rw [lg_entry_eq]
  exact body (p, e, s, m, av.toArray, below, meth, c, ah_A h s.heap.size, MQ below (Qx D cl (ah_A h s.heap.size) post) av.toArray s rm.cells rm.slots (ah_A h s.heap.size)) ⟨B.exec, B.bytes, hml, findClass_of_methodNamed B.named, fun w h9 => hts w (by rw [hw]; exact List.mem_cons_of_mem _ h9), hK, B.notSynchronized, fun q hq => Or.inr hq⟩ ⟨rfl, B.returns⟩ (name_of_methodNamed B.named B.method).1 s.heap [] _ (hP.self _) va_S.rf hl
theorem ax_ret_i {c1 s1 : Nat} {r : Int32} {Φ : AH → Prop} (k : ∀ h' : AH, Φ h' → AW l D cl R nL X c1 s1 h' pc lv (.int r :: rest)) : ∀ (rv : Option Value) (h' : AH), (rv = some (.int r) ∧ Φ h') → AW l D cl R nL X c1 s1 h' pc lv (rv.toList ++ rest) := fun rv h' hp => by
  obtain ⟨e, hp⟩ := hp
  subst e
  exact k h' hp
theorem ax_ret_l {c1 s1 : Nat} {r : Int64} {Φ : AH → Prop} (k : ∀ h' : AH, Φ h' → AW l D cl R nL X c1 s1 h' pc lv (.long r :: rest)) : ∀ (rv : Option Value) (h' : AH), (rv = some (.long r) ∧ Φ h') → AW l D cl R nL X c1 s1 h' pc lv (rv.toList ++ rest) := fun rv h' hp => by
  obtain ⟨e, hp⟩ := hp
  subst e
  exact k h' hp
theorem ax_ret_v {c1 s1 : Nat} {Φ : AH → Prop} (k : ∀ h' : AH, Φ h' → AW l D cl R nL X c1 s1 h' pc lv rest) : ∀ (rv : Option Value) (h' : AH), (rv = none ∧ Φ h') → AW l D cl R nL X c1 s1 h' pc lv (rv.toList ++ rest) := fun rv h' hp => by
  obtain ⟨e, hp⟩ := hp
  subst e
  exact k h' hp
theorem ax_mmax (M : Mx D cl nL X cc own Ts tys) {index : Nat} (hws : ∀ w ∈ ([.methodLink own index Lib.Math.max.name, .static Lib.Math.max.name, .initialized "java/lang/Math", .code Lib.Math.max.name Lib.Math.max.code 2 (some .int)] : List Cond), w ∈ Ts) (hfr : 1 ≤ R.frames) (hlo : (rest.map fun v => v.category).sum + 13 ≤ R.locals) (hc : cells ≤ R.cells) (hs : slots ≤ R.slots) {x y : Int32} (d : decode cc pc = .ok (.invokestatic index, 3)) (k : AW l D cl R nL X cells slots h (pc + 3) lv (.int (if x < y then y else x) :: rest)) : AW l D cl R nL X cells slots h pc lv (.int y :: .int x :: rest) := fun H locs ls hP hS hl => by
  have hm := fun w h9 => M.2.2.2.2.1 w (hws w h9)
  exact va_mmax M.1 M.2.1 (by rw [M.2.2.1]; exact hl.1.symm) M.2.2.2.1 (hm _ (by simp)) (hm _ (by simp)) (hm _ (by simp)) (hm _ (by simp)) hfr hlo hc hs d (k H locs ls hP hS hl)
theorem ax_mmin (M : Mx D cl nL X cc own Ts tys) {index : Nat} (hws : ∀ w ∈ ([.methodLink own index Lib.Math.min.name, .static Lib.Math.min.name, .initialized "java/lang/Math", .code Lib.Math.min.name Lib.Math.min.code 2 (some .int)] : List Cond), w ∈ Ts) (hfr : 1 ≤ R.frames) (hlo : (rest.map fun v => v.category).sum + 13 ≤ R.locals) (hc : cells ≤ R.cells) (hs : slots ≤ R.slots) {x y : Int32} (d : decode cc pc = .ok (.invokestatic index, 3)) (k : AW l D cl R nL X cells slots h (pc + 3) lv (.int (if y < x then y else x) :: rest)) : AW l D cl R nL X cells slots h pc lv (.int y :: .int x :: rest) := fun H locs ls hP hS hl => by
  have hm := fun w h9 => M.2.2.2.2.1 w (hws w h9)
  exact va_mmin M.1 M.2.1 (by rw [M.2.2.1]; exact hl.1.symm) M.2.2.2.1 (hm _ (by simp)) (hm _ (by simp)) (hm _ (by simp)) (hm _ (by simp)) hfr hlo hc hs d (k H locs ls hP hS hl)
end AX
end
section
/-! the state of an object with all that hangs on it: kind K, number i, place k -/
abbrev ST : Type := (Nat → Nat → Nat → Int32) × (Nat → Nat → Nat → Int64)
def gi (f : ST) (K i k : Nat) : Int32 := f.1 K i k
def gl (f : ST) (K i k : Nat) : Int64 := f.2 K i k
def su (f : ST) (K i k : Nat) (v : Int32) : ST := (fun K' i' k' => if K' = K ∧ i' = i ∧ k' = k then v else f.1 K' i' k', f.2)
def sl (f : ST) (K i k : Nat) (v : Int64) : ST := (f.1, fun K' i' k' => if K' = K ∧ i' = i ∧ k' = k then v else f.2 K' i' k')
theorem gi_su (f : ST) (K i k : Nat) (v : Int32) (K' i' k' : Nat) : gi (su f K i k v) K' i' k' = if K' = K ∧ i' = i ∧ k' = k then v else gi f K' i' k' := rfl
theorem gl_sl (f : ST) (K i k : Nat) (v : Int64) (K' i' k' : Nat) : gl (sl f K i k v) K' i' k' = if K' = K ∧ i' = i ∧ k' = k then v else gl f K' i' k' := rfl
theorem gi_sl {f : ST} {K i k K' i' k' : Nat} {v : Int64} : gi (sl f K i k v) K' i' k' = gi f K' i' k' := rfl
theorem gl_su {f : ST} {K i k K' i' k' : Nat} {v : Int32} : gl (su f K i k v) K' i' k' = gl f K' i' k' := rfl
theorem gi_same {f : ST} {K i k : Nat} {v : Int32} : gi (su f K i k v) K i k = v := by simp [gi_su]
theorem gi_k {f : ST} {K i k K' i' k' : Nat} {v : Int32} (hk : k' ≠ k) : gi (su f K i k v) K' i' k' = gi f K' i' k' := by simp [gi_su, hk]
theorem gi_K {f : ST} {K i k K' i' k' : Nat} {v : Int32} (hk : K' ≠ K) : gi (su f K i k v) K' i' k' = gi f K' i' k' := by simp [gi_su, hk]
theorem gi_i {f : ST} {K i k K' i' k' : Nat} {v : Int32} (hk : i' ≠ i) : gi (su f K i k v) K' i' k' = gi f K' i' k' := by simp [gi_su, hk]
theorem gl_same {f : ST} {K i k : Nat} {v : Int64} : gl (sl f K i k v) K i k = v := by simp [gl_sl]
theorem gl_k {f : ST} {K i k K' i' k' : Nat} {v : Int64} (hk : k' ≠ k) : gl (sl f K i k v) K' i' k' = gl f K' i' k' := by simp [gl_sl, hk]
theorem gl_K {f : ST} {K i k K' i' k' : Nat} {v : Int64} (hk : K' ≠ K) : gl (sl f K i k v) K' i' k' = gl f K' i' k' := by simp [gl_sl, hk]
abbrev ix (i : Int32) : Nat := i.toNatClampNeg
abbrev inb (i : Int32) (n : Nat) : Prop := ¬ (i < 0 ∨ n ≤ i.toNatClampNeg)
abbrev isb (x : Int32) : Prop := x = 0 ∨ x = 1
theorem isb_narrow {x : Int32} (hx : isb x) : narrow .boolean (.int x) = .int x := by rcases hx with rfl | rfl <;> rfl
theorem isb_nar {x : Int32} (hx : isb x) : vp_nar .boolean x = x := by rcases hx with rfl | rfl <;> rfl
/-- the map h holds the state σ at the addresses al; elsewhere it is h0 -/
def SW (dm : Nat → Nat) (cf : (Nat → Nat → Nat) → Nat → Nat → (Nat → Int32) → (Nat → Int64) → va_E) (al : Nat → Nat → Nat) (σ : ST) (h0 h : AH) : Prop :=
  (∀ K i, i < dm K → h (al K i) = some (cf al K i (fun k => gi σ K i k) (fun k => gl σ K i k))) ∧ (∀ K i K' i', i < dm K → i' < dm K' → al K i = al K' i' → K = K' ∧ i = i') ∧ ∀ q, (∀ K i, i < dm K → q ≠ al K i) → h q = h0 q
section SWs
variable {dm : Nat → Nat} {cf : (Nat → Nat → Nat) → Nat → Nat → (Nat → Int32) → (Nat → Int64) → va_E} {al : Nat → Nat → Nat} {σ : ST} {h0 h : AH}
theorem SW.at (hG : SW dm cf al σ h0 h) (K i : Nat) (hi : i < dm K) : h (al K i) = some (cf al K i (fun k => gi σ K i k) (fun k => gl σ K i k)) := hG.1 K i hi
theorem SW.put (hG : SW dm cf al σ h0 h) (K i k : Nat) (v : Int32) {c : va_E} (hi : i < dm K) (hc : c = cf al K i (fun k' => if k' = k then v else gi σ K i k') (fun k' => gl σ K i k')) : SW dm cf al (su σ K i k v) h0 (ah_set h (al K i) c) := by
  refine ⟨fun K' i' hi' => ?_, hG.2.1, fun q hq => ?_⟩
  · by_cases he : al K' i' = al K i
    · obtain ⟨rfl, rfl⟩ := hG.2.1 K' i' K i hi' hi he
      rw [ah_same, hc]
      have e1 : (fun k' => if k' = k then v else gi σ K' i' k') = fun k' => gi (su σ K' i' k v) K' i' k' := by
        funext k'
        simp [gi_su]
      rw [e1]
      rfl
    · rw [ah_ne he, hG.1 K' i' hi']
      have e1 : (fun k' => gi σ K' i' k') = fun k' => gi (su σ K i k v) K' i' k' := by
        funext k'
        have hne : ¬ (K' = K ∧ i' = i ∧ k' = k) := fun ⟨h1, h2, _⟩ => he (by rw [h1, h2])
        simp [gi_su, hne]
      rw [e1]
      rfl
  · rw [ah_ne (hq K i hi)]
    exact hG.2.2 q hq
theorem SW.putl (hG : SW dm cf al σ h0 h) (K i k : Nat) (v : Int64) {c : va_E} (hi : i < dm K) (hc : c = cf al K i (fun k' => gi σ K i k') (fun k' => if k' = k then v else gl σ K i k')) : SW dm cf al (sl σ K i k v) h0 (ah_set h (al K i) c) := by
  refine ⟨fun K' i' hi' => ?_, hG.2.1, fun q hq => ?_⟩
  · by_cases he : al K' i' = al K i
    · obtain ⟨rfl, rfl⟩ := hG.2.1 K' i' K i hi' hi he
      rw [ah_same, hc]
      have e1 : (fun k' => if k' = k then v else gl σ K' i' k') = fun k' => gl (sl σ K' i' k v) K' i' k' := by
        funext k'
        simp [gl_sl]
      rw [e1]
      rfl
    · rw [ah_ne he, hG.1 K' i' hi']
      have e1 : (fun k' => gl σ K' i' k') = fun k' => gl (sl σ K i k v) K' i' k' := by
        funext k'
        have hne : ¬ (K' = K ∧ i' = i ∧ k' = k) := fun ⟨h1, h2, _⟩ => he (by rw [h1, h2])
        simp [gl_sl, hne]
      rw [e1]
      rfl
  · rw [ah_ne (hq K i hi)]
    exact hG.2.2 q hq
theorem SW.base {h1 : AH} (hG : SW dm cf al σ h0 h) (hh : ∀ q, (∀ K i, i < dm K → q ≠ al K i) → h0 q = h1 q) : SW dm cf al σ h1 h := ⟨hG.1, hG.2.1, fun q hq => (hG.2.2 q hq).trans (hh q hq)⟩
end SWs
/-- a loop: 'body' goes on with a new state, or ends it -/
def lp {S R : Type} (body : S → Option (S ⊕ R)) : Nat → S → Option R
  | 0, _ => none
  | n + 1, s => match body s with
    | none => none
    | some (.inl s') => lp body n s'
    | some (.inr r) => some r
theorem lp_walk {S R : Type} {body : S → Option (S ⊕ R)} (P : S → Prop) (Q : R → Prop) (hs : ∀ s x, body s = some x → (∀ s', x = .inl s' → P s') → (∀ r, x = .inr r → Q r) → P s) : ∀ n s r, lp body n s = some r → Q r → P s := by
  intro n
  induction n with
  | zero => intro s r h; cases h
  | succ n ih =>
    intro s r h hQ
    unfold lp at h
    cases hb : body s with
    | none => rw [hb] at h; cases h
    | some x =>
      rw [hb] at h
      refine hs s x hb (fun s' e => ?_) (fun r' e => ?_)
      · subst e
        exact ih s' r h hQ
      · subst e
        cases h
        exact hQ
theorem ob_t {τ : Type} {c : Prop} [Decidable c] {a b : Option τ} {r : τ} (E : (if c then a else b) = some r) (hc : c) : a = some r := by rwa [if_pos hc] at E
theorem ob_f {τ : Type} {c : Prop} [Decidable c] {a b : Option τ} {r : τ} (E : (if c then a else b) = some r) (hc : ¬ c) : b = some r := by rwa [if_neg hc] at E
theorem ob_c {τ : Type} {c : Prop} [Decidable c] {a : Option τ} {r : τ} (E : (if c then a else none) = some r) : c ∧ a = some r := by
  by_cases hc : c
  · exact ⟨hc, by rwa [if_pos hc] at E⟩
  · rw [if_neg hc] at E; cases E
theorem ob_b {τ υ : Type} {m : Option τ} {f : τ → Option υ} {r : υ} (E : m.bind f = some r) : ∃ q, m = some q ∧ f q = some r := by
  cases m with
  | none => cases E
  | some q => exact ⟨q, rfl, E⟩
/-- references out of numbers: a place of an array of objects is written -/
theorem rf_put {al : Nat → Nat → Nat} {K : Nat} {f : Nat → Int32} {i j : Nat} (hj : j < 2147483648) : va_up (fun e => some (al K (ix (f e)))) i (some (al K j)) = fun e => some (al K (ix (if e = i then nI j else f e))) := by
  funext e
  unfold va_up
  split
  · rw [show ix (nI j) = j from nI_clamp (by omega)]
  · rfl
theorem se_l {τ υ ω : Type} {f : τ → Option ω} {g : υ → Option ω} {a : τ} {r : ω} (E : Sum.elim f g (.inl a) = some r) : f a = some r := E
theorem se_r {τ υ ω : Type} {f : τ → Option ω} {g : υ → Option ω} {a : υ} {r : ω} (E : Sum.elim f g (.inr a) = some r) : g a = some r := E
theorem qe_l {τ υ : Type} {f : τ → Prop} {g : υ → Prop} {a : τ} (E : Sum.elim f g (.inl a)) : f a := E
theorem qe_r {τ υ : Type} {f : τ → Prop} {g : υ → Prop} {a : υ} (E : Sum.elim f g (.inr a)) : g a := E
theorem qi_l {τ υ : Type} {f : τ → Prop} {g : υ → Prop} {a : τ} (E : f a) : Sum.elim f g (.inl a) := E
theorem qi_r {τ υ : Type} {f : τ → Prop} {g : υ → Prop} {a : υ} (E : g a) : Sum.elim f g (.inr a) := E
theorem in_lt {j : Int32} {n : Nat} (hj : inb j n) : ix j < n := Nat.not_le.mp (fun q => hj (Or.inr q))
theorem ne_ti {x k : Int32} (hx : ¬ x = k) : x.toInt ≠ k.toInt := fun e => hx (Int32.toInt_inj.mp e)
section SWr
variable {l : Launch} {D : va_G} {cl : List vw_C} {R : Room} {nL : Nat} {X : CX} {cc : ByteArray} {own : String} {Ts : List Cond} {tys : List (ClassId × FieldType)} {cells slots pc : Nat} {h h0 : AH} {lv : List (Nat × Value)} {rest : List Value}
variable {dm : Nat → Nat} {cf : (Nat → Nat → Nat) → Nat → Nat → (Nat → Int32) → (Nat → Int64) → va_E} {al : Nat → Nat → Nat} {σ : ST}
theorem sw_get (M : Mx D cl nL X cc own Ts tys) (hG : SW dm cf al σ h0 h) (K i : Nat) (hi : i < dm K) {C : String} {T : u_T} {N ci index : Nat} (hin : ∀ w ∈ u_ws C T N, w ∈ Ts) {fs : List Value} (hcell : cf al K i (fun k => gi σ K i k) (fun k => gl σ K i k) = .inr (ci, fs)) (hc : cl[ci]? = some (C, T, N)) (k0 : Nat) (hk : k0 < N) (hlink : Cond.fieldLink own index (T k0).1 (T k0).2.1 (T k0).2.2.1 ∈ Ts) {v : Value} (hv : fs[k0]? = some v) (d : decode cc pc = .ok (.getfield index, 3)) (k : AW l D cl R nL X cells slots h (pc + 3) lv (v :: rest)) : AW l D cl R nL X cells slots h pc lv (.ref (al K i) :: rest) :=
  ax_get M hin ((hG.at K i hi).trans (congrArg some hcell)) hc k0 hk hlink hv d k
theorem sw_getN (M : Mx D cl nL X cc own Ts tys) (hG : SW dm cf al σ h0 h) (K i : Nat) (hi : i < dm K) {C host : String} {T : u_T} {N ci index : Nat} (hin : ∀ w ∈ u_ws C T N, w ∈ Ts) {fs : List Value} (hcell : cf al K i (fun k => gi σ K i k) (fun k => gl σ K i k) = .inr (ci, fs)) (hc : cl[ci]? = some (C, T, N)) (k0 : Nat) (hk : k0 < N) (hlink : Cond.fieldLinkNest own index (T k0).1 (T k0).2.1 (T k0).2.2.1 host ∈ Ts) {v : Value} (hv : fs[k0]? = some v) (d : decode cc pc = .ok (.getfield index, 3)) (k : AW l D cl R nL X cells slots h (pc + 3) lv (v :: rest)) : AW l D cl R nL X cells slots h pc lv (.ref (al K i) :: rest) :=
  ax_getN M hin ((hG.at K i hi).trans (congrArg some hcell)) hc k0 hk hlink hv d k
theorem sw_put (M : Mx D cl nL X cc own Ts tys) (hG : SW dm cf al σ h0 h) (K i : Nat) (hi : i < dm K) {C : String} {T : u_T} {N ci index : Nat} (hin : ∀ w ∈ u_ws C T N, w ∈ Ts) (ty0 : Nat → FieldType) (hty : ∀ k, k < N → parseFieldDescriptor (T k).2.2.1 = some (ty0 k)) (hnm : ∀ a, a < N → ∀ b, b < N → a ≠ b → (T a).2.1 ≠ (T b).2.1) {fs : List Value} (hcell : cf al K i (fun k => gi σ K i k) (fun k => gl σ K i k) = .inr (ci, fs)) (hc : cl[ci]? = some (C, T, N)) (k0 : Nat) (hk : k0 < N) (hlink : Cond.fieldLink own index (T k0).1 (T k0).2.1 (T k0).2.2.1 ∈ Ts) (hfin : (T k0).2.2.2 = false) {x : Int32} (hn : narrow (ty0 k0) (.int x) = .int x) (hfit : fits (ty0 k0) (.int x) = true) (hlen : k0 < fs.length) (hnew : .inr (ci, fs.set k0 (.int x)) = cf al K i (fun k' => if k' = k0 then x else gi σ K i k') (fun k' => gl σ K i k')) (d : decode cc pc = .ok (.putfield index, 3)) (k : ∀ h1 : AH, SW dm cf al (su σ K i k0 x) h0 h1 → AW l D cl R nL X cells slots h1 (pc + 3) lv rest) : AW l D cl R nL X cells slots h pc lv (.int x :: .ref (al K i) :: rest) :=
  ax_put M hin ty0 hty hnm ((hG.at K i hi).trans (congrArg some hcell)) hc k0 hk hlink hfin hn hfit hlen d (k _ (hG.put K i k0 x hi hnew))
theorem sw_putN (M : Mx D cl nL X cc own Ts tys) (hG : SW dm cf al σ h0 h) (K i : Nat) (hi : i < dm K) {C host : String} {T : u_T} {N ci index : Nat} (hin : ∀ w ∈ u_ws C T N, w ∈ Ts) (ty0 : Nat → FieldType) (hty : ∀ k, k < N → parseFieldDescriptor (T k).2.2.1 = some (ty0 k)) (hnm : ∀ a, a < N → ∀ b, b < N → a ≠ b → (T a).2.1 ≠ (T b).2.1) {fs : List Value} (hcell : cf al K i (fun k => gi σ K i k) (fun k => gl σ K i k) = .inr (ci, fs)) (hc : cl[ci]? = some (C, T, N)) (k0 : Nat) (hk : k0 < N) (hlink : Cond.fieldLinkNest own index (T k0).1 (T k0).2.1 (T k0).2.2.1 host ∈ Ts) (hfin : (T k0).2.2.2 = false) {x : Int32} (hn : narrow (ty0 k0) (.int x) = .int x) (hfit : fits (ty0 k0) (.int x) = true) (hlen : k0 < fs.length) (hnew : .inr (ci, fs.set k0 (.int x)) = cf al K i (fun k' => if k' = k0 then x else gi σ K i k') (fun k' => gl σ K i k')) (d : decode cc pc = .ok (.putfield index, 3)) (k : ∀ h1 : AH, SW dm cf al (su σ K i k0 x) h0 h1 → AW l D cl R nL X cells slots h1 (pc + 3) lv rest) : AW l D cl R nL X cells slots h pc lv (.int x :: .ref (al K i) :: rest) :=
  ax_putN M hin ty0 hty hnm ((hG.at K i hi).trans (congrArg some hcell)) hc k0 hk hlink hfin hn hfit hlen d (k _ (hG.put K i k0 x hi hnew))
theorem sw_iald (M : Mx D cl nL X cc own Ts tys) (hG : SW dm cf al σ h0 h) (K i : Nat) (hi : i < dm K) {cA : ClassId} {n : Nat} (hcell : cf al K i (fun k => gi σ K i k) (fun k => gl σ K i k) = .inl (cA, n, .inl (fun k => gi σ K i k))) (t0 : Nat) (ht : tys[t0]? = some (cA, .int)) {j : Int32} (hj : inb j n) (d : decode cc pc = .ok (.iaload, 1)) (k : AW l D cl R nL X cells slots h (pc + 1) lv (.int (gi σ K i (ix j)) :: rest)) : AW l D cl R nL X cells slots h pc lv (.int j :: .ref (al K i) :: rest) :=
  ax_iald M ((hG.at K i hi).trans (congrArg some hcell)) t0 ht hj d k
theorem sw_iast (M : Mx D cl nL X cc own Ts tys) (hG : SW dm cf al σ h0 h) (K i : Nat) (hi : i < dm K) {cA : ClassId} {n : Nat} (hcell : cf al K i (fun k => gi σ K i k) (fun k => gl σ K i k) = .inl (cA, n, .inl (fun k => gi σ K i k))) (t0 : Nat) (ht : tys[t0]? = some (cA, .int)) {j x : Int32} (hj : inb j n) (hnew : .inl (cA, n, .inl (fun k' => if k' = ix j then x else gi σ K i k')) = cf al K i (fun k' => if k' = ix j then x else gi σ K i k') (fun k' => gl σ K i k')) (d : decode cc pc = .ok (.iastore, 1)) (k : ∀ h1 : AH, SW dm cf al (su σ K i (ix j) x) h0 h1 → AW l D cl R nL X cells slots h1 (pc + 1) lv rest) : AW l D cl R nL X cells slots h pc lv (.int x :: .int j :: .ref (al K i) :: rest) :=
  ax_iast M ((hG.at K i hi).trans (congrArg some hcell)) t0 ht hj d (k _ (hG.put K i (ix j) x hi hnew))
theorem sw_zald (M : Mx D cl nL X cc own Ts tys) (hG : SW dm cf al σ h0 h) (K i : Nat) (hi : i < dm K) {cA : ClassId} {n : Nat} (hcell : cf al K i (fun k => gi σ K i k) (fun k => gl σ K i k) = .inl (cA, n, .inl (fun k => gi σ K i k))) (t0 : Nat) (ht : tys[t0]? = some (cA, .boolean)) {j : Int32} (hj : inb j n) (d : decode cc pc = .ok (.baload, 1)) (k : AW l D cl R nL X cells slots h (pc + 1) lv (.int (gi σ K i (ix j)) :: rest)) : AW l D cl R nL X cells slots h pc lv (.int j :: .ref (al K i) :: rest) :=
  ax_zald M ((hG.at K i hi).trans (congrArg some hcell)) t0 ht hj d k
theorem sw_zast (M : Mx D cl nL X cc own Ts tys) (hG : SW dm cf al σ h0 h) (K i : Nat) (hi : i < dm K) {cA : ClassId} {n : Nat} (hcell : cf al K i (fun k => gi σ K i k) (fun k => gl σ K i k) = .inl (cA, n, .inl (fun k => gi σ K i k))) (t0 : Nat) (ht : tys[t0]? = some (cA, .boolean)) {j x : Int32} (hj : inb j n) (hx : isb x) (hnew : .inl (cA, n, .inl (fun k' => if k' = ix j then x else gi σ K i k')) = cf al K i (fun k' => if k' = ix j then x else gi σ K i k') (fun k' => gl σ K i k')) (d : decode cc pc = .ok (.bastore, 1)) (k : ∀ h1 : AH, SW dm cf al (su σ K i (ix j) x) h0 h1 → AW l D cl R nL X cells slots h1 (pc + 1) lv rest) : AW l D cl R nL X cells slots h pc lv (.int x :: .int j :: .ref (al K i) :: rest) :=
  ax_zast M ((hG.at K i hi).trans (congrArg some hcell)) t0 ht hj (isb_nar hx) d (k _ (hG.put K i (ix j) x hi hnew))
theorem sw_lald (M : Mx D cl nL X cc own Ts tys) (hG : SW dm cf al σ h0 h) (K i : Nat) (hi : i < dm K) {cA : ClassId} {n : Nat} (hcell : cf al K i (fun k => gi σ K i k) (fun k => gl σ K i k) = .inl (cA, n, .inr (.inl (fun k => gl σ K i k)))) (t0 : Nat) (ht : tys[t0]? = some (cA, .long)) {j : Int32} (hj : inb j n) (d : decode cc pc = .ok (.laload, 1)) (k : AW l D cl R nL X cells slots h (pc + 1) lv (.long (gl σ K i (ix j)) :: rest)) : AW l D cl R nL X cells slots h pc lv (.int j :: .ref (al K i) :: rest) :=
  ax_lald M ((hG.at K i hi).trans (congrArg some hcell)) t0 ht hj d k
theorem sw_last (M : Mx D cl nL X cc own Ts tys) (hG : SW dm cf al σ h0 h) (K i : Nat) (hi : i < dm K) {cA : ClassId} {n : Nat} (hcell : cf al K i (fun k => gi σ K i k) (fun k => gl σ K i k) = .inl (cA, n, .inr (.inl (fun k => gl σ K i k)))) (t0 : Nat) (ht : tys[t0]? = some (cA, .long)) {j : Int32} {x : Int64} (hj : inb j n) (hnew : .inl (cA, n, .inr (.inl (fun k' => if k' = ix j then x else gl σ K i k'))) = cf al K i (fun k' => gi σ K i k') (fun k' => if k' = ix j then x else gl σ K i k')) (d : decode cc pc = .ok (.lastore, 1)) (k : ∀ h1 : AH, SW dm cf al (sl σ K i (ix j) x) h0 h1 → AW l D cl R nL X cells slots h1 (pc + 1) lv rest) : AW l D cl R nL X cells slots h pc lv (.long x :: .int j :: .ref (al K i) :: rest) :=
  ax_last M ((hG.at K i hi).trans (congrArg some hcell)) t0 ht hj d (k _ (hG.putl K i (ix j) x hi hnew))
/-- an array of objects: place j holds the object of kind K2 and number g j -/
theorem sw_aldq (M : Mx D cl nL X cc own Ts tys) (hG : SW dm cf al σ h0 h) (K i : Nat) (hi : i < dm K) {K2 : Nat} {g : Nat → Nat} {cA : ClassId} {n : Nat} (hcell : cf al K i (fun k => gi σ K i k) (fun k => gl σ K i k) = .inl (cA, n, .inr (.inr (.inr (.inr (fun e => some (al K2 (g e)))))))) (t0 : Nat) {ty : FieldType} (ht : tys[t0]? = some (cA, ty)) (hty : ty.isReference = true) {j : Int32} (hj : inb j n) (d : decode cc pc = .ok (.aaload, 1)) (k : AW l D cl R nL X cells slots h (pc + 1) lv (.ref (al K2 (g (ix j))) :: rest)) : AW l D cl R nL X cells slots h pc lv (.int j :: .ref (al K i) :: rest) :=
  ax_aldq M ((hG.at K i hi).trans (congrArg some hcell)) t0 ht hty hj rfl d k
theorem sw_astq (M : Mx D cl nL X cc own Ts tys) (hG : SW dm cf al σ h0 h) (K i : Nat) (hi : i < dm K) {K2 j2 : Nat} (hj2 : j2 < dm K2) (hb2 : j2 < 2147483648) {cA : ClassId} {n : Nat} (hcell : cf al K i (fun k => gi σ K i k) (fun k => gl σ K i k) = .inl (cA, n, .inr (.inr (.inr (.inr (fun e => some (al K2 (ix (gi σ K i e))))))))) (t0 : Nat) {ci : Nat} {r : vw_C} {vs : List Value} (ht : tys[t0]? = some (cA, .object r.1)) (hc2 : cf al K2 j2 (fun k => gi σ K2 j2 k) (fun k => gl σ K2 j2 k) = .inr (ci, vs)) (hc : cl[ci]? = some r) {j : Int32} (hj : inb j n) (hnew : .inl (cA, n, .inr (.inr (.inr (.inr (fun e => some (al K2 (ix (if e = ix j then nI j2 else gi σ K i e)))))))) = cf al K i (fun k' => if k' = ix j then nI j2 else gi σ K i k') (fun k' => gl σ K i k')) (d : decode cc pc = .ok (.aastore, 1)) (k : ∀ h1 : AH, SW dm cf al (su σ K i (ix j) (nI j2)) h0 h1 → AW l D cl R nL X cells slots h1 (pc + 1) lv rest) : AW l D cl R nL X cells slots h pc lv (.ref (al K2 j2) :: .int j :: .ref (al K i) :: rest) := by
  refine ax_astq M ((hG.at K i hi).trans (congrArg some hcell)) t0 ht ((hG.at K2 j2 hj2).trans (congrArg some hc2)) hc hj d (k _ (hG.put K i (ix j) (nI j2) hi ?_))
  rw [rf_put hb2]
  exact hnew
end SWr
end
