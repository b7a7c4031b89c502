section
-- ===== PART A: goes FIRST, ahead of the names: the tables' words, and 'selects' of the private methods out of them =====
/-- a private method of a class that the tables say can be made, by its rows of tables_1 -/
def lw_okq (q : MethodName × Nat) : Prop := (q.1.cls ≠ "java/lang/invoke/MethodHandle" ∧ q.1.cls ≠ "java/lang/invoke/VarHandle") ∧ Cond.instantiable q.1.cls q.2 ∈ tables_1 ∧ Cond.privateMethod q.1 ∈ tables_1 ∧ Cond.instanceMethod q.1 ∈ tables_1
theorem lw_p0 : lw_okq (⟨"RateGraph", "isActor", "(I)Z"⟩, 9) := ⟨⟨by decide +kernel, by decide +kernel⟩, List.mem_of_getElem? (i := 7) (by decide +kernel), List.mem_of_getElem? (i := 142) (by decide +kernel), List.mem_of_getElem? (i := 143) (by decide +kernel)⟩
theorem lw_p1 : lw_okq (⟨"RateGraph", "isEdge", "(I)Z"⟩, 9) := ⟨⟨by decide +kernel, by decide +kernel⟩, List.mem_of_getElem? (i := 7) (by decide +kernel), List.mem_of_getElem? (i := 150) (by decide +kernel), List.mem_of_getElem? (i := 151) (by decide +kernel)⟩
theorem lw_p2 : lw_okq (⟨"RateGraph", "countActors", "()I"⟩, 9) := ⟨⟨by decide +kernel, by decide +kernel⟩, List.mem_of_getElem? (i := 7) (by decide +kernel), List.mem_of_getElem? (i := 158) (by decide +kernel), List.mem_of_getElem? (i := 159) (by decide +kernel)⟩
theorem lw_p3 : lw_okq (⟨"RateGraph", "findCulprit", "()I"⟩, 9) := ⟨⟨by decide +kernel, by decide +kernel⟩, List.mem_of_getElem? (i := 7) (by decide +kernel), List.mem_of_getElem? (i := 162) (by decide +kernel), List.mem_of_getElem? (i := 163) (by decide +kernel)⟩
theorem lw_p4 : lw_okq (⟨"RateGraph", "makePartsOfOne", "()V"⟩, 9) := ⟨⟨by decide +kernel, by decide +kernel⟩, List.mem_of_getElem? (i := 7) (by decide +kernel), List.mem_of_getElem? (i := 166) (by decide +kernel), List.mem_of_getElem? (i := 167) (by decide +kernel)⟩
theorem lw_p5 : lw_okq (⟨"RateGraph", "balance", "(LRateGraph$Edge;)Z"⟩, 9) := ⟨⟨by decide +kernel, by decide +kernel⟩, List.mem_of_getElem? (i := 7) (by decide +kernel), List.mem_of_getElem? (i := 170) (by decide +kernel), List.mem_of_getElem? (i := 171) (by decide +kernel)⟩
theorem lw_p6 : lw_okq (⟨"RateGraph", "scalePart", "(II)V"⟩, 9) := ⟨⟨by decide +kernel, by decide +kernel⟩, List.mem_of_getElem? (i := 7) (by decide +kernel), List.mem_of_getElem? (i := 180) (by decide +kernel), List.mem_of_getElem? (i := 181) (by decide +kernel)⟩
theorem lw_p7 : lw_okq (⟨"RateGraph", "joinParts", "(II)V"⟩, 9) := ⟨⟨by decide +kernel, by decide +kernel⟩, List.mem_of_getElem? (i := 7) (by decide +kernel), List.mem_of_getElem? (i := 184) (by decide +kernel), List.mem_of_getElem? (i := 185) (by decide +kernel)⟩
theorem lw_p8 : lw_okq (⟨"RateGraph", "keepRepetitions", "()I"⟩, 9) := ⟨⟨by decide +kernel, by decide +kernel⟩, List.mem_of_getElem? (i := 7) (by decide +kernel), List.mem_of_getElem? (i := 188) (by decide +kernel), List.mem_of_getElem? (i := 189) (by decide +kernel)⟩
theorem lw_p9 : lw_okq (⟨"RateGraph", "makeSchedule", "(I)I"⟩, 9) := ⟨⟨by decide +kernel, by decide +kernel⟩, List.mem_of_getElem? (i := 7) (by decide +kernel), List.mem_of_getElem? (i := 192) (by decide +kernel), List.mem_of_getElem? (i := 193) (by decide +kernel)⟩
theorem lw_p10 : lw_okq (⟨"RateGraph", "choose", "(II)I"⟩, 9) := ⟨⟨by decide +kernel, by decide +kernel⟩, List.mem_of_getElem? (i := 7) (by decide +kernel), List.mem_of_getElem? (i := 196) (by decide +kernel), List.mem_of_getElem? (i := 197) (by decide +kernel)⟩
theorem lw_p11 : lw_okq (⟨"RateGraph", "chooseFewestTokens", "()I"⟩, 9) := ⟨⟨by decide +kernel, by decide +kernel⟩, List.mem_of_getElem? (i := 7) (by decide +kernel), List.mem_of_getElem? (i := 200) (by decide +kernel), List.mem_of_getElem? (i := 201) (by decide +kernel)⟩
theorem lw_p12 : lw_okq (⟨"RateGraph", "canFire", "(I)Z"⟩, 9) := ⟨⟨by decide +kernel, by decide +kernel⟩, List.mem_of_getElem? (i := 7) (by decide +kernel), List.mem_of_getElem? (i := 204) (by decide +kernel), List.mem_of_getElem? (i := 205) (by decide +kernel)⟩
theorem lw_p13 : lw_okq (⟨"RateGraph$Actor", "isDue", "()Z"⟩, 10) := ⟨⟨by decide +kernel, by decide +kernel⟩, List.mem_of_getElem? (i := 20) (by decide +kernel), List.mem_of_getElem? (i := 208) (by decide +kernel), List.mem_of_getElem? (i := 209) (by decide +kernel)⟩
theorem lw_p14 : lw_okq (⟨"RateGraph", "isReady", "(I)Z"⟩, 9) := ⟨⟨by decide +kernel, by decide +kernel⟩, List.mem_of_getElem? (i := 7) (by decide +kernel), List.mem_of_getElem? (i := 212) (by decide +kernel), List.mem_of_getElem? (i := 213) (by decide +kernel)⟩
theorem lw_p15 : lw_okq (⟨"RateGraph", "tokensWonBy", "(I)I"⟩, 9) := ⟨⟨by decide +kernel, by decide +kernel⟩, List.mem_of_getElem? (i := 7) (by decide +kernel), List.mem_of_getElem? (i := 216) (by decide +kernel), List.mem_of_getElem? (i := 217) (by decide +kernel)⟩
def lw_privs_1 : List (MethodName × Nat) := [(⟨"RateGraph", "isActor", "(I)Z"⟩, 9), (⟨"RateGraph", "isEdge", "(I)Z"⟩, 9), (⟨"RateGraph", "countActors", "()I"⟩, 9), (⟨"RateGraph", "findCulprit", "()I"⟩, 9), (⟨"RateGraph", "makePartsOfOne", "()V"⟩, 9), (⟨"RateGraph", "balance", "(LRateGraph$Edge;)Z"⟩, 9), (⟨"RateGraph", "scalePart", "(II)V"⟩, 9), (⟨"RateGraph", "joinParts", "(II)V"⟩, 9), (⟨"RateGraph", "keepRepetitions", "()I"⟩, 9), (⟨"RateGraph", "makeSchedule", "(I)I"⟩, 9), (⟨"RateGraph", "choose", "(II)I"⟩, 9), (⟨"RateGraph", "chooseFewestTokens", "()I"⟩, 9), (⟨"RateGraph", "canFire", "(I)Z"⟩, 9), (⟨"RateGraph$Actor", "isDue", "()Z"⟩, 10), (⟨"RateGraph", "isReady", "(I)Z"⟩, 9), (⟨"RateGraph", "tokensWonBy", "(I)I"⟩, 9)]
theorem lw_r1 : ∀ q ∈ lw_privs_1, lw_okq q := List.forall_mem_cons.mpr ⟨lw_p0, List.forall_mem_cons.mpr ⟨lw_p1, List.forall_mem_cons.mpr ⟨lw_p2, List.forall_mem_cons.mpr ⟨lw_p3, List.forall_mem_cons.mpr ⟨lw_p4, List.forall_mem_cons.mpr ⟨lw_p5, List.forall_mem_cons.mpr ⟨lw_p6, List.forall_mem_cons.mpr ⟨lw_p7, List.forall_mem_cons.mpr ⟨lw_p8, List.forall_mem_cons.mpr ⟨lw_p9, List.forall_mem_cons.mpr ⟨lw_p10, List.forall_mem_cons.mpr ⟨lw_p11, List.forall_mem_cons.mpr ⟨lw_p12, List.forall_mem_cons.mpr ⟨lw_p13, List.forall_mem_cons.mpr ⟨lw_p14, List.forall_mem_cons.mpr ⟨lw_p15, fun _ h => absurd h List.not_mem_nil⟩⟩⟩⟩⟩⟩⟩⟩⟩⟩⟩⟩⟩⟩⟩⟩
theorem lw_p16 : lw_okq (⟨"RateGraph", "chooseFrom", "(I)I"⟩, 9) := ⟨⟨by decide +kernel, by decide +kernel⟩, List.mem_of_getElem? (i := 7) (by decide +kernel), List.mem_of_getElem? (i := 220) (by decide +kernel), List.mem_of_getElem? (i := 221) (by decide +kernel)⟩
theorem lw_p17 : lw_okq (⟨"RateGraph", "leastDue", "()I"⟩, 9) := ⟨⟨by decide +kernel, by decide +kernel⟩, List.mem_of_getElem? (i := 7) (by decide +kernel), List.mem_of_getElem? (i := 224) (by decide +kernel), List.mem_of_getElem? (i := 225) (by decide +kernel)⟩
theorem lw_p18 : lw_okq (⟨"RateGraph", "fireCounting", "(I)V"⟩, 9) := ⟨⟨by decide +kernel, by decide +kernel⟩, List.mem_of_getElem? (i := 7) (by decide +kernel), List.mem_of_getElem? (i := 228) (by decide +kernel), List.mem_of_getElem? (i := 229) (by decide +kernel)⟩
theorem lw_p19 : lw_okq (⟨"RateGraph", "setRunAsAtFirst", "()V"⟩, 9) := ⟨⟨by decide +kernel, by decide +kernel⟩, List.mem_of_getElem? (i := 7) (by decide +kernel), List.mem_of_getElem? (i := 232) (by decide +kernel), List.mem_of_getElem? (i := 233) (by decide +kernel)⟩
theorem lw_p20 : lw_okq (⟨"RateGraph$Actor", "forgetRun", "()V"⟩, 10) := ⟨⟨by decide +kernel, by decide +kernel⟩, List.mem_of_getElem? (i := 20) (by decide +kernel), List.mem_of_getElem? (i := 236) (by decide +kernel), List.mem_of_getElem? (i := 237) (by decide +kernel)⟩
theorem lw_p21 : lw_okq (⟨"RateGraph$Edge", "setAsAtFirst", "()V"⟩, 9) := ⟨⟨by decide +kernel, by decide +kernel⟩, List.mem_of_getElem? (i := 63) (by decide +kernel), List.mem_of_getElem? (i := 240) (by decide +kernel), List.mem_of_getElem? (i := 241) (by decide +kernel)⟩
theorem lw_p22 : lw_okq (⟨"RateGraph", "fire", "(I)V"⟩, 9) := ⟨⟨by decide +kernel, by decide +kernel⟩, List.mem_of_getElem? (i := 7) (by decide +kernel), List.mem_of_getElem? (i := 248) (by decide +kernel), List.mem_of_getElem? (i := 249) (by decide +kernel)⟩
theorem lw_p23 : lw_okq (⟨"RateGraph$Edge", "takeWeighed", "()I"⟩, 9) := ⟨⟨by decide +kernel, by decide +kernel⟩, List.mem_of_getElem? (i := 63) (by decide +kernel), List.mem_of_getElem? (i := 252) (by decide +kernel), List.mem_of_getElem? (i := 253) (by decide +kernel)⟩
theorem lw_p24 : lw_okq (⟨"RateGraph$Edge", "at", "(I)I"⟩, 9) := ⟨⟨by decide +kernel, by decide +kernel⟩, List.mem_of_getElem? (i := 63) (by decide +kernel), List.mem_of_getElem? (i := 256) (by decide +kernel), List.mem_of_getElem? (i := 257) (by decide +kernel)⟩
theorem lw_p25 : lw_okq (⟨"RateGraph$Actor", "answerTo", "(I)I"⟩, 10) := ⟨⟨by decide +kernel, by decide +kernel⟩, List.mem_of_getElem? (i := 20) (by decide +kernel), List.mem_of_getElem? (i := 260) (by decide +kernel), List.mem_of_getElem? (i := 261) (by decide +kernel)⟩
theorem lw_p26 : lw_okq (⟨"RateGraph$Edge", "putFrom", "(I)V"⟩, 9) := ⟨⟨by decide +kernel, by decide +kernel⟩, List.mem_of_getElem? (i := 63) (by decide +kernel), List.mem_of_getElem? (i := 264) (by decide +kernel), List.mem_of_getElem? (i := 265) (by decide +kernel)⟩
theorem lw_p27 : lw_okq (⟨"RateGraph", "canNest", "()Z"⟩, 9) := ⟨⟨by decide +kernel, by decide +kernel⟩, List.mem_of_getElem? (i := 7) (by decide +kernel), List.mem_of_getElem? (i := 284) (by decide +kernel), List.mem_of_getElem? (i := 285) (by decide +kernel)⟩
theorem lw_p28 : lw_okq (⟨"RateGraph$Edge", "isLoop", "()Z"⟩, 9) := ⟨⟨by decide +kernel, by decide +kernel⟩, List.mem_of_getElem? (i := 63) (by decide +kernel), List.mem_of_getElem? (i := 288) (by decide +kernel), List.mem_of_getElem? (i := 289) (by decide +kernel)⟩
theorem lw_p29 : lw_okq (⟨"RateGraph", "nestedRoom", "()I"⟩, 9) := ⟨⟨by decide +kernel, by decide +kernel⟩, List.mem_of_getElem? (i := 7) (by decide +kernel), List.mem_of_getElem? (i := 292) (by decide +kernel), List.mem_of_getElem? (i := 293) (by decide +kernel)⟩
theorem lw_p30 : lw_okq (⟨"RateGraph", "listActors", "()I"⟩, 9) := ⟨⟨by decide +kernel, by decide +kernel⟩, List.mem_of_getElem? (i := 7) (by decide +kernel), List.mem_of_getElem? (i := 296) (by decide +kernel), List.mem_of_getElem? (i := 297) (by decide +kernel)⟩
theorem lw_p31 : lw_okq (⟨"RateGraph", "costOfStretch", "(II)I"⟩, 9) := ⟨⟨by decide +kernel, by decide +kernel⟩, List.mem_of_getElem? (i := 7) (by decide +kernel), List.mem_of_getElem? (i := 300) (by decide +kernel), List.mem_of_getElem? (i := 301) (by decide +kernel)⟩
def lw_privs_2 : List (MethodName × Nat) := [(⟨"RateGraph", "chooseFrom", "(I)I"⟩, 9), (⟨"RateGraph", "leastDue", "()I"⟩, 9), (⟨"RateGraph", "fireCounting", "(I)V"⟩, 9), (⟨"RateGraph", "setRunAsAtFirst", "()V"⟩, 9), (⟨"RateGraph$Actor", "forgetRun", "()V"⟩, 10), (⟨"RateGraph$Edge", "setAsAtFirst", "()V"⟩, 9), (⟨"RateGraph", "fire", "(I)V"⟩, 9), (⟨"RateGraph$Edge", "takeWeighed", "()I"⟩, 9), (⟨"RateGraph$Edge", "at", "(I)I"⟩, 9), (⟨"RateGraph$Actor", "answerTo", "(I)I"⟩, 10), (⟨"RateGraph$Edge", "putFrom", "(I)V"⟩, 9), (⟨"RateGraph", "canNest", "()Z"⟩, 9), (⟨"RateGraph$Edge", "isLoop", "()Z"⟩, 9), (⟨"RateGraph", "nestedRoom", "()I"⟩, 9), (⟨"RateGraph", "listActors", "()I"⟩, 9), (⟨"RateGraph", "costOfStretch", "(II)I"⟩, 9)]
theorem lw_r2 : ∀ q ∈ lw_privs_2, lw_okq q := List.forall_mem_cons.mpr ⟨lw_p16, List.forall_mem_cons.mpr ⟨lw_p17, List.forall_mem_cons.mpr ⟨lw_p18, List.forall_mem_cons.mpr ⟨lw_p19, List.forall_mem_cons.mpr ⟨lw_p20, List.forall_mem_cons.mpr ⟨lw_p21, List.forall_mem_cons.mpr ⟨lw_p22, List.forall_mem_cons.mpr ⟨lw_p23, List.forall_mem_cons.mpr ⟨lw_p24, List.forall_mem_cons.mpr ⟨lw_p25, List.forall_mem_cons.mpr ⟨lw_p26, List.forall_mem_cons.mpr ⟨lw_p27, List.forall_mem_cons.mpr ⟨lw_p28, List.forall_mem_cons.mpr ⟨lw_p29, List.forall_mem_cons.mpr ⟨lw_p30, List.forall_mem_cons.mpr ⟨lw_p31, fun _ h => absurd h List.not_mem_nil⟩⟩⟩⟩⟩⟩⟩⟩⟩⟩⟩⟩⟩⟩⟩⟩
theorem lw_p32 : lw_okq (⟨"RateGraph", "divisorOfStretch", "(II)I"⟩, 9) := ⟨⟨by decide +kernel, by decide +kernel⟩, List.mem_of_getElem? (i := 7) (by decide +kernel), List.mem_of_getElem? (i := 304) (by decide +kernel), List.mem_of_getElem? (i := 305) (by decide +kernel)⟩
theorem lw_p33 : lw_okq (⟨"RateGraph", "tokensAcross", "(III)I"⟩, 9) := ⟨⟨by decide +kernel, by decide +kernel⟩, List.mem_of_getElem? (i := 7) (by decide +kernel), List.mem_of_getElem? (i := 309) (by decide +kernel), List.mem_of_getElem? (i := 310) (by decide +kernel)⟩
theorem lw_p34 : lw_okq (⟨"RateGraph", "countParts", "()I"⟩, 9) := ⟨⟨by decide +kernel, by decide +kernel⟩, List.mem_of_getElem? (i := 7) (by decide +kernel), List.mem_of_getElem? (i := 334) (by decide +kernel), List.mem_of_getElem? (i := 335) (by decide +kernel)⟩
theorem lw_p35 : lw_okq (⟨"RateGraph", "countRuns", "()I"⟩, 9) := ⟨⟨by decide +kernel, by decide +kernel⟩, List.mem_of_getElem? (i := 7) (by decide +kernel), List.mem_of_getElem? (i := 338) (by decide +kernel), List.mem_of_getElem? (i := 339) (by decide +kernel)⟩
theorem lw_p36 : lw_okq (⟨"RateGraph", "sumOfPeaks", "()I"⟩, 9) := ⟨⟨by decide +kernel, by decide +kernel⟩, List.mem_of_getElem? (i := 7) (by decide +kernel), List.mem_of_getElem? (i := 342) (by decide +kernel), List.mem_of_getElem? (i := 343) (by decide +kernel)⟩
theorem lw_p37 : lw_okq (⟨"RateGraph", "sumOfTokens", "()I"⟩, 9) := ⟨⟨by decide +kernel, by decide +kernel⟩, List.mem_of_getElem? (i := 7) (by decide +kernel), List.mem_of_getElem? (i := 346) (by decide +kernel), List.mem_of_getElem? (i := 347) (by decide +kernel)⟩
theorem lw_p38 : lw_okq (⟨"RateGraphModel", "isActor", "(I)Z"⟩, 25) := ⟨⟨by decide +kernel, by decide +kernel⟩, List.mem_of_getElem? (i := 350) (by decide +kernel), List.mem_of_getElem? (i := 442) (by decide +kernel), List.mem_of_getElem? (i := 443) (by decide +kernel)⟩
theorem lw_p39 : lw_okq (⟨"RateGraphModel", "balance", "(I)Z"⟩, 25) := ⟨⟨by decide +kernel, by decide +kernel⟩, List.mem_of_getElem? (i := 350) (by decide +kernel), List.mem_of_getElem? (i := 454) (by decide +kernel), List.mem_of_getElem? (i := 455) (by decide +kernel)⟩
theorem lw_p40 : lw_okq (⟨"RateGraphModel", "setFraction", "(IJJ)V"⟩, 25) := ⟨⟨by decide +kernel, by decide +kernel⟩, List.mem_of_getElem? (i := 350) (by decide +kernel), List.mem_of_getElem? (i := 458) (by decide +kernel), List.mem_of_getElem? (i := 459) (by decide +kernel)⟩
theorem lw_p41 : lw_okq (⟨"RateGraphModel", "repeat", "()I"⟩, 25) := ⟨⟨by decide +kernel, by decide +kernel⟩, List.mem_of_getElem? (i := 350) (by decide +kernel), List.mem_of_getElem? (i := 465) (by decide +kernel), List.mem_of_getElem? (i := 466) (by decide +kernel)⟩
theorem lw_p42 : lw_okq (⟨"RateGraphModel", "whole", "(II)Z"⟩, 25) := ⟨⟨by decide +kernel, by decide +kernel⟩, List.mem_of_getElem? (i := 350) (by decide +kernel), List.mem_of_getElem? (i := 469) (by decide +kernel), List.mem_of_getElem? (i := 470) (by decide +kernel)⟩
theorem lw_p43 : lw_okq (⟨"RateGraphModel", "pick", "(II)I"⟩, 25) := ⟨⟨by decide +kernel, by decide +kernel⟩, List.mem_of_getElem? (i := 350) (by decide +kernel), List.mem_of_getElem? (i := 474) (by decide +kernel), List.mem_of_getElem? (i := 475) (by decide +kernel)⟩
theorem lw_p44 : lw_okq (⟨"RateGraphModel", "ready", "(I)Z"⟩, 25) := ⟨⟨by decide +kernel, by decide +kernel⟩, List.mem_of_getElem? (i := 350) (by decide +kernel), List.mem_of_getElem? (i := 478) (by decide +kernel), List.mem_of_getElem? (i := 479) (by decide +kernel)⟩
theorem lw_p45 : lw_okq (⟨"RateGraphModel", "growth", "(I)I"⟩, 25) := ⟨⟨by decide +kernel, by decide +kernel⟩, List.mem_of_getElem? (i := 350) (by decide +kernel), List.mem_of_getElem? (i := 482) (by decide +kernel), List.mem_of_getElem? (i := 483) (by decide +kernel)⟩
theorem lw_p46 : lw_okq (⟨"RateGraphModel", "step", "(I)V"⟩, 25) := ⟨⟨by decide +kernel, by decide +kernel⟩, List.mem_of_getElem? (i := 350) (by decide +kernel), List.mem_of_getElem? (i := 486) (by decide +kernel), List.mem_of_getElem? (i := 487) (by decide +kernel)⟩
theorem lw_p47 : lw_okq (⟨"RateGraphModel", "fire", "(I)V"⟩, 25) := ⟨⟨by decide +kernel, by decide +kernel⟩, List.mem_of_getElem? (i := 350) (by decide +kernel), List.mem_of_getElem? (i := 494) (by decide +kernel), List.mem_of_getElem? (i := 495) (by decide +kernel)⟩
def lw_privs_3 : List (MethodName × Nat) := [(⟨"RateGraph", "divisorOfStretch", "(II)I"⟩, 9), (⟨"RateGraph", "tokensAcross", "(III)I"⟩, 9), (⟨"RateGraph", "countParts", "()I"⟩, 9), (⟨"RateGraph", "countRuns", "()I"⟩, 9), (⟨"RateGraph", "sumOfPeaks", "()I"⟩, 9), (⟨"RateGraph", "sumOfTokens", "()I"⟩, 9), (⟨"RateGraphModel", "isActor", "(I)Z"⟩, 25), (⟨"RateGraphModel", "balance", "(I)Z"⟩, 25), (⟨"RateGraphModel", "setFraction", "(IJJ)V"⟩, 25), (⟨"RateGraphModel", "repeat", "()I"⟩, 25), (⟨"RateGraphModel", "whole", "(II)Z"⟩, 25), (⟨"RateGraphModel", "pick", "(II)I"⟩, 25), (⟨"RateGraphModel", "ready", "(I)Z"⟩, 25), (⟨"RateGraphModel", "growth", "(I)I"⟩, 25), (⟨"RateGraphModel", "step", "(I)V"⟩, 25), (⟨"RateGraphModel", "fire", "(I)V"⟩, 25)]
theorem lw_r3 : ∀ q ∈ lw_privs_3, lw_okq q := List.forall_mem_cons.mpr ⟨lw_p32, List.forall_mem_cons.mpr ⟨lw_p33, List.forall_mem_cons.mpr ⟨lw_p34, List.forall_mem_cons.mpr ⟨lw_p35, List.forall_mem_cons.mpr ⟨lw_p36, List.forall_mem_cons.mpr ⟨lw_p37, List.forall_mem_cons.mpr ⟨lw_p38, List.forall_mem_cons.mpr ⟨lw_p39, List.forall_mem_cons.mpr ⟨lw_p40, List.forall_mem_cons.mpr ⟨lw_p41, List.forall_mem_cons.mpr ⟨lw_p42, List.forall_mem_cons.mpr ⟨lw_p43, List.forall_mem_cons.mpr ⟨lw_p44, List.forall_mem_cons.mpr ⟨lw_p45, List.forall_mem_cons.mpr ⟨lw_p46, List.forall_mem_cons.mpr ⟨lw_p47, fun _ h => absurd h List.not_mem_nil⟩⟩⟩⟩⟩⟩⟩⟩⟩⟩⟩⟩⟩⟩⟩⟩
theorem lw_p48 : lw_okq (⟨"RateGraphModel", "takeFrom", "(I)I"⟩, 25) := ⟨⟨by decide +kernel, by decide +kernel⟩, List.mem_of_getElem? (i := 350) (by decide +kernel), List.mem_of_getElem? (i := 498) (by decide +kernel), List.mem_of_getElem? (i := 499) (by decide +kernel)⟩
theorem lw_p49 : lw_okq (⟨"RateGraphModel", "cut", "(III)I"⟩, 25) := ⟨⟨by decide +kernel, by decide +kernel⟩, List.mem_of_getElem? (i := 350) (by decide +kernel), List.mem_of_getElem? (i := 518) (by decide +kernel), List.mem_of_getElem? (i := 519) (by decide +kernel)⟩
def lw_privs_4 : List (MethodName × Nat) := [(⟨"RateGraphModel", "takeFrom", "(I)I"⟩, 25), (⟨"RateGraphModel", "cut", "(III)I"⟩, 25)]
theorem lw_r4 : ∀ q ∈ lw_privs_4, lw_okq q := List.forall_mem_cons.mpr ⟨lw_p48, List.forall_mem_cons.mpr ⟨lw_p49, fun _ h => absurd h List.not_mem_nil⟩⟩
def lw_privs : List (MethodName × Nat) := lw_privs_1 ++ (lw_privs_2 ++ (lw_privs_3 ++ (lw_privs_4)))
def lw_tbl : List Cond := k2_sels lw_privs ++ tables_1
theorem lw_privs_ok : ∀ q ∈ lw_privs, lw_okq q := by
  show ∀ q ∈ lw_privs_1 ++ (lw_privs_2 ++ (lw_privs_3 ++ (lw_privs_4))), lw_okq q
  exact List.forall_mem_append.mpr ⟨lw_r1, List.forall_mem_append.mpr ⟨lw_r2, List.forall_mem_append.mpr ⟨lw_r3, lw_r4⟩⟩⟩
-- ===== end of PART A; then your names; then what follows =====
end
section
/-! the layer AW: a method's walk over a map from addresses to cells -/
abbrev AH : Type := Nat → Option va_E
def ah_set (h : AH) (a : Nat) (c : va_E) : AH := fun q => if q = a then some c else h q
theorem ah_same {h : AH} {a : Nat} {c : va_E} : ah_set h a c a = some c := by simp [ah_set]
theorem ah_ne {h : AH} {a q : Nat} {c : va_E} (hq : q ≠ a) : ah_set h a c q = h q := by simp [ah_set, hq]
/-- the map as a list of cells -/
def ah_cov (h : AH) (ws : va_W) : Prop := ∀ (a : Nat) (c : va_E), h a = some c ↔ ∃ k : Nat, ws[k]? = some (a, c)
/-- the heap holds the map's cells, and they lie in A -/
def XP (D : va_G) (cl : List vw_C) (A : Nat → Prop) (h : AH) (H : Heap) : Prop := ∃ ws : va_W, va_P D cl ws H ∧ va_D A ws ∧ ah_cov h ws
theorem ah_cov_set {A : Nat → Prop} {h : AH} {ws : va_W} (hc : ah_cov h ws) (hD : va_D A ws) {a k : Nat} {e e1 : va_E} (hk : ws[k]? = some (a, e)) : ah_cov (ah_set h a e1) (ws.set k (a, e1)) := by
  have hl := (List.getElem?_eq_some_iff.mp hk).1
  intro q c
  by_cases hq : q = a
  · subst hq
    rw [ah_same]
    constructor
    · intro h1
      cases h1
      exact ⟨k, List.getElem?_set_self hl⟩
    · rintro ⟨j, hj⟩
      by_cases hjk : j = k
      · subst hjk
        rw [List.getElem?_set_self hl] at hj
        cases hj
        rfl
      · rw [List.getElem?_set_ne (Ne.symm hjk)] at hj
        exact absurd (hD.1 j k _ _ hj hk rfl) hjk
  · rw [ah_ne hq, hc q c]
    constructor
    · rintro ⟨j, hj⟩
      have hjk : j ≠ k := by
        intro e2
        subst e2
        rw [hk] at hj
        cases hj
        exact hq rfl
      exact ⟨j, by rw [List.getElem?_set_ne (Ne.symm hjk)]; exact hj⟩
    · rintro ⟨j, hj⟩
      by_cases hjk : j = k
      · subst hjk
        rw [List.getElem?_set_self hl] at hj
        cases hj
        exact absurd rfl hq
      · rw [List.getElem?_set_ne (Ne.symm hjk)] at hj
        exact ⟨j, hj⟩
theorem ah_cov_push {A : Nat → Prop} {h : AH} {ws : va_W} (hc : ah_cov h ws) {a : Nat} {e1 : va_E} (hD : va_D A (ws ++ [(a, e1)])) : h a = none ∧ ah_cov (ah_set h a e1) (ws ++ [(a, e1)]) := by
  have hlast : (ws ++ [(a, e1)])[ws.length]? = some (a, e1) := by rw [List.getElem?_append_right (Nat.le_refl _), Nat.sub_self]; rfl
  have key : ∀ (j : Nat) (c : va_E), ws[j]? ≠ some (a, c) := by
    intro j c hj
    have hl := (List.getElem?_eq_some_iff.mp hj).1
    have h1 : (ws ++ [(a, e1)])[j]? = some (a, c) := by rw [List.getElem?_append_left hl]; exact hj
    have := hD.1 j ws.length _ _ h1 hlast rfl
    omega
  refine ⟨?_, ?_⟩
  · cases hh : h a with
    | none => rfl
    | some c =>
      obtain ⟨j, hj⟩ := (hc a c).mp hh
      exact absurd hj (key j c)
  · intro q c
    by_cases hq : q = a
    · subst hq
      rw [ah_same]
      constructor
      · intro h1
        cases h1
        exact ⟨_, hlast⟩
      · rintro ⟨j, hj⟩
        have h2 := hD.1 j ws.length _ _ hj hlast rfl
        subst h2
        rw [hlast] at hj
        cases hj
        rfl
    · rw [ah_ne hq, hc q c]
      constructor
      · rintro ⟨j, hj⟩
        exact ⟨j, by rw [List.getElem?_append_left (List.getElem?_eq_some_iff.mp hj).1]; exact hj⟩
      · rintro ⟨j, hj⟩
        by_cases hl : j < ws.length
        · rw [List.getElem?_append_left hl] at hj
          exact ⟨j, hj⟩
        · rw [List.getElem?_append_right (by omega)] at hj
          have hz : j - ws.length < 1 := (List.getElem?_eq_some_iff.mp hj).1
          rw [show j - ws.length = 0 by omega] at hj
          cases hj
          exact absurd rfl hq
/-- which cells a method may change: those of its map, and those that it makes -/
def ah_A (h : AH) (sz : Nat) : Nat → Prop := fun q => h q ≠ none ∨ sz ≤ q
theorem XP.weaken {D : va_G} {cl : List vw_C} {A B : Nat → Prop} {h : AH} {H : Heap} (hP : XP D cl A h H) (hAB : ∀ q, A q → B q) : XP D cl B h H := by
  obtain ⟨ws, h1, h2, h3⟩ := hP
  exact ⟨ws, h1, h2.weaken (fun _ _ _ hq => hAB _ hq), h3⟩
theorem XP.self {D : va_G} {cl : List vw_C} {A : Nat → Prop} {h : AH} {H : Heap} (hP : XP D cl A h H) (sz : Nat) : XP D cl (ah_A h sz) h H := by
  obtain ⟨ws, h1, h2, h3⟩ := hP
  refine ⟨ws, h1, ⟨h2.1, fun k q hk => Or.inl ?_⟩, h3⟩
  rw [(h3 q.1 q.2).mpr ⟨k, hk⟩]
  exact fun hn => by cases hn
theorem XP.in {D : va_G} {cl : List vw_C} {A : Nat → Prop} {h : AH} {H : Heap} (hP : XP D cl A h H) {q : Nat} (hq : h q ≠ none) : A q := by
  obtain ⟨ws, h1, h2, h3⟩ := hP
  cases hh : h q with
  | none => exact absurd hh hq
  | some c =>
    obtain ⟨k, hk⟩ := (h3 q c).mp hh
    exact h2.2 k _ hk
/-- what stays along a walk: program, env, start, method, arguments, frames below, its method, its code, region, end -/
abbrev CX : Type := Program × Env × State × MethodId × Array Value × List Frame × Method × Code × (Nat → Prop) × (State → Prop)
abbrev xp (X : CX) : Program := X.1
abbrev xe (X : CX) : Env := X.2.1
abbrev xs (X : CX) : State := X.2.2.1
abbrev xm (X : CX) : MethodId := X.2.2.2.1
abbrev xa (X : CX) : Array Value := X.2.2.2.2.1
abbrev xb (X : CX) : List Frame := X.2.2.2.2.2.1
abbrev xh (X : CX) : Method := X.2.2.2.2.2.2.1
abbrev xc (X : CX) : Code := X.2.2.2.2.2.2.2.1
abbrev xA (X : CX) : Nat → Prop := X.2.2.2.2.2.2.2.2.1
abbrev xQ (X : CX) : State → Prop := X.2.2.2.2.2.2.2.2.2
def AW (l : Launch) (D : va_G) (cl : List vw_C) (R : Room) (nL : Nat) (X : CX) (cells slots : Nat) (h : AH) (pc : Nat) (lv : List (Nat × Value)) (st : List Value) : Prop :=
  ∀ (H : Heap) (locs : List Loc) (ls : Array Slot), XP D cl (xA X) h H → va_S (xA X) (xs X).heap H locs → lv_has ls nL lv →
    W (xp X) l (xe X) R (xs X) (xm X) (xa X) (xb X) (xh X) (xc X) H locs cells slots (xQ X) (F0 (xm X) pc ls st)
/-- words on nest mates: they hold along a run, but not by the general law -/
def nw_b : Cond → Bool
  | .fieldLinkNest .. => true
  | .methodLinkNest .. => true
  | _ => false
theorem nw_on {w : Cond} (hw : nw_b w = true) : w.onTables = true := by cases w <;> first | rfl | cases hw
theorem nw_warm {w : Cond} (hw : nw_b w = true) {s U : State} (hW : s.WarmedH U.vm) (h : va_Nw w s) : va_Nw w U := by
  cases w <;> first | exact va_Nw.warmF hW h | exact va_Nw.warmM hW h | cases hw
/-- what a walk knows: its code, its own class's name, its words, the array classes -/
def Mx (D : va_G) (cl : List vw_C) (nL : Nat) (X : CX) (cc : ByteArray) (own : String) (Ts : List Cond) (tys : List (ClassId × FieldType)) (NN : List Cond) : Prop :=
  (xp X).tables.exec = Jvm.exec ∧ (xc X).code = cc ∧ (xc X).maxLocals = nL ∧ (xs X).vm.findClass own = some (xm X).cls ∧ (∀ w ∈ Ts, w.before (xa X) (xs X) = true) ∧ va_K D cl tys (xs X) ∧ (xh X).locks = false ∧ (∀ q, (xs X).heap.size ≤ q → xA X q) ∧ ∀ w ∈ NN, nw_b w = true ∧ va_Nw w (xs X)
/-- a method's end -/
def Qx (D : va_G) (cl : List vw_C) (A : Nat → Prop) (post : Option Value → AH → Prop) : Array Value → State → Outcome → State → Prop := fun _ st oc t => (∃ (r : Option Value) (h' : AH), oc = .returned r ∧ post r h' ∧ XP D cl A h' t.heap) ∧ va_F A st t
def Rx (D : va_G) (cl : List vw_C) (R : Room) (X : CX) (ret : Option FieldType) (post : Option Value → AH → Prop) : Prop :=
  xQ X = MQ (xb X) (Qx D cl (xA X) post) (xa X) (xs X) R.cells R.slots (xA X) ∧ (xh X).sig.returnType = ret
/-- a contract: from the map h with these arguments the method returns, with post -/
def AC (l : Launch) (D : va_G) (cl : List vw_C) (tys : List (ClassId × FieldType)) (NN : List Cond) (y : MethodName) (ws : List Cond) (rm : Room) (av : List Value) (h : AH) (post : Option Value → AH → Prop) : Prop :=
  ∀ sz : Nat, Met l y ws rm (va_Pc av (fun U => U.heap.size = sz ∧ XP D cl (fun _ => True) h U.heap ∧ va_K D cl tys U ∧ ∀ w ∈ NN, nw_b w = true ∧ va_Nw w U)) (Qx D cl (ah_A h sz) post) rm.cells rm.slots (ah_A h sz)
section AX
variable {l : Launch} {D : va_G} {cl : List vw_C} {R : Room} {nL : Nat} {X : CX} {cc : ByteArray} {own : String} {Ts : List Cond} {tys : List (ClassId × FieldType)} {NN : List Cond} {cells slots pc : Nat} {h : AH} {lv lv' : List (Nat × Value)} {rest : List Value}
theorem ax_iconst (M : Mx D cl nL X cc own Ts tys NN) {n : Int} {v : Int32} (d : decode cc pc = .ok (.iconst n, 1)) (hv : Int32.ofInt n = v) (k : AW l D cl R nL X cells slots h (pc + 1) lv (.int v :: rest)) : AW l D cl R nL X cells slots h pc lv (rest) := fun H locs ls hP hS hl => lv_iconst M.1 M.2.1 d hv (k H locs ls hP hS hl)
theorem ax_bipush (M : Mx D cl nL X cc own Ts tys NN) {n : Int} {v : Int32} (d : decode cc pc = .ok (.bipush n, 2)) (hv : (Int8.ofInt n).toInt32 = v) (k : AW l D cl R nL X cells slots h (pc + 2) lv (.int v :: rest)) : AW l D cl R nL X cells slots h pc lv (rest) := fun H locs ls hP hS hl => lv_bipush M.1 M.2.1 d hv (k H locs ls hP hS hl)
theorem ax_sipush (M : Mx D cl nL X cc own Ts tys NN) {n : Int} {v : Int32} (d : decode cc pc = .ok (.sipush n, 3)) (hv : (Int16.ofInt n).toInt32 = v) (k : AW l D cl R nL X cells slots h (pc + 3) lv (.int v :: rest)) : AW l D cl R nL X cells slots h pc lv (rest) := fun H locs ls hP hS hl => lv_sipush M.1 M.2.1 d hv (k H locs ls hP hS hl)
theorem ax_lconst (M : Mx D cl nL X cc own Ts tys NN) {n : Fin 2} {v : Int64} (d : decode cc pc = .ok (.lconst n, 1)) (hv : Int64.ofNat (n : Nat) = v) (k : AW l D cl R nL X cells slots h (pc + 1) lv (.long v :: rest)) : AW l D cl R nL X cells slots h pc lv (rest) := fun H locs ls hP hS hl => lv_lconst M.1 M.2.1 d hv (k H locs ls hP hS hl)
theorem ax_iload_n (M : Mx D cl nL X cc own Ts tys NN) {kf : Fin 4} {x : Int32} (d : decode cc pc = .ok (.iload_n kf, 1)) (j : Nat) (hj : lv[j]? = some ((kf : Nat), .int x)) (k : AW l D cl R nL X cells slots h (pc + 1) lv (.int x :: rest)) : AW l D cl R nL X cells slots h pc lv rest := fun H locs ls hP hS hl => lv_iload_n M.1 M.2.1 d rfl (lv_at hl j hj) (k H locs ls hP hS hl)
theorem ax_iload (M : Mx D cl nL X cc own Ts tys NN) {i : Nat} {x : Int32} (d : decode cc pc = .ok (.iload i, 2)) (j : Nat) (hj : lv[j]? = some (i, .int x)) (k : AW l D cl R nL X cells slots h (pc + 2) lv (.int x :: rest)) : AW l D cl R nL X cells slots h pc lv rest := fun H locs ls hP hS hl => lv_iload M.1 M.2.1 d (lv_at hl j hj) (k H locs ls hP hS hl)
theorem ax_lload_n (M : Mx D cl nL X cc own Ts tys NN) {kf : Fin 4} {x : Int64} (d : decode cc pc = .ok (.lload_n kf, 1)) (j : Nat) (hj : lv[j]? = some ((kf : Nat), .long x)) (k : AW l D cl R nL X cells slots h (pc + 1) lv (.long x :: rest)) : AW l D cl R nL X cells slots h pc lv rest := fun H locs ls hP hS hl => lv_lload_n M.1 M.2.1 d rfl (lv_at hl j hj) (k H locs ls hP hS hl)
theorem ax_lload (M : Mx D cl nL X cc own Ts tys NN) {i : Nat} {x : Int64} (d : decode cc pc = .ok (.lload i, 2)) (j : Nat) (hj : lv[j]? = some (i, .long x)) (k : AW l D cl R nL X cells slots h (pc + 2) lv (.long x :: rest)) : AW l D cl R nL X cells slots h pc lv rest := fun H locs ls hP hS hl => lv_lload M.1 M.2.1 d (lv_at hl j hj) (k H locs ls hP hS hl)
theorem ax_aload_n (M : Mx D cl nL X cc own Ts tys NN) {kf : Fin 4} {x : Nat} (d : decode cc pc = .ok (.aload_n kf, 1)) (j : Nat) (hj : lv[j]? = some ((kf : Nat), .ref x)) (k : AW l D cl R nL X cells slots h (pc + 1) lv (.ref x :: rest)) : AW l D cl R nL X cells slots h pc lv rest := fun H locs ls hP hS hl => lv_aload_n M.1 M.2.1 d rfl (lv_at hl j hj) (k H locs ls hP hS hl)
theorem ax_aload (M : Mx D cl nL X cc own Ts tys NN) {i : Nat} {x : Nat} (d : decode cc pc = .ok (.aload i, 2)) (j : Nat) (hj : lv[j]? = some (i, .ref x)) (k : AW l D cl R nL X cells slots h (pc + 2) lv (.ref x :: rest)) : AW l D cl R nL X cells slots h pc lv rest := fun H locs ls hP hS hl => lv_aload M.1 M.2.1 d (lv_at hl j hj) (k H locs ls hP hS hl)
theorem ax_istore_n (M : Mx D cl nL X cc own Ts tys NN) {kf : Fin 4} {x : Int32} (d : decode cc pc = .ok (.istore_n kf, 1)) (hn : (kf : Nat) < nL) (js : List Nat) (hl' : lv_pick (((kf : Nat), Value.int x) :: lv.filter (fun q => !(q.1 == (kf : Nat)) && !(q.1 + 1 == (kf : Nat) && q.2.category == 2))) js = lv') (k : AW l D cl R nL X cells slots h (pc + 1) lv' rest) : AW l D cl R nL X cells slots h pc lv (.int x :: rest) := fun H locs ls hP hS hl => lv_istore_n M.1 M.2.1 d rfl hl hn rfl (fun ls' hl2 => k H locs ls' hP hS (lv_sub hl2 js hl'))
theorem ax_istore (M : Mx D cl nL X cc own Ts tys NN) {i : Nat} {x : Int32} (d : decode cc pc = .ok (.istore i, 2)) (hn : i < nL) (js : List Nat) (hl' : lv_pick ((i, Value.int x) :: lv.filter (fun q => !(q.1 == i) && !(q.1 + 1 == i && q.2.category == 2))) js = lv') (k : AW l D cl R nL X cells slots h (pc + 2) lv' rest) : AW l D cl R nL X cells slots h pc lv (.int x :: rest) := fun H locs ls hP hS hl => lv_istore M.1 M.2.1 d hl hn rfl (fun ls' hl2 => k H locs ls' hP hS (lv_sub hl2 js hl'))
theorem ax_astore_n (M : Mx D cl nL X cc own Ts tys NN) {kf : Fin 4} {x : Nat} (d : decode cc pc = .ok (.astore_n kf, 1)) (hn : (kf : Nat) < nL) (js : List Nat) (hl' : lv_pick (((kf : Nat), Value.ref x) :: lv.filter (fun q => !(q.1 == (kf : Nat)) && !(q.1 + 1 == (kf : Nat) && q.2.category == 2))) js = lv') (k : AW l D cl R nL X cells slots h (pc + 1) lv' rest) : AW l D cl R nL X cells slots h pc lv (.ref x :: rest) := fun H locs ls hP hS hl => lv_astore_n M.1 M.2.1 d rfl hl hn rfl (fun ls' hl2 => k H locs ls' hP hS (lv_sub hl2 js hl'))
theorem ax_astore (M : Mx D cl nL X cc own Ts tys NN) {i : Nat} {x : Nat} (d : decode cc pc = .ok (.astore i, 2)) (hn : i < nL) (js : List Nat) (hl' : lv_pick ((i, Value.ref x) :: lv.filter (fun q => !(q.1 == i) && !(q.1 + 1 == i && q.2.category == 2))) js = lv') (k : AW l D cl R nL X cells slots h (pc + 2) lv' rest) : AW l D cl R nL X cells slots h pc lv (.ref x :: rest) := fun H locs ls hP hS hl => lv_astore M.1 M.2.1 d hl hn rfl (fun ls' hl2 => k H locs ls' hP hS (lv_sub hl2 js hl'))
theorem ax_lstore_n (M : Mx D cl nL X cc own Ts tys NN) {kf : Fin 4} {x : Int64} (d : decode cc pc = .ok (.lstore_n kf, 1)) (hn : (kf : Nat) + 1 < nL) (js : List Nat) (hl' : lv_pick (((kf : Nat), Value.long x) :: lv.filter (fun q => !(q.1 == (kf : Nat)) && (!(q.1 == (kf : Nat) + 1) && !(q.1 + 1 == (kf : Nat) && q.2.category == 2)))) js = lv') (k : AW l D cl R nL X cells slots h (pc + 1) lv' rest) : AW l D cl R nL X cells slots h pc lv (.long x :: rest) := fun H locs ls hP hS hl => lv_lstore_n M.1 M.2.1 d rfl hl hn rfl (fun ls' hl2 => k H locs ls' hP hS (lv_sub hl2 js hl'))
theorem ax_lstore (M : Mx D cl nL X cc own Ts tys NN) {i : Nat} {x : Int64} (d : decode cc pc = .ok (.lstore i, 2)) (hn : i + 1 < nL) (js : List Nat) (hl' : lv_pick ((i, Value.long x) :: lv.filter (fun q => !(q.1 == i) && (!(q.1 == i + 1) && !(q.1 + 1 == i && q.2.category == 2)))) js = lv') (k : AW l D cl R nL X cells slots h (pc + 2) lv' rest) : AW l D cl R nL X cells slots h pc lv (.long x :: rest) := fun H locs ls hP hS hl => lv_lstore M.1 M.2.1 d hl hn rfl (fun ls' hl2 => k H locs ls' hP hS (lv_sub hl2 js hl'))
theorem ax_iinc (M : Mx D cl nL X cc own Ts tys NN) {i : Nat} {n : Int} {x v : Int32} (d : decode cc pc = .ok (.iinc i n, 3)) (j : Nat) (hj : lv[j]? = some (i, .int x)) (hv : x + Int32.ofInt n = v) (hn : i < nL) (js : List Nat) (hl' : lv_pick ((i, Value.int v) :: lv.filter (fun q => !(q.1 == i) && !(q.1 + 1 == i && q.2.category == 2))) js = lv') (k : AW l D cl R nL X cells slots h (pc + 3) lv' rest) : AW l D cl R nL X cells slots h pc lv rest := fun H locs ls hP hS hl => lv_iinc M.1 M.2.1 d hl hj hv hn rfl (fun ls' hl2 => k H locs ls' hP hS (lv_sub hl2 js hl'))
theorem ax_lv (js : List Nat) (hl' : lv_pick lv js = lv') (k : AW l D cl R nL X cells slots h pc lv' rest) : AW l D cl R nL X cells slots h pc lv rest := fun H locs ls hP hS hl => k H locs ls hP hS (lv_sub hl js hl')
theorem ax_topi {x : Int32} (y : Int32) (e : x = y) (k : AW l D cl R nL X cells slots h pc lv (.int y :: rest)) : AW l D cl R nL X cells slots h pc lv (.int x :: rest) := by rw [e]; exact k
theorem ax_topl {x : Int64} (y : Int64) (e : x = y) (k : AW l D cl R nL X cells slots h pc lv (.long y :: rest)) : AW l D cl R nL X cells slots h pc lv (.long x :: rest) := by rw [e]; exact k
theorem ax_topr {x y : Nat} (e : x = y) (k : AW l D cl R nL X cells slots h pc lv (.ref y :: rest)) : AW l D cl R nL X cells slots h pc lv (.ref x :: rest) := by rw [e]; exact k
theorem ax_widen {a b : Nat} (h1 : cells ≤ a) (h2 : slots ≤ b) (k : AW l D cl R nL X a b h pc lv rest) : AW l D cl R nL X cells slots h pc lv rest := fun H locs ls hP hS hl => W.widen h1 h2 (k H locs ls hP hS hl)
theorem ax_iadd (M : Mx D cl nL X cc own Ts tys NN) {x y : Int32} (d : decode cc pc = .ok (.iadd, 1))  (k : AW l D cl R nL X cells slots h (pc + 1) lv (.int (x + y) :: rest)) : AW l D cl R nL X cells slots h pc lv (.int y :: .int x :: rest) := fun H locs ls hP hS hl => lv_iadd M.1 M.2.1 d (k H locs ls hP hS hl)
theorem ax_isub (M : Mx D cl nL X cc own Ts tys NN) {x y : Int32} (d : decode cc pc = .ok (.isub, 1))  (k : AW l D cl R nL X cells slots h (pc + 1) lv (.int (x - y) :: rest)) : AW l D cl R nL X cells slots h pc lv (.int y :: .int x :: rest) := fun H locs ls hP hS hl => lv_isub M.1 M.2.1 d (k H locs ls hP hS hl)
theorem ax_imul (M : Mx D cl nL X cc own Ts tys NN) {x y : Int32} (d : decode cc pc = .ok (.imul, 1))  (k : AW l D cl R nL X cells slots h (pc + 1) lv (.int (x * y) :: rest)) : AW l D cl R nL X cells slots h pc lv (.int y :: .int x :: rest) := fun H locs ls hP hS hl => lv_imul M.1 M.2.1 d (k H locs ls hP hS hl)
theorem ax_iand (M : Mx D cl nL X cc own Ts tys NN) {x y : Int32} (d : decode cc pc = .ok (.iand, 1))  (k : AW l D cl R nL X cells slots h (pc + 1) lv (.int (x &&& y) :: rest)) : AW l D cl R nL X cells slots h pc lv (.int y :: .int x :: rest) := fun H locs ls hP hS hl => lv_iand M.1 M.2.1 d (k H locs ls hP hS hl)
theorem ax_ior (M : Mx D cl nL X cc own Ts tys NN) {x y : Int32} (d : decode cc pc = .ok (.ior, 1))  (k : AW l D cl R nL X cells slots h (pc + 1) lv (.int (x ||| y) :: rest)) : AW l D cl R nL X cells slots h pc lv (.int y :: .int x :: rest) := fun H locs ls hP hS hl => lv_ior M.1 M.2.1 d (k H locs ls hP hS hl)
theorem ax_ixor (M : Mx D cl nL X cc own Ts tys NN) {x y : Int32} (d : decode cc pc = .ok (.ixor, 1))  (k : AW l D cl R nL X cells slots h (pc + 1) lv (.int (x ^^^ y) :: rest)) : AW l D cl R nL X cells slots h pc lv (.int y :: .int x :: rest) := fun H locs ls hP hS hl => lv_ixor M.1 M.2.1 d (k H locs ls hP hS hl)
theorem ax_idiv (M : Mx D cl nL X cc own Ts tys NN) {x y : Int32} (d : decode cc pc = .ok (.idiv, 1)) (hne : ¬ y = 0) (k : AW l D cl R nL X cells slots h (pc + 1) lv (.int (x / y) :: rest)) : AW l D cl R nL X cells slots h pc lv (.int y :: .int x :: rest) := fun H locs ls hP hS hl => lv_idiv M.1 M.2.1 d hne (k H locs ls hP hS hl)
theorem ax_irem (M : Mx D cl nL X cc own Ts tys NN) {x y : Int32} (d : decode cc pc = .ok (.irem, 1)) (hne : ¬ y = 0) (k : AW l D cl R nL X cells slots h (pc + 1) lv (.int (x - x / y * y) :: rest)) : AW l D cl R nL X cells slots h pc lv (.int y :: .int x :: rest) := fun H locs ls hP hS hl => lv_irem M.1 M.2.1 d hne (k H locs ls hP hS hl)
theorem ax_ineg (M : Mx D cl nL X cc own Ts tys NN) {x : Int32} (d : decode cc pc = .ok (.ineg, 1))  (k : AW l D cl R nL X cells slots h (pc + 1) lv (.int (-x) :: rest)) : AW l D cl R nL X cells slots h pc lv (.int x :: rest) := fun H locs ls hP hS hl => lv_ineg M.1 M.2.1 d (k H locs ls hP hS hl)
theorem ax_ladd (M : Mx D cl nL X cc own Ts tys NN) {x y : Int64} (d : decode cc pc = .ok (.ladd, 1))  (k : AW l D cl R nL X cells slots h (pc + 1) lv (.long (x + y) :: rest)) : AW l D cl R nL X cells slots h pc lv (.long y :: .long x :: rest) := fun H locs ls hP hS hl => lv_ladd M.1 M.2.1 d (k H locs ls hP hS hl)
theorem ax_lsub (M : Mx D cl nL X cc own Ts tys NN) {x y : Int64} (d : decode cc pc = .ok (.lsub, 1))  (k : AW l D cl R nL X cells slots h (pc + 1) lv (.long (x - y) :: rest)) : AW l D cl R nL X cells slots h pc lv (.long y :: .long x :: rest) := fun H locs ls hP hS hl => lv_lsub M.1 M.2.1 d (k H locs ls hP hS hl)
theorem ax_lmul (M : Mx D cl nL X cc own Ts tys NN) {x y : Int64} (d : decode cc pc = .ok (.lmul, 1))  (k : AW l D cl R nL X cells slots h (pc + 1) lv (.long (x * y) :: rest)) : AW l D cl R nL X cells slots h pc lv (.long y :: .long x :: rest) := fun H locs ls hP hS hl => lv_lmul M.1 M.2.1 d (k H locs ls hP hS hl)
theorem ax_land (M : Mx D cl nL X cc own Ts tys NN) {x y : Int64} (d : decode cc pc = .ok (.land, 1))  (k : AW l D cl R nL X cells slots h (pc + 1) lv (.long (x &&& y) :: rest)) : AW l D cl R nL X cells slots h pc lv (.long y :: .long x :: rest) := fun H locs ls hP hS hl => lv_land M.1 M.2.1 d (k H locs ls hP hS hl)
theorem ax_ldiv (M : Mx D cl nL X cc own Ts tys NN) {x y : Int64} (d : decode cc pc = .ok (.ldiv, 1)) (hne : ¬ y = 0) (k : AW l D cl R nL X cells slots h (pc + 1) lv (.long (x / y) :: rest)) : AW l D cl R nL X cells slots h pc lv (.long y :: .long x :: rest) := fun H locs ls hP hS hl => lv_ldiv M.1 M.2.1 d hne (k H locs ls hP hS hl)
theorem ax_lrem (M : Mx D cl nL X cc own Ts tys NN) {x y : Int64} (d : decode cc pc = .ok (.lrem, 1)) (hne : ¬ y = 0) (k : AW l D cl R nL X cells slots h (pc + 1) lv (.long (x - x / y * y) :: rest)) : AW l D cl R nL X cells slots h pc lv (.long y :: .long x :: rest) := fun H locs ls hP hS hl => lv_lrem M.1 M.2.1 d hne (k H locs ls hP hS hl)
theorem ax_i2l (M : Mx D cl nL X cc own Ts tys NN) {x : Int32} {v : Int64} (d : decode cc pc = .ok (.i2l, 1)) (hv : x.toInt64 = v) (k : AW l D cl R nL X cells slots h (pc + 1) lv (.long v :: rest)) : AW l D cl R nL X cells slots h pc lv (.int x :: rest) := fun H locs ls hP hS hl => lv_i2l M.1 M.2.1 d hv (k H locs ls hP hS hl)
theorem ax_l2i (M : Mx D cl nL X cc own Ts tys NN) {x : Int64} {v : Int32} (d : decode cc pc = .ok (.l2i, 1)) (hv : x.toInt32 = v) (k : AW l D cl R nL X cells slots h (pc + 1) lv (.int v :: rest)) : AW l D cl R nL X cells slots h pc lv (.long x :: rest) := fun H locs ls hP hS hl => lv_l2i M.1 M.2.1 d hv (k H locs ls hP hS hl)
theorem ax_dup (M : Mx D cl nL X cc own Ts tys NN) {va : Value} (d : decode cc pc = .ok (.dup, 1)) (hva : va.category = 1) (k : AW l D cl R nL X cells slots h (pc + 1) lv (va :: va :: rest)) : AW l D cl R nL X cells slots h pc lv (va :: rest) := fun H locs ls hP hS hl => lv_dup M.1 M.2.1 d hva (k H locs ls hP hS hl)
theorem ax_pop (M : Mx D cl nL X cc own Ts tys NN) {va : Value} (d : decode cc pc = .ok (.pop, 1)) (hva : va.category = 1) (k : AW l D cl R nL X cells slots h (pc + 1) lv (rest)) : AW l D cl R nL X cells slots h pc lv (va :: rest) := fun H locs ls hP hS hl => lv_pop M.1 M.2.1 d hva (k H locs ls hP hS hl)
theorem ax_lcmp (M : Mx D cl nL X cc own Ts tys NN) {x y : Int64} (d : decode cc pc = .ok (.lcmp, 1))  (k : AW l D cl R nL X cells slots h (pc + 1) lv (.int (lg_cmp x y) :: rest)) : AW l D cl R nL X cells slots h pc lv (.long y :: .long x :: rest) := fun H locs ls hP hS hl => W.lcmp M.1 M.2.1 d (k H locs ls hP hS hl)
theorem ax_dup2_2 (M : Mx D cl nL X cc own Ts tys NN) {va : Value} (d : decode cc pc = .ok (.dup2, 1)) (hva : va.category = 2) (k : AW l D cl R nL X cells slots h (pc + 1) lv (va :: va :: rest)) : AW l D cl R nL X cells slots h pc lv (va :: rest) := fun H locs ls hP hS hl => lv_dup2_2 M.1 M.2.1 d hva (k H locs ls hP hS hl)
theorem ax_dup2_x2_2 (M : Mx D cl nL X cc own Ts tys NN) {va vb vd : Value} (d : decode cc pc = .ok (.dup2_x2, 1)) (hva : va.category = 2) (hvb : vb.category = 1) (hvd : vd.category = 1) (k : AW l D cl R nL X cells slots h (pc + 1) lv (va :: vb :: vd :: va :: rest)) : AW l D cl R nL X cells slots h pc lv (va :: vb :: vd :: rest) := fun H locs ls hP hS hl => lv_dup2_x2_2 M.1 M.2.1 d hva hvb hvd (k H locs ls hP hS hl)
theorem ax_dup_x1 (M : Mx D cl nL X cc own Ts tys NN) {va vb : Value} (d : decode cc pc = .ok (.dup_x1, 1)) (hva : va.category = 1) (hvb : vb.category = 1) (k : AW l D cl R nL X cells slots h (pc + 1) lv (va :: vb :: va :: rest)) : AW l D cl R nL X cells slots h pc lv (va :: vb :: rest) := fun H locs ls hP hS hl => lv_dup_x1 M.1 M.2.1 d hva hvb (k H locs ls hP hS hl)
theorem ax_dup_x2 (M : Mx D cl nL X cc own Ts tys NN) {va vb vd : Value} (d : decode cc pc = .ok (.dup_x2, 1)) (hva : va.category = 1) (hvb : vb.category = 1) (hvd : vd.category = 1) (k : AW l D cl R nL X cells slots h (pc + 1) lv (va :: vb :: vd :: va :: rest)) : AW l D cl R nL X cells slots h pc lv (va :: vb :: vd :: rest) := fun H locs ls hP hS hl => lv_dup_x2 M.1 M.2.1 d hva hvb hvd (k H locs ls hP hS hl)
theorem ax_dup2 (M : Mx D cl nL X cc own Ts tys NN) {va vb : Value} (d : decode cc pc = .ok (.dup2, 1)) (hva : va.category = 1) (hvb : vb.category = 1) (k : AW l D cl R nL X cells slots h (pc + 1) lv (va :: vb :: va :: vb :: rest)) : AW l D cl R nL X cells slots h pc lv (va :: vb :: rest) := fun H locs ls hP hS hl => lv_dup2_11 M.1 M.2.1 d hva hvb (k H locs ls hP hS hl)
theorem ax_if_eq (M : Mx D cl nL X cc own Ts tys NN) {x : Int32} {off : Int} {tgt : Nat} (d : decode cc pc = .ok (.ifCond .eq off, 3)) (ht : (pc : Int) + off = (tgt : Int)) (kt : x = 0 → AW l D cl R nL X cells slots h tgt lv rest) (kf : ¬ x = 0 → AW l D cl R nL X cells slots h (pc + 3) lv rest) : AW l D cl R nL X cells slots h pc lv (.int x :: rest) := fun H locs ls hP hS hl => lv_if_eq M.1 M.2.1 d ht (fun z => kt z H locs ls hP hS hl) (fun z => kf z H locs ls hP hS hl)
theorem ax_icmp_eq (M : Mx D cl nL X cc own Ts tys NN) {x y : Int32} {off : Int} {tgt : Nat} (d : decode cc pc = .ok (.if_icmp .eq off, 3)) (ht : (pc : Int) + off = (tgt : Int)) (kt : x = y → AW l D cl R nL X cells slots h tgt lv rest) (kf : ¬ x = y → AW l D cl R nL X cells slots h (pc + 3) lv rest) : AW l D cl R nL X cells slots h pc lv (.int y :: .int x :: rest) := fun H locs ls hP hS hl => lv_icmp_eq M.1 M.2.1 d ht (fun z => kt z H locs ls hP hS hl) (fun z => kf z H locs ls hP hS hl)
theorem ax_if_lt (M : Mx D cl nL X cc own Ts tys NN) {x : Int32} {off : Int} {tgt : Nat} (d : decode cc pc = .ok (.ifCond .lt off, 3)) (ht : (pc : Int) + off = (tgt : Int)) (kt : x < 0 → AW l D cl R nL X cells slots h tgt lv rest) (kf : ¬ x < 0 → AW l D cl R nL X cells slots h (pc + 3) lv rest) : AW l D cl R nL X cells slots h pc lv (.int x :: rest) := fun H locs ls hP hS hl => lv_if_lt M.1 M.2.1 d ht (fun z => kt z H locs ls hP hS hl) (fun z => kf z H locs ls hP hS hl)
theorem ax_icmp_lt (M : Mx D cl nL X cc own Ts tys NN) {x y : Int32} {off : Int} {tgt : Nat} (d : decode cc pc = .ok (.if_icmp .lt off, 3)) (ht : (pc : Int) + off = (tgt : Int)) (kt : x < y → AW l D cl R nL X cells slots h tgt lv rest) (kf : ¬ x < y → AW l D cl R nL X cells slots h (pc + 3) lv rest) : AW l D cl R nL X cells slots h pc lv (.int y :: .int x :: rest) := fun H locs ls hP hS hl => lv_icmp_lt M.1 M.2.1 d ht (fun z => kt z H locs ls hP hS hl) (fun z => kf z H locs ls hP hS hl)
theorem ax_if_ge (M : Mx D cl nL X cc own Ts tys NN) {x : Int32} {off : Int} {tgt : Nat} (d : decode cc pc = .ok (.ifCond .ge off, 3)) (ht : (pc : Int) + off = (tgt : Int)) (kt : 0 ≤ x → AW l D cl R nL X cells slots h tgt lv rest) (kf : ¬ 0 ≤ x → AW l D cl R nL X cells slots h (pc + 3) lv rest) : AW l D cl R nL X cells slots h pc lv (.int x :: rest) := fun H locs ls hP hS hl => lv_if_ge M.1 M.2.1 d ht (fun z => kt z H locs ls hP hS hl) (fun z => kf z H locs ls hP hS hl)
theorem ax_icmp_ge (M : Mx D cl nL X cc own Ts tys NN) {x y : Int32} {off : Int} {tgt : Nat} (d : decode cc pc = .ok (.if_icmp .ge off, 3)) (ht : (pc : Int) + off = (tgt : Int)) (kt : y ≤ x → AW l D cl R nL X cells slots h tgt lv rest) (kf : ¬ y ≤ x → AW l D cl R nL X cells slots h (pc + 3) lv rest) : AW l D cl R nL X cells slots h pc lv (.int y :: .int x :: rest) := fun H locs ls hP hS hl => lv_icmp_ge M.1 M.2.1 d ht (fun z => kt z H locs ls hP hS hl) (fun z => kf z H locs ls hP hS hl)
theorem ax_if_gt (M : Mx D cl nL X cc own Ts tys NN) {x : Int32} {off : Int} {tgt : Nat} (d : decode cc pc = .ok (.ifCond .gt off, 3)) (ht : (pc : Int) + off = (tgt : Int)) (kt : 0 < x → AW l D cl R nL X cells slots h tgt lv rest) (kf : ¬ 0 < x → AW l D cl R nL X cells slots h (pc + 3) lv rest) : AW l D cl R nL X cells slots h pc lv (.int x :: rest) := fun H locs ls hP hS hl => lv_if_gt M.1 M.2.1 d ht (fun z => kt z H locs ls hP hS hl) (fun z => kf z H locs ls hP hS hl)
theorem ax_icmp_gt (M : Mx D cl nL X cc own Ts tys NN) {x y : Int32} {off : Int} {tgt : Nat} (d : decode cc pc = .ok (.if_icmp .gt off, 3)) (ht : (pc : Int) + off = (tgt : Int)) (kt : y < x → AW l D cl R nL X cells slots h tgt lv rest) (kf : ¬ y < x → AW l D cl R nL X cells slots h (pc + 3) lv rest) : AW l D cl R nL X cells slots h pc lv (.int y :: .int x :: rest) := fun H locs ls hP hS hl => lv_icmp_gt M.1 M.2.1 d ht (fun z => kt z H locs ls hP hS hl) (fun z => kf z H locs ls hP hS hl)
theorem ax_if_le (M : Mx D cl nL X cc own Ts tys NN) {x : Int32} {off : Int} {tgt : Nat} (d : decode cc pc = .ok (.ifCond .le off, 3)) (ht : (pc : Int) + off = (tgt : Int)) (kt : x ≤ 0 → AW l D cl R nL X cells slots h tgt lv rest) (kf : ¬ x ≤ 0 → AW l D cl R nL X cells slots h (pc + 3) lv rest) : AW l D cl R nL X cells slots h pc lv (.int x :: rest) := fun H locs ls hP hS hl => lv_if_le M.1 M.2.1 d ht (fun z => kt z H locs ls hP hS hl) (fun z => kf z H locs ls hP hS hl)
theorem ax_icmp_le (M : Mx D cl nL X cc own Ts tys NN) {x y : Int32} {off : Int} {tgt : Nat} (d : decode cc pc = .ok (.if_icmp .le off, 3)) (ht : (pc : Int) + off = (tgt : Int)) (kt : x ≤ y → AW l D cl R nL X cells slots h tgt lv rest) (kf : ¬ x ≤ y → AW l D cl R nL X cells slots h (pc + 3) lv rest) : AW l D cl R nL X cells slots h pc lv (.int y :: .int x :: rest) := fun H locs ls hP hS hl => lv_icmp_le M.1 M.2.1 d ht (fun z => kt z H locs ls hP hS hl) (fun z => kf z H locs ls hP hS hl)
theorem ax_if_ne (M : Mx D cl nL X cc own Ts tys NN) {x : Int32} {off : Int} {tgt : Nat} (d : decode cc pc = .ok (.ifCond .ne off, 3)) (ht : (pc : Int) + off = (tgt : Int)) (kt : ¬ x = 0 → AW l D cl R nL X cells slots h tgt lv rest) (kf : x = 0 → AW l D cl R nL X cells slots h (pc + 3) lv rest) : AW l D cl R nL X cells slots h pc lv (.int x :: rest) := fun H locs ls hP hS hl => lv_if_ne M.1 M.2.1 d ht (fun z => kt z H locs ls hP hS hl) (fun z => kf z H locs ls hP hS hl)
theorem ax_icmp_ne (M : Mx D cl nL X cc own Ts tys NN) {x y : Int32} {off : Int} {tgt : Nat} (d : decode cc pc = .ok (.if_icmp .ne off, 3)) (ht : (pc : Int) + off = (tgt : Int)) (kt : ¬ x = y → AW l D cl R nL X cells slots h tgt lv rest) (kf : x = y → AW l D cl R nL X cells slots h (pc + 3) lv rest) : AW l D cl R nL X cells slots h pc lv (.int y :: .int x :: rest) := fun H locs ls hP hS hl => lv_icmp_ne M.1 M.2.1 d ht (fun z => kt z H locs ls hP hS hl) (fun z => kf z H locs ls hP hS hl)
theorem ax_goto (M : Mx D cl nL X cc own Ts tys NN) {off : Int} {tgt : Nat} (d : decode cc pc = .ok (.goto off, 3)) (ht : (pc : Int) + off = (tgt : Int)) (k : AW l D cl R nL X cells slots h tgt lv rest) : AW l D cl R nL X cells slots h pc lv rest := fun H locs ls hP hS hl => lv_goto M.1 M.2.1 d ht (k H locs ls hP hS hl)
theorem ax_tableOut (M : Mx D cl nL X cc own Ts tys NN) {dflt lo hi : Int} {offs : Array Int} {len : Nat} {x : Int32} {tgt : Nat} (d : decode cc pc = .ok (.tableswitch dflt lo hi offs, len)) (hx : x.toInt < lo ∨ hi < x.toInt) (ht : (pc : Int) + dflt = (tgt : Int)) (k : AW l D cl R nL X cells slots h tgt lv rest) : AW l D cl R nL X cells slots h pc lv (.int x :: rest) := fun H locs ls hP hS hl => lv_tableOut M.1 M.2.1 d hx ht (k H locs ls hP hS hl)
theorem ax_tableIn (M : Mx D cl nL X cc own Ts tys NN) {dflt lo hi : Int} {offs : Array Int} {len : Nat} {x : Int32} {off : Int} {tgt : Nat} (d : decode cc pc = .ok (.tableswitch dflt lo hi offs, len)) (h1 : ¬ x.toInt < lo) (h2 : ¬ hi < x.toInt) (ho : offs[(x.toInt - lo).toNat]? = some off) (ht : (pc : Int) + off = (tgt : Int)) (k : AW l D cl R nL X cells slots h tgt lv rest) : AW l D cl R nL X cells slots h pc lv (.int x :: rest) := fun H locs ls hP hS hl => lv_tableIn M.1 M.2.1 d h1 h2 ho ht (k H locs ls hP hS hl)
theorem ax_lookup (M : Mx D cl nL X cc own Ts tys NN) {dflt : Int} {ps : Array (Int × Int)} {len : Nat} {x : Int32} {off : Int} {tgt : Nat} (d : decode cc pc = .ok (.lookupswitch dflt ps, len)) (hp : (ps.toList.zip (ps.toList.drop 1)).all (fun (a, next) => a.1 < next.1) = true) (ho : Op.lookupswitch.offset ps.toList dflt x.toInt = off) (ht : (pc : Int) + off = (tgt : Int)) (k : AW l D cl R nL X cells slots h tgt lv rest) : AW l D cl R nL X cells slots h pc lv (.int x :: rest) := fun H locs ls hP hS hl => lv_lookup M.1 M.2.1 d hp ho ht (k H locs ls hP hS hl)
theorem ax_ldc (M : Mx D cl nL X cc own Ts tys NN) {index : Nat} {v : Int32} (hc : Jvm.Cond.constant own index v ∈ Ts) (d : decode cc pc = .ok (.ldc index, 2)) (k : AW l D cl R nL X cells slots h (pc + 2) lv (.int v :: rest)) : AW l D cl R nL X cells slots h pc lv rest := fun H locs ls hP hS hl => lv_ldc M.1 M.2.1 M.2.2.2.1 (M.2.2.2.2.1 _ hc) d (k H locs ls hP hS hl)
theorem ax_ldc2 (M : Mx D cl nL X cc own Ts tys NN) {index : Nat} {v : Int64} (hc : Jvm.Cond.constantLong own index v ∈ Ts) (d : decode cc pc = .ok (.ldc2_w index, 3)) (k : AW l D cl R nL X cells slots h (pc + 3) lv (.long v :: rest)) : AW l D cl R nL X cells slots h pc lv rest := fun H locs ls hP hS hl => lv_ldc2 M.1 M.2.1 M.2.2.2.1 (M.2.2.2.2.1 _ hc) d (k H locs ls hP hS hl)
/-- fields: of the own class, of a nest mate's -/
theorem ax_get (M : Mx D cl nL X cc own Ts tys NN) {C : String} {T : u_T} {N ci index a : Nat} (hin : ∀ w ∈ u_ws C T N, w ∈ Ts) {fs : List Value} (ha : h a = some (.inr (ci, fs))) (hc : cl[ci]? = some (C, T, N)) (k0 : Nat) (hk : k0 < N) (hlink : Cond.fieldLink own index (T k0).1 (T k0).2.1 (T k0).2.2.1 ∈ Ts) {v : Value} (hv : fs[k0]? = some v) (d : decode cc pc = .ok (.getfield index, 3)) (k : AW l D cl R nL X cells slots h (pc + 3) lv (v :: rest)) : AW l D cl R nL X cells slots h pc lv (.ref a :: rest) := fun H locs ls hP hS hl => by
  obtain ⟨ws, h1, h2, h3⟩ := id hP
  obtain ⟨q, hq⟩ := (h3 _ _).mp ha
  exact va_get M.1 M.2.1 M.2.2.2.2.1 hin M.2.2.2.1 M.2.2.2.2.2.1 h1 q hq hc k0 hk (M.2.2.2.2.1 _ hlink) (fun _ h9 => h9) hv d (k H locs ls hP hS hl)
theorem ax_getN (M : Mx D cl nL X cc own Ts tys NN) {C host : String} {T : u_T} {N ci index a : Nat} (hin : ∀ w ∈ u_ws C T N, w ∈ Ts) {fs : List Value} (ha : h a = some (.inr (ci, fs))) (hc : cl[ci]? = some (C, T, N)) (k0 : Nat) (hk : k0 < N) (hlink : Cond.fieldLinkNest own index (T k0).1 (T k0).2.1 (T k0).2.2.1 host ∈ NN) {v : Value} (hv : fs[k0]? = some v) (d : decode cc pc = .ok (.getfield index, 3)) (k : AW l D cl R nL X cells slots h (pc + 3) lv (v :: rest)) : AW l D cl R nL X cells slots h pc lv (.ref a :: rest) := fun H locs ls hP hS hl => by
  obtain ⟨ws, h1, h2, h3⟩ := id hP
  obtain ⟨q, hq⟩ := (h3 _ _).mp ha
  exact va_getN M.1 M.2.1 M.2.2.2.2.1 hin M.2.2.2.1 M.2.2.2.2.2.1 h1 q hq hc k0 hk (va_Nw.use rfl (M.2.2.2.2.2.2.2.2 _ hlink).2) (fun _ h9 => h9) hv d (k H locs ls hP hS hl)
theorem ax_put (M : Mx D cl nL X cc own Ts tys NN) {C : String} {T : u_T} {N ci index a : Nat} (hin : ∀ w ∈ u_ws C T N, w ∈ Ts) (ty0 : Nat → FieldType) (hty : ∀ k, k < N → parseFieldDescriptor (T k).2.2.1 = some (ty0 k)) (hnm : ∀ a, a < N → ∀ b, b < N → a ≠ b → (T a).2.1 ≠ (T b).2.1) {fs : List Value} (ha : h a = some (.inr (ci, fs))) (hc : cl[ci]? = some (C, T, N)) (k0 : Nat) (hk : k0 < N) (hlink : Cond.fieldLink own index (T k0).1 (T k0).2.1 (T k0).2.2.1 ∈ Ts) (hfin : (T k0).2.2.2 = false) {v : Value} (hn : narrow (ty0 k0) v = v) (hfit : fits (ty0 k0) v = true) (hlen : k0 < fs.length) (d : decode cc pc = .ok (.putfield index, 3)) (k : AW l D cl R nL X cells slots (ah_set h a (.inr (ci, fs.set k0 v))) (pc + 3) lv rest) : AW l D cl R nL X cells slots h pc lv (v :: .ref a :: rest) := fun H locs ls hP hS hl => by
  obtain ⟨ws, h1, h2, h3⟩ := id hP
  obtain ⟨q, hq⟩ := (h3 _ _).mp ha
  exact va_put M.1 M.2.1 M.2.2.2.2.1 hin ty0 hty hnm M.2.2.2.1 M.2.2.2.2.2.1 h1 h2 hS q hq hc k0 hk (M.2.2.2.2.1 _ hlink) (fun _ h9 => h9) hfin (hty k0 hk) hn hfit hlen d (fun H1 locs1 g1 g2 g3 => k H1 locs1 ls ⟨_, g1, g2, ah_cov_set h3 h2 hq⟩ g3 hl)
theorem ax_putN (M : Mx D cl nL X cc own Ts tys NN) {C host : String} {T : u_T} {N ci index a : Nat} (hin : ∀ w ∈ u_ws C T N, w ∈ Ts) (ty0 : Nat → FieldType) (hty : ∀ k, k < N → parseFieldDescriptor (T k).2.2.1 = some (ty0 k)) (hnm : ∀ a, a < N → ∀ b, b < N → a ≠ b → (T a).2.1 ≠ (T b).2.1) {fs : List Value} (ha : h a = some (.inr (ci, fs))) (hc : cl[ci]? = some (C, T, N)) (k0 : Nat) (hk : k0 < N) (hlink : Cond.fieldLinkNest own index (T k0).1 (T k0).2.1 (T k0).2.2.1 host ∈ NN) (hfin : (T k0).2.2.2 = false) {v : Value} (hn : narrow (ty0 k0) v = v) (hfit : fits (ty0 k0) v = true) (hlen : k0 < fs.length) (d : decode cc pc = .ok (.putfield index, 3)) (k : AW l D cl R nL X cells slots (ah_set h a (.inr (ci, fs.set k0 v))) (pc + 3) lv rest) : AW l D cl R nL X cells slots h pc lv (v :: .ref a :: rest) := fun H locs ls hP hS hl => by
  obtain ⟨ws, h1, h2, h3⟩ := id hP
  obtain ⟨q, hq⟩ := (h3 _ _).mp ha
  exact va_putN M.1 M.2.1 M.2.2.2.2.1 hin ty0 hty hnm M.2.2.2.1 M.2.2.2.2.2.1 h1 h2 hS q hq hc k0 hk (va_Nw.use rfl (M.2.2.2.2.2.2.2.2 _ hlink).2) (fun _ h9 => h9) hfin (hty k0 hk) hn hfit hlen d (fun H1 locs1 g1 g2 g3 => k H1 locs1 ls ⟨_, g1, g2, ah_cov_set h3 h2 hq⟩ g3 hl)
theorem ax_putF (M : Mx D cl nL X cc own Ts tys NN) {C : String} {T : u_T} {N ci index a : Nat} (hin : ∀ w ∈ u_ws C T N, w ∈ Ts) (ty0 : Nat → FieldType) (hty : ∀ k, k < N → parseFieldDescriptor (T k).2.2.1 = some (ty0 k)) (hnm : ∀ a, a < N → ∀ b, b < N → a ≠ b → (T a).2.1 ≠ (T b).2.1) {fs : List Value} (ha : h a = some (.inr (ci, fs))) (hc : cl[ci]? = some (C, T, N)) (k0 : Nat) (hk : k0 < N) (hlink : Cond.fieldLink own index (T k0).1 (T k0).2.1 (T k0).2.2.1 ∈ Ts) (hfin : (T k0).2.2.2 = true) (hi2 : (xh X).name = "<init>") (hdecl : (T k0).1 = own) {v : Value} (hn : narrow (ty0 k0) v = v) (hfit : fits (ty0 k0) v = true) (hlen : k0 < fs.length) (d : decode cc pc = .ok (.putfield index, 3)) (k : AW l D cl R nL X cells slots (ah_set h a (.inr (ci, fs.set k0 v))) (pc + 3) lv rest) : AW l D cl R nL X cells slots h pc lv (v :: .ref a :: rest) := fun H locs ls hP hS hl => by
  obtain ⟨ws, h1, h2, h3⟩ := id hP
  obtain ⟨q, hq⟩ := (h3 _ _).mp ha
  exact va_putF M.1 M.2.1 M.2.2.2.2.1 hin ty0 hty hnm M.2.2.2.1 M.2.2.2.2.2.1 h1 h2 hS q hq hc k0 hk (M.2.2.2.2.1 _ hlink) (fun _ h9 => h9) hfin hi2 hdecl (hty k0 hk) hn hfit hlen d (fun H1 locs1 g1 g2 g3 => k H1 locs1 ls ⟨_, g1, g2, ah_cov_set h3 h2 hq⟩ g3 hl)
theorem ax_iald (M : Mx D cl nL X cc own Ts tys NN) {a : Nat} {cA : ClassId} {n : Nat} {f : Nat → Int32} (ha : h a = some (.inl (cA, n, .inl f))) (t0 : Nat) (ht : tys[t0]? = some (cA, .int)) {i : Int32} (hi : vp_in i n) (d : decode cc pc = .ok (.iaload, 1)) (k : AW l D cl R nL X cells slots h (pc + 1) lv (.int (f i.toNatClampNeg) :: rest)) : AW l D cl R nL X cells slots h pc lv (.int i :: .ref a :: rest) := fun H locs ls hP hS hl => by
  obtain ⟨ws, h1, h2, h3⟩ := id hP
  obtain ⟨q, hq⟩ := (h3 _ _).mp ha
  exact va_iald M.1 M.2.1 M.2.2.2.2.2.1 h1 q t0 hq ht hi d (k H locs ls hP hS hl)
theorem ax_zald (M : Mx D cl nL X cc own Ts tys NN) {a : Nat} {cA : ClassId} {n : Nat} {f : Nat → Int32} (ha : h a = some (.inl (cA, n, .inl f))) (t0 : Nat) (ht : tys[t0]? = some (cA, .boolean)) {i : Int32} (hi : vp_in i n) (d : decode cc pc = .ok (.baload, 1)) (k : AW l D cl R nL X cells slots h (pc + 1) lv (.int (f i.toNatClampNeg) :: rest)) : AW l D cl R nL X cells slots h pc lv (.int i :: .ref a :: rest) := fun H locs ls hP hS hl => by
  obtain ⟨ws, h1, h2, h3⟩ := id hP
  obtain ⟨q, hq⟩ := (h3 _ _).mp ha
  exact va_zald M.1 M.2.1 M.2.2.2.2.2.1 h1 q t0 hq ht hi d (k H locs ls hP hS hl)
theorem ax_lald (M : Mx D cl nL X cc own Ts tys NN) {a : Nat} {cA : ClassId} {n : Nat} {f : Nat → Int64} (ha : h a = some (.inl (cA, n, .inr (.inl f)))) (t0 : Nat) (ht : tys[t0]? = some (cA, .long)) {i : Int32} (hi : vp_in i n) (d : decode cc pc = .ok (.laload, 1)) (k : AW l D cl R nL X cells slots h (pc + 1) lv (.long (f i.toNatClampNeg) :: rest)) : AW l D cl R nL X cells slots h pc lv (.int i :: .ref a :: rest) := fun H locs ls hP hS hl => by
  obtain ⟨ws, h1, h2, h3⟩ := id hP
  obtain ⟨q, hq⟩ := (h3 _ _).mp ha
  exact va_lald M.1 M.2.1 M.2.2.2.2.2.1 h1 q t0 hq ht hi d (k H locs ls hP hS hl)
theorem ax_last (M : Mx D cl nL X cc own Ts tys NN) {a : Nat} {cA : ClassId} {n : Nat} {f : Nat → Int64} (ha : h a = some (.inl (cA, n, .inr (.inl f)))) (t0 : Nat) (ht : tys[t0]? = some (cA, .long)) {i : Int32} {x : Int64} (hi : vp_in i n) (d : decode cc pc = .ok (.lastore, 1)) (k : AW l D cl R nL X cells slots (ah_set h a (.inl (cA, n, .inr (.inl (vp_updL f i.toNatClampNeg x))))) (pc + 1) lv rest) : AW l D cl R nL X cells slots h pc lv (.long x :: .int i :: .ref a :: rest) := fun H locs ls hP hS hl => by
  obtain ⟨ws, h1, h2, h3⟩ := id hP
  obtain ⟨q, hq⟩ := (h3 _ _).mp ha
  exact va_last M.1 M.2.1 M.2.2.2.2.2.1 h1 h2 hS q t0 hq ht hi d (fun H1 locs1 g1 g2 g3 => k H1 locs1 ls ⟨_, g1, g2, ah_cov_set h3 h2 hq⟩ g3 hl)
theorem ax_iast (M : Mx D cl nL X cc own Ts tys NN) {a : Nat} {cA : ClassId} {n : Nat} {f : Nat → Int32} (ha : h a = some (.inl (cA, n, .inl f))) (t0 : Nat) (ht : tys[t0]? = some (cA, .int)) {i x : Int32} (hi : vp_in i n) (d : decode cc pc = .ok (.iastore, 1)) (k : AW l D cl R nL X cells slots (ah_set h a (.inl (cA, n, .inl (upd f i.toNatClampNeg x)))) (pc + 1) lv rest) : AW l D cl R nL X cells slots h pc lv (.int x :: .int i :: .ref a :: rest) := fun H locs ls hP hS hl => by
  obtain ⟨ws, h1, h2, h3⟩ := id hP
  obtain ⟨q, hq⟩ := (h3 _ _).mp ha
  exact va_iast M.1 M.2.1 M.2.2.2.2.2.1 h1 h2 hS q t0 hq ht hi d (fun H1 locs1 g1 g2 g3 => k H1 locs1 ls ⟨_, g1, g2, ah_cov_set h3 h2 hq⟩ g3 hl)
theorem ax_zast (M : Mx D cl nL X cc own Ts tys NN) {a : Nat} {cA : ClassId} {n : Nat} {f : Nat → Int32} (ha : h a = some (.inl (cA, n, .inl f))) (t0 : Nat) (ht : tys[t0]? = some (cA, .boolean)) {i x : Int32} (hi : vp_in i n) (hb : vp_nar .boolean x = x) (d : decode cc pc = .ok (.bastore, 1)) (k : AW l D cl R nL X cells slots (ah_set h a (.inl (cA, n, .inl (upd f i.toNatClampNeg x)))) (pc + 1) lv rest) : AW l D cl R nL X cells slots h pc lv (.int x :: .int i :: .ref a :: rest) := fun H locs ls hP hS hl => by
  obtain ⟨ws, h1, h2, h3⟩ := id hP
  obtain ⟨q, hq⟩ := (h3 _ _).mp ha
  have hk := k
  rw [← hb] at hk
  exact va_zast M.1 M.2.1 M.2.2.2.2.2.1 h1 h2 hS q t0 hq ht hi d (fun H1 locs1 g1 g2 g3 => hk H1 locs1 ls ⟨_, g1, g2, ah_cov_set h3 h2 hq⟩ g3 hl)
theorem ax_aldq (M : Mx D cl nL X cc own Ts tys NN) {a : Nat} {cA : ClassId} {ty : FieldType} {n : Nat} {f : Nat → Option Nat} (ha : h a = some (.inl (cA, n, .inr (.inr (.inr (.inr f)))))) (t0 : Nat) (ht : tys[t0]? = some (cA, ty)) (hty : ty.isReference = true) {i : Int32} {v : Nat} (hi : vp_in i n) (hv : f i.toNatClampNeg = some v) (d : decode cc pc = .ok (.aaload, 1)) (k : AW l D cl R nL X cells slots h (pc + 1) lv (.ref v :: rest)) : AW l D cl R nL X cells slots h pc lv (.int i :: .ref a :: rest) := fun H locs ls hP hS hl => by
  obtain ⟨ws, h1, h2, h3⟩ := id hP
  obtain ⟨q, hq⟩ := (h3 _ _).mp ha
  have hlt : i.toNatClampNeg < n := Nat.not_le.mp fun q => hi (Or.inr q)
  exact W.aald (v := .ref v) (ty := ty) M.1 M.2.1 (h1 q _ hq) ((M.2.2.2.2.2.1.2 t0 _ ht).1 n (fun j => va_rf (f j))) hty (fun q => by cases q) (by show ¬ (i < 0 ∨ (arrV _ _ _).slots.size ≤ _); rw [arrV_size]; exact hi) (by show (arrV _ _ _).slots[_]? = _; rw [arrV_read _ _ hlt, hv]; rfl) rfl rfl d (k H locs ls hP hS hl)
theorem ax_astq (M : Mx D cl nL X cc own Ts tys NN) {a ci : Nat} {cA : ClassId} {r : vw_C} {n v : Nat} {vs : List Value} {f : Nat → Option Nat} (ha : h a = some (.inl (cA, n, .inr (.inr (.inr (.inr f)))))) (t0 : Nat) (ht : tys[t0]? = some (cA, .object r.1)) (hv : h v = some (.inr (ci, vs))) (hc : cl[ci]? = some r) {i : Int32} (hi : vp_in i n) (d : decode cc pc = .ok (.aastore, 1)) (k : AW l D cl R nL X cells slots (ah_set h a (.inl (cA, n, .inr (.inr (.inr (.inr (va_up f i.toNatClampNeg (some v)))))))) (pc + 1) lv rest) : AW l D cl R nL X cells slots h pc lv (.ref v :: .int i :: .ref a :: rest) := fun H locs ls hP hS hl => by
  obtain ⟨ws, h1, h2, h3⟩ := id hP
  obtain ⟨q, hq⟩ := (h3 _ _).mp ha
  obtain ⟨q2, hq2⟩ := (h3 _ _).mp hv
  exact va_astq M.1 M.2.1 M.2.2.2.2.2.1 h1 h2 hS q t0 q2 ci hq ht hq2 hc hi d (fun H1 locs1 g1 g2 g3 => k H1 locs1 ls ⟨_, g1, g2, ah_cov_set h3 h2 hq⟩ g3 hl)
theorem ax_alen (M : Mx D cl nL X cc own Ts tys NN) {a : Nat} {cA : ClassId} {x : vp_A} (ha : h a = some (.inl (cA, x))) (t0 : Nat) {ty : FieldType} (ht : tys[t0]? = some (cA, ty)) (d : decode cc pc = .ok (.arraylength, 1)) (k : AW l D cl R nL X cells slots h (pc + 1) lv (.int (nI x.1) :: rest)) : AW l D cl R nL X cells slots h pc lv (.ref a :: rest) := fun H locs ls hP hS hl => by
  obtain ⟨ws, h1, h2, h3⟩ := id hP
  obtain ⟨q, hq⟩ := (h3 _ _).mp ha
  exact va_alen M.1 M.2.1 M.2.2.2.2.2.1 h1 q t0 hq ht rfl d (k H locs ls hP hS hl)
theorem ax_new (M : Mx D cl nL X cc own Ts tys NN) {C : String} {T : u_T} {N ci index : Nat} (hin : ∀ w ∈ u_ws C T N, w ∈ Ts) (ty : Nat → FieldType) (hty : ∀ k, k < N → parseFieldDescriptor (T k).2.2.1 = some (ty k)) (hcl : Cond.classLink own index C ∈ Ts) (hinst : Cond.instantiable C N ∈ Ts) (hini : Cond.initialized C ∈ Ts) (hc : cl[ci]? = some (C, T, N)) {fs : List Value} (hfs : ∀ j, j < N → defaultValue (ty j) = vp_V fs j) (hcells : cells + 1 ≤ R.cells) (hslots : slots + N ≤ R.slots) (d : decode cc pc = .ok (.new index, 3)) (k : ∀ q : Nat, h q = none → AW l D cl R nL X (cells + 1) (slots + N) (ah_set h q (.inr (ci, fs))) (pc + 3) lv (.ref q :: rest)) : AW l D cl R nL X cells slots h pc lv rest := fun H locs ls hP hS hl => by
  obtain ⟨ws, h1, h2, h3⟩ := id hP
  exact va_new M.1 M.2.1 M.2.2.2.2.1 hin ty hty M.2.2.2.1 (M.2.2.2.2.1 _ hcl) (M.2.2.2.2.1 _ hinst) (M.2.2.2.2.1 _ hini) M.2.2.2.2.2.1 h1 h2 hS M.2.2.2.2.2.2.2.1 hc hfs hcells hslots d (fun q H1 g1 g2 g3 => k q (ah_cov_push h3 g2).1 H1 locs ls ⟨_, g1, g2, (ah_cov_push h3 g2).2⟩ g3 hl)
theorem ax_objInit (M : Mx D cl nL X cc own Ts tys NN) {a idx : Nat} (hlink : Cond.methodLink own idx Lib.objectInit ∈ Ts) (hinst : Cond.instanceMethod Lib.objectInit ∈ Ts) (hcode : Cond.code Lib.objectInit ⟨#[0xb1]⟩ 1 none ∈ Ts) (d : decode cc pc = .ok (.invokespecial idx, 3)) (hframes : 1 ≤ R.frames) (hlocals : (rest.map fun v => v.category).sum + 12 ≤ R.locals) (k : AW l D cl R nL X cells slots h (pc + 3) lv rest) : AW l D cl R nL X cells slots h pc lv (.ref a :: rest) := fun H locs ls hP hS hl =>
  W.objInit M.1 M.2.1 M.2.2.2.1 (M.2.2.2.2.1 _ hlink) (M.2.2.2.2.1 _ hinst) (M.2.2.2.2.1 _ hcode) rfl (by rw [M.2.2.1]; exact hl.1) rfl d hframes (by show 2 * 0 + _ + 12 ≤ _; omega) (k H locs ls hP hS hl)
theorem ax_iret (M : Mx D cl nL X cc own Ts tys NN) {post : Option Value → AH → Prop} (hR : Rx D cl R X (some .int) post) {v : Int32} (hc : cells ≤ R.cells) (hs : slots ≤ R.slots) (d : decode cc pc = .ok (.ireturn, 1)) (hp : post (some (.int v)) h) : AW l D cl R nL X cells slots h pc lv [.int v] := fun H locs ls hP hS hl => by
  rw [hR.1]
  refine W.widen hc hs ?_
  exact W.iret M.1 M.2.1 hR.2 (fun t ht _ => ⟨⟨_, _, rfl, hp, by rw [ht]; exact hP⟩, hS.F ht⟩) hS.2.2 d M.2.2.2.2.2.2.1
theorem ax_lret (M : Mx D cl nL X cc own Ts tys NN) {post : Option Value → AH → Prop} (hR : Rx D cl R X (some .long) post) {v : Int64} (hc : cells ≤ R.cells) (hs : slots ≤ R.slots) (d : decode cc pc = .ok (.lreturn, 1)) (hp : post (some (.long v)) h) : AW l D cl R nL X cells slots h pc lv [.long v] := fun H locs ls hP hS hl => by
  rw [hR.1]
  refine W.widen hc hs ?_
  exact W.lret M.1 M.2.1 hR.2 (fun t ht _ => ⟨⟨_, _, rfl, hp, by rw [ht]; exact hP⟩, hS.F ht⟩) hS.2.2 d M.2.2.2.2.2.2.1
theorem ax_zret (M : Mx D cl nL X cc own Ts tys NN) {post : Option Value → AH → Prop} (hR : Rx D cl R X (some .boolean) post) {v : Int32} (hn : narrow .boolean (.int v) = .int v) (hc : cells ≤ R.cells) (hs : slots ≤ R.slots) (d : decode cc pc = .ok (.ireturn, 1)) (hp : post (some (.int v)) h) : AW l D cl R nL X cells slots h pc lv [.int v] := fun H locs ls hP hS hl => by
  rw [hR.1]
  refine W.widen hc hs ?_
  exact W.zret M.1 M.2.1 hR.2 hn (fun t ht _ => ⟨⟨_, _, rfl, hp, by rw [ht]; exact hP⟩, hS.F ht⟩) hS.2.2 d M.2.2.2.2.2.2.1
theorem ax_vret (M : Mx D cl nL X cc own Ts tys NN) {post : Option Value → AH → Prop} (hR : Rx D cl R X none post) (hc : cells ≤ R.cells) (hs : slots ≤ R.slots) (d : decode cc pc = .ok (.return_, 1)) (hp : post none h) : AW l D cl R nL X cells slots h pc lv [] := fun H locs ls hP hS hl => by
  rw [hR.1]
  refine W.widen hc hs ?_
  exact W.vret M.1 M.2.1 hR.2 (fun t ht _ => ⟨⟨_, _, rfl, hp, by rw [ht]; exact hP⟩, hS.F ht⟩) hS.2.2 d M.2.2.2.2.2.2.1
/-- behind a call -/
theorem ax_behind {rm : Room} {post : Option Value → AH → Prop} {a : Array Value} {H : Heap} {locs : List Loc} {ls : Array Slot} {st0 : List Value} (hA : ∀ q, (xs X).heap.size ≤ q → xA X q) (hP : XP D cl (xA X) h H) (hS : va_S (xA X) (xs X).heap H locs) (hl : lv_has ls nL lv)
    (run : va_Run (xp X) l (xe X) R (xs X) (xm X) (xa X) (xb X) (xh X) (xc X) H locs cells slots rm.cells rm.slots (F0 (xm X) pc ls st0) rest (Qx D cl (ah_A h H.size) post a) (ah_A h H.size))
    (k : ∀ (r : Option Value) (h' : AH), post r h' → AW l D cl R nL X (cells + rm.cells) (slots + rm.slots) h' (pc + 3) lv (r.toList ++ rest)) :
    W (xp X) l (xe X) R (xs X) (xm X) (xa X) (xb X) (xh X) (xc X) H locs cells slots (xQ X) (F0 (xm X) pc ls st0) := by
  intro T hT X0
  obtain ⟨v, st₀, t, T', L, h0, X', hL, e1, e2, ⟨⟨r, h', hv, hp, hX⟩, hz, hk⟩, st⟩ := run T hT X0
  cases hv
  rw [h0] at hz hk
  have hin : ∀ q, ah_A h H.size q → xA X q := fun q hq => by
    rcases hq with hq | hq
    · exact hP.in hq
    · exact hA q (Nat.le_trans hS.1 hq)
  obtain ⟨t2, a1, b1⟩ := k _ h' hp T'.heap (locs ++ L) ls (by rw [e1]; exact hX.weaken hin)
    ⟨Nat.le_trans hS.1 (by rw [e1]; exact hz), fun q h1 h2 => by rw [e1, hk q (Nat.lt_of_lt_of_le h1 hS.1) (fun z => h2 (hin q z))]; exact hS.2.1 q h1 h2, fun q hq => by
      rcases List.mem_append.mp hq with h4 | h4
      · exact hS.2.2 q h4
      · exact hin _ (hL q h4)⟩ hl T' rfl X'
  exact ⟨t2, st t2 a1, b1⟩
/-- a callee's start out of the caller's map -/
theorem ax_blind {av : List Value} {sz : Nat} : FrameBlind (va_Pc av (fun U => U.heap.size = sz ∧ XP D cl (fun _ => True) h U.heap ∧ va_K D cl tys U ∧ ∀ w ∈ NN, nw_b w = true ∧ va_Nw w U)) := fun a U g mk q => by
  obtain ⟨q0, q1, qP, qK, qN⟩ := q
  exact ⟨q0, q1, qP, va_K.moved (u := U) (U := U.calling g mk a) (Vm.Alike.refl U.vm) qK, fun w hw => ⟨(qN w hw).1, va_Nw.same (u := U) (U := U.calling g mk a) (nw_on (qN w hw).1) rfl (qN w hw).2⟩⟩
theorem ax_start {av : List Value} {H : Heap} (M : Mx D cl nL X cc own Ts tys NN) (hP : XP D cl (xA X) h H) : ∀ U : State, U.heap = H → (xs X).WarmedH U.vm → va_Pc av (fun U => U.heap.size = H.size ∧ XP D cl (fun _ => True) h U.heap ∧ va_K D cl tys U ∧ ∀ w ∈ NN, nw_b w = true ∧ va_Nw w U) av.toArray U :=
  fun U hU hW => ⟨rfl, by rw [hU], by rw [hU]; exact hP.weaken (fun _ _ => trivial), va_K.moved hW.alike M.2.2.2.2.2.1, fun w hw => ⟨(M.2.2.2.2.2.2.2.2 w hw).1, nw_warm (M.2.2.2.2.2.2.2.2 w hw).1 hW (M.2.2.2.2.2.2.2.2 w hw).2⟩⟩
theorem ax_recv {H : Heap} {b ci : Nat} {q : vw_C} {fs : List Value} (M : Mx D cl nL X cc own Ts tys NN) (hP : XP D cl (xA X) h H) (hc : cl[ci]? = some q) (ha : h b = some (.inr (ci, fs))) : ∃ cell : Cell, H[b]? = some cell ∧ cell.vm.isStatics = false ∧ (xs X).vm.findClass q.1 = some cell.cls := by
  obtain ⟨ws, h1, h2, h3⟩ := hP
  obtain ⟨j, hj⟩ := (h3 _ _).mp ha
  exact va_recv M.2.2.2.2.2.1 h1 hc hj
/-- the words of a callee: all callees share one list of words -/
def ax_good (TT : List Cond) : Prop := ∀ w ∈ TT, (w.onTables && w.keeps) = true ∨ ∃ ty, w = .arrayClass ty
theorem ax_goodIn {ws : List Cond} (hg : ax_good Ts) (hw : ∀ w ∈ ws, w ∈ Ts) : GoodIn Ts ws := fun w h => ⟨hw w h, hg w (hw w h)⟩
theorem ax_callV (M : Mx D cl nL X cc own Ts tys NN) (hg : ax_good Ts) {C : String} {q : vw_C} {y : MethodName} {bytes : ByteArray} {maxL index n b ci : Nat} {ret : Option FieldType} {rm : Room} {As st0 : List Value} {fs : List Value} {post : Option Value → AH → Prop} (hq1 : q.1 = C) (hc : cl[ci]? = some q) (ha : h b = some (.inr (ci, fs))) (hM : AC l D cl tys NN y (Cond.code y bytes maxL ret :: Ts) rm (.ref b :: As) h post)
    (hws : ∀ w ∈ ([.methodLink own index y, .instanceMethod y, .selects C y y, .initialized C, .code y bytes maxL ret] : List Cond), w ∈ Ts) (hd : y.cls = C ∧ y.cls ≠ "java/lang/invoke/MethodHandle" ∧ y.cls ≠ "java/lang/invoke/VarHandle" ∧ (parseMethodDescriptor y.desc).map (fun d => d.parameters.length) = some n) (hR : rm.frames + 1 ≤ R.frames ∧ 8 + (maxL + 11) + rm.locals ≤ R.locals) (hn : As.length = n) (hst : st0 = As.reverse ++ .ref b :: rest) (hr : (rest.map fun v => v.category).sum ≤ 8) (d : decode cc pc = .ok (.invokevirtual index, 3)) (hf : cells + rm.cells ≤ R.cells ∧ slots + rm.slots ≤ R.slots) {c1 s1 : Nat} (hf1 : cells + rm.cells ≤ c1 ∧ slots + rm.slots ≤ s1)
    (k : ∀ (r : Option Value) (h' : AH), post r h' → AW l D cl R nL X c1 s1 h' (pc + 3) lv (r.toList ++ rest)) : AW l D cl R nL X cells slots h pc lv st0 := fun H locs ls hP hS hl => by
  subst hq1
  refine ax_behind M.2.2.2.2.2.2.2.1 hP hS hl (va_runV ⟨M.1, M.2.1, M.2.2.1, M.2.2.2.1, M.2.2.2.2.1⟩ (hM H.size) (cwV n M.2.2.2.2.1 (ax_goodIn hg ?_) rfl rfl rfl hd hR) ⟨ax_blind, ax_recv M hP hc ha, ax_start M hP⟩ rfl hn hl.1 hst (lv_room hr) d hf) (fun r h' hp => ax_widen hf1.1 hf1.2 (k r h' hp))
  intro w hw
  unfold wsV at hw
  rcases List.mem_append.mp hw with hw | hw
  · exact hws w (List.mem_append_left [Cond.code y bytes maxL ret] hw)
  · rcases List.mem_cons.mp hw with hw | hw
    · exact hws w (by rw [hw]; simp)
    · exact hw
theorem ax_callS (M : Mx D cl nL X cc own Ts tys NN) (hg : ax_good Ts) {y : MethodName} {bytes : ByteArray} {maxL index n : Nat} {ret : Option FieldType} {rm : Room} {As st0 : List Value} {post : Option Value → AH → Prop} (hM : AC l D cl tys NN y (Cond.code y bytes maxL ret :: Ts) rm As h post)
    (hws : ∀ w ∈ ([.methodLink own index y, .static y, .initialized y.cls, .code y bytes maxL ret] : List Cond), w ∈ Ts) (hd : y.cls ≠ "java/lang/invoke/MethodHandle" ∧ y.cls ≠ "java/lang/invoke/VarHandle" ∧ (parseMethodDescriptor y.desc).map (fun d => d.parameters.length) = some n) (hR : rm.frames + 1 ≤ R.frames ∧ 8 + (maxL + 11) + rm.locals ≤ R.locals) (hn : As.length = n) (hst : st0 = As.reverse ++ rest) (hr : (rest.map fun v => v.category).sum ≤ 8) (d : decode cc pc = .ok (.invokestatic index, 3)) (hf : cells + rm.cells ≤ R.cells ∧ slots + rm.slots ≤ R.slots) {c1 s1 : Nat} (hf1 : cells + rm.cells ≤ c1 ∧ slots + rm.slots ≤ s1)
    (k : ∀ (r : Option Value) (h' : AH), post r h' → AW l D cl R nL X c1 s1 h' (pc + 3) lv (r.toList ++ rest)) : AW l D cl R nL X cells slots h pc lv st0 := fun H locs ls hP hS hl => by
  refine ax_behind M.2.2.2.2.2.2.2.1 hP hS hl (va_runS ⟨M.1, M.2.1, M.2.2.1, M.2.2.2.1, M.2.2.2.2.1⟩ (hM H.size) (va_cwS n M.2.2.2.2.1 (ax_goodIn hg ?_) rfl rfl rfl hd hR) ⟨ax_blind, ax_start M hP⟩ rfl hn hl.1 hst (lv_room hr) d hf) (fun r h' hp => ax_widen hf1.1 hf1.2 (k r h' hp))
  intro w hw
  unfold va_wsS at hw
  rcases List.mem_append.mp hw with hw | hw
  · exact hws w (List.mem_append_left [Cond.code y bytes maxL ret] hw)
  · rcases List.mem_cons.mp hw with hw | hw
    · exact hws w (by rw [hw]; simp)
    · exact hw
theorem ax_callI (M : Mx D cl nL X cc own Ts tys NN) (hg : ax_good Ts) {y : MethodName} {bytes : ByteArray} {maxL index n b : Nat} {rm : Room} {As st0 : List Value} {post : Option Value → AH → Prop} (hM : AC l D cl tys NN y (Cond.code y bytes maxL none :: Ts) rm (.ref b :: As) h post)
    (hws : ∀ w ∈ ([.methodLink own index y, .instanceMethod y, .initialized y.cls, .code y bytes maxL none] : List Cond), w ∈ Ts) (hy1 : y.name = "<init>") (hd : y.cls ≠ "java/lang/invoke/MethodHandle" ∧ y.cls ≠ "java/lang/invoke/VarHandle" ∧ (parseMethodDescriptor y.desc).map (fun d => d.parameters.length) = some n) (hR : rm.frames + 1 ≤ R.frames ∧ 8 + (maxL + 11) + rm.locals ≤ R.locals) (hn : As.length = n) (hst : st0 = As.reverse ++ .ref b :: rest) (hr : (rest.map fun v => v.category).sum ≤ 8) (d : decode cc pc = .ok (.invokespecial index, 3)) (hf : cells + rm.cells ≤ R.cells ∧ slots + rm.slots ≤ R.slots) {c1 s1 : Nat} (hf1 : cells + rm.cells ≤ c1 ∧ slots + rm.slots ≤ s1)
    (k : ∀ (r : Option Value) (h' : AH), post r h' → AW l D cl R nL X c1 s1 h' (pc + 3) lv (r.toList ++ rest)) : AW l D cl R nL X cells slots h pc lv st0 := fun H locs ls hP hS hl => by
  have hm : ∀ w ∈ ([.methodLink own index y, .instanceMethod y, .initialized y.cls, .code y bytes maxL none] : List Cond), w.before (xa X) (xs X) = true := fun w h9 => M.2.2.2.2.1 w (hws w h9)
  refine ax_behind M.2.2.2.2.2.2.2.1 hP hS hl (va_runI ⟨M.1, M.2.1, M.2.2.1, M.2.2.2.1, M.2.2.2.2.1⟩ (hM H.size) (cwI n M.2.2.2.2.1 (ax_goodIn hg ?_) rfl rfl rfl (hm _ (by simp)) (hm _ (by simp)) (hm _ (by simp)) hy1 hd hR) ⟨ax_blind, ax_start M hP⟩ rfl hn hl.1 hst (lv_room hr) d hf) (fun r h' hp => ax_widen hf1.1 hf1.2 (k r h' hp))
  intro w hw
  rcases List.mem_cons.mp hw with hw | hw
  · exact hws w (by rw [hw]; simp)
  · exact hw
theorem ax_callVN (M : Mx D cl nL X cc own Ts tys NN) (hg : ax_good Ts) {host : String} {q : vw_C} {y : MethodName} {bytes : ByteArray} {maxL index n b ci : Nat} {ret : Option FieldType} {rm : Room} {As st0 : List Value} {fs : List Value} {post : Option Value → AH → Prop} (hc : cl[ci]? = some q) (ha : h b = some (.inr (ci, fs))) (hM : AC l D cl tys NN y (Cond.code y bytes maxL ret :: Ts) rm (.ref b :: As) h post)
    (hN : Cond.methodLinkNest own index y host ∈ NN) (hws : ∀ w ∈ ([.instanceMethod y, .selects q.1 y y, .initialized y.cls, .code y bytes maxL ret] : List Cond), w ∈ Ts) (hd : y.cls ≠ "java/lang/invoke/MethodHandle" ∧ y.cls ≠ "java/lang/invoke/VarHandle" ∧ (parseMethodDescriptor y.desc).map (fun d => d.parameters.length) = some n) (hR : rm.frames + 1 ≤ R.frames ∧ 8 + (maxL + 11) + rm.locals ≤ R.locals) (hn : As.length = n) (hst : st0 = As.reverse ++ .ref b :: rest) (hr : (rest.map fun v => v.category).sum ≤ 8) (d : decode cc pc = .ok (.invokevirtual index, 3)) (hf : cells + rm.cells ≤ R.cells ∧ slots + rm.slots ≤ R.slots) {c1 s1 : Nat} (hf1 : cells + rm.cells ≤ c1 ∧ slots + rm.slots ≤ s1)
    (k : ∀ (r : Option Value) (h' : AH), post r h' → AW l D cl R nL X c1 s1 h' (pc + 3) lv (r.toList ++ rest)) : AW l D cl R nL X cells slots h pc lv st0 := fun H locs ls hP hS hl => by
  have hm : ∀ w ∈ ([.instanceMethod y, .selects q.1 y y, .initialized y.cls, .code y bytes maxL ret] : List Cond), w.before (xa X) (xs X) = true := fun w h9 => M.2.2.2.2.1 w (hws w h9)
  refine ax_behind M.2.2.2.2.2.2.2.1 hP hS hl (va_runVN ⟨M.1, M.2.1, M.2.2.1, M.2.2.2.1, M.2.2.2.2.1⟩ (hM H.size) ⟨va_cnB (host := host) n M.2.2.2.2.1 (ax_goodIn hg ?_) rfl rfl rfl (M.2.2.2.2.2.2.2.2 _ hN).2 (hm _ (by simp)) hd hR, hm _ (by simp), hm _ (by simp)⟩ ⟨ax_blind, ax_recv M hP hc ha, ax_start M hP⟩ rfl hn hl.1 hst (lv_room hr) d hf) (fun r h' hp => ax_widen hf1.1 hf1.2 (k r h' hp))
  intro w hw
  rcases List.mem_cons.mp hw with hw | hw
  · exact hws w (by rw [hw]; simp)
  · exact hw
theorem ax_callIN (M : Mx D cl nL X cc own Ts tys NN) (hg : ax_good Ts) {host : String} {y : MethodName} {bytes : ByteArray} {maxL index n b : Nat} {rm : Room} {As st0 : List Value} {post : Option Value → AH → Prop} (hM : AC l D cl tys NN y (Cond.code y bytes maxL none :: Ts) rm (.ref b :: As) h post)
    (hN : Cond.methodLinkNest own index y host ∈ NN) (hws : ∀ w ∈ ([.instanceMethod y, .initialized y.cls, .code y bytes maxL none] : List Cond), w ∈ Ts) (hy1 : y.name = "<init>") (hd : y.cls ≠ "java/lang/invoke/MethodHandle" ∧ y.cls ≠ "java/lang/invoke/VarHandle" ∧ (parseMethodDescriptor y.desc).map (fun d => d.parameters.length) = some n) (hR : rm.frames + 1 ≤ R.frames ∧ 8 + (maxL + 11) + rm.locals ≤ R.locals) (hn : As.length = n) (hst : st0 = As.reverse ++ .ref b :: rest) (hr : (rest.map fun v => v.category).sum ≤ 8) (d : decode cc pc = .ok (.invokespecial index, 3)) (hf : cells + rm.cells ≤ R.cells ∧ slots + rm.slots ≤ R.slots) {c1 s1 : Nat} (hf1 : cells + rm.cells ≤ c1 ∧ slots + rm.slots ≤ s1)
    (k : ∀ (r : Option Value) (h' : AH), post r h' → AW l D cl R nL X c1 s1 h' (pc + 3) lv (r.toList ++ rest)) : AW l D cl R nL X cells slots h pc lv st0 := fun H locs ls hP hS hl => by
  have hm : ∀ w ∈ ([.instanceMethod y, .initialized y.cls, .code y bytes maxL none] : List Cond), w.before (xa X) (xs X) = true := fun w h9 => M.2.2.2.2.1 w (hws w h9)
  refine ax_behind M.2.2.2.2.2.2.2.1 hP hS hl (va_runIN ⟨M.1, M.2.1, M.2.2.1, M.2.2.2.1, M.2.2.2.2.1⟩ (hM H.size) ⟨va_cnB (host := host) n M.2.2.2.2.1 (ax_goodIn hg ?_) rfl rfl rfl (M.2.2.2.2.2.2.2.2 _ hN).2 (hm _ (by simp)) hd hR, hy1, hm _ (by simp)⟩ ⟨ax_blind, ax_start M hP⟩ rfl hn hl.1 hst (lv_room hr) d hf) (fun r h' hp => ax_widen hf1.1 hf1.2 (k r h' hp))
  intro w hw
  rcases List.mem_cons.mp hw with hw | hw
  · exact hws w (by rw [hw]; simp)
  · exact hw
/-- a contract out of the walk of the body -/
theorem AC.of {y : MethodName} {ws ws' : List Cond} {rm : Room} {ret : Option FieldType} {av : List Value} {post : Option Value → AH → Prop} (hy : plainName y.cls = true) (hw : ws = Cond.code y cc nL ret :: ws') (hn : (lg_sl av).length ≤ nL)
    (body : ∀ X : CX, Mx D cl nL X cc y.cls ws' tys NN → Rx D cl rm X ret post → (xh X).name = y.name → AW l D cl rm nL X 0 0 h 0 (lv_args 0 av) []) : AC l D cl tys NN y ws rm av h post := by
  intro sz
  refine Met.ofW (cc := cc) (maxL := nL) (ret := ret) hy hw ?_
  intro p e s m args below meth c s₁ B hml hv
  obtain ⟨rfl, hsz, hP, hK, hN⟩ := hv
  subst hsz
  have hts := atoms_spec (ws := ws) B.pre
  have hl := lv_entry av (n := nL) hn
  rw [lg_entry_eq]
  exact body (p, e, s, m, av.toArray, below, meth, c, ah_A h s.heap.size, MQ below (Qx D cl (ah_A h s.heap.size) post) av.toArray s rm.cells rm.slots (ah_A h s.heap.size)) ⟨B.exec, B.bytes, hml, findClass_of_methodNamed B.named, fun w h9 => hts w (by rw [hw]; exact List.mem_cons_of_mem _ h9), hK, B.notSynchronized, fun q hq => Or.inr hq, hN⟩ ⟨rfl, B.returns⟩ (name_of_methodNamed B.named B.method).1 s.heap [] _ (hP.self _) va_S.rf hl
theorem ax_ret_i {c1 s1 : Nat} {r : Int32} {Φ : AH → Prop} (k : ∀ h' : AH, Φ h' → AW l D cl R nL X c1 s1 h' pc lv (.int r :: rest)) : ∀ (rv : Option Value) (h' : AH), (rv = some (.int r) ∧ Φ h') → AW l D cl R nL X c1 s1 h' pc lv (rv.toList ++ rest) := fun rv h' hp => by
  obtain ⟨e, hp⟩ := hp
  subst e
  exact k h' hp
theorem ax_ret_l {c1 s1 : Nat} {r : Int64} {Φ : AH → Prop} (k : ∀ h' : AH, Φ h' → AW l D cl R nL X c1 s1 h' pc lv (.long r :: rest)) : ∀ (rv : Option Value) (h' : AH), (rv = some (.long r) ∧ Φ h') → AW l D cl R nL X c1 s1 h' pc lv (rv.toList ++ rest) := fun rv h' hp => by
  obtain ⟨e, hp⟩ := hp
  subst e
  exact k h' hp
theorem ax_ret_v {c1 s1 : Nat} {Φ : AH → Prop} (k : ∀ h' : AH, Φ h' → AW l D cl R nL X c1 s1 h' pc lv rest) : ∀ (rv : Option Value) (h' : AH), (rv = none ∧ Φ h') → AW l D cl R nL X c1 s1 h' pc lv (rv.toList ++ rest) := fun rv h' hp => by
  obtain ⟨e, hp⟩ := hp
  subst e
  exact k h' hp
theorem ax_mmax (M : Mx D cl nL X cc own Ts tys NN) {index : Nat} (hws : ∀ w ∈ ([.methodLink own index Lib.Math.max.name, .static Lib.Math.max.name, .initialized "java/lang/Math", .code Lib.Math.max.name Lib.Math.max.code 2 (some .int)] : List Cond), w ∈ Ts) (hfr : 1 ≤ R.frames) (hlo : (rest.map fun v => v.category).sum + 13 ≤ R.locals) (hc : cells ≤ R.cells) (hs : slots ≤ R.slots) {x y : Int32} (d : decode cc pc = .ok (.invokestatic index, 3)) (k : AW l D cl R nL X cells slots h (pc + 3) lv (.int (if x < y then y else x) :: rest)) : AW l D cl R nL X cells slots h pc lv (.int y :: .int x :: rest) := fun H locs ls hP hS hl => by
  have hm := fun w h9 => M.2.2.2.2.1 w (hws w h9)
  exact va_mmax M.1 M.2.1 (by rw [M.2.2.1]; exact hl.1.symm) M.2.2.2.1 (hm _ (by simp)) (hm _ (by simp)) (hm _ (by simp)) (hm _ (by simp)) hfr hlo hc hs d (k H locs ls hP hS hl)
theorem ax_mmin (M : Mx D cl nL X cc own Ts tys NN) {index : Nat} (hws : ∀ w ∈ ([.methodLink own index Lib.Math.min.name, .static Lib.Math.min.name, .initialized "java/lang/Math", .code Lib.Math.min.name Lib.Math.min.code 2 (some .int)] : List Cond), w ∈ Ts) (hfr : 1 ≤ R.frames) (hlo : (rest.map fun v => v.category).sum + 13 ≤ R.locals) (hc : cells ≤ R.cells) (hs : slots ≤ R.slots) {x y : Int32} (d : decode cc pc = .ok (.invokestatic index, 3)) (k : AW l D cl R nL X cells slots h (pc + 3) lv (.int (if y < x then y else x) :: rest)) : AW l D cl R nL X cells slots h pc lv (.int y :: .int x :: rest) := fun H locs ls hP hS hl => by
  have hm := fun w h9 => M.2.2.2.2.1 w (hws w h9)
  exact va_mmin M.1 M.2.1 (by rw [M.2.2.1]; exact hl.1.symm) M.2.2.2.1 (hm _ (by simp)) (hm _ (by simp)) (hm _ (by simp)) (hm _ (by simp)) hfr hlo hc hs d (k H locs ls hP hS hl)
end AX
end
section
/-! the state of an object with all that hangs on it: kind K, number i, place k -/
abbrev ST : Type := (Nat → Nat → Nat → Int32) × (Nat → Nat → Nat → Int64)
def gi (f : ST) (K i k : Nat) : Int32 := f.1 K i k
def gl (f : ST) (K i k : Nat) : Int64 := f.2 K i k
def su (f : ST) (K i k : Nat) (v : Int32) : ST := (fun K' i' k' => if K' = K ∧ i' = i ∧ k' = k then v else f.1 K' i' k', f.2)
def sl (f : ST) (K i k : Nat) (v : Int64) : ST := (f.1, fun K' i' k' => if K' = K ∧ i' = i ∧ k' = k then v else f.2 K' i' k')
theorem gi_su (f : ST) (K i k : Nat) (v : Int32) (K' i' k' : Nat) : gi (su f K i k v) K' i' k' = if K' = K ∧ i' = i ∧ k' = k then v else gi f K' i' k' := rfl
theorem gl_sl (f : ST) (K i k : Nat) (v : Int64) (K' i' k' : Nat) : gl (sl f K i k v) K' i' k' = if K' = K ∧ i' = i ∧ k' = k then v else gl f K' i' k' := rfl
theorem gi_sl {f : ST} {K i k K' i' k' : Nat} {v : Int64} : gi (sl f K i k v) K' i' k' = gi f K' i' k' := rfl
theorem gl_su {f : ST} {K i k K' i' k' : Nat} {v : Int32} : gl (su f K i k v) K' i' k' = gl f K' i' k' := rfl
theorem gi_same {f : ST} {K i k : Nat} {v : Int32} : gi (su f K i k v) K i k = v := by simp [gi_su]
theorem gi_k {f : ST} {K i k K' i' k' : Nat} {v : Int32} (hk : k' ≠ k) : gi (su f K i k v) K' i' k' = gi f K' i' k' := by simp [gi_su, hk]
theorem gi_K {f : ST} {K i k K' i' k' : Nat} {v : Int32} (hk : K' ≠ K) : gi (su f K i k v) K' i' k' = gi f K' i' k' := by simp [gi_su, hk]
theorem gi_i {f : ST} {K i k K' i' k' : Nat} {v : Int32} (hk : i' ≠ i) : gi (su f K i k v) K' i' k' = gi f K' i' k' := by simp [gi_su, hk]
theorem gl_same {f : ST} {K i k : Nat} {v : Int64} : gl (sl f K i k v) K i k = v := by simp [gl_sl]
theorem gl_k {f : ST} {K i k K' i' k' : Nat} {v : Int64} (hk : k' ≠ k) : gl (sl f K i k v) K' i' k' = gl f K' i' k' := by simp [gl_sl, hk]
theorem gl_K {f : ST} {K i k K' i' k' : Nat} {v : Int64} (hk : K' ≠ K) : gl (sl f K i k v) K' i' k' = gl f K' i' k' := by simp [gl_sl, hk]
abbrev ix (i : Int32) : Nat := i.toNatClampNeg
abbrev inb (i : Int32) (n : Nat) : Prop := ¬ (i < 0 ∨ n ≤ i.toNatClampNeg)
abbrev isb (x : Int32) : Prop := x = 0 ∨ x = 1
theorem isb_narrow {x : Int32} (hx : isb x) : narrow .boolean (.int x) = .int x := by rcases hx with rfl | rfl <;> rfl
theorem isb_nar {x : Int32} (hx : isb x) : vp_nar .boolean x = x := by rcases hx with rfl | rfl <;> rfl
/-- the map h holds the state σ at the addresses al; elsewhere it is h0 -/
def SW (dm : Nat → Nat) (cf : (Nat → Nat → Nat) → Nat → Nat → (Nat → Int32) → (Nat → Int64) → va_E) (al : Nat → Nat → Nat) (σ : ST) (h0 h : AH) : Prop :=
  (∀ K i, i < dm K → h (al K i) = some (cf al K i (fun k => gi σ K i k) (fun k => gl σ K i k))) ∧ (∀ K i K' i', i < dm K → i' < dm K' → al K i = al K' i' → K = K' ∧ i = i') ∧ ∀ q, (∀ K i, i < dm K → q ≠ al K i) → h q = h0 q
section SWs
variable {dm : Nat → Nat} {cf : (Nat → Nat → Nat) → Nat → Nat → (Nat → Int32) → (Nat → Int64) → va_E} {al : Nat → Nat → Nat} {σ : ST} {h0 h : AH}
theorem SW.at (hG : SW dm cf al σ h0 h) (K i : Nat) (hi : i < dm K) : h (al K i) = some (cf al K i (fun k => gi σ K i k) (fun k => gl σ K i k)) := hG.1 K i hi
theorem SW.put (hG : SW dm cf al σ h0 h) (K i k : Nat) (v : Int32) {c : va_E} (hi : i < dm K) (hc : c = cf al K i (fun k' => if k' = k then v else gi σ K i k') (fun k' => gl σ K i k')) : SW dm cf al (su σ K i k v) h0 (ah_set h (al K i) c) := by
  refine ⟨fun K' i' hi' => ?_, hG.2.1, fun q hq => ?_⟩
  · by_cases he : al K' i' = al K i
    · obtain ⟨rfl, rfl⟩ := hG.2.1 K' i' K i hi' hi he
      rw [ah_same, hc]
      have e1 : (fun k' => if k' = k then v else gi σ K' i' k') = fun k' => gi (su σ K' i' k v) K' i' k' := by
        funext k'
        simp [gi_su]
      rw [e1]
      rfl
    · rw [ah_ne he, hG.1 K' i' hi']
      have e1 : (fun k' => gi σ K' i' k') = fun k' => gi (su σ K i k v) K' i' k' := by
        funext k'
        have hne : ¬ (K' = K ∧ i' = i ∧ k' = k) := fun ⟨h1, h2, _⟩ => he (by rw [h1, h2])
        simp [gi_su, hne]
      rw [e1]
      rfl
  · rw [ah_ne (hq K i hi)]
    exact hG.2.2 q hq
theorem SW.putl (hG : SW dm cf al σ h0 h) (K i k : Nat) (v : Int64) {c : va_E} (hi : i < dm K) (hc : c = cf al K i (fun k' => gi σ K i k') (fun k' => if k' = k then v else gl σ K i k')) : SW dm cf al (sl σ K i k v) h0 (ah_set h (al K i) c) := by
  refine ⟨fun K' i' hi' => ?_, hG.2.1, fun q hq => ?_⟩
  · by_cases he : al K' i' = al K i
    · obtain ⟨rfl, rfl⟩ := hG.2.1 K' i' K i hi' hi he
      rw [ah_same, hc]
      have e1 : (fun k' => if k' = k then v else gl σ K' i' k') = fun k' => gl (sl σ K' i' k v) K' i' k' := by
        funext k'
        simp [gl_sl]
      rw [e1]
      rfl
    · rw [ah_ne he, hG.1 K' i' hi']
      have e1 : (fun k' => gl σ K' i' k') = fun k' => gl (sl σ K i k v) K' i' k' := by
        funext k'
        have hne : ¬ (K' = K ∧ i' = i ∧ k' = k) := fun ⟨h1, h2, _⟩ => he (by rw [h1, h2])
        simp [gl_sl, hne]
      rw [e1]
      rfl
  · rw [ah_ne (hq K i hi)]
    exact hG.2.2 q hq
theorem SW.base {h1 : AH} (hG : SW dm cf al σ h0 h) (hh : ∀ q, (∀ K i, i < dm K → q ≠ al K i) → h0 q = h1 q) : SW dm cf al σ h1 h := ⟨hG.1, hG.2.1, fun q hq => (hG.2.2 q hq).trans (hh q hq)⟩
end SWs
/-- a loop: 'body' goes on with a new state, or ends it -/
def lp {S R : Type} (body : S → Option (S ⊕ R)) : Nat → S → Option R
  | 0, _ => none
  | n + 1, s => match body s with
    | none => none
    | some (.inl s') => lp body n s'
    | some (.inr r) => some r
theorem lp_walk {S R : Type} {body : S → Option (S ⊕ R)} (P : S → Prop) (Q : R → Prop) (hs : ∀ s x, body s = some x → (∀ s', x = .inl s' → P s') → (∀ r, x = .inr r → Q r) → P s) : ∀ n s r, lp body n s = some r → Q r → P s := by
  intro n
  induction n with
  | zero => intro s r h; cases h
  | succ n ih =>
    intro s r h hQ
    unfold lp at h
    cases hb : body s with
    | none => rw [hb] at h; cases h
    | some x =>
      rw [hb] at h
      refine hs s x hb (fun s' e => ?_) (fun r' e => ?_)
      · subst e
        exact ih s' r h hQ
      · subst e
        cases h
        exact hQ
theorem ob_t {τ : Type} {c : Prop} [Decidable c] {a b : Option τ} {r : τ} (E : (if c then a else b) = some r) (hc : c) : a = some r := by rwa [if_pos hc] at E
theorem ob_f {τ : Type} {c : Prop} [Decidable c] {a b : Option τ} {r : τ} (E : (if c then a else b) = some r) (hc : ¬ c) : b = some r := by rwa [if_neg hc] at E
theorem ob_c {τ : Type} {c : Prop} [Decidable c] {a : Option τ} {r : τ} (E : (if c then a else none) = some r) : c ∧ a = some r := by
  by_cases hc : c
  · exact ⟨hc, by rwa [if_pos hc] at E⟩
  · rw [if_neg hc] at E; cases E
theorem ob_b {τ υ : Type} {m : Option τ} {f : τ → Option υ} {r : υ} (E : m.bind f = some r) : ∃ q, m = some q ∧ f q = some r := by
  cases m with
  | none => cases E
  | some q => exact ⟨q, rfl, E⟩
/-- references out of numbers: a place of an array of objects is written -/
theorem rf_put {al : Nat → Nat → Nat} {K : Nat} {f : Nat → Int32} {i j : Nat} (hj : j < 2147483648) : va_up (fun e => some (al K (ix (f e)))) i (some (al K j)) = fun e => some (al K (ix (if e = i then nI j else f e))) := by
  funext e
  unfold va_up
  split
  · rw [show ix (nI j) = j from nI_clamp (by omega)]
  · rfl
theorem se_l {τ υ ω : Type} {f : τ → Option ω} {g : υ → Option ω} {a : τ} {r : ω} (E : Sum.elim f g (.inl a) = some r) : f a = some r := E
theorem se_r {τ υ ω : Type} {f : τ → Option ω} {g : υ → Option ω} {a : υ} {r : ω} (E : Sum.elim f g (.inr a) = some r) : g a = some r := E
theorem qe_l {τ υ : Type} {f : τ → Prop} {g : υ → Prop} {a : τ} (E : Sum.elim f g (.inl a)) : f a := E
theorem qe_r {τ υ : Type} {f : τ → Prop} {g : υ → Prop} {a : υ} (E : Sum.elim f g (.inr a)) : g a := E
theorem qi_l {τ υ : Type} {f : τ → Prop} {g : υ → Prop} {a : τ} (E : f a) : Sum.elim f g (.inl a) := E
theorem qi_r {τ υ : Type} {f : τ → Prop} {g : υ → Prop} {a : υ} (E : g a) : Sum.elim f g (.inr a) := E
theorem in_lt {j : Int32} {n : Nat} (hj : inb j n) : ix j < n := Nat.not_le.mp (fun q => hj (Or.inr q))
theorem ne_ti {x k : Int32} (hx : ¬ x = k) : x.toInt ≠ k.toInt := fun e => hx (Int32.toInt_inj.mp e)
section SWr
variable {l : Launch} {D : va_G} {cl : List vw_C} {R : Room} {nL : Nat} {X : CX} {cc : ByteArray} {own : String} {Ts : List Cond} {tys : List (ClassId × FieldType)} {NN : List Cond} {cells slots pc : Nat} {h h0 : AH} {lv : List (Nat × Value)} {rest : List Value}
variable {dm : Nat → Nat} {cf : (Nat → Nat → Nat) → Nat → Nat → (Nat → Int32) → (Nat → Int64) → va_E} {al : Nat → Nat → Nat} {σ : ST}
theorem sw_get (M : Mx D cl nL X cc own Ts tys NN) (hG : SW dm cf al σ h0 h) (K i : Nat) (hi : i < dm K) {C : String} {T : u_T} {N ci index : Nat} (hin : ∀ w ∈ u_ws C T N, w ∈ Ts) {fs : List Value} (hcell : cf al K i (fun k => gi σ K i k) (fun k => gl σ K i k) = .inr (ci, fs)) (hc : cl[ci]? = some (C, T, N)) (k0 : Nat) (hk : k0 < N) (hlink : Cond.fieldLink own index (T k0).1 (T k0).2.1 (T k0).2.2.1 ∈ Ts) {v : Value} (hv : fs[k0]? = some v) (d : decode cc pc = .ok (.getfield index, 3)) (k : AW l D cl R nL X cells slots h (pc + 3) lv (v :: rest)) : AW l D cl R nL X cells slots h pc lv (.ref (al K i) :: rest) :=
  ax_get M hin ((hG.at K i hi).trans (congrArg some hcell)) hc k0 hk hlink hv d k
theorem sw_getN (M : Mx D cl nL X cc own Ts tys NN) (hG : SW dm cf al σ h0 h) (K i : Nat) (hi : i < dm K) {C host : String} {T : u_T} {N ci index : Nat} (hin : ∀ w ∈ u_ws C T N, w ∈ Ts) {fs : List Value} (hcell : cf al K i (fun k => gi σ K i k) (fun k => gl σ K i k) = .inr (ci, fs)) (hc : cl[ci]? = some (C, T, N)) (k0 : Nat) (hk : k0 < N) (hlink : Cond.fieldLinkNest own index (T k0).1 (T k0).2.1 (T k0).2.2.1 host ∈ NN) {v : Value} (hv : fs[k0]? = some v) (d : decode cc pc = .ok (.getfield index, 3)) (k : AW l D cl R nL X cells slots h (pc + 3) lv (v :: rest)) : AW l D cl R nL X cells slots h pc lv (.ref (al K i) :: rest) :=
  ax_getN M hin ((hG.at K i hi).trans (congrArg some hcell)) hc k0 hk hlink hv d k
theorem sw_put (M : Mx D cl nL X cc own Ts tys NN) (hG : SW dm cf al σ h0 h) (K i : Nat) (hi : i < dm K) {C : String} {T : u_T} {N ci index : Nat} (hin : ∀ w ∈ u_ws C T N, w ∈ Ts) (ty0 : Nat → FieldType) (hty : ∀ k, k < N → parseFieldDescriptor (T k).2.2.1 = some (ty0 k)) (hnm : ∀ a, a < N → ∀ b, b < N → a ≠ b → (T a).2.1 ≠ (T b).2.1) {fs : List Value} (hcell : cf al K i (fun k => gi σ K i k) (fun k => gl σ K i k) = .inr (ci, fs)) (hc : cl[ci]? = some (C, T, N)) (k0 : Nat) (hk : k0 < N) (hlink : Cond.fieldLink own index (T k0).1 (T k0).2.1 (T k0).2.2.1 ∈ Ts) (hfin : (T k0).2.2.2 = false) {x : Int32} (hn : narrow (ty0 k0) (.int x) = .int x) (hfit : fits (ty0 k0) (.int x) = true) (hlen : k0 < fs.length) (hnew : .inr (ci, fs.set k0 (.int x)) = cf al K i (fun k' => if k' = k0 then x else gi σ K i k') (fun k' => gl σ K i k')) (d : decode cc pc = .ok (.putfield index, 3)) (k : ∀ h1 : AH, SW dm cf al (su σ K i k0 x) h0 h1 → AW l D cl R nL X cells slots h1 (pc + 3) lv rest) : AW l D cl R nL X cells slots h pc lv (.int x :: .ref (al K i) :: rest) :=
  ax_put M hin ty0 hty hnm ((hG.at K i hi).trans (congrArg some hcell)) hc k0 hk hlink hfin hn hfit hlen d (k _ (hG.put K i k0 x hi hnew))
theorem sw_putN (M : Mx D cl nL X cc own Ts tys NN) (hG : SW dm cf al σ h0 h) (K i : Nat) (hi : i < dm K) {C host : String} {T : u_T} {N ci index : Nat} (hin : ∀ w ∈ u_ws C T N, w ∈ Ts) (ty0 : Nat → FieldType) (hty : ∀ k, k < N → parseFieldDescriptor (T k).2.2.1 = some (ty0 k)) (hnm : ∀ a, a < N → ∀ b, b < N → a ≠ b → (T a).2.1 ≠ (T b).2.1) {fs : List Value} (hcell : cf al K i (fun k => gi σ K i k) (fun k => gl σ K i k) = .inr (ci, fs)) (hc : cl[ci]? = some (C, T, N)) (k0 : Nat) (hk : k0 < N) (hlink : Cond.fieldLinkNest own index (T k0).1 (T k0).2.1 (T k0).2.2.1 host ∈ NN) (hfin : (T k0).2.2.2 = false) {x : Int32} (hn : narrow (ty0 k0) (.int x) = .int x) (hfit : fits (ty0 k0) (.int x) = true) (hlen : k0 < fs.length) (hnew : .inr (ci, fs.set k0 (.int x)) = cf al K i (fun k' => if k' = k0 then x else gi σ K i k') (fun k' => gl σ K i k')) (d : decode cc pc = .ok (.putfield index, 3)) (k : ∀ h1 : AH, SW dm cf al (su σ K i k0 x) h0 h1 → AW l D cl R nL X cells slots h1 (pc + 3) lv rest) : AW l D cl R nL X cells slots h pc lv (.int x :: .ref (al K i) :: rest) :=
  ax_putN M hin ty0 hty hnm ((hG.at K i hi).trans (congrArg some hcell)) hc k0 hk hlink hfin hn hfit hlen d (k _ (hG.put K i k0 x hi hnew))
theorem sw_iald (M : Mx D cl nL X cc own Ts tys NN) (hG : SW dm cf al σ h0 h) (K i : Nat) (hi : i < dm K) {cA : ClassId} {n : Nat} (hcell : cf al K i (fun k => gi σ K i k) (fun k => gl σ K i k) = .inl (cA, n, .inl (fun k => gi σ K i k))) (t0 : Nat) (ht : tys[t0]? = some (cA, .int)) {j : Int32} (hj : inb j n) (d : decode cc pc = .ok (.iaload, 1)) (k : AW l D cl R nL X cells slots h (pc + 1) lv (.int (gi σ K i (ix j)) :: rest)) : AW l D cl R nL X cells slots h pc lv (.int j :: .ref (al K i) :: rest) :=
  ax_iald M ((hG.at K i hi).trans (congrArg some hcell)) t0 ht hj d k
theorem sw_iast (M : Mx D cl nL X cc own Ts tys NN) (hG : SW dm cf al σ h0 h) (K i : Nat) (hi : i < dm K) {cA : ClassId} {n : Nat} (hcell : cf al K i (fun k => gi σ K i k) (fun k => gl σ K i k) = .inl (cA, n, .inl (fun k => gi σ K i k))) (t0 : Nat) (ht : tys[t0]? = some (cA, .int)) {j x : Int32} (hj : inb j n) (hnew : .inl (cA, n, .inl (fun k' => if k' = ix j then x else gi σ K i k')) = cf al K i (fun k' => if k' = ix j then x else gi σ K i k') (fun k' => gl σ K i k')) (d : decode cc pc = .ok (.iastore, 1)) (k : ∀ h1 : AH, SW dm cf al (su σ K i (ix j) x) h0 h1 → AW l D cl R nL X cells slots h1 (pc + 1) lv rest) : AW l D cl R nL X cells slots h pc lv (.int x :: .int j :: .ref (al K i) :: rest) :=
  ax_iast M ((hG.at K i hi).trans (congrArg some hcell)) t0 ht hj d (k _ (hG.put K i (ix j) x hi hnew))
theorem sw_zald (M : Mx D cl nL X cc own Ts tys NN) (hG : SW dm cf al σ h0 h) (K i : Nat) (hi : i < dm K) {cA : ClassId} {n : Nat} (hcell : cf al K i (fun k => gi σ K i k) (fun k => gl σ K i k) = .inl (cA, n, .inl (fun k => gi σ K i k))) (t0 : Nat) (ht : tys[t0]? = some (cA, .boolean)) {j : Int32} (hj : inb j n) (d : decode cc pc = .ok (.baload, 1)) (k : AW l D cl R nL X cells slots h (pc + 1) lv (.int (gi σ K i (ix j)) :: rest)) : AW l D cl R nL X cells slots h pc lv (.int j :: .ref (al K i) :: rest) :=
  ax_zald M ((hG.at K i hi).trans (congrArg some hcell)) t0 ht hj d k
theorem sw_zast (M : Mx D cl nL X cc own Ts tys NN) (hG : SW dm cf al σ h0 h) (K i : Nat) (hi : i < dm K) {cA : ClassId} {n : Nat} (hcell : cf al K i (fun k => gi σ K i k) (fun k => gl σ K i k) = .inl (cA, n, .inl (fun k => gi σ K i k))) (t0 : Nat) (ht : tys[t0]? = some (cA, .boolean)) {j x : Int32} (hj : inb j n) (hx : isb x) (hnew : .inl (cA, n, .inl (fun k' => if k' = ix j then x else gi σ K i k')) = cf al K i (fun k' => if k' = ix j then x else gi σ K i k') (fun k' => gl σ K i k')) (d : decode cc pc = .ok (.bastore, 1)) (k : ∀ h1 : AH, SW dm cf al (su σ K i (ix j) x) h0 h1 → AW l D cl R nL X cells slots h1 (pc + 1) lv rest) : AW l D cl R nL X cells slots h pc lv (.int x :: .int j :: .ref (al K i) :: rest) :=
  ax_zast M ((hG.at K i hi).trans (congrArg some hcell)) t0 ht hj (isb_nar hx) d (k _ (hG.put K i (ix j) x hi hnew))
theorem sw_lald (M : Mx D cl nL X cc own Ts tys NN) (hG : SW dm cf al σ h0 h) (K i : Nat) (hi : i < dm K) {cA : ClassId} {n : Nat} (hcell : cf al K i (fun k => gi σ K i k) (fun k => gl σ K i k) = .inl (cA, n, .inr (.inl (fun k => gl σ K i k)))) (t0 : Nat) (ht : tys[t0]? = some (cA, .long)) {j : Int32} (hj : inb j n) (d : decode cc pc = .ok (.laload, 1)) (k : AW l D cl R nL X cells slots h (pc + 1) lv (.long (gl σ K i (ix j)) :: rest)) : AW l D cl R nL X cells slots h pc lv (.int j :: .ref (al K i) :: rest) :=
  ax_lald M ((hG.at K i hi).trans (congrArg some hcell)) t0 ht hj d k
theorem sw_last (M : Mx D cl nL X cc own Ts tys NN) (hG : SW dm cf al σ h0 h) (K i : Nat) (hi : i < dm K) {cA : ClassId} {n : Nat} (hcell : cf al K i (fun k => gi σ K i k) (fun k => gl σ K i k) = .inl (cA, n, .inr (.inl (fun k => gl σ K i k)))) (t0 : Nat) (ht : tys[t0]? = some (cA, .long)) {j : Int32} {x : Int64} (hj : inb j n) (hnew : .inl (cA, n, .inr (.inl (fun k' => if k' = ix j then x else gl σ K i k'))) = cf al K i (fun k' => gi σ K i k') (fun k' => if k' = ix j then x else gl σ K i k')) (d : decode cc pc = .ok (.lastore, 1)) (k : ∀ h1 : AH, SW dm cf al (sl σ K i (ix j) x) h0 h1 → AW l D cl R nL X cells slots h1 (pc + 1) lv rest) : AW l D cl R nL X cells slots h pc lv (.long x :: .int j :: .ref (al K i) :: rest) :=
  ax_last M ((hG.at K i hi).trans (congrArg some hcell)) t0 ht hj d (k _ (hG.putl K i (ix j) x hi hnew))
/-- an array of objects: place j holds the object of kind K2 and number g j -/
theorem sw_aldq (M : Mx D cl nL X cc own Ts tys NN) (hG : SW dm cf al σ h0 h) (K i : Nat) (hi : i < dm K) {K2 : Nat} {g : Nat → Nat} {cA : ClassId} {n : Nat} (hcell : cf al K i (fun k => gi σ K i k) (fun k => gl σ K i k) = .inl (cA, n, .inr (.inr (.inr (.inr (fun e => some (al K2 (g e)))))))) (t0 : Nat) {ty : FieldType} (ht : tys[t0]? = some (cA, ty)) (hty : ty.isReference = true) {j : Int32} (hj : inb j n) (d : decode cc pc = .ok (.aaload, 1)) (k : AW l D cl R nL X cells slots h (pc + 1) lv (.ref (al K2 (g (ix j))) :: rest)) : AW l D cl R nL X cells slots h pc lv (.int j :: .ref (al K i) :: rest) :=
  ax_aldq M ((hG.at K i hi).trans (congrArg some hcell)) t0 ht hty hj rfl d k
theorem sw_astq (M : Mx D cl nL X cc own Ts tys NN) (hG : SW dm cf al σ h0 h) (K i : Nat) (hi : i < dm K) {K2 j2 : Nat} (hj2 : j2 < dm K2) (hb2 : j2 < 2147483648) {cA : ClassId} {n : Nat} (hcell : cf al K i (fun k => gi σ K i k) (fun k => gl σ K i k) = .inl (cA, n, .inr (.inr (.inr (.inr (fun e => some (al K2 (ix (gi σ K i e))))))))) (t0 : Nat) {ci : Nat} {r : vw_C} {vs : List Value} (ht : tys[t0]? = some (cA, .object r.1)) (hc2 : cf al K2 j2 (fun k => gi σ K2 j2 k) (fun k => gl σ K2 j2 k) = .inr (ci, vs)) (hc : cl[ci]? = some r) {j : Int32} (hj : inb j n) (hnew : .inl (cA, n, .inr (.inr (.inr (.inr (fun e => some (al K2 (ix (if e = ix j then nI j2 else gi σ K i e)))))))) = cf al K i (fun k' => if k' = ix j then nI j2 else gi σ K i k') (fun k' => gl σ K i k')) (d : decode cc pc = .ok (.aastore, 1)) (k : ∀ h1 : AH, SW dm cf al (su σ K i (ix j) (nI j2)) h0 h1 → AW l D cl R nL X cells slots h1 (pc + 1) lv rest) : AW l D cl R nL X cells slots h pc lv (.ref (al K2 j2) :: .int j :: .ref (al K i) :: rest) := by
  refine ax_astq M ((hG.at K i hi).trans (congrArg some hcell)) t0 ht ((hG.at K2 j2 hj2).trans (congrArg some hc2)) hc hj d (k _ (hG.put K i (ix j) (nI j2) hi ?_))
  rw [rf_put hb2]
  exact hnew
end SWr
end
section
/-! names, tables of fields, words -/
def R_A : String := "RateGraph$Actor"
def F_A : u_T := fun k => match k with
  | 0 => ("RateGraph$Actor", "there", "Z", false)
  | 1 => ("RateGraph$Actor", "kind", "I", false)
  | 2 => ("RateGraph$Actor", "parameter", "I", false)
  | 3 => ("RateGraph$Actor", "part", "I", false)
  | 4 => ("RateGraph$Actor", "share", "I", false)
  | 5 => ("RateGraph$Actor", "repetitions", "I", false)
  | 6 => ("RateGraph$Actor", "fired", "I", false)
  | 7 => ("RateGraph$Actor", "formerX", "I", false)
  | 8 => ("RateGraph$Actor", "sumOfX", "I", false)
  | _ => ("RateGraph$Actor", "latest", "I", false)
def t_A : Nat → FieldType := fun k => match k with
  | 0 => .boolean
  | 1 => .int
  | 2 => .int
  | 3 => .int
  | 4 => .int
  | 5 => .int
  | 6 => .int
  | 7 => .int
  | 8 => .int
  | _ => .int
def R_E : String := "RateGraph$Edge"
def F_E : u_T := fun k => match k with
  | 0 => ("RateGraph$Edge", "ring", "[I", true)
  | 1 => ("RateGraph$Edge", "from", "I", false)
  | 2 => ("RateGraph$Edge", "to", "I", false)
  | 3 => ("RateGraph$Edge", "in", "I", false)
  | 4 => ("RateGraph$Edge", "out", "I", false)
  | 5 => ("RateGraph$Edge", "delay", "I", false)
  | 6 => ("RateGraph$Edge", "start", "I", false)
  | 7 => ("RateGraph$Edge", "held", "I", false)
  | _ => ("RateGraph$Edge", "most", "I", false)
def t_E : Nat → FieldType := fun k => match k with
  | 0 => .array .int
  | 1 => .int
  | 2 => .int
  | 3 => .int
  | 4 => .int
  | 5 => .int
  | 6 => .int
  | 7 => .int
  | _ => .int
def R_G : String := "RateGraph"
def F_G : u_T := fun k => match k with
  | 0 => ("RateGraph", "actors", "[LRateGraph$Actor;", true)
  | 1 => ("RateGraph", "edges", "[LRateGraph$Edge;", true)
  | 2 => ("RateGraph", "order", "[I", true)
  | 3 => ("RateGraph", "cost", "[[I", true)
  | 4 => ("RateGraph", "firingOrder", "[I", true)
  | 5 => ("RateGraph", "edgeCount", "I", false)
  | 6 => ("RateGraph", "length", "I", false)
  | 7 => ("RateGraph", "firings", "I", false)
  | _ => ("RateGraph", "solved", "Z", false)
def t_G : Nat → FieldType := fun k => match k with
  | 0 => .array (.object "RateGraph$Actor")
  | 1 => .array (.object "RateGraph$Edge")
  | 2 => .array .int
  | 3 => .array (.array .int)
  | 4 => .array .int
  | 5 => .int
  | 6 => .int
  | 7 => .int
  | _ => .boolean
def R_M : String := "RateGraphModel"
def F_M : u_T := fun k => match k with
  | 0 => ("RateGraphModel", "there", "[Z", true)
  | 1 => ("RateGraphModel", "kind", "[I", true)
  | 2 => ("RateGraphModel", "parameter", "[I", true)
  | 3 => ("RateGraphModel", "from", "[I", true)
  | 4 => ("RateGraphModel", "to", "[I", true)
  | 5 => ("RateGraphModel", "in", "[I", true)
  | 6 => ("RateGraphModel", "out", "[I", true)
  | 7 => ("RateGraphModel", "delay", "[I", true)
  | 8 => ("RateGraphModel", "edges", "I", false)
  | 9 => ("RateGraphModel", "solved", "Z", false)
  | 10 => ("RateGraphModel", "top", "[J", true)
  | 11 => ("RateGraphModel", "low", "[J", true)
  | 12 => ("RateGraphModel", "part", "[I", true)
  | 13 => ("RateGraphModel", "times", "[I", true)
  | 14 => ("RateGraphModel", "fired", "[I", true)
  | 15 => ("RateGraphModel", "order", "[I", true)
  | 16 => ("RateGraphModel", "peaks", "[I", true)
  | 17 => ("RateGraphModel", "on", "[I", true)
  | 18 => ("RateGraphModel", "length", "I", false)
  | 19 => ("RateGraphModel", "firings", "I", false)
  | 20 => ("RateGraphModel", "token", "[I", true)
  | 21 => ("RateGraphModel", "now", "[I", true)
  | 22 => ("RateGraphModel", "latest", "[I", true)
  | 23 => ("RateGraphModel", "memory", "[I", true)
  | _ => ("RateGraphModel", "cost", "[I", true)
def t_M : Nat → FieldType := fun k => match k with
  | 0 => .array .boolean
  | 1 => .array .int
  | 2 => .array .int
  | 3 => .array .int
  | 4 => .array .int
  | 5 => .array .int
  | 6 => .array .int
  | 7 => .array .int
  | 8 => .int
  | 9 => .boolean
  | 10 => .array .long
  | 11 => .array .long
  | 12 => .array .int
  | 13 => .array .int
  | 14 => .array .int
  | 15 => .array .int
  | 16 => .array .int
  | 17 => .array .int
  | 18 => .int
  | 19 => .int
  | 20 => .array .int
  | 21 => .array .int
  | 22 => .array .int
  | 23 => .array .int
  | _ => .array .int
def R_L : String := "RateGraphLaw"
abbrev b_A_init : ByteArray := prog_2_method_1_code
def y_A_init : MethodName := ⟨R_A, "<init>", "()V"⟩
abbrev b_A_forgetRun : ByteArray := prog_2_method_2_code
def y_A_forgetRun : MethodName := ⟨R_A, "forgetRun", "()V"⟩
abbrev b_A_isDue : ByteArray := prog_2_method_3_code
def y_A_isDue : MethodName := ⟨R_A, "isDue", "()Z"⟩
abbrev b_A_answerTo : ByteArray := prog_2_method_4_code
def y_A_answerTo : MethodName := ⟨R_A, "answerTo", "(I)I"⟩
abbrev b_E_init : ByteArray := prog_3_method_1_code
def y_E_init : MethodName := ⟨R_E, "<init>", "()V"⟩
abbrev b_E_isLoop : ByteArray := prog_3_method_2_code
def y_E_isLoop : MethodName := ⟨R_E, "isLoop", "()Z"⟩
abbrev b_E_setAsAtFirst : ByteArray := prog_3_method_3_code
def y_E_setAsAtFirst : MethodName := ⟨R_E, "setAsAtFirst", "()V"⟩
abbrev b_E_at : ByteArray := prog_3_method_4_code
def y_E_at : MethodName := ⟨R_E, "at", "(I)I"⟩
abbrev b_E_takeWeighed : ByteArray := prog_3_method_5_code
def y_E_takeWeighed : MethodName := ⟨R_E, "takeWeighed", "()I"⟩
abbrev b_E_putFrom : ByteArray := prog_3_method_6_code
def y_E_putFrom : MethodName := ⟨R_E, "putFrom", "(I)V"⟩
abbrev b_G_init : ByteArray := prog_1_method_1_code
def y_G_init : MethodName := ⟨R_G, "<init>", "()V"⟩
abbrev b_G_actor : ByteArray := prog_1_method_2_code
def y_G_actor : MethodName := ⟨R_G, "actor", "(III)I"⟩
abbrev b_G_edge : ByteArray := prog_1_method_3_code
def y_G_edge : MethodName := ⟨R_G, "edge", "(IIIII)I"⟩
abbrev b_G_unedge : ByteArray := prog_1_method_4_code
def y_G_unedge : MethodName := ⟨R_G, "unedge", "(I)I"⟩
abbrev b_G_solve : ByteArray := prog_1_method_5_code
def y_G_solve : MethodName := ⟨R_G, "solve", "(I)I"⟩
abbrev b_G_run : ByteArray := prog_1_method_6_code
def y_G_run : MethodName := ⟨R_G, "run", "(I)I"⟩
abbrev b_G_repetitions : ByteArray := prog_1_method_7_code
def y_G_repetitions : MethodName := ⟨R_G, "repetitions", "(I)I"⟩
abbrev b_G_schedule : ByteArray := prog_1_method_8_code
def y_G_schedule : MethodName := ⟨R_G, "schedule", "(I)I"⟩
abbrev b_G_peak : ByteArray := prog_1_method_9_code
def y_G_peak : MethodName := ⟨R_G, "peak", "(I)I"⟩
abbrev b_G_nested : ByteArray := prog_1_method_10_code
def y_G_nested : MethodName := ⟨R_G, "nested", "()I"⟩
abbrev b_G_latest : ByteArray := prog_1_method_11_code
def y_G_latest : MethodName := ⟨R_G, "latest", "(I)J"⟩
abbrev b_G_token : ByteArray := prog_1_method_12_code
def y_G_token : MethodName := ⟨R_G, "token", "(II)J"⟩
abbrev b_G_tokens : ByteArray := prog_1_method_13_code
def y_G_tokens : MethodName := ⟨R_G, "tokens", "(I)I"⟩
abbrev b_G_count : ByteArray := prog_1_method_14_code
def y_G_count : MethodName := ⟨R_G, "count", "(I)I"⟩
abbrev b_G_isWithin : ByteArray := prog_1_method_15_code
def y_G_isWithin : MethodName := ⟨R_G, "isWithin", "(III)Z"⟩
abbrev b_G_isActor : ByteArray := prog_1_method_16_code
def y_G_isActor : MethodName := ⟨R_G, "isActor", "(I)Z"⟩
abbrev b_G_isEdge : ByteArray := prog_1_method_17_code
def y_G_isEdge : MethodName := ⟨R_G, "isEdge", "(I)Z"⟩
abbrev b_G_greatestDivisor : ByteArray := prog_1_method_18_code
def y_G_greatestDivisor : MethodName := ⟨R_G, "greatestDivisor", "(II)I"⟩
abbrev b_G_countActors : ByteArray := prog_1_method_19_code
def y_G_countActors : MethodName := ⟨R_G, "countActors", "()I"⟩
abbrev b_G_countParts : ByteArray := prog_1_method_20_code
def y_G_countParts : MethodName := ⟨R_G, "countParts", "()I"⟩
abbrev b_G_countRuns : ByteArray := prog_1_method_21_code
def y_G_countRuns : MethodName := ⟨R_G, "countRuns", "()I"⟩
abbrev b_G_sumOfPeaks : ByteArray := prog_1_method_22_code
def y_G_sumOfPeaks : MethodName := ⟨R_G, "sumOfPeaks", "()I"⟩
abbrev b_G_sumOfTokens : ByteArray := prog_1_method_23_code
def y_G_sumOfTokens : MethodName := ⟨R_G, "sumOfTokens", "()I"⟩
abbrev b_G_makePartsOfOne : ByteArray := prog_1_method_24_code
def y_G_makePartsOfOne : MethodName := ⟨R_G, "makePartsOfOne", "()V"⟩
abbrev b_G_joinParts : ByteArray := prog_1_method_25_code
def y_G_joinParts : MethodName := ⟨R_G, "joinParts", "(II)V"⟩
abbrev b_G_scalePart : ByteArray := prog_1_method_26_code
def y_G_scalePart : MethodName := ⟨R_G, "scalePart", "(II)V"⟩
abbrev b_G_findCulprit : ByteArray := prog_1_method_27_code
def y_G_findCulprit : MethodName := ⟨R_G, "findCulprit", "()I"⟩
abbrev b_G_balance : ByteArray := prog_1_method_28_code
def y_G_balance : MethodName := ⟨R_G, "balance", "(LRateGraph$Edge;)Z"⟩
abbrev b_G_keepRepetitions : ByteArray := prog_1_method_29_code
def y_G_keepRepetitions : MethodName := ⟨R_G, "keepRepetitions", "()I"⟩
abbrev b_G_makeSchedule : ByteArray := prog_1_method_30_code
def y_G_makeSchedule : MethodName := ⟨R_G, "makeSchedule", "(I)I"⟩
abbrev b_G_choose : ByteArray := prog_1_method_31_code
def y_G_choose : MethodName := ⟨R_G, "choose", "(II)I"⟩
abbrev b_G_chooseFrom : ByteArray := prog_1_method_32_code
def y_G_chooseFrom : MethodName := ⟨R_G, "chooseFrom", "(I)I"⟩
abbrev b_G_chooseFewestTokens : ByteArray := prog_1_method_33_code
def y_G_chooseFewestTokens : MethodName := ⟨R_G, "chooseFewestTokens", "()I"⟩
abbrev b_G_tokensWonBy : ByteArray := prog_1_method_34_code
def y_G_tokensWonBy : MethodName := ⟨R_G, "tokensWonBy", "(I)I"⟩
abbrev b_G_canFire : ByteArray := prog_1_method_35_code
def y_G_canFire : MethodName := ⟨R_G, "canFire", "(I)Z"⟩
abbrev b_G_isReady : ByteArray := prog_1_method_36_code
def y_G_isReady : MethodName := ⟨R_G, "isReady", "(I)Z"⟩
abbrev b_G_leastDue : ByteArray := prog_1_method_37_code
def y_G_leastDue : MethodName := ⟨R_G, "leastDue", "()I"⟩
abbrev b_G_fireCounting : ByteArray := prog_1_method_38_code
def y_G_fireCounting : MethodName := ⟨R_G, "fireCounting", "(I)V"⟩
abbrev b_G_setRunAsAtFirst : ByteArray := prog_1_method_39_code
def y_G_setRunAsAtFirst : MethodName := ⟨R_G, "setRunAsAtFirst", "()V"⟩
abbrev b_G_fire : ByteArray := prog_1_method_40_code
def y_G_fire : MethodName := ⟨R_G, "fire", "(I)V"⟩
abbrev b_G_canNest : ByteArray := prog_1_method_41_code
def y_G_canNest : MethodName := ⟨R_G, "canNest", "()Z"⟩
abbrev b_G_listActors : ByteArray := prog_1_method_42_code
def y_G_listActors : MethodName := ⟨R_G, "listActors", "()I"⟩
abbrev b_G_nestedRoom : ByteArray := prog_1_method_43_code
def y_G_nestedRoom : MethodName := ⟨R_G, "nestedRoom", "()I"⟩
abbrev b_G_costOfStretch : ByteArray := prog_1_method_44_code
def y_G_costOfStretch : MethodName := ⟨R_G, "costOfStretch", "(II)I"⟩
abbrev b_G_divisorOfStretch : ByteArray := prog_1_method_45_code
def y_G_divisorOfStretch : MethodName := ⟨R_G, "divisorOfStretch", "(II)I"⟩
abbrev b_G_tokensAcross : ByteArray := prog_1_method_46_code
def y_G_tokensAcross : MethodName := ⟨R_G, "tokensAcross", "(III)I"⟩
abbrev b_M_init : ByteArray := prog_5_method_1_code
def y_M_init : MethodName := ⟨R_M, "<init>", "()V"⟩
abbrev b_M_isActor : ByteArray := prog_5_method_2_code
def y_M_isActor : MethodName := ⟨R_M, "isActor", "(I)Z"⟩
abbrev b_M_actor : ByteArray := prog_5_method_3_code
def y_M_actor : MethodName := ⟨R_M, "actor", "(III)I"⟩
abbrev b_M_edge : ByteArray := prog_5_method_4_code
def y_M_edge : MethodName := ⟨R_M, "edge", "(IIIII)I"⟩
abbrev b_M_unedge : ByteArray := prog_5_method_5_code
def y_M_unedge : MethodName := ⟨R_M, "unedge", "(I)I"⟩
abbrev b_M_gcd : ByteArray := prog_5_method_6_code
def y_M_gcd : MethodName := ⟨R_M, "gcd", "(JJ)J"⟩
abbrev b_M_setFraction : ByteArray := prog_5_method_7_code
def y_M_setFraction : MethodName := ⟨R_M, "setFraction", "(IJJ)V"⟩
abbrev b_M_balance : ByteArray := prog_5_method_8_code
def y_M_balance : MethodName := ⟨R_M, "balance", "(I)Z"⟩
abbrev b_M_whole : ByteArray := prog_5_method_9_code
def y_M_whole : MethodName := ⟨R_M, "whole", "(II)Z"⟩
abbrev b_M_repeat : ByteArray := prog_5_method_10_code
def y_M_repeat : MethodName := ⟨R_M, "repeat", "()I"⟩
abbrev b_M_ready : ByteArray := prog_5_method_11_code
def y_M_ready : MethodName := ⟨R_M, "ready", "(I)Z"⟩
abbrev b_M_growth : ByteArray := prog_5_method_12_code
def y_M_growth : MethodName := ⟨R_M, "growth", "(I)I"⟩
abbrev b_M_pick : ByteArray := prog_5_method_13_code
def y_M_pick : MethodName := ⟨R_M, "pick", "(II)I"⟩
abbrev b_M_step : ByteArray := prog_5_method_14_code
def y_M_step : MethodName := ⟨R_M, "step", "(I)V"⟩
abbrev b_M_solve : ByteArray := prog_5_method_15_code
def y_M_solve : MethodName := ⟨R_M, "solve", "(I)I"⟩
abbrev b_M_takeFrom : ByteArray := prog_5_method_16_code
def y_M_takeFrom : MethodName := ⟨R_M, "takeFrom", "(I)I"⟩
abbrev b_M_fire : ByteArray := prog_5_method_17_code
def y_M_fire : MethodName := ⟨R_M, "fire", "(I)V"⟩
abbrev b_M_run : ByteArray := prog_5_method_18_code
def y_M_run : MethodName := ⟨R_M, "run", "(I)I"⟩
abbrev b_M_repetitions : ByteArray := prog_5_method_19_code
def y_M_repetitions : MethodName := ⟨R_M, "repetitions", "(I)I"⟩
abbrev b_M_schedule : ByteArray := prog_5_method_20_code
def y_M_schedule : MethodName := ⟨R_M, "schedule", "(I)I"⟩
abbrev b_M_peak : ByteArray := prog_5_method_21_code
def y_M_peak : MethodName := ⟨R_M, "peak", "(I)I"⟩
abbrev b_M_cut : ByteArray := prog_5_method_22_code
def y_M_cut : MethodName := ⟨R_M, "cut", "(III)I"⟩
abbrev b_M_nested : ByteArray := prog_5_method_23_code
def y_M_nested : MethodName := ⟨R_M, "nested", "()I"⟩
abbrev b_M_latest : ByteArray := prog_5_method_24_code
def y_M_latest : MethodName := ⟨R_M, "latest", "(I)J"⟩
abbrev b_M_token : ByteArray := prog_5_method_25_code
def y_M_token : MethodName := ⟨R_M, "token", "(II)J"⟩
abbrev b_M_tokens : ByteArray := prog_5_method_26_code
def y_M_tokens : MethodName := ⟨R_M, "tokens", "(I)I"⟩
abbrev b_M_count : ByteArray := prog_5_method_27_code
def y_M_count : MethodName := ⟨R_M, "count", "(I)I"⟩
abbrev vwCl : List vw_C := [(R_A, F_A, 10), (R_E, F_E, 9), (R_G, F_G, 9), (R_M, F_M, 25)]
def TT : List Cond := lw_tbl.filter goodWord
theorem TT_good : ax_good TT := fun w h => good_of_word (List.mem_filter.mp h).2
def NN : List Cond := lw_tbl.filter nw_b
theorem mem_NN {w : Cond} (i : Nat) (h : lw_tbl[i]? = some w) (hg : nw_b w = true) : w ∈ NN := List.mem_filter.mpr ⟨List.mem_of_getElem? h, hg⟩
theorem mem_TT {w : Cond} (i : Nat) (h : lw_tbl[i]? = some w) (hg : goodWord w = true) : w ∈ TT := List.mem_filter.mpr ⟨List.mem_of_getElem? h, hg⟩
theorem tok_A : ∀ k, k < 10 → parseFieldDescriptor (F_A k).2.2.1 = some (t_A k) := by decide +kernel
theorem nok_A : ∀ a, a < 10 → ∀ b, b < 10 → a ≠ b → (F_A a).2.1 ≠ (F_A b).2.1 := by decide +kernel
theorem tok_E : ∀ k, k < 9 → parseFieldDescriptor (F_E k).2.2.1 = some (t_E k) := by decide +kernel
theorem nok_E : ∀ a, a < 9 → ∀ b, b < 9 → a ≠ b → (F_E a).2.1 ≠ (F_E b).2.1 := by decide +kernel
theorem tok_G : ∀ k, k < 9 → parseFieldDescriptor (F_G k).2.2.1 = some (t_G k) := by decide +kernel
theorem nok_G : ∀ a, a < 9 → ∀ b, b < 9 → a ≠ b → (F_G a).2.1 ≠ (F_G b).2.1 := by decide +kernel
theorem tok_M : ∀ k, k < 25 → parseFieldDescriptor (F_M k).2.2.1 = some (t_M k) := by decide +kernel
theorem nok_M : ∀ a, a < 25 → ∀ b, b < 25 → a ≠ b → (F_M a).2.1 ≠ (F_M b).2.1 := by decide +kernel
theorem wd_0 : Cond.selects R_G y_G_isActor y_G_isActor ∈ TT := mem_TT 0 (by decide +kernel) (by decide +kernel)
theorem wd_1 : Cond.selects R_G y_G_isEdge y_G_isEdge ∈ TT := mem_TT 1 (by decide +kernel) (by decide +kernel)
theorem wd_2 : Cond.selects R_G y_G_countActors y_G_countActors ∈ TT := mem_TT 2 (by decide +kernel) (by decide +kernel)
theorem wd_3 : Cond.selects R_G y_G_findCulprit y_G_findCulprit ∈ TT := mem_TT 3 (by decide +kernel) (by decide +kernel)
theorem wd_4 : Cond.selects R_G y_G_makePartsOfOne y_G_makePartsOfOne ∈ TT := mem_TT 4 (by decide +kernel) (by decide +kernel)
theorem wd_5 : Cond.selects R_G y_G_balance y_G_balance ∈ TT := mem_TT 5 (by decide +kernel) (by decide +kernel)
theorem wd_6 : Cond.selects R_G y_G_scalePart y_G_scalePart ∈ TT := mem_TT 6 (by decide +kernel) (by decide +kernel)
theorem wd_7 : Cond.selects R_G y_G_joinParts y_G_joinParts ∈ TT := mem_TT 7 (by decide +kernel) (by decide +kernel)
theorem wd_8 : Cond.selects R_G y_G_keepRepetitions y_G_keepRepetitions ∈ TT := mem_TT 8 (by decide +kernel) (by decide +kernel)
theorem wd_9 : Cond.selects R_G y_G_makeSchedule y_G_makeSchedule ∈ TT := mem_TT 9 (by decide +kernel) (by decide +kernel)
theorem wd_10 : Cond.selects R_G y_G_choose y_G_choose ∈ TT := mem_TT 10 (by decide +kernel) (by decide +kernel)
theorem wd_11 : Cond.selects R_G y_G_chooseFewestTokens y_G_chooseFewestTokens ∈ TT := mem_TT 11 (by decide +kernel) (by decide +kernel)
theorem wd_12 : Cond.selects R_G y_G_canFire y_G_canFire ∈ TT := mem_TT 12 (by decide +kernel) (by decide +kernel)
theorem wd_13 : Cond.selects R_A y_A_isDue y_A_isDue ∈ TT := mem_TT 13 (by decide +kernel) (by decide +kernel)
theorem wd_14 : Cond.selects R_G y_G_isReady y_G_isReady ∈ TT := mem_TT 14 (by decide +kernel) (by decide +kernel)
theorem wd_15 : Cond.selects R_G y_G_tokensWonBy y_G_tokensWonBy ∈ TT := mem_TT 15 (by decide +kernel) (by decide +kernel)
theorem wd_16 : Cond.selects R_G y_G_chooseFrom y_G_chooseFrom ∈ TT := mem_TT 16 (by decide +kernel) (by decide +kernel)
theorem wd_17 : Cond.selects R_G y_G_leastDue y_G_leastDue ∈ TT := mem_TT 17 (by decide +kernel) (by decide +kernel)
theorem wd_18 : Cond.selects R_G y_G_fireCounting y_G_fireCounting ∈ TT := mem_TT 18 (by decide +kernel) (by decide +kernel)
theorem wd_19 : Cond.selects R_G y_G_setRunAsAtFirst y_G_setRunAsAtFirst ∈ TT := mem_TT 19 (by decide +kernel) (by decide +kernel)
theorem wd_20 : Cond.selects R_A y_A_forgetRun y_A_forgetRun ∈ TT := mem_TT 20 (by decide +kernel) (by decide +kernel)
theorem wd_21 : Cond.selects R_E y_E_setAsAtFirst y_E_setAsAtFirst ∈ TT := mem_TT 21 (by decide +kernel) (by decide +kernel)
theorem wd_22 : Cond.selects R_G y_G_fire y_G_fire ∈ TT := mem_TT 22 (by decide +kernel) (by decide +kernel)
theorem wd_23 : Cond.selects R_E y_E_takeWeighed y_E_takeWeighed ∈ TT := mem_TT 23 (by decide +kernel) (by decide +kernel)
theorem wd_24 : Cond.selects R_E y_E_at y_E_at ∈ TT := mem_TT 24 (by decide +kernel) (by decide +kernel)
theorem wd_25 : Cond.selects R_A y_A_answerTo y_A_answerTo ∈ TT := mem_TT 25 (by decide +kernel) (by decide +kernel)
theorem wd_26 : Cond.selects R_E y_E_putFrom y_E_putFrom ∈ TT := mem_TT 26 (by decide +kernel) (by decide +kernel)
theorem wd_27 : Cond.selects R_G y_G_canNest y_G_canNest ∈ TT := mem_TT 27 (by decide +kernel) (by decide +kernel)
theorem wd_28 : Cond.selects R_E y_E_isLoop y_E_isLoop ∈ TT := mem_TT 28 (by decide +kernel) (by decide +kernel)
theorem wd_29 : Cond.selects R_G y_G_nestedRoom y_G_nestedRoom ∈ TT := mem_TT 29 (by decide +kernel) (by decide +kernel)
theorem wd_30 : Cond.selects R_G y_G_listActors y_G_listActors ∈ TT := mem_TT 30 (by decide +kernel) (by decide +kernel)
theorem wd_31 : Cond.selects R_G y_G_costOfStretch y_G_costOfStretch ∈ TT := mem_TT 31 (by decide +kernel) (by decide +kernel)
theorem wd_32 : Cond.selects R_G y_G_divisorOfStretch y_G_divisorOfStretch ∈ TT := mem_TT 32 (by decide +kernel) (by decide +kernel)
theorem wd_33 : Cond.selects R_G y_G_tokensAcross y_G_tokensAcross ∈ TT := mem_TT 33 (by decide +kernel) (by decide +kernel)
theorem wd_34 : Cond.selects R_G y_G_countParts y_G_countParts ∈ TT := mem_TT 34 (by decide +kernel) (by decide +kernel)
theorem wd_35 : Cond.selects R_G y_G_countRuns y_G_countRuns ∈ TT := mem_TT 35 (by decide +kernel) (by decide +kernel)
theorem wd_36 : Cond.selects R_G y_G_sumOfPeaks y_G_sumOfPeaks ∈ TT := mem_TT 36 (by decide +kernel) (by decide +kernel)
theorem wd_37 : Cond.selects R_G y_G_sumOfTokens y_G_sumOfTokens ∈ TT := mem_TT 37 (by decide +kernel) (by decide +kernel)
theorem wd_38 : Cond.selects R_M y_M_isActor y_M_isActor ∈ TT := mem_TT 38 (by decide +kernel) (by decide +kernel)
theorem wd_39 : Cond.selects R_M y_M_balance y_M_balance ∈ TT := mem_TT 39 (by decide +kernel) (by decide +kernel)
theorem wd_40 : Cond.selects R_M y_M_setFraction y_M_setFraction ∈ TT := mem_TT 40 (by decide +kernel) (by decide +kernel)
theorem wd_41 : Cond.selects R_M y_M_repeat y_M_repeat ∈ TT := mem_TT 41 (by decide +kernel) (by decide +kernel)
theorem wd_42 : Cond.selects R_M y_M_whole y_M_whole ∈ TT := mem_TT 42 (by decide +kernel) (by decide +kernel)
theorem wd_43 : Cond.selects R_M y_M_pick y_M_pick ∈ TT := mem_TT 43 (by decide +kernel) (by decide +kernel)
theorem wd_44 : Cond.selects R_M y_M_ready y_M_ready ∈ TT := mem_TT 44 (by decide +kernel) (by decide +kernel)
theorem wd_45 : Cond.selects R_M y_M_growth y_M_growth ∈ TT := mem_TT 45 (by decide +kernel) (by decide +kernel)
theorem wd_46 : Cond.selects R_M y_M_step y_M_step ∈ TT := mem_TT 46 (by decide +kernel) (by decide +kernel)
theorem wd_47 : Cond.selects R_M y_M_fire y_M_fire ∈ TT := mem_TT 47 (by decide +kernel) (by decide +kernel)
theorem wd_48 : Cond.selects R_M y_M_takeFrom y_M_takeFrom ∈ TT := mem_TT 48 (by decide +kernel) (by decide +kernel)
theorem wd_49 : Cond.selects R_M y_M_cut y_M_cut ∈ TT := mem_TT 49 (by decide +kernel) (by decide +kernel)
theorem wd_51 : Cond.initialized y_G_isWithin.cls ∈ TT := mem_TT 51 (by decide +kernel) (by decide +kernel)
theorem wd_52 : Cond.initialized y_A_isDue.cls ∈ TT := mem_TT 52 (by decide +kernel) (by decide +kernel)
theorem wd_53 : Cond.initialized y_E_setAsAtFirst.cls ∈ TT := mem_TT 53 (by decide +kernel) (by decide +kernel)
theorem wd_54 : Cond.initialized R_M ∈ TT := mem_TT 54 (by decide +kernel) (by decide +kernel)
theorem wd_55 : Cond.initialized "java/lang/Math" ∈ TT := mem_TT 55 (by decide +kernel) (by decide +kernel)
theorem wd_75 : Cond.fieldLinkNest R_G 39 (F_A 0).1 (F_A 0).2.1 (F_A 0).2.2.1 "RateGraph" ∈ NN := mem_NN 75 (by decide +kernel) (by decide +kernel)
theorem wd_76 : Cond.fieldLink R_A 19 (F_A 0).1 (F_A 0).2.1 (F_A 0).2.2.1 ∈ TT := mem_TT 76 (by decide +kernel) (by decide +kernel)
theorem wd_77 : Cond.fieldLinkNest R_G 43 (F_A 1).1 (F_A 1).2.1 (F_A 1).2.2.1 "RateGraph" ∈ NN := mem_NN 77 (by decide +kernel) (by decide +kernel)
theorem wd_78 : Cond.fieldLink R_A 29 (F_A 1).1 (F_A 1).2.1 (F_A 1).2.2.1 ∈ TT := mem_TT 78 (by decide +kernel) (by decide +kernel)
theorem wd_79 : Cond.fieldLinkNest R_G 47 (F_A 2).1 (F_A 2).2.1 (F_A 2).2.2.1 "RateGraph" ∈ NN := mem_NN 79 (by decide +kernel) (by decide +kernel)
theorem wd_80 : Cond.fieldLink R_A 32 (F_A 2).1 (F_A 2).2.1 (F_A 2).2.2.1 ∈ TT := mem_TT 80 (by decide +kernel) (by decide +kernel)
theorem wd_81 : Cond.fieldLinkNest R_G 150 (F_A 3).1 (F_A 3).2.1 (F_A 3).2.2.1 "RateGraph" ∈ NN := mem_NN 81 (by decide +kernel) (by decide +kernel)
theorem wd_82 : Cond.fieldLinkNest R_G 157 (F_A 4).1 (F_A 4).2.1 (F_A 4).2.2.1 "RateGraph" ∈ NN := mem_NN 82 (by decide +kernel) (by decide +kernel)
theorem wd_83 : Cond.fieldLink R_A 26 (F_A 5).1 (F_A 5).2.1 (F_A 5).2.2.1 ∈ TT := mem_TT 83 (by decide +kernel) (by decide +kernel)
theorem wd_84 : Cond.fieldLinkNest R_G 105 (F_A 5).1 (F_A 5).2.1 (F_A 5).2.2.1 "RateGraph" ∈ NN := mem_NN 84 (by decide +kernel) (by decide +kernel)
theorem wd_85 : Cond.fieldLink R_A 23 (F_A 6).1 (F_A 6).2.1 (F_A 6).2.2.1 ∈ TT := mem_TT 85 (by decide +kernel) (by decide +kernel)
theorem wd_86 : Cond.fieldLinkNest R_G 170 (F_A 6).1 (F_A 6).2.1 (F_A 6).2.2.1 "RateGraph" ∈ NN := mem_NN 86 (by decide +kernel) (by decide +kernel)
theorem wd_87 : Cond.fieldLink R_A 7 (F_A 7).1 (F_A 7).2.1 (F_A 7).2.2.1 ∈ TT := mem_TT 87 (by decide +kernel) (by decide +kernel)
theorem wd_88 : Cond.fieldLink R_A 13 (F_A 8).1 (F_A 8).2.1 (F_A 8).2.2.1 ∈ TT := mem_TT 88 (by decide +kernel) (by decide +kernel)
theorem wd_89 : Cond.fieldLink R_A 16 (F_A 9).1 (F_A 9).2.1 (F_A 9).2.2.1 ∈ TT := mem_TT 89 (by decide +kernel) (by decide +kernel)
theorem wd_90 : Cond.fieldLinkNest R_G 118 (F_A 9).1 (F_A 9).2.1 (F_A 9).2.2.1 "RateGraph" ∈ NN := mem_NN 90 (by decide +kernel) (by decide +kernel)
theorem wd_91 : u_lay R_A F_A 0 ∈ TT := mem_TT 91 (by decide +kernel) (by decide +kernel)
theorem wd_93 : u_lay R_A F_A 1 ∈ TT := mem_TT 93 (by decide +kernel) (by decide +kernel)
theorem wd_95 : u_lay R_A F_A 2 ∈ TT := mem_TT 95 (by decide +kernel) (by decide +kernel)
theorem wd_97 : u_lay R_A F_A 3 ∈ TT := mem_TT 97 (by decide +kernel) (by decide +kernel)
theorem wd_99 : u_lay R_A F_A 4 ∈ TT := mem_TT 99 (by decide +kernel) (by decide +kernel)
theorem wd_101 : u_lay R_A F_A 5 ∈ TT := mem_TT 101 (by decide +kernel) (by decide +kernel)
theorem wd_103 : u_lay R_A F_A 6 ∈ TT := mem_TT 103 (by decide +kernel) (by decide +kernel)
theorem wd_105 : u_lay R_A F_A 7 ∈ TT := mem_TT 105 (by decide +kernel) (by decide +kernel)
theorem wd_107 : u_lay R_A F_A 8 ∈ TT := mem_TT 107 (by decide +kernel) (by decide +kernel)
theorem wd_109 : u_lay R_A F_A 9 ∈ TT := mem_TT 109 (by decide +kernel) (by decide +kernel)
theorem wd_118 : Cond.fieldLink R_E 9 (F_E 0).1 (F_E 0).2.1 (F_E 0).2.2.1 ∈ TT := mem_TT 118 (by decide +kernel) (by decide +kernel)
theorem wd_119 : Cond.fieldLink R_E 13 (F_E 1).1 (F_E 1).2.1 (F_E 1).2.2.1 ∈ TT := mem_TT 119 (by decide +kernel) (by decide +kernel)
theorem wd_120 : Cond.fieldLinkNest R_G 60 (F_E 1).1 (F_E 1).2.1 (F_E 1).2.2.1 "RateGraph" ∈ NN := mem_NN 120 (by decide +kernel) (by decide +kernel)
theorem wd_121 : Cond.fieldLink R_E 17 (F_E 2).1 (F_E 2).2.1 (F_E 2).2.2.1 ∈ TT := mem_TT 121 (by decide +kernel) (by decide +kernel)
theorem wd_122 : Cond.fieldLinkNest R_G 63 (F_E 2).1 (F_E 2).2.1 (F_E 2).2.2.1 "RateGraph" ∈ NN := mem_NN 122 (by decide +kernel) (by decide +kernel)
theorem wd_123 : Cond.fieldLinkNest R_G 66 (F_E 3).1 (F_E 3).2.1 (F_E 3).2.2.1 "RateGraph" ∈ NN := mem_NN 123 (by decide +kernel) (by decide +kernel)
theorem wd_124 : Cond.fieldLink R_E 36 (F_E 3).1 (F_E 3).2.1 (F_E 3).2.2.1 ∈ TT := mem_TT 124 (by decide +kernel) (by decide +kernel)
theorem wd_125 : Cond.fieldLinkNest R_G 69 (F_E 4).1 (F_E 4).2.1 (F_E 4).2.2.1 "RateGraph" ∈ NN := mem_NN 125 (by decide +kernel) (by decide +kernel)
theorem wd_126 : Cond.fieldLink R_E 29 (F_E 4).1 (F_E 4).2.1 (F_E 4).2.2.1 ∈ TT := mem_TT 126 (by decide +kernel) (by decide +kernel)
theorem wd_127 : Cond.fieldLink R_E 20 (F_E 5).1 (F_E 5).2.1 (F_E 5).2.2.1 ∈ TT := mem_TT 127 (by decide +kernel) (by decide +kernel)
theorem wd_128 : Cond.fieldLinkNest R_G 72 (F_E 5).1 (F_E 5).2.1 (F_E 5).2.2.1 "RateGraph" ∈ NN := mem_NN 128 (by decide +kernel) (by decide +kernel)
theorem wd_129 : Cond.fieldLink R_E 23 (F_E 6).1 (F_E 6).2.1 (F_E 6).2.2.1 ∈ TT := mem_TT 129 (by decide +kernel) (by decide +kernel)
theorem wd_130 : Cond.fieldLink R_E 26 (F_E 7).1 (F_E 7).2.1 (F_E 7).2.2.1 ∈ TT := mem_TT 130 (by decide +kernel) (by decide +kernel)
theorem wd_131 : Cond.fieldLinkNest R_G 123 (F_E 7).1 (F_E 7).2.1 (F_E 7).2.2.1 "RateGraph" ∈ NN := mem_NN 131 (by decide +kernel) (by decide +kernel)
theorem wd_132 : Cond.fieldLinkNest R_G 108 (F_E 8).1 (F_E 8).2.1 (F_E 8).2.2.1 "RateGraph" ∈ NN := mem_NN 132 (by decide +kernel) (by decide +kernel)
theorem wd_133 : u_lay R_E F_E 0 ∈ TT := mem_TT 133 (by decide +kernel) (by decide +kernel)
theorem wd_135 : u_lay R_E F_E 1 ∈ TT := mem_TT 135 (by decide +kernel) (by decide +kernel)
theorem wd_137 : u_lay R_E F_E 2 ∈ TT := mem_TT 137 (by decide +kernel) (by decide +kernel)
theorem wd_139 : u_lay R_E F_E 3 ∈ TT := mem_TT 139 (by decide +kernel) (by decide +kernel)
theorem wd_141 : u_lay R_E F_E 4 ∈ TT := mem_TT 141 (by decide +kernel) (by decide +kernel)
theorem wd_143 : u_lay R_E F_E 5 ∈ TT := mem_TT 143 (by decide +kernel) (by decide +kernel)
theorem wd_145 : u_lay R_E F_E 6 ∈ TT := mem_TT 145 (by decide +kernel) (by decide +kernel)
theorem wd_147 : u_lay R_E F_E 7 ∈ TT := mem_TT 147 (by decide +kernel) (by decide +kernel)
theorem wd_149 : u_lay R_E F_E 8 ∈ TT := mem_TT 149 (by decide +kernel) (by decide +kernel)
theorem wd_152 : Cond.fieldLink R_G 11 (F_G 0).1 (F_G 0).2.1 (F_G 0).2.2.1 ∈ TT := mem_TT 152 (by decide +kernel) (by decide +kernel)
theorem wd_153 : Cond.fieldLink R_G 17 (F_G 1).1 (F_G 1).2.1 (F_G 1).2.2.1 ∈ TT := mem_TT 153 (by decide +kernel) (by decide +kernel)
theorem wd_154 : Cond.fieldLink R_G 21 (F_G 2).1 (F_G 2).2.1 (F_G 2).2.2.1 ∈ TT := mem_TT 154 (by decide +kernel) (by decide +kernel)
theorem wd_155 : Cond.fieldLink R_G 27 (F_G 3).1 (F_G 3).2.1 (F_G 3).2.2.1 ∈ TT := mem_TT 155 (by decide +kernel) (by decide +kernel)
theorem wd_156 : Cond.fieldLink R_G 30 (F_G 4).1 (F_G 4).2.1 (F_G 4).2.2.1 ∈ TT := mem_TT 156 (by decide +kernel) (by decide +kernel)
theorem wd_157 : Cond.fieldLink R_G 57 (F_G 5).1 (F_G 5).2.1 (F_G 5).2.2.1 ∈ TT := mem_TT 157 (by decide +kernel) (by decide +kernel)
theorem wd_158 : Cond.fieldLink R_G 88 (F_G 6).1 (F_G 6).2.1 (F_G 6).2.2.1 ∈ TT := mem_TT 158 (by decide +kernel) (by decide +kernel)
theorem wd_159 : Cond.fieldLink R_G 102 (F_G 7).1 (F_G 7).2.1 (F_G 7).2.2.1 ∈ TT := mem_TT 159 (by decide +kernel) (by decide +kernel)
theorem wd_160 : Cond.fieldLink R_G 50 (F_G 8).1 (F_G 8).2.1 (F_G 8).2.2.1 ∈ TT := mem_TT 160 (by decide +kernel) (by decide +kernel)
theorem wd_161 : u_lay R_G F_G 0 ∈ TT := mem_TT 161 (by decide +kernel) (by decide +kernel)
theorem wd_163 : u_lay R_G F_G 1 ∈ TT := mem_TT 163 (by decide +kernel) (by decide +kernel)
theorem wd_165 : u_lay R_G F_G 2 ∈ TT := mem_TT 165 (by decide +kernel) (by decide +kernel)
theorem wd_167 : u_lay R_G F_G 3 ∈ TT := mem_TT 167 (by decide +kernel) (by decide +kernel)
theorem wd_169 : u_lay R_G F_G 4 ∈ TT := mem_TT 169 (by decide +kernel) (by decide +kernel)
theorem wd_171 : u_lay R_G F_G 5 ∈ TT := mem_TT 171 (by decide +kernel) (by decide +kernel)
theorem wd_173 : u_lay R_G F_G 6 ∈ TT := mem_TT 173 (by decide +kernel) (by decide +kernel)
theorem wd_175 : u_lay R_G F_G 7 ∈ TT := mem_TT 175 (by decide +kernel) (by decide +kernel)
theorem wd_177 : u_lay R_G F_G 8 ∈ TT := mem_TT 177 (by decide +kernel) (by decide +kernel)
theorem wd_184 : Cond.methodLink R_G 35 y_G_isWithin ∈ TT := mem_TT 184 (by decide +kernel) (by decide +kernel)
theorem wd_185 : Cond.static y_G_isWithin ∈ TT := mem_TT 185 (by decide +kernel) (by decide +kernel)
theorem wd_186 : Cond.code y_G_isWithin b_G_isWithin 3 (some .boolean) ∈ TT := mem_TT 186 (by decide +kernel) (by decide +kernel)
theorem wd_191 : Cond.methodLink R_G 53 y_G_isActor ∈ TT := mem_TT 191 (by decide +kernel) (by decide +kernel)
theorem wd_193 : Cond.instanceMethod y_G_isActor ∈ TT := mem_TT 193 (by decide +kernel) (by decide +kernel)
theorem wd_194 : Cond.code y_G_isActor b_G_isActor 2 (some .boolean) ∈ TT := mem_TT 194 (by decide +kernel) (by decide +kernel)
theorem wd_199 : Cond.methodLink R_G 75 y_G_isEdge ∈ TT := mem_TT 199 (by decide +kernel) (by decide +kernel)
theorem wd_201 : Cond.instanceMethod y_G_isEdge ∈ TT := mem_TT 201 (by decide +kernel) (by decide +kernel)
theorem wd_202 : Cond.code y_G_isEdge b_G_isEdge 2 (some .boolean) ∈ TT := mem_TT 202 (by decide +kernel) (by decide +kernel)
theorem wd_207 : Cond.methodLink R_G 78 y_G_countActors ∈ TT := mem_TT 207 (by decide +kernel) (by decide +kernel)
theorem wd_209 : Cond.instanceMethod y_G_countActors ∈ TT := mem_TT 209 (by decide +kernel) (by decide +kernel)
theorem wd_210 : Cond.code y_G_countActors b_G_countActors 3 (some .int) ∈ TT := mem_TT 210 (by decide +kernel) (by decide +kernel)
theorem wd_211 : Cond.methodLink R_G 82 y_G_findCulprit ∈ TT := mem_TT 211 (by decide +kernel) (by decide +kernel)
theorem wd_213 : Cond.instanceMethod y_G_findCulprit ∈ TT := mem_TT 213 (by decide +kernel) (by decide +kernel)
theorem wd_214 : Cond.code y_G_findCulprit b_G_findCulprit 2 (some .int) ∈ TT := mem_TT 214 (by decide +kernel) (by decide +kernel)
theorem wd_215 : Cond.methodLink R_G 147 y_G_makePartsOfOne ∈ TT := mem_TT 215 (by decide +kernel) (by decide +kernel)
theorem wd_217 : Cond.instanceMethod y_G_makePartsOfOne ∈ TT := mem_TT 217 (by decide +kernel) (by decide +kernel)
theorem wd_218 : Cond.code y_G_makePartsOfOne b_G_makePartsOfOne 2 none ∈ TT := mem_TT 218 (by decide +kernel) (by decide +kernel)
theorem wd_219 : Cond.methodLink R_G 160 y_G_balance ∈ TT := mem_TT 219 (by decide +kernel) (by decide +kernel)
theorem wd_221 : Cond.instanceMethod y_G_balance ∈ TT := mem_TT 221 (by decide +kernel) (by decide +kernel)
theorem wd_222 : Cond.code y_G_balance b_G_balance 7 (some .boolean) ∈ TT := mem_TT 222 (by decide +kernel) (by decide +kernel)
theorem wd_223 : Cond.methodLink R_G 164 y_G_greatestDivisor ∈ TT := mem_TT 223 (by decide +kernel) (by decide +kernel)
theorem wd_224 : Cond.static y_G_greatestDivisor ∈ TT := mem_TT 224 (by decide +kernel) (by decide +kernel)
theorem wd_225 : Cond.code y_G_greatestDivisor b_G_greatestDivisor 6 (some .int) ∈ TT := mem_TT 225 (by decide +kernel) (by decide +kernel)
theorem wd_226 : Cond.methodLink R_G 141 Lib.Math.max.name ∈ TT := mem_TT 226 (by decide +kernel) (by decide +kernel)
theorem wd_227 : Cond.static Lib.Math.max.name ∈ TT := mem_TT 227 (by decide +kernel) (by decide +kernel)
theorem wd_228 : Cond.code Lib.Math.max.name Lib.Math.max.code 2 (some .int) ∈ TT := mem_TT 228 (by decide +kernel) (by decide +kernel)
theorem wd_229 : Cond.methodLink R_G 167 y_G_scalePart ∈ TT := mem_TT 229 (by decide +kernel) (by decide +kernel)
theorem wd_231 : Cond.instanceMethod y_G_scalePart ∈ TT := mem_TT 231 (by decide +kernel) (by decide +kernel)
theorem wd_232 : Cond.code y_G_scalePart b_G_scalePart 4 none ∈ TT := mem_TT 232 (by decide +kernel) (by decide +kernel)
theorem wd_233 : Cond.methodLink R_G 153 y_G_joinParts ∈ TT := mem_TT 233 (by decide +kernel) (by decide +kernel)
theorem wd_235 : Cond.instanceMethod y_G_joinParts ∈ TT := mem_TT 235 (by decide +kernel) (by decide +kernel)
theorem wd_236 : Cond.code y_G_joinParts b_G_joinParts 4 none ∈ TT := mem_TT 236 (by decide +kernel) (by decide +kernel)
theorem wd_237 : Cond.methodLink R_G 85 y_G_keepRepetitions ∈ TT := mem_TT 237 (by decide +kernel) (by decide +kernel)
theorem wd_239 : Cond.instanceMethod y_G_keepRepetitions ∈ TT := mem_TT 239 (by decide +kernel) (by decide +kernel)
theorem wd_240 : Cond.code y_G_keepRepetitions b_G_keepRepetitions 4 (some .int) ∈ TT := mem_TT 240 (by decide +kernel) (by decide +kernel)
theorem wd_241 : Cond.methodLink R_G 91 y_G_makeSchedule ∈ TT := mem_TT 241 (by decide +kernel) (by decide +kernel)
theorem wd_243 : Cond.instanceMethod y_G_makeSchedule ∈ TT := mem_TT 243 (by decide +kernel) (by decide +kernel)
theorem wd_244 : Cond.code y_G_makeSchedule b_G_makeSchedule 5 (some .int) ∈ TT := mem_TT 244 (by decide +kernel) (by decide +kernel)
theorem wd_245 : Cond.methodLink R_G 173 y_G_choose ∈ TT := mem_TT 245 (by decide +kernel) (by decide +kernel)
theorem wd_247 : Cond.instanceMethod y_G_choose ∈ TT := mem_TT 247 (by decide +kernel) (by decide +kernel)
theorem wd_248 : Cond.code y_G_choose b_G_choose 3 (some .int) ∈ TT := mem_TT 248 (by decide +kernel) (by decide +kernel)
theorem wd_249 : Cond.methodLink R_G 182 y_G_chooseFewestTokens ∈ TT := mem_TT 249 (by decide +kernel) (by decide +kernel)
theorem wd_251 : Cond.instanceMethod y_G_chooseFewestTokens ∈ TT := mem_TT 251 (by decide +kernel) (by decide +kernel)
theorem wd_252 : Cond.code y_G_chooseFewestTokens b_G_chooseFewestTokens 5 (some .int) ∈ TT := mem_TT 252 (by decide +kernel) (by decide +kernel)
theorem wd_253 : Cond.methodLink R_G 188 y_G_canFire ∈ TT := mem_TT 253 (by decide +kernel) (by decide +kernel)
theorem wd_255 : Cond.instanceMethod y_G_canFire ∈ TT := mem_TT 255 (by decide +kernel) (by decide +kernel)
theorem wd_256 : Cond.code y_G_canFire b_G_canFire 2 (some .boolean) ∈ TT := mem_TT 256 (by decide +kernel) (by decide +kernel)
theorem wd_257 : Cond.methodLinkNest R_G 194 y_A_isDue "RateGraph" ∈ NN := mem_NN 257 (by decide +kernel) (by decide +kernel)
theorem wd_259 : Cond.instanceMethod y_A_isDue ∈ TT := mem_TT 259 (by decide +kernel) (by decide +kernel)
theorem wd_260 : Cond.code y_A_isDue b_A_isDue 1 (some .boolean) ∈ TT := mem_TT 260 (by decide +kernel) (by decide +kernel)
theorem wd_261 : Cond.methodLink R_G 197 y_G_isReady ∈ TT := mem_TT 261 (by decide +kernel) (by decide +kernel)
theorem wd_263 : Cond.instanceMethod y_G_isReady ∈ TT := mem_TT 263 (by decide +kernel) (by decide +kernel)
theorem wd_264 : Cond.code y_G_isReady b_G_isReady 4 (some .boolean) ∈ TT := mem_TT 264 (by decide +kernel) (by decide +kernel)
theorem wd_265 : Cond.methodLink R_G 191 y_G_tokensWonBy ∈ TT := mem_TT 265 (by decide +kernel) (by decide +kernel)
theorem wd_267 : Cond.instanceMethod y_G_tokensWonBy ∈ TT := mem_TT 267 (by decide +kernel) (by decide +kernel)
theorem wd_268 : Cond.code y_G_tokensWonBy b_G_tokensWonBy 5 (some .int) ∈ TT := mem_TT 268 (by decide +kernel) (by decide +kernel)
theorem wd_269 : Cond.methodLink R_G 185 y_G_chooseFrom ∈ TT := mem_TT 269 (by decide +kernel) (by decide +kernel)
theorem wd_271 : Cond.instanceMethod y_G_chooseFrom ∈ TT := mem_TT 271 (by decide +kernel) (by decide +kernel)
theorem wd_272 : Cond.code y_G_chooseFrom b_G_chooseFrom 4 (some .int) ∈ TT := mem_TT 272 (by decide +kernel) (by decide +kernel)
theorem wd_273 : Cond.methodLink R_G 176 y_G_leastDue ∈ TT := mem_TT 273 (by decide +kernel) (by decide +kernel)
theorem wd_275 : Cond.instanceMethod y_G_leastDue ∈ TT := mem_TT 275 (by decide +kernel) (by decide +kernel)
theorem wd_276 : Cond.code y_G_leastDue b_G_leastDue 2 (some .int) ∈ TT := mem_TT 276 (by decide +kernel) (by decide +kernel)
theorem wd_277 : Cond.methodLink R_G 179 y_G_fireCounting ∈ TT := mem_TT 277 (by decide +kernel) (by decide +kernel)
theorem wd_279 : Cond.instanceMethod y_G_fireCounting ∈ TT := mem_TT 279 (by decide +kernel) (by decide +kernel)
theorem wd_280 : Cond.code y_G_fireCounting b_G_fireCounting 4 none ∈ TT := mem_TT 280 (by decide +kernel) (by decide +kernel)
theorem wd_281 : Cond.methodLink R_G 95 y_G_setRunAsAtFirst ∈ TT := mem_TT 281 (by decide +kernel) (by decide +kernel)
theorem wd_283 : Cond.instanceMethod y_G_setRunAsAtFirst ∈ TT := mem_TT 283 (by decide +kernel) (by decide +kernel)
theorem wd_284 : Cond.code y_G_setRunAsAtFirst b_G_setRunAsAtFirst 2 none ∈ TT := mem_TT 284 (by decide +kernel) (by decide +kernel)
theorem wd_285 : Cond.methodLinkNest R_G 200 y_A_forgetRun "RateGraph" ∈ NN := mem_NN 285 (by decide +kernel) (by decide +kernel)
theorem wd_287 : Cond.instanceMethod y_A_forgetRun ∈ TT := mem_TT 287 (by decide +kernel) (by decide +kernel)
theorem wd_288 : Cond.code y_A_forgetRun b_A_forgetRun 1 none ∈ TT := mem_TT 288 (by decide +kernel) (by decide +kernel)
theorem wd_289 : Cond.methodLinkNest R_G 203 y_E_setAsAtFirst "RateGraph" ∈ NN := mem_NN 289 (by decide +kernel) (by decide +kernel)
theorem wd_291 : Cond.instanceMethod y_E_setAsAtFirst ∈ TT := mem_TT 291 (by decide +kernel) (by decide +kernel)
theorem wd_292 : Cond.code y_E_setAsAtFirst b_E_setAsAtFirst 2 none ∈ TT := mem_TT 292 (by decide +kernel) (by decide +kernel)
theorem wd_297 : Cond.methodLink R_G 98 y_G_fire ∈ TT := mem_TT 297 (by decide +kernel) (by decide +kernel)
theorem wd_299 : Cond.instanceMethod y_G_fire ∈ TT := mem_TT 299 (by decide +kernel) (by decide +kernel)
theorem wd_300 : Cond.code y_G_fire b_G_fire 5 none ∈ TT := mem_TT 300 (by decide +kernel) (by decide +kernel)
theorem wd_301 : Cond.methodLinkNest R_G 206 y_E_takeWeighed "RateGraph" ∈ NN := mem_NN 301 (by decide +kernel) (by decide +kernel)
theorem wd_303 : Cond.instanceMethod y_E_takeWeighed ∈ TT := mem_TT 303 (by decide +kernel) (by decide +kernel)
theorem wd_304 : Cond.code y_E_takeWeighed b_E_takeWeighed 3 (some .int) ∈ TT := mem_TT 304 (by decide +kernel) (by decide +kernel)
theorem wd_305 : Cond.methodLink R_E 32 y_E_at ∈ TT := mem_TT 305 (by decide +kernel) (by decide +kernel)
theorem wd_307 : Cond.instanceMethod y_E_at ∈ TT := mem_TT 307 (by decide +kernel) (by decide +kernel)
theorem wd_308 : Cond.code y_E_at b_E_at 2 (some .int) ∈ TT := mem_TT 308 (by decide +kernel) (by decide +kernel)
theorem wd_309 : Cond.methodLinkNest R_G 209 y_A_answerTo "RateGraph" ∈ NN := mem_NN 309 (by decide +kernel) (by decide +kernel)
theorem wd_311 : Cond.instanceMethod y_A_answerTo ∈ TT := mem_TT 311 (by decide +kernel) (by decide +kernel)
theorem wd_312 : Cond.code y_A_answerTo b_A_answerTo 3 (some .int) ∈ TT := mem_TT 312 (by decide +kernel) (by decide +kernel)
theorem wd_313 : Cond.methodLinkNest R_G 212 y_E_putFrom "RateGraph" ∈ NN := mem_NN 313 (by decide +kernel) (by decide +kernel)
theorem wd_315 : Cond.instanceMethod y_E_putFrom ∈ TT := mem_TT 315 (by decide +kernel) (by decide +kernel)
theorem wd_316 : Cond.code y_E_putFrom b_E_putFrom 3 none ∈ TT := mem_TT 316 (by decide +kernel) (by decide +kernel)
theorem wd_333 : Cond.methodLink R_G 111 y_G_canNest ∈ TT := mem_TT 333 (by decide +kernel) (by decide +kernel)
theorem wd_335 : Cond.instanceMethod y_G_canNest ∈ TT := mem_TT 335 (by decide +kernel) (by decide +kernel)
theorem wd_336 : Cond.code y_G_canNest b_G_canNest 4 (some .boolean) ∈ TT := mem_TT 336 (by decide +kernel) (by decide +kernel)
theorem wd_337 : Cond.methodLinkNest R_G 215 y_E_isLoop "RateGraph" ∈ NN := mem_NN 337 (by decide +kernel) (by decide +kernel)
theorem wd_339 : Cond.instanceMethod y_E_isLoop ∈ TT := mem_TT 339 (by decide +kernel) (by decide +kernel)
theorem wd_340 : Cond.code y_E_isLoop b_E_isLoop 1 (some .boolean) ∈ TT := mem_TT 340 (by decide +kernel) (by decide +kernel)
theorem wd_341 : Cond.methodLink R_G 115 y_G_nestedRoom ∈ TT := mem_TT 341 (by decide +kernel) (by decide +kernel)
theorem wd_343 : Cond.instanceMethod y_G_nestedRoom ∈ TT := mem_TT 343 (by decide +kernel) (by decide +kernel)
theorem wd_344 : Cond.code y_G_nestedRoom b_G_nestedRoom 4 (some .int) ∈ TT := mem_TT 344 (by decide +kernel) (by decide +kernel)
theorem wd_345 : Cond.methodLink R_G 218 y_G_listActors ∈ TT := mem_TT 345 (by decide +kernel) (by decide +kernel)
theorem wd_347 : Cond.instanceMethod y_G_listActors ∈ TT := mem_TT 347 (by decide +kernel) (by decide +kernel)
theorem wd_348 : Cond.code y_G_listActors b_G_listActors 3 (some .int) ∈ TT := mem_TT 348 (by decide +kernel) (by decide +kernel)
theorem wd_349 : Cond.methodLink R_G 221 y_G_costOfStretch ∈ TT := mem_TT 349 (by decide +kernel) (by decide +kernel)
theorem wd_351 : Cond.instanceMethod y_G_costOfStretch ∈ TT := mem_TT 351 (by decide +kernel) (by decide +kernel)
theorem wd_352 : Cond.code y_G_costOfStretch b_G_costOfStretch 7 (some .int) ∈ TT := mem_TT 352 (by decide +kernel) (by decide +kernel)
theorem wd_353 : Cond.methodLink R_G 224 y_G_divisorOfStretch ∈ TT := mem_TT 353 (by decide +kernel) (by decide +kernel)
theorem wd_355 : Cond.instanceMethod y_G_divisorOfStretch ∈ TT := mem_TT 355 (by decide +kernel) (by decide +kernel)
theorem wd_356 : Cond.code y_G_divisorOfStretch b_G_divisorOfStretch 5 (some .int) ∈ TT := mem_TT 356 (by decide +kernel) (by decide +kernel)
theorem wd_357 : Cond.constant R_G 229 (2147483647) ∈ TT := mem_TT 357 (by decide +kernel) (by decide +kernel)
theorem wd_358 : Cond.methodLink R_G 230 y_G_tokensAcross ∈ TT := mem_TT 358 (by decide +kernel) (by decide +kernel)
theorem wd_360 : Cond.instanceMethod y_G_tokensAcross ∈ TT := mem_TT 360 (by decide +kernel) (by decide +kernel)
theorem wd_361 : Cond.code y_G_tokensAcross b_G_tokensAcross 7 (some .int) ∈ TT := mem_TT 361 (by decide +kernel) (by decide +kernel)
theorem wd_362 : Cond.methodLink R_G 234 Lib.Math.min.name ∈ TT := mem_TT 362 (by decide +kernel) (by decide +kernel)
theorem wd_363 : Cond.static Lib.Math.min.name ∈ TT := mem_TT 363 (by decide +kernel) (by decide +kernel)
theorem wd_364 : Cond.code Lib.Math.min.name Lib.Math.min.code 2 (some .int) ∈ TT := mem_TT 364 (by decide +kernel) (by decide +kernel)
theorem wd_369 : Cond.constantLong R_G 121 (-1000000000000) ∈ TT := mem_TT 369 (by decide +kernel) (by decide +kernel)
theorem wd_374 : Cond.methodLinkNest R_G 126 y_E_at "RateGraph" ∈ NN := mem_NN 374 (by decide +kernel) (by decide +kernel)
theorem wd_383 : Cond.methodLink R_G 129 y_G_countParts ∈ TT := mem_TT 383 (by decide +kernel) (by decide +kernel)
theorem wd_385 : Cond.instanceMethod y_G_countParts ∈ TT := mem_TT 385 (by decide +kernel) (by decide +kernel)
theorem wd_386 : Cond.code y_G_countParts b_G_countParts 5 (some .int) ∈ TT := mem_TT 386 (by decide +kernel) (by decide +kernel)
theorem wd_387 : Cond.methodLink R_G 132 y_G_countRuns ∈ TT := mem_TT 387 (by decide +kernel) (by decide +kernel)
theorem wd_389 : Cond.instanceMethod y_G_countRuns ∈ TT := mem_TT 389 (by decide +kernel) (by decide +kernel)
theorem wd_390 : Cond.code y_G_countRuns b_G_countRuns 3 (some .int) ∈ TT := mem_TT 390 (by decide +kernel) (by decide +kernel)
theorem wd_391 : Cond.methodLink R_G 135 y_G_sumOfPeaks ∈ TT := mem_TT 391 (by decide +kernel) (by decide +kernel)
theorem wd_393 : Cond.instanceMethod y_G_sumOfPeaks ∈ TT := mem_TT 393 (by decide +kernel) (by decide +kernel)
theorem wd_394 : Cond.code y_G_sumOfPeaks b_G_sumOfPeaks 3 (some .int) ∈ TT := mem_TT 394 (by decide +kernel) (by decide +kernel)
theorem wd_395 : Cond.methodLink R_G 138 y_G_sumOfTokens ∈ TT := mem_TT 395 (by decide +kernel) (by decide +kernel)
theorem wd_397 : Cond.instanceMethod y_G_sumOfTokens ∈ TT := mem_TT 397 (by decide +kernel) (by decide +kernel)
theorem wd_398 : Cond.code y_G_sumOfTokens b_G_sumOfTokens 3 (some .int) ∈ TT := mem_TT 398 (by decide +kernel) (by decide +kernel)
theorem wd_405 : Cond.fieldLink R_M 7 (F_M 0).1 (F_M 0).2.1 (F_M 0).2.2.1 ∈ TT := mem_TT 405 (by decide +kernel) (by decide +kernel)
theorem wd_406 : Cond.fieldLink R_M 13 (F_M 1).1 (F_M 1).2.1 (F_M 1).2.2.1 ∈ TT := mem_TT 406 (by decide +kernel) (by decide +kernel)
theorem wd_407 : Cond.fieldLink R_M 17 (F_M 2).1 (F_M 2).2.1 (F_M 2).2.2.1 ∈ TT := mem_TT 407 (by decide +kernel) (by decide +kernel)
theorem wd_408 : Cond.fieldLink R_M 20 (F_M 3).1 (F_M 3).2.1 (F_M 3).2.2.1 ∈ TT := mem_TT 408 (by decide +kernel) (by decide +kernel)
theorem wd_409 : Cond.fieldLink R_M 23 (F_M 4).1 (F_M 4).2.1 (F_M 4).2.2.1 ∈ TT := mem_TT 409 (by decide +kernel) (by decide +kernel)
theorem wd_410 : Cond.fieldLink R_M 26 (F_M 5).1 (F_M 5).2.1 (F_M 5).2.2.1 ∈ TT := mem_TT 410 (by decide +kernel) (by decide +kernel)
theorem wd_411 : Cond.fieldLink R_M 29 (F_M 6).1 (F_M 6).2.1 (F_M 6).2.2.1 ∈ TT := mem_TT 411 (by decide +kernel) (by decide +kernel)
theorem wd_412 : Cond.fieldLink R_M 32 (F_M 7).1 (F_M 7).2.1 (F_M 7).2.2.1 ∈ TT := mem_TT 412 (by decide +kernel) (by decide +kernel)
theorem wd_413 : Cond.fieldLink R_M 83 (F_M 8).1 (F_M 8).2.1 (F_M 8).2.2.1 ∈ TT := mem_TT 413 (by decide +kernel) (by decide +kernel)
theorem wd_414 : Cond.fieldLink R_M 75 (F_M 9).1 (F_M 9).2.1 (F_M 9).2.2.1 ∈ TT := mem_TT 414 (by decide +kernel) (by decide +kernel)
theorem wd_415 : Cond.fieldLink R_M 35 (F_M 10).1 (F_M 10).2.1 (F_M 10).2.2.1 ∈ TT := mem_TT 415 (by decide +kernel) (by decide +kernel)
theorem wd_416 : Cond.fieldLink R_M 39 (F_M 11).1 (F_M 11).2.1 (F_M 11).2.2.1 ∈ TT := mem_TT 416 (by decide +kernel) (by decide +kernel)
theorem wd_417 : Cond.fieldLink R_M 42 (F_M 12).1 (F_M 12).2.1 (F_M 12).2.2.1 ∈ TT := mem_TT 417 (by decide +kernel) (by decide +kernel)
theorem wd_418 : Cond.fieldLink R_M 45 (F_M 13).1 (F_M 13).2.1 (F_M 13).2.2.1 ∈ TT := mem_TT 418 (by decide +kernel) (by decide +kernel)
theorem wd_419 : Cond.fieldLink R_M 48 (F_M 14).1 (F_M 14).2.1 (F_M 14).2.2.1 ∈ TT := mem_TT 419 (by decide +kernel) (by decide +kernel)
theorem wd_420 : Cond.fieldLink R_M 51 (F_M 15).1 (F_M 15).2.1 (F_M 15).2.2.1 ∈ TT := mem_TT 420 (by decide +kernel) (by decide +kernel)
theorem wd_421 : Cond.fieldLink R_M 54 (F_M 16).1 (F_M 16).2.1 (F_M 16).2.2.1 ∈ TT := mem_TT 421 (by decide +kernel) (by decide +kernel)
theorem wd_422 : Cond.fieldLink R_M 57 (F_M 17).1 (F_M 17).2.1 (F_M 17).2.2.1 ∈ TT := mem_TT 422 (by decide +kernel) (by decide +kernel)
theorem wd_423 : Cond.fieldLink R_M 108 (F_M 18).1 (F_M 18).2.1 (F_M 18).2.2.1 ∈ TT := mem_TT 423 (by decide +kernel) (by decide +kernel)
theorem wd_424 : Cond.fieldLink R_M 118 (F_M 19).1 (F_M 19).2.1 (F_M 19).2.2.1 ∈ TT := mem_TT 424 (by decide +kernel) (by decide +kernel)
theorem wd_425 : Cond.fieldLink R_M 60 (F_M 20).1 (F_M 20).2.1 (F_M 20).2.2.1 ∈ TT := mem_TT 425 (by decide +kernel) (by decide +kernel)
theorem wd_426 : Cond.fieldLink R_M 63 (F_M 21).1 (F_M 21).2.1 (F_M 21).2.2.1 ∈ TT := mem_TT 426 (by decide +kernel) (by decide +kernel)
theorem wd_427 : Cond.fieldLink R_M 66 (F_M 22).1 (F_M 22).2.1 (F_M 22).2.2.1 ∈ TT := mem_TT 427 (by decide +kernel) (by decide +kernel)
theorem wd_428 : Cond.fieldLink R_M 69 (F_M 23).1 (F_M 23).2.1 (F_M 23).2.2.1 ∈ TT := mem_TT 428 (by decide +kernel) (by decide +kernel)
theorem wd_429 : Cond.fieldLink R_M 72 (F_M 24).1 (F_M 24).2.1 (F_M 24).2.2.1 ∈ TT := mem_TT 429 (by decide +kernel) (by decide +kernel)
theorem wd_430 : u_lay R_M F_M 0 ∈ TT := mem_TT 430 (by decide +kernel) (by decide +kernel)
theorem wd_432 : u_lay R_M F_M 1 ∈ TT := mem_TT 432 (by decide +kernel) (by decide +kernel)
theorem wd_434 : u_lay R_M F_M 2 ∈ TT := mem_TT 434 (by decide +kernel) (by decide +kernel)
theorem wd_436 : u_lay R_M F_M 3 ∈ TT := mem_TT 436 (by decide +kernel) (by decide +kernel)
theorem wd_438 : u_lay R_M F_M 4 ∈ TT := mem_TT 438 (by decide +kernel) (by decide +kernel)
theorem wd_440 : u_lay R_M F_M 5 ∈ TT := mem_TT 440 (by decide +kernel) (by decide +kernel)
theorem wd_442 : u_lay R_M F_M 6 ∈ TT := mem_TT 442 (by decide +kernel) (by decide +kernel)
theorem wd_444 : u_lay R_M F_M 7 ∈ TT := mem_TT 444 (by decide +kernel) (by decide +kernel)
theorem wd_446 : u_lay R_M F_M 8 ∈ TT := mem_TT 446 (by decide +kernel) (by decide +kernel)
theorem wd_448 : u_lay R_M F_M 9 ∈ TT := mem_TT 448 (by decide +kernel) (by decide +kernel)
theorem wd_450 : u_lay R_M F_M 10 ∈ TT := mem_TT 450 (by decide +kernel) (by decide +kernel)
theorem wd_452 : u_lay R_M F_M 11 ∈ TT := mem_TT 452 (by decide +kernel) (by decide +kernel)
theorem wd_454 : u_lay R_M F_M 12 ∈ TT := mem_TT 454 (by decide +kernel) (by decide +kernel)
theorem wd_456 : u_lay R_M F_M 13 ∈ TT := mem_TT 456 (by decide +kernel) (by decide +kernel)
theorem wd_458 : u_lay R_M F_M 14 ∈ TT := mem_TT 458 (by decide +kernel) (by decide +kernel)
theorem wd_460 : u_lay R_M F_M 15 ∈ TT := mem_TT 460 (by decide +kernel) (by decide +kernel)
theorem wd_462 : u_lay R_M F_M 16 ∈ TT := mem_TT 462 (by decide +kernel) (by decide +kernel)
theorem wd_464 : u_lay R_M F_M 17 ∈ TT := mem_TT 464 (by decide +kernel) (by decide +kernel)
theorem wd_466 : u_lay R_M F_M 18 ∈ TT := mem_TT 466 (by decide +kernel) (by decide +kernel)
theorem wd_468 : u_lay R_M F_M 19 ∈ TT := mem_TT 468 (by decide +kernel) (by decide +kernel)
theorem wd_470 : u_lay R_M F_M 20 ∈ TT := mem_TT 470 (by decide +kernel) (by decide +kernel)
theorem wd_472 : u_lay R_M F_M 21 ∈ TT := mem_TT 472 (by decide +kernel) (by decide +kernel)
theorem wd_474 : u_lay R_M F_M 22 ∈ TT := mem_TT 474 (by decide +kernel) (by decide +kernel)
theorem wd_476 : u_lay R_M F_M 23 ∈ TT := mem_TT 476 (by decide +kernel) (by decide +kernel)
theorem wd_478 : u_lay R_M F_M 24 ∈ TT := mem_TT 478 (by decide +kernel) (by decide +kernel)
theorem wd_491 : Cond.methodLink R_M 79 y_M_isActor ∈ TT := mem_TT 491 (by decide +kernel) (by decide +kernel)
theorem wd_493 : Cond.instanceMethod y_M_isActor ∈ TT := mem_TT 493 (by decide +kernel) (by decide +kernel)
theorem wd_494 : Cond.code y_M_isActor b_M_isActor 2 (some .boolean) ∈ TT := mem_TT 494 (by decide +kernel) (by decide +kernel)
theorem wd_503 : Cond.methodLink R_M 111 y_M_balance ∈ TT := mem_TT 503 (by decide +kernel) (by decide +kernel)
theorem wd_505 : Cond.instanceMethod y_M_balance ∈ TT := mem_TT 505 (by decide +kernel) (by decide +kernel)
theorem wd_506 : Cond.code y_M_balance b_M_balance 7 (some .boolean) ∈ TT := mem_TT 506 (by decide +kernel) (by decide +kernel)
theorem wd_507 : Cond.methodLink R_M 91 y_M_setFraction ∈ TT := mem_TT 507 (by decide +kernel) (by decide +kernel)
theorem wd_509 : Cond.instanceMethod y_M_setFraction ∈ TT := mem_TT 509 (by decide +kernel) (by decide +kernel)
theorem wd_510 : Cond.code y_M_setFraction b_M_setFraction 8 none ∈ TT := mem_TT 510 (by decide +kernel) (by decide +kernel)
theorem wd_511 : Cond.methodLink R_M 87 y_M_gcd ∈ TT := mem_TT 511 (by decide +kernel) (by decide +kernel)
theorem wd_512 : Cond.static y_M_gcd ∈ TT := mem_TT 512 (by decide +kernel) (by decide +kernel)
theorem wd_513 : Cond.code y_M_gcd b_M_gcd 10 (some .long) ∈ TT := mem_TT 513 (by decide +kernel) (by decide +kernel)
theorem wd_514 : Cond.methodLink R_M 114 y_M_repeat ∈ TT := mem_TT 514 (by decide +kernel) (by decide +kernel)
theorem wd_516 : Cond.instanceMethod y_M_repeat ∈ TT := mem_TT 516 (by decide +kernel) (by decide +kernel)
theorem wd_517 : Cond.code y_M_repeat b_M_repeat 4 (some .int) ∈ TT := mem_TT 517 (by decide +kernel) (by decide +kernel)
theorem wd_518 : Cond.methodLink R_M 97 y_M_whole ∈ TT := mem_TT 518 (by decide +kernel) (by decide +kernel)
theorem wd_520 : Cond.instanceMethod y_M_whole ∈ TT := mem_TT 520 (by decide +kernel) (by decide +kernel)
theorem wd_521 : Cond.code y_M_whole b_M_whole 6 (some .boolean) ∈ TT := mem_TT 521 (by decide +kernel) (by decide +kernel)
theorem wd_522 : Cond.constantLong R_M 95 (1000) ∈ TT := mem_TT 522 (by decide +kernel) (by decide +kernel)
theorem wd_523 : Cond.methodLink R_M 121 y_M_pick ∈ TT := mem_TT 523 (by decide +kernel) (by decide +kernel)
theorem wd_525 : Cond.instanceMethod y_M_pick ∈ TT := mem_TT 525 (by decide +kernel) (by decide +kernel)
theorem wd_526 : Cond.code y_M_pick b_M_pick 6 (some .int) ∈ TT := mem_TT 526 (by decide +kernel) (by decide +kernel)
theorem wd_527 : Cond.methodLink R_M 101 y_M_ready ∈ TT := mem_TT 527 (by decide +kernel) (by decide +kernel)
theorem wd_529 : Cond.instanceMethod y_M_ready ∈ TT := mem_TT 529 (by decide +kernel) (by decide +kernel)
theorem wd_530 : Cond.code y_M_ready b_M_ready 3 (some .boolean) ∈ TT := mem_TT 530 (by decide +kernel) (by decide +kernel)
theorem wd_531 : Cond.methodLink R_M 104 y_M_growth ∈ TT := mem_TT 531 (by decide +kernel) (by decide +kernel)
theorem wd_533 : Cond.instanceMethod y_M_growth ∈ TT := mem_TT 533 (by decide +kernel) (by decide +kernel)
theorem wd_534 : Cond.code y_M_growth b_M_growth 4 (some .int) ∈ TT := mem_TT 534 (by decide +kernel) (by decide +kernel)
theorem wd_535 : Cond.methodLink R_M 125 y_M_step ∈ TT := mem_TT 535 (by decide +kernel) (by decide +kernel)
theorem wd_537 : Cond.instanceMethod y_M_step ∈ TT := mem_TT 537 (by decide +kernel) (by decide +kernel)
theorem wd_538 : Cond.code y_M_step b_M_step 3 none ∈ TT := mem_TT 538 (by decide +kernel) (by decide +kernel)
theorem wd_543 : Cond.methodLink R_M 132 y_M_fire ∈ TT := mem_TT 543 (by decide +kernel) (by decide +kernel)
theorem wd_545 : Cond.instanceMethod y_M_fire ∈ TT := mem_TT 545 (by decide +kernel) (by decide +kernel)
theorem wd_546 : Cond.code y_M_fire b_M_fire 6 none ∈ TT := mem_TT 546 (by decide +kernel) (by decide +kernel)
theorem wd_547 : Cond.methodLink R_M 129 y_M_takeFrom ∈ TT := mem_TT 547 (by decide +kernel) (by decide +kernel)
theorem wd_549 : Cond.instanceMethod y_M_takeFrom ∈ TT := mem_TT 549 (by decide +kernel) (by decide +kernel)
theorem wd_550 : Cond.code y_M_takeFrom b_M_takeFrom 4 (some .int) ∈ TT := mem_TT 550 (by decide +kernel) (by decide +kernel)
theorem wd_567 : Cond.methodLink R_M 135 y_M_cut ∈ TT := mem_TT 567 (by decide +kernel) (by decide +kernel)
theorem wd_569 : Cond.instanceMethod y_M_cut ∈ TT := mem_TT 569 (by decide +kernel) (by decide +kernel)
theorem wd_570 : Cond.code y_M_cut b_M_cut 8 (some .int) ∈ TT := mem_TT 570 (by decide +kernel) (by decide +kernel)
theorem wd_575 : Cond.constantLong R_M 139 (-1000000000000) ∈ TT := mem_TT 575 (by decide +kernel) (by decide +kernel)
theorem lm_G_35 : ∀ w ∈ ([Cond.methodLink R_G 35 y_G_isWithin, Cond.static y_G_isWithin, Cond.initialized y_G_isWithin.cls, Cond.code y_G_isWithin b_G_isWithin 3 (some .boolean)] : List Cond), w ∈ TT := List.forall_mem_cons.mpr ⟨wd_184, List.forall_mem_cons.mpr ⟨wd_185, List.forall_mem_cons.mpr ⟨wd_51, List.forall_mem_cons.mpr ⟨wd_186, List.forall_mem_nil _⟩⟩⟩⟩
theorem lm_G_53 : ∀ w ∈ ([Cond.methodLink R_G 53 y_G_isActor, Cond.instanceMethod y_G_isActor, Cond.selects R_G y_G_isActor y_G_isActor, Cond.initialized R_G, Cond.code y_G_isActor b_G_isActor 2 (some .boolean)] : List Cond), w ∈ TT := List.forall_mem_cons.mpr ⟨wd_191, List.forall_mem_cons.mpr ⟨wd_193, List.forall_mem_cons.mpr ⟨wd_0, List.forall_mem_cons.mpr ⟨wd_51, List.forall_mem_cons.mpr ⟨wd_194, List.forall_mem_nil _⟩⟩⟩⟩⟩
theorem lm_G_75 : ∀ w ∈ ([Cond.methodLink R_G 75 y_G_isEdge, Cond.instanceMethod y_G_isEdge, Cond.selects R_G y_G_isEdge y_G_isEdge, Cond.initialized R_G, Cond.code y_G_isEdge b_G_isEdge 2 (some .boolean)] : List Cond), w ∈ TT := List.forall_mem_cons.mpr ⟨wd_199, List.forall_mem_cons.mpr ⟨wd_201, List.forall_mem_cons.mpr ⟨wd_1, List.forall_mem_cons.mpr ⟨wd_51, List.forall_mem_cons.mpr ⟨wd_202, List.forall_mem_nil _⟩⟩⟩⟩⟩
theorem lm_G_141 : ∀ w ∈ ([Cond.methodLink R_G 141 Lib.Math.max.name, Cond.static Lib.Math.max.name, Cond.initialized "java/lang/Math", Cond.code Lib.Math.max.name Lib.Math.max.code 2 (some .int)] : List Cond), w ∈ TT := List.forall_mem_cons.mpr ⟨wd_226, List.forall_mem_cons.mpr ⟨wd_227, List.forall_mem_cons.mpr ⟨wd_55, List.forall_mem_cons.mpr ⟨wd_228, List.forall_mem_nil _⟩⟩⟩⟩
theorem lm_G_164 : ∀ w ∈ ([Cond.methodLink R_G 164 y_G_greatestDivisor, Cond.static y_G_greatestDivisor, Cond.initialized y_G_greatestDivisor.cls, Cond.code y_G_greatestDivisor b_G_greatestDivisor 6 (some .int)] : List Cond), w ∈ TT := List.forall_mem_cons.mpr ⟨wd_223, List.forall_mem_cons.mpr ⟨wd_224, List.forall_mem_cons.mpr ⟨wd_51, List.forall_mem_cons.mpr ⟨wd_225, List.forall_mem_nil _⟩⟩⟩⟩
theorem lm_G_167 : ∀ w ∈ ([Cond.methodLink R_G 167 y_G_scalePart, Cond.instanceMethod y_G_scalePart, Cond.selects R_G y_G_scalePart y_G_scalePart, Cond.initialized R_G, Cond.code y_G_scalePart b_G_scalePart 4 none] : List Cond), w ∈ TT := List.forall_mem_cons.mpr ⟨wd_229, List.forall_mem_cons.mpr ⟨wd_231, List.forall_mem_cons.mpr ⟨wd_6, List.forall_mem_cons.mpr ⟨wd_51, List.forall_mem_cons.mpr ⟨wd_232, List.forall_mem_nil _⟩⟩⟩⟩⟩
theorem lm_G_153 : ∀ w ∈ ([Cond.methodLink R_G 153 y_G_joinParts, Cond.instanceMethod y_G_joinParts, Cond.selects R_G y_G_joinParts y_G_joinParts, Cond.initialized R_G, Cond.code y_G_joinParts b_G_joinParts 4 none] : List Cond), w ∈ TT := List.forall_mem_cons.mpr ⟨wd_233, List.forall_mem_cons.mpr ⟨wd_235, List.forall_mem_cons.mpr ⟨wd_7, List.forall_mem_cons.mpr ⟨wd_51, List.forall_mem_cons.mpr ⟨wd_236, List.forall_mem_nil _⟩⟩⟩⟩⟩
theorem lm_G_147 : ∀ w ∈ ([Cond.methodLink R_G 147 y_G_makePartsOfOne, Cond.instanceMethod y_G_makePartsOfOne, Cond.selects R_G y_G_makePartsOfOne y_G_makePartsOfOne, Cond.initialized R_G, Cond.code y_G_makePartsOfOne b_G_makePartsOfOne 2 none] : List Cond), w ∈ TT := List.forall_mem_cons.mpr ⟨wd_215, List.forall_mem_cons.mpr ⟨wd_217, List.forall_mem_cons.mpr ⟨wd_4, List.forall_mem_cons.mpr ⟨wd_51, List.forall_mem_cons.mpr ⟨wd_218, List.forall_mem_nil _⟩⟩⟩⟩⟩
theorem lm_G_160 : ∀ w ∈ ([Cond.methodLink R_G 160 y_G_balance, Cond.instanceMethod y_G_balance, Cond.selects R_G y_G_balance y_G_balance, Cond.initialized R_G, Cond.code y_G_balance b_G_balance 7 (some .boolean)] : List Cond), w ∈ TT := List.forall_mem_cons.mpr ⟨wd_219, List.forall_mem_cons.mpr ⟨wd_221, List.forall_mem_cons.mpr ⟨wd_5, List.forall_mem_cons.mpr ⟨wd_51, List.forall_mem_cons.mpr ⟨wd_222, List.forall_mem_nil _⟩⟩⟩⟩⟩
theorem lm_G_194 : ∀ w ∈ ([Cond.instanceMethod y_A_isDue, Cond.selects R_A y_A_isDue y_A_isDue, Cond.initialized y_A_isDue.cls, Cond.code y_A_isDue b_A_isDue 1 (some .boolean)] : List Cond), w ∈ TT := List.forall_mem_cons.mpr ⟨wd_259, List.forall_mem_cons.mpr ⟨wd_13, List.forall_mem_cons.mpr ⟨wd_52, List.forall_mem_cons.mpr ⟨wd_260, List.forall_mem_nil _⟩⟩⟩⟩
theorem lm_G_197 : ∀ w ∈ ([Cond.methodLink R_G 197 y_G_isReady, Cond.instanceMethod y_G_isReady, Cond.selects R_G y_G_isReady y_G_isReady, Cond.initialized R_G, Cond.code y_G_isReady b_G_isReady 4 (some .boolean)] : List Cond), w ∈ TT := List.forall_mem_cons.mpr ⟨wd_261, List.forall_mem_cons.mpr ⟨wd_263, List.forall_mem_cons.mpr ⟨wd_14, List.forall_mem_cons.mpr ⟨wd_51, List.forall_mem_cons.mpr ⟨wd_264, List.forall_mem_nil _⟩⟩⟩⟩⟩
theorem lm_G_188 : ∀ w ∈ ([Cond.methodLink R_G 188 y_G_canFire, Cond.instanceMethod y_G_canFire, Cond.selects R_G y_G_canFire y_G_canFire, Cond.initialized R_G, Cond.code y_G_canFire b_G_canFire 2 (some .boolean)] : List Cond), w ∈ TT := List.forall_mem_cons.mpr ⟨wd_253, List.forall_mem_cons.mpr ⟨wd_255, List.forall_mem_cons.mpr ⟨wd_12, List.forall_mem_cons.mpr ⟨wd_51, List.forall_mem_cons.mpr ⟨wd_256, List.forall_mem_nil _⟩⟩⟩⟩⟩
theorem lm_G_191 : ∀ w ∈ ([Cond.methodLink R_G 191 y_G_tokensWonBy, Cond.instanceMethod y_G_tokensWonBy, Cond.selects R_G y_G_tokensWonBy y_G_tokensWonBy, Cond.initialized R_G, Cond.code y_G_tokensWonBy b_G_tokensWonBy 5 (some .int)] : List Cond), w ∈ TT := List.forall_mem_cons.mpr ⟨wd_265, List.forall_mem_cons.mpr ⟨wd_267, List.forall_mem_cons.mpr ⟨wd_15, List.forall_mem_cons.mpr ⟨wd_51, List.forall_mem_cons.mpr ⟨wd_268, List.forall_mem_nil _⟩⟩⟩⟩⟩
theorem lm_G_185 : ∀ w ∈ ([Cond.methodLink R_G 185 y_G_chooseFrom, Cond.instanceMethod y_G_chooseFrom, Cond.selects R_G y_G_chooseFrom y_G_chooseFrom, Cond.initialized R_G, Cond.code y_G_chooseFrom b_G_chooseFrom 4 (some .int)] : List Cond), w ∈ TT := List.forall_mem_cons.mpr ⟨wd_269, List.forall_mem_cons.mpr ⟨wd_271, List.forall_mem_cons.mpr ⟨wd_16, List.forall_mem_cons.mpr ⟨wd_51, List.forall_mem_cons.mpr ⟨wd_272, List.forall_mem_nil _⟩⟩⟩⟩⟩
theorem lm_G_182 : ∀ w ∈ ([Cond.methodLink R_G 182 y_G_chooseFewestTokens, Cond.instanceMethod y_G_chooseFewestTokens, Cond.selects R_G y_G_chooseFewestTokens y_G_chooseFewestTokens, Cond.initialized R_G, Cond.code y_G_chooseFewestTokens b_G_chooseFewestTokens 5 (some .int)] : List Cond), w ∈ TT := List.forall_mem_cons.mpr ⟨wd_249, List.forall_mem_cons.mpr ⟨wd_251, List.forall_mem_cons.mpr ⟨wd_11, List.forall_mem_cons.mpr ⟨wd_51, List.forall_mem_cons.mpr ⟨wd_252, List.forall_mem_nil _⟩⟩⟩⟩⟩
theorem lm_G_173 : ∀ w ∈ ([Cond.methodLink R_G 173 y_G_choose, Cond.instanceMethod y_G_choose, Cond.selects R_G y_G_choose y_G_choose, Cond.initialized R_G, Cond.code y_G_choose b_G_choose 3 (some .int)] : List Cond), w ∈ TT := List.forall_mem_cons.mpr ⟨wd_245, List.forall_mem_cons.mpr ⟨wd_247, List.forall_mem_cons.mpr ⟨wd_10, List.forall_mem_cons.mpr ⟨wd_51, List.forall_mem_cons.mpr ⟨wd_248, List.forall_mem_nil _⟩⟩⟩⟩⟩
theorem lm_G_179 : ∀ w ∈ ([Cond.methodLink R_G 179 y_G_fireCounting, Cond.instanceMethod y_G_fireCounting, Cond.selects R_G y_G_fireCounting y_G_fireCounting, Cond.initialized R_G, Cond.code y_G_fireCounting b_G_fireCounting 4 none] : List Cond), w ∈ TT := List.forall_mem_cons.mpr ⟨wd_277, List.forall_mem_cons.mpr ⟨wd_279, List.forall_mem_cons.mpr ⟨wd_18, List.forall_mem_cons.mpr ⟨wd_51, List.forall_mem_cons.mpr ⟨wd_280, List.forall_mem_nil _⟩⟩⟩⟩⟩
theorem lm_G_176 : ∀ w ∈ ([Cond.methodLink R_G 176 y_G_leastDue, Cond.instanceMethod y_G_leastDue, Cond.selects R_G y_G_leastDue y_G_leastDue, Cond.initialized R_G, Cond.code y_G_leastDue b_G_leastDue 2 (some .int)] : List Cond), w ∈ TT := List.forall_mem_cons.mpr ⟨wd_273, List.forall_mem_cons.mpr ⟨wd_275, List.forall_mem_cons.mpr ⟨wd_17, List.forall_mem_cons.mpr ⟨wd_51, List.forall_mem_cons.mpr ⟨wd_276, List.forall_mem_nil _⟩⟩⟩⟩⟩
theorem lm_G_200 : ∀ w ∈ ([Cond.instanceMethod y_A_forgetRun, Cond.selects R_A y_A_forgetRun y_A_forgetRun, Cond.initialized y_A_forgetRun.cls, Cond.code y_A_forgetRun b_A_forgetRun 1 none] : List Cond), w ∈ TT := List.forall_mem_cons.mpr ⟨wd_287, List.forall_mem_cons.mpr ⟨wd_20, List.forall_mem_cons.mpr ⟨wd_52, List.forall_mem_cons.mpr ⟨wd_288, List.forall_mem_nil _⟩⟩⟩⟩
theorem lm_G_203 : ∀ w ∈ ([Cond.instanceMethod y_E_setAsAtFirst, Cond.selects R_E y_E_setAsAtFirst y_E_setAsAtFirst, Cond.initialized y_E_setAsAtFirst.cls, Cond.code y_E_setAsAtFirst b_E_setAsAtFirst 2 none] : List Cond), w ∈ TT := List.forall_mem_cons.mpr ⟨wd_291, List.forall_mem_cons.mpr ⟨wd_21, List.forall_mem_cons.mpr ⟨wd_53, List.forall_mem_cons.mpr ⟨wd_292, List.forall_mem_nil _⟩⟩⟩⟩
theorem lm_G_78 : ∀ w ∈ ([Cond.methodLink R_G 78 y_G_countActors, Cond.instanceMethod y_G_countActors, Cond.selects R_G y_G_countActors y_G_countActors, Cond.initialized R_G, Cond.code y_G_countActors b_G_countActors 3 (some .int)] : List Cond), w ∈ TT := List.forall_mem_cons.mpr ⟨wd_207, List.forall_mem_cons.mpr ⟨wd_209, List.forall_mem_cons.mpr ⟨wd_2, List.forall_mem_cons.mpr ⟨wd_51, List.forall_mem_cons.mpr ⟨wd_210, List.forall_mem_nil _⟩⟩⟩⟩⟩
theorem lm_G_82 : ∀ w ∈ ([Cond.methodLink R_G 82 y_G_findCulprit, Cond.instanceMethod y_G_findCulprit, Cond.selects R_G y_G_findCulprit y_G_findCulprit, Cond.initialized R_G, Cond.code y_G_findCulprit b_G_findCulprit 2 (some .int)] : List Cond), w ∈ TT := List.forall_mem_cons.mpr ⟨wd_211, List.forall_mem_cons.mpr ⟨wd_213, List.forall_mem_cons.mpr ⟨wd_3, List.forall_mem_cons.mpr ⟨wd_51, List.forall_mem_cons.mpr ⟨wd_214, List.forall_mem_nil _⟩⟩⟩⟩⟩
theorem lm_G_85 : ∀ w ∈ ([Cond.methodLink R_G 85 y_G_keepRepetitions, Cond.instanceMethod y_G_keepRepetitions, Cond.selects R_G y_G_keepRepetitions y_G_keepRepetitions, Cond.initialized R_G, Cond.code y_G_keepRepetitions b_G_keepRepetitions 4 (some .int)] : List Cond), w ∈ TT := List.forall_mem_cons.mpr ⟨wd_237, List.forall_mem_cons.mpr ⟨wd_239, List.forall_mem_cons.mpr ⟨wd_8, List.forall_mem_cons.mpr ⟨wd_51, List.forall_mem_cons.mpr ⟨wd_240, List.forall_mem_nil _⟩⟩⟩⟩⟩
theorem lm_G_91 : ∀ w ∈ ([Cond.methodLink R_G 91 y_G_makeSchedule, Cond.instanceMethod y_G_makeSchedule, Cond.selects R_G y_G_makeSchedule y_G_makeSchedule, Cond.initialized R_G, Cond.code y_G_makeSchedule b_G_makeSchedule 5 (some .int)] : List Cond), w ∈ TT := List.forall_mem_cons.mpr ⟨wd_241, List.forall_mem_cons.mpr ⟨wd_243, List.forall_mem_cons.mpr ⟨wd_9, List.forall_mem_cons.mpr ⟨wd_51, List.forall_mem_cons.mpr ⟨wd_244, List.forall_mem_nil _⟩⟩⟩⟩⟩
theorem lm_G_95 : ∀ w ∈ ([Cond.methodLink R_G 95 y_G_setRunAsAtFirst, Cond.instanceMethod y_G_setRunAsAtFirst, Cond.selects R_G y_G_setRunAsAtFirst y_G_setRunAsAtFirst, Cond.initialized R_G, Cond.code y_G_setRunAsAtFirst b_G_setRunAsAtFirst 2 none] : List Cond), w ∈ TT := List.forall_mem_cons.mpr ⟨wd_281, List.forall_mem_cons.mpr ⟨wd_283, List.forall_mem_cons.mpr ⟨wd_19, List.forall_mem_cons.mpr ⟨wd_51, List.forall_mem_cons.mpr ⟨wd_284, List.forall_mem_nil _⟩⟩⟩⟩⟩
theorem lm_E_32 : ∀ w ∈ ([Cond.methodLink R_E 32 y_E_at, Cond.instanceMethod y_E_at, Cond.selects R_E y_E_at y_E_at, Cond.initialized R_E, Cond.code y_E_at b_E_at 2 (some .int)] : List Cond), w ∈ TT := List.forall_mem_cons.mpr ⟨wd_305, List.forall_mem_cons.mpr ⟨wd_307, List.forall_mem_cons.mpr ⟨wd_24, List.forall_mem_cons.mpr ⟨wd_53, List.forall_mem_cons.mpr ⟨wd_308, List.forall_mem_nil _⟩⟩⟩⟩⟩
theorem lm_G_206 : ∀ w ∈ ([Cond.instanceMethod y_E_takeWeighed, Cond.selects R_E y_E_takeWeighed y_E_takeWeighed, Cond.initialized y_E_takeWeighed.cls, Cond.code y_E_takeWeighed b_E_takeWeighed 3 (some .int)] : List Cond), w ∈ TT := List.forall_mem_cons.mpr ⟨wd_303, List.forall_mem_cons.mpr ⟨wd_23, List.forall_mem_cons.mpr ⟨wd_53, List.forall_mem_cons.mpr ⟨wd_304, List.forall_mem_nil _⟩⟩⟩⟩
theorem lm_G_209 : ∀ w ∈ ([Cond.instanceMethod y_A_answerTo, Cond.selects R_A y_A_answerTo y_A_answerTo, Cond.initialized y_A_answerTo.cls, Cond.code y_A_answerTo b_A_answerTo 3 (some .int)] : List Cond), w ∈ TT := List.forall_mem_cons.mpr ⟨wd_311, List.forall_mem_cons.mpr ⟨wd_25, List.forall_mem_cons.mpr ⟨wd_52, List.forall_mem_cons.mpr ⟨wd_312, List.forall_mem_nil _⟩⟩⟩⟩
theorem lm_G_212 : ∀ w ∈ ([Cond.instanceMethod y_E_putFrom, Cond.selects R_E y_E_putFrom y_E_putFrom, Cond.initialized y_E_putFrom.cls, Cond.code y_E_putFrom b_E_putFrom 3 none] : List Cond), w ∈ TT := List.forall_mem_cons.mpr ⟨wd_315, List.forall_mem_cons.mpr ⟨wd_26, List.forall_mem_cons.mpr ⟨wd_53, List.forall_mem_cons.mpr ⟨wd_316, List.forall_mem_nil _⟩⟩⟩⟩
theorem lm_G_98 : ∀ w ∈ ([Cond.methodLink R_G 98 y_G_fire, Cond.instanceMethod y_G_fire, Cond.selects R_G y_G_fire y_G_fire, Cond.initialized R_G, Cond.code y_G_fire b_G_fire 5 none] : List Cond), w ∈ TT := List.forall_mem_cons.mpr ⟨wd_297, List.forall_mem_cons.mpr ⟨wd_299, List.forall_mem_cons.mpr ⟨wd_22, List.forall_mem_cons.mpr ⟨wd_51, List.forall_mem_cons.mpr ⟨wd_300, List.forall_mem_nil _⟩⟩⟩⟩⟩
theorem lm_G_215 : ∀ w ∈ ([Cond.instanceMethod y_E_isLoop, Cond.selects R_E y_E_isLoop y_E_isLoop, Cond.initialized y_E_isLoop.cls, Cond.code y_E_isLoop b_E_isLoop 1 (some .boolean)] : List Cond), w ∈ TT := List.forall_mem_cons.mpr ⟨wd_339, List.forall_mem_cons.mpr ⟨wd_28, List.forall_mem_cons.mpr ⟨wd_53, List.forall_mem_cons.mpr ⟨wd_340, List.forall_mem_nil _⟩⟩⟩⟩
theorem lm_G_224 : ∀ w ∈ ([Cond.methodLink R_G 224 y_G_divisorOfStretch, Cond.instanceMethod y_G_divisorOfStretch, Cond.selects R_G y_G_divisorOfStretch y_G_divisorOfStretch, Cond.initialized R_G, Cond.code y_G_divisorOfStretch b_G_divisorOfStretch 5 (some .int)] : List Cond), w ∈ TT := List.forall_mem_cons.mpr ⟨wd_353, List.forall_mem_cons.mpr ⟨wd_355, List.forall_mem_cons.mpr ⟨wd_32, List.forall_mem_cons.mpr ⟨wd_51, List.forall_mem_cons.mpr ⟨wd_356, List.forall_mem_nil _⟩⟩⟩⟩⟩
theorem lm_G_230 : ∀ w ∈ ([Cond.methodLink R_G 230 y_G_tokensAcross, Cond.instanceMethod y_G_tokensAcross, Cond.selects R_G y_G_tokensAcross y_G_tokensAcross, Cond.initialized R_G, Cond.code y_G_tokensAcross b_G_tokensAcross 7 (some .int)] : List Cond), w ∈ TT := List.forall_mem_cons.mpr ⟨wd_358, List.forall_mem_cons.mpr ⟨wd_360, List.forall_mem_cons.mpr ⟨wd_33, List.forall_mem_cons.mpr ⟨wd_51, List.forall_mem_cons.mpr ⟨wd_361, List.forall_mem_nil _⟩⟩⟩⟩⟩
theorem lm_G_234 : ∀ w ∈ ([Cond.methodLink R_G 234 Lib.Math.min.name, Cond.static Lib.Math.min.name, Cond.initialized "java/lang/Math", Cond.code Lib.Math.min.name Lib.Math.min.code 2 (some .int)] : List Cond), w ∈ TT := List.forall_mem_cons.mpr ⟨wd_362, List.forall_mem_cons.mpr ⟨wd_363, List.forall_mem_cons.mpr ⟨wd_55, List.forall_mem_cons.mpr ⟨wd_364, List.forall_mem_nil _⟩⟩⟩⟩
theorem lm_G_218 : ∀ w ∈ ([Cond.methodLink R_G 218 y_G_listActors, Cond.instanceMethod y_G_listActors, Cond.selects R_G y_G_listActors y_G_listActors, Cond.initialized R_G, Cond.code y_G_listActors b_G_listActors 3 (some .int)] : List Cond), w ∈ TT := List.forall_mem_cons.mpr ⟨wd_345, List.forall_mem_cons.mpr ⟨wd_347, List.forall_mem_cons.mpr ⟨wd_30, List.forall_mem_cons.mpr ⟨wd_51, List.forall_mem_cons.mpr ⟨wd_348, List.forall_mem_nil _⟩⟩⟩⟩⟩
theorem lm_G_221 : ∀ w ∈ ([Cond.methodLink R_G 221 y_G_costOfStretch, Cond.instanceMethod y_G_costOfStretch, Cond.selects R_G y_G_costOfStretch y_G_costOfStretch, Cond.initialized R_G, Cond.code y_G_costOfStretch b_G_costOfStretch 7 (some .int)] : List Cond), w ∈ TT := List.forall_mem_cons.mpr ⟨wd_349, List.forall_mem_cons.mpr ⟨wd_351, List.forall_mem_cons.mpr ⟨wd_31, List.forall_mem_cons.mpr ⟨wd_51, List.forall_mem_cons.mpr ⟨wd_352, List.forall_mem_nil _⟩⟩⟩⟩⟩
theorem lm_G_111 : ∀ w ∈ ([Cond.methodLink R_G 111 y_G_canNest, Cond.instanceMethod y_G_canNest, Cond.selects R_G y_G_canNest y_G_canNest, Cond.initialized R_G, Cond.code y_G_canNest b_G_canNest 4 (some .boolean)] : List Cond), w ∈ TT := List.forall_mem_cons.mpr ⟨wd_333, List.forall_mem_cons.mpr ⟨wd_335, List.forall_mem_cons.mpr ⟨wd_27, List.forall_mem_cons.mpr ⟨wd_51, List.forall_mem_cons.mpr ⟨wd_336, List.forall_mem_nil _⟩⟩⟩⟩⟩
theorem lm_G_115 : ∀ w ∈ ([Cond.methodLink R_G 115 y_G_nestedRoom, Cond.instanceMethod y_G_nestedRoom, Cond.selects R_G y_G_nestedRoom y_G_nestedRoom, Cond.initialized R_G, Cond.code y_G_nestedRoom b_G_nestedRoom 4 (some .int)] : List Cond), w ∈ TT := List.forall_mem_cons.mpr ⟨wd_341, List.forall_mem_cons.mpr ⟨wd_343, List.forall_mem_cons.mpr ⟨wd_29, List.forall_mem_cons.mpr ⟨wd_51, List.forall_mem_cons.mpr ⟨wd_344, List.forall_mem_nil _⟩⟩⟩⟩⟩
theorem lm_G_126 : ∀ w ∈ ([Cond.instanceMethod y_E_at, Cond.selects R_E y_E_at y_E_at, Cond.initialized y_E_at.cls, Cond.code y_E_at b_E_at 2 (some .int)] : List Cond), w ∈ TT := List.forall_mem_cons.mpr ⟨wd_307, List.forall_mem_cons.mpr ⟨wd_24, List.forall_mem_cons.mpr ⟨wd_53, List.forall_mem_cons.mpr ⟨wd_308, List.forall_mem_nil _⟩⟩⟩⟩
theorem lm_G_129 : ∀ w ∈ ([Cond.methodLink R_G 129 y_G_countParts, Cond.instanceMethod y_G_countParts, Cond.selects R_G y_G_countParts y_G_countParts, Cond.initialized R_G, Cond.code y_G_countParts b_G_countParts 5 (some .int)] : List Cond), w ∈ TT := List.forall_mem_cons.mpr ⟨wd_383, List.forall_mem_cons.mpr ⟨wd_385, List.forall_mem_cons.mpr ⟨wd_34, List.forall_mem_cons.mpr ⟨wd_51, List.forall_mem_cons.mpr ⟨wd_386, List.forall_mem_nil _⟩⟩⟩⟩⟩
theorem lm_G_132 : ∀ w ∈ ([Cond.methodLink R_G 132 y_G_countRuns, Cond.instanceMethod y_G_countRuns, Cond.selects R_G y_G_countRuns y_G_countRuns, Cond.initialized R_G, Cond.code y_G_countRuns b_G_countRuns 3 (some .int)] : List Cond), w ∈ TT := List.forall_mem_cons.mpr ⟨wd_387, List.forall_mem_cons.mpr ⟨wd_389, List.forall_mem_cons.mpr ⟨wd_35, List.forall_mem_cons.mpr ⟨wd_51, List.forall_mem_cons.mpr ⟨wd_390, List.forall_mem_nil _⟩⟩⟩⟩⟩
theorem lm_G_135 : ∀ w ∈ ([Cond.methodLink R_G 135 y_G_sumOfPeaks, Cond.instanceMethod y_G_sumOfPeaks, Cond.selects R_G y_G_sumOfPeaks y_G_sumOfPeaks, Cond.initialized R_G, Cond.code y_G_sumOfPeaks b_G_sumOfPeaks 3 (some .int)] : List Cond), w ∈ TT := List.forall_mem_cons.mpr ⟨wd_391, List.forall_mem_cons.mpr ⟨wd_393, List.forall_mem_cons.mpr ⟨wd_36, List.forall_mem_cons.mpr ⟨wd_51, List.forall_mem_cons.mpr ⟨wd_394, List.forall_mem_nil _⟩⟩⟩⟩⟩
theorem lm_G_138 : ∀ w ∈ ([Cond.methodLink R_G 138 y_G_sumOfTokens, Cond.instanceMethod y_G_sumOfTokens, Cond.selects R_G y_G_sumOfTokens y_G_sumOfTokens, Cond.initialized R_G, Cond.code y_G_sumOfTokens b_G_sumOfTokens 3 (some .int)] : List Cond), w ∈ TT := List.forall_mem_cons.mpr ⟨wd_395, List.forall_mem_cons.mpr ⟨wd_397, List.forall_mem_cons.mpr ⟨wd_37, List.forall_mem_cons.mpr ⟨wd_51, List.forall_mem_cons.mpr ⟨wd_398, List.forall_mem_nil _⟩⟩⟩⟩⟩
theorem lm_M_79 : ∀ w ∈ ([Cond.methodLink R_M 79 y_M_isActor, Cond.instanceMethod y_M_isActor, Cond.selects R_M y_M_isActor y_M_isActor, Cond.initialized R_M, Cond.code y_M_isActor b_M_isActor 2 (some .boolean)] : List Cond), w ∈ TT := List.forall_mem_cons.mpr ⟨wd_491, List.forall_mem_cons.mpr ⟨wd_493, List.forall_mem_cons.mpr ⟨wd_38, List.forall_mem_cons.mpr ⟨wd_54, List.forall_mem_cons.mpr ⟨wd_494, List.forall_mem_nil _⟩⟩⟩⟩⟩
theorem lm_M_87 : ∀ w ∈ ([Cond.methodLink R_M 87 y_M_gcd, Cond.static y_M_gcd, Cond.initialized y_M_gcd.cls, Cond.code y_M_gcd b_M_gcd 10 (some .long)] : List Cond), w ∈ TT := List.forall_mem_cons.mpr ⟨wd_511, List.forall_mem_cons.mpr ⟨wd_512, List.forall_mem_cons.mpr ⟨wd_54, List.forall_mem_cons.mpr ⟨wd_513, List.forall_mem_nil _⟩⟩⟩⟩
theorem lm_M_91 : ∀ w ∈ ([Cond.methodLink R_M 91 y_M_setFraction, Cond.instanceMethod y_M_setFraction, Cond.selects R_M y_M_setFraction y_M_setFraction, Cond.initialized R_M, Cond.code y_M_setFraction b_M_setFraction 8 none] : List Cond), w ∈ TT := List.forall_mem_cons.mpr ⟨wd_507, List.forall_mem_cons.mpr ⟨wd_509, List.forall_mem_cons.mpr ⟨wd_40, List.forall_mem_cons.mpr ⟨wd_54, List.forall_mem_cons.mpr ⟨wd_510, List.forall_mem_nil _⟩⟩⟩⟩⟩
theorem lm_M_97 : ∀ w ∈ ([Cond.methodLink R_M 97 y_M_whole, Cond.instanceMethod y_M_whole, Cond.selects R_M y_M_whole y_M_whole, Cond.initialized R_M, Cond.code y_M_whole b_M_whole 6 (some .boolean)] : List Cond), w ∈ TT := List.forall_mem_cons.mpr ⟨wd_518, List.forall_mem_cons.mpr ⟨wd_520, List.forall_mem_cons.mpr ⟨wd_42, List.forall_mem_cons.mpr ⟨wd_54, List.forall_mem_cons.mpr ⟨wd_521, List.forall_mem_nil _⟩⟩⟩⟩⟩
theorem lm_M_101 : ∀ w ∈ ([Cond.methodLink R_M 101 y_M_ready, Cond.instanceMethod y_M_ready, Cond.selects R_M y_M_ready y_M_ready, Cond.initialized R_M, Cond.code y_M_ready b_M_ready 3 (some .boolean)] : List Cond), w ∈ TT := List.forall_mem_cons.mpr ⟨wd_527, List.forall_mem_cons.mpr ⟨wd_529, List.forall_mem_cons.mpr ⟨wd_44, List.forall_mem_cons.mpr ⟨wd_54, List.forall_mem_cons.mpr ⟨wd_530, List.forall_mem_nil _⟩⟩⟩⟩⟩
theorem lm_M_104 : ∀ w ∈ ([Cond.methodLink R_M 104 y_M_growth, Cond.instanceMethod y_M_growth, Cond.selects R_M y_M_growth y_M_growth, Cond.initialized R_M, Cond.code y_M_growth b_M_growth 4 (some .int)] : List Cond), w ∈ TT := List.forall_mem_cons.mpr ⟨wd_531, List.forall_mem_cons.mpr ⟨wd_533, List.forall_mem_cons.mpr ⟨wd_45, List.forall_mem_cons.mpr ⟨wd_54, List.forall_mem_cons.mpr ⟨wd_534, List.forall_mem_nil _⟩⟩⟩⟩⟩
theorem lm_M_111 : ∀ w ∈ ([Cond.methodLink R_M 111 y_M_balance, Cond.instanceMethod y_M_balance, Cond.selects R_M y_M_balance y_M_balance, Cond.initialized R_M, Cond.code y_M_balance b_M_balance 7 (some .boolean)] : List Cond), w ∈ TT := List.forall_mem_cons.mpr ⟨wd_503, List.forall_mem_cons.mpr ⟨wd_505, List.forall_mem_cons.mpr ⟨wd_39, List.forall_mem_cons.mpr ⟨wd_54, List.forall_mem_cons.mpr ⟨wd_506, List.forall_mem_nil _⟩⟩⟩⟩⟩
theorem lm_M_114 : ∀ w ∈ ([Cond.methodLink R_M 114 y_M_repeat, Cond.instanceMethod y_M_repeat, Cond.selects R_M y_M_repeat y_M_repeat, Cond.initialized R_M, Cond.code y_M_repeat b_M_repeat 4 (some .int)] : List Cond), w ∈ TT := List.forall_mem_cons.mpr ⟨wd_514, List.forall_mem_cons.mpr ⟨wd_516, List.forall_mem_cons.mpr ⟨wd_41, List.forall_mem_cons.mpr ⟨wd_54, List.forall_mem_cons.mpr ⟨wd_517, List.forall_mem_nil _⟩⟩⟩⟩⟩
theorem lm_M_121 : ∀ w ∈ ([Cond.methodLink R_M 121 y_M_pick, Cond.instanceMethod y_M_pick, Cond.selects R_M y_M_pick y_M_pick, Cond.initialized R_M, Cond.code y_M_pick b_M_pick 6 (some .int)] : List Cond), w ∈ TT := List.forall_mem_cons.mpr ⟨wd_523, List.forall_mem_cons.mpr ⟨wd_525, List.forall_mem_cons.mpr ⟨wd_43, List.forall_mem_cons.mpr ⟨wd_54, List.forall_mem_cons.mpr ⟨wd_526, List.forall_mem_nil _⟩⟩⟩⟩⟩
theorem lm_M_125 : ∀ w ∈ ([Cond.methodLink R_M 125 y_M_step, Cond.instanceMethod y_M_step, Cond.selects R_M y_M_step y_M_step, Cond.initialized R_M, Cond.code y_M_step b_M_step 3 none] : List Cond), w ∈ TT := List.forall_mem_cons.mpr ⟨wd_535, List.forall_mem_cons.mpr ⟨wd_537, List.forall_mem_cons.mpr ⟨wd_46, List.forall_mem_cons.mpr ⟨wd_54, List.forall_mem_cons.mpr ⟨wd_538, List.forall_mem_nil _⟩⟩⟩⟩⟩
theorem lm_M_129 : ∀ w ∈ ([Cond.methodLink R_M 129 y_M_takeFrom, Cond.instanceMethod y_M_takeFrom, Cond.selects R_M y_M_takeFrom y_M_takeFrom, Cond.initialized R_M, Cond.code y_M_takeFrom b_M_takeFrom 4 (some .int)] : List Cond), w ∈ TT := List.forall_mem_cons.mpr ⟨wd_547, List.forall_mem_cons.mpr ⟨wd_549, List.forall_mem_cons.mpr ⟨wd_48, List.forall_mem_cons.mpr ⟨wd_54, List.forall_mem_cons.mpr ⟨wd_550, List.forall_mem_nil _⟩⟩⟩⟩⟩
theorem lm_M_132 : ∀ w ∈ ([Cond.methodLink R_M 132 y_M_fire, Cond.instanceMethod y_M_fire, Cond.selects R_M y_M_fire y_M_fire, Cond.initialized R_M, Cond.code y_M_fire b_M_fire 6 none] : List Cond), w ∈ TT := List.forall_mem_cons.mpr ⟨wd_543, List.forall_mem_cons.mpr ⟨wd_545, List.forall_mem_cons.mpr ⟨wd_47, List.forall_mem_cons.mpr ⟨wd_54, List.forall_mem_cons.mpr ⟨wd_546, List.forall_mem_nil _⟩⟩⟩⟩⟩
theorem lm_M_135 : ∀ w ∈ ([Cond.methodLink R_M 135 y_M_cut, Cond.instanceMethod y_M_cut, Cond.selects R_M y_M_cut y_M_cut, Cond.initialized R_M, Cond.code y_M_cut b_M_cut 8 (some .int)] : List Cond), w ∈ TT := List.forall_mem_cons.mpr ⟨wd_567, List.forall_mem_cons.mpr ⟨wd_569, List.forall_mem_cons.mpr ⟨wd_49, List.forall_mem_cons.mpr ⟨wd_54, List.forall_mem_cons.mpr ⟨wd_570, List.forall_mem_nil _⟩⟩⟩⟩⟩
theorem in_A : ∀ w ∈ u_ws R_A F_A 10, w ∈ TT := List.forall_mem_cons.mpr ⟨wd_91, List.forall_mem_cons.mpr ⟨wd_93, List.forall_mem_cons.mpr ⟨wd_95, List.forall_mem_cons.mpr ⟨wd_97, List.forall_mem_cons.mpr ⟨wd_99, List.forall_mem_cons.mpr ⟨wd_101, List.forall_mem_cons.mpr ⟨wd_103, List.forall_mem_cons.mpr ⟨wd_105, List.forall_mem_cons.mpr ⟨wd_107, List.forall_mem_cons.mpr ⟨wd_109, List.forall_mem_nil _⟩⟩⟩⟩⟩⟩⟩⟩⟩⟩
theorem in_E : ∀ w ∈ u_ws R_E F_E 9, w ∈ TT := List.forall_mem_cons.mpr ⟨wd_133, List.forall_mem_cons.mpr ⟨wd_135, List.forall_mem_cons.mpr ⟨wd_137, List.forall_mem_cons.mpr ⟨wd_139, List.forall_mem_cons.mpr ⟨wd_141, List.forall_mem_cons.mpr ⟨wd_143, List.forall_mem_cons.mpr ⟨wd_145, List.forall_mem_cons.mpr ⟨wd_147, List.forall_mem_cons.mpr ⟨wd_149, List.forall_mem_nil _⟩⟩⟩⟩⟩⟩⟩⟩⟩
theorem in_G : ∀ w ∈ u_ws R_G F_G 9, w ∈ TT := List.forall_mem_cons.mpr ⟨wd_161, List.forall_mem_cons.mpr ⟨wd_163, List.forall_mem_cons.mpr ⟨wd_165, List.forall_mem_cons.mpr ⟨wd_167, List.forall_mem_cons.mpr ⟨wd_169, List.forall_mem_cons.mpr ⟨wd_171, List.forall_mem_cons.mpr ⟨wd_173, List.forall_mem_cons.mpr ⟨wd_175, List.forall_mem_cons.mpr ⟨wd_177, List.forall_mem_nil _⟩⟩⟩⟩⟩⟩⟩⟩⟩
theorem in_M : ∀ w ∈ u_ws R_M F_M 25, w ∈ TT := List.forall_mem_cons.mpr ⟨wd_430, List.forall_mem_cons.mpr ⟨wd_432, List.forall_mem_cons.mpr ⟨wd_434, List.forall_mem_cons.mpr ⟨wd_436, List.forall_mem_cons.mpr ⟨wd_438, List.forall_mem_cons.mpr ⟨wd_440, List.forall_mem_cons.mpr ⟨wd_442, List.forall_mem_cons.mpr ⟨wd_444, List.forall_mem_cons.mpr ⟨wd_446, List.forall_mem_cons.mpr ⟨wd_448, List.forall_mem_cons.mpr ⟨wd_450, List.forall_mem_cons.mpr ⟨wd_452, List.forall_mem_cons.mpr ⟨wd_454, List.forall_mem_cons.mpr ⟨wd_456, List.forall_mem_cons.mpr ⟨wd_458, List.forall_mem_cons.mpr ⟨wd_460, List.forall_mem_cons.mpr ⟨wd_462, List.forall_mem_cons.mpr ⟨wd_464, List.forall_mem_cons.mpr ⟨wd_466, List.forall_mem_cons.mpr ⟨wd_468, List.forall_mem_cons.mpr ⟨wd_470, List.forall_mem_cons.mpr ⟨wd_472, List.forall_mem_cons.mpr ⟨wd_474, List.forall_mem_cons.mpr ⟨wd_476, List.forall_mem_cons.mpr ⟨wd_478, List.forall_mem_nil _⟩⟩⟩⟩⟩⟩⟩⟩⟩⟩⟩⟩⟩⟩⟩⟩⟩⟩⟩⟩⟩⟩⟩⟩⟩
/-! the layouts: kinds of the class: 0 graph, 1 actors, 2 edges, 3 rings, 4 actors[], 5 edges[], 6 order[], 7 cost[][], 8 firingOrder[], 9 rows of cost -/
def tysOf (cc : Nat → ClassId) : List (ClassId × FieldType) := [(cc 0, .int), (cc 1, .object "RateGraph$Actor"), (cc 2, .object "RateGraph$Edge"), (cc 3, .array .int), (cc 4, .boolean), (cc 5, .long)]
def dmC (K : Nat) : Nat := match K with
  | 0 => 1
  | 1 => 8
  | 2 => 12
  | 3 => 12
  | 4 => 1
  | 5 => 1
  | 6 => 1
  | 7 => 1
  | 8 => 1
  | 9 => 8
  | _ => 0
def cfC (cc : Nat → ClassId) (al : Nat → Nat → Nat) (K i : Nat) (f : Nat → Int32) (_g : Nat → Int64) : va_E := match K with
  | 0 => .inr (2, [.ref (al 4 0), .ref (al 5 0), .ref (al 6 0), .ref (al 7 0), .ref (al 8 0), .int (f 5), .int (f 6), .int (f 7), .int (f 8)])
  | 1 => .inr (0, [.int (f 0), .int (f 1), .int (f 2), .int (f 3), .int (f 4), .int (f 5), .int (f 6), .int (f 7), .int (f 8), .int (f 9)])
  | 2 => .inr (1, [.ref (al 3 i), .int (f 1), .int (f 2), .int (f 3), .int (f 4), .int (f 5), .int (f 6), .int (f 7), .int (f 8)])
  | 3 => .inl (cc 0, 256, .inl f)
  | 4 => .inl (cc 1, 8, .inr (.inr (.inr (.inr (fun e => some (al 1 e))))))
  | 5 => .inl (cc 2, 12, .inr (.inr (.inr (.inr (fun e => some (al 2 (ix (f e))))))))
  | 6 => .inl (cc 0, 8, .inl f)
  | 7 => .inl (cc 3, 8, .inr (.inr (.inr (.inr (fun e => some (al 9 e))))))
  | 8 => .inl (cc 0, 64, .inl f)
  | _ => .inl (cc 0, 8, .inl f)
def dmM (K : Nat) : Nat := if K < 26 ∧ K ≠ 9 ∧ K ≠ 10 ∧ K ≠ 19 ∧ K ≠ 20 then 1 else 0
def cfM (cc : Nat → ClassId) (al : Nat → Nat → Nat) (K _i : Nat) (f : Nat → Int32) (g : Nat → Int64) : va_E := match K with
  | 0 => .inr (3, [.ref (al 1 0), .ref (al 2 0), .ref (al 3 0), .ref (al 4 0), .ref (al 5 0), .ref (al 6 0), .ref (al 7 0), .ref (al 8 0), .int (f 8), .int (f 9), .ref (al 11 0), .ref (al 12 0), .ref (al 13 0), .ref (al 14 0), .ref (al 15 0), .ref (al 16 0), .ref (al 17 0), .ref (al 18 0), .int (f 18), .int (f 19), .ref (al 21 0), .ref (al 22 0), .ref (al 23 0), .ref (al 24 0), .ref (al 25 0)])
  | 1 => .inl (cc 4, 8, .inl f)
  | 2 => .inl (cc 0, 8, .inl f)
  | 3 => .inl (cc 0, 8, .inl f)
  | 4 => .inl (cc 0, 13, .inl f)
  | 5 => .inl (cc 0, 13, .inl f)
  | 6 => .inl (cc 0, 13, .inl f)
  | 7 => .inl (cc 0, 13, .inl f)
  | 8 => .inl (cc 0, 13, .inl f)
  | 11 => .inl (cc 5, 8, .inr (.inl g))
  | 12 => .inl (cc 5, 8, .inr (.inl g))
  | 13 => .inl (cc 0, 8, .inl f)
  | 14 => .inl (cc 0, 8, .inl f)
  | 15 => .inl (cc 0, 8, .inl f)
  | 16 => .inl (cc 0, 64, .inl f)
  | 17 => .inl (cc 0, 12, .inl f)
  | 18 => .inl (cc 0, 12, .inl f)
  | 21 => .inl (cc 0, 4800, .inl f)
  | 22 => .inl (cc 0, 12, .inl f)
  | 23 => .inl (cc 0, 8, .inl f)
  | 24 => .inl (cc 0, 8, .inl f)
  | 25 => .inl (cc 0, 64, .inl f)
  | _ => .inl (cc 0, 0, .inl f)
theorem so_0_2 {x : Int32} (h0 : ¬ x = 0) (h1 : ¬ x = 1) (h2 : ¬ x = 2) : x.toInt < 0 ∨ 2 < x.toInt := by
  have g0 : x.toInt ≠ 0 := ne_ti h0
  have g1 : x.toInt ≠ 1 := ne_ti h1
  have g2 : x.toInt ≠ 2 := ne_ti h2
  omega
theorem so_0_8 {x : Int32} (h0 : ¬ x = 0) (h1 : ¬ x = 1) (h2 : ¬ x = 2) (h3 : ¬ x = 3) (h4 : ¬ x = 4) (h5 : ¬ x = 5) (h6 : ¬ x = 6) (h7 : ¬ x = 7) (h8 : ¬ x = 8) : x.toInt < 0 ∨ 8 < x.toInt := by
  have g0 : x.toInt ≠ 0 := ne_ti h0
  have g1 : x.toInt ≠ 1 := ne_ti h1
  have g2 : x.toInt ≠ 2 := ne_ti h2
  have g3 : x.toInt ≠ 3 := ne_ti h3
  have g4 : x.toInt ≠ 4 := ne_ti h4
  have g5 : x.toInt ≠ 5 := ne_ti h5
  have g6 : x.toInt ≠ 6 := ne_ti h6
  have g7 : x.toInt ≠ 7 := ne_ti h7
  have g8 : x.toInt ≠ 8 := ne_ti h8
  omega
end
section
theorem d_A_init_0 : decode b_A_init 0 = .ok (.aload_n 0, 1) := by decide +kernel
theorem d_A_init_1 : decode b_A_init 1 = .ok (.invokespecial 1, 3) := by decide +kernel
theorem d_A_init_4 : decode b_A_init 4 = .ok (.return_, 1) := by decide +kernel
theorem d_A_forgetRun_0 : decode b_A_forgetRun 0 = .ok (.aload_n 0, 1) := by decide +kernel
theorem d_A_forgetRun_1 : decode b_A_forgetRun 1 = .ok (.iconst 0, 1) := by decide +kernel
theorem d_A_forgetRun_2 : decode b_A_forgetRun 2 = .ok (.putfield 7, 3) := by decide +kernel
theorem d_A_forgetRun_5 : decode b_A_forgetRun 5 = .ok (.aload_n 0, 1) := by decide +kernel
theorem d_A_forgetRun_6 : decode b_A_forgetRun 6 = .ok (.iconst 0, 1) := by decide +kernel
theorem d_A_forgetRun_7 : decode b_A_forgetRun 7 = .ok (.putfield 13, 3) := by decide +kernel
theorem d_A_forgetRun_10 : decode b_A_forgetRun 10 = .ok (.aload_n 0, 1) := by decide +kernel
theorem d_A_forgetRun_11 : decode b_A_forgetRun 11 = .ok (.iconst 0, 1) := by decide +kernel
theorem d_A_forgetRun_12 : decode b_A_forgetRun 12 = .ok (.putfield 16, 3) := by decide +kernel
theorem d_A_forgetRun_15 : decode b_A_forgetRun 15 = .ok (.return_, 1) := by decide +kernel
theorem d_A_isDue_0 : decode b_A_isDue 0 = .ok (.aload_n 0, 1) := by decide +kernel
theorem d_A_isDue_1 : decode b_A_isDue 1 = .ok (.getfield 19, 3) := by decide +kernel
theorem d_A_isDue_4 : decode b_A_isDue 4 = .ok (.ifCond .eq 18, 3) := by decide +kernel
theorem d_A_isDue_7 : decode b_A_isDue 7 = .ok (.aload_n 0, 1) := by decide +kernel
theorem d_A_isDue_8 : decode b_A_isDue 8 = .ok (.getfield 23, 3) := by decide +kernel
theorem d_A_isDue_11 : decode b_A_isDue 11 = .ok (.aload_n 0, 1) := by decide +kernel
theorem d_A_isDue_12 : decode b_A_isDue 12 = .ok (.getfield 26, 3) := by decide +kernel
theorem d_A_isDue_15 : decode b_A_isDue 15 = .ok (.if_icmp .ge 7, 3) := by decide +kernel
theorem d_A_isDue_18 : decode b_A_isDue 18 = .ok (.iconst 1, 1) := by decide +kernel
theorem d_A_isDue_19 : decode b_A_isDue 19 = .ok (.goto 4, 3) := by decide +kernel
theorem d_A_isDue_22 : decode b_A_isDue 22 = .ok (.iconst 0, 1) := by decide +kernel
theorem d_A_isDue_23 : decode b_A_isDue 23 = .ok (.ireturn, 1) := by decide +kernel
theorem d_A_answerTo_0 : decode b_A_answerTo 0 = .ok (.aload_n 0, 1) := by decide +kernel
theorem d_A_answerTo_1 : decode b_A_answerTo 1 = .ok (.dup, 1) := by decide +kernel
theorem d_A_answerTo_2 : decode b_A_answerTo 2 = .ok (.getfield 13, 3) := by decide +kernel
theorem d_A_answerTo_5 : decode b_A_answerTo 5 = .ok (.iload_n 1, 1) := by decide +kernel
theorem d_A_answerTo_6 : decode b_A_answerTo 6 = .ok (.iadd, 1) := by decide +kernel
theorem d_A_answerTo_7 : decode b_A_answerTo 7 = .ok (.putfield 13, 3) := by decide +kernel
theorem d_A_answerTo_10 : decode b_A_answerTo 10 = .ok (.iload_n 1, 1) := by decide +kernel
theorem d_A_answerTo_11 : decode b_A_answerTo 11 = .ok (.aload_n 0, 1) := by decide +kernel
theorem d_A_answerTo_12 : decode b_A_answerTo 12 = .ok (.getfield 7, 3) := by decide +kernel
theorem d_A_answerTo_15 : decode b_A_answerTo 15 = .ok (.isub, 1) := by decide +kernel
theorem d_A_answerTo_16 : decode b_A_answerTo 16 = .ok (.istore_n 2, 1) := by decide +kernel
theorem d_A_answerTo_17 : decode b_A_answerTo 17 = .ok (.aload_n 0, 1) := by decide +kernel
theorem d_A_answerTo_18 : decode b_A_answerTo 18 = .ok (.iload_n 1, 1) := by decide +kernel
theorem d_A_answerTo_19 : decode b_A_answerTo 19 = .ok (.putfield 7, 3) := by decide +kernel
theorem d_A_answerTo_22 : decode b_A_answerTo 22 = .ok (.aload_n 0, 1) := by decide +kernel
theorem d_A_answerTo_23 : decode b_A_answerTo 23 = .ok (.getfield 29, 3) := by decide +kernel
theorem d_A_answerTo_26 : decode b_A_answerTo 26 = .ok (.tableswitch 45 0 2 #[26, 33, 40], 26) := by decide +kernel
theorem d_A_answerTo_52 : decode b_A_answerTo 52 = .ok (.aload_n 0, 1) := by decide +kernel
theorem d_A_answerTo_53 : decode b_A_answerTo 53 = .ok (.getfield 32, 3) := by decide +kernel
theorem d_A_answerTo_56 : decode b_A_answerTo 56 = .ok (.iload_n 1, 1) := by decide +kernel
theorem d_A_answerTo_57 : decode b_A_answerTo 57 = .ok (.iadd, 1) := by decide +kernel
theorem d_A_answerTo_58 : decode b_A_answerTo 58 = .ok (.ireturn, 1) := by decide +kernel
theorem d_A_answerTo_59 : decode b_A_answerTo 59 = .ok (.aload_n 0, 1) := by decide +kernel
theorem d_A_answerTo_60 : decode b_A_answerTo 60 = .ok (.getfield 32, 3) := by decide +kernel
theorem d_A_answerTo_63 : decode b_A_answerTo 63 = .ok (.iload_n 1, 1) := by decide +kernel
theorem d_A_answerTo_64 : decode b_A_answerTo 64 = .ok (.imul, 1) := by decide +kernel
theorem d_A_answerTo_65 : decode b_A_answerTo 65 = .ok (.ireturn, 1) := by decide +kernel
theorem d_A_answerTo_66 : decode b_A_answerTo 66 = .ok (.aload_n 0, 1) := by decide +kernel
theorem d_A_answerTo_67 : decode b_A_answerTo 67 = .ok (.getfield 13, 3) := by decide +kernel
theorem d_A_answerTo_70 : decode b_A_answerTo 70 = .ok (.ireturn, 1) := by decide +kernel
theorem d_A_answerTo_71 : decode b_A_answerTo 71 = .ok (.iload_n 2, 1) := by decide +kernel
theorem d_A_answerTo_72 : decode b_A_answerTo 72 = .ok (.ireturn, 1) := by decide +kernel
theorem d_E_init_0 : decode b_E_init 0 = .ok (.aload_n 0, 1) := by decide +kernel
theorem d_E_init_1 : decode b_E_init 1 = .ok (.invokespecial 1, 3) := by decide +kernel
theorem d_E_init_4 : decode b_E_init 4 = .ok (.aload_n 0, 1) := by decide +kernel
theorem d_E_init_5 : decode b_E_init 5 = .ok (.sipush 256, 3) := by decide +kernel
theorem d_E_init_8 : decode b_E_init 8 = .ok (.newarray .int, 2) := by decide +kernel
theorem d_E_init_10 : decode b_E_init 10 = .ok (.putfield 9, 3) := by decide +kernel
theorem d_E_init_13 : decode b_E_init 13 = .ok (.return_, 1) := by decide +kernel
theorem d_E_isLoop_0 : decode b_E_isLoop 0 = .ok (.aload_n 0, 1) := by decide +kernel
theorem d_E_isLoop_1 : decode b_E_isLoop 1 = .ok (.getfield 13, 3) := by decide +kernel
theorem d_E_isLoop_4 : decode b_E_isLoop 4 = .ok (.aload_n 0, 1) := by decide +kernel
theorem d_E_isLoop_5 : decode b_E_isLoop 5 = .ok (.getfield 17, 3) := by decide +kernel
theorem d_E_isLoop_8 : decode b_E_isLoop 8 = .ok (.if_icmp .ne 7, 3) := by decide +kernel
theorem d_E_isLoop_11 : decode b_E_isLoop 11 = .ok (.iconst 1, 1) := by decide +kernel
theorem d_E_isLoop_12 : decode b_E_isLoop 12 = .ok (.goto 4, 3) := by decide +kernel
theorem d_E_isLoop_15 : decode b_E_isLoop 15 = .ok (.iconst 0, 1) := by decide +kernel
theorem d_E_isLoop_16 : decode b_E_isLoop 16 = .ok (.ireturn, 1) := by decide +kernel
theorem d_E_setAsAtFirst_0 : decode b_E_setAsAtFirst 0 = .ok (.iconst 0, 1) := by decide +kernel
theorem d_E_setAsAtFirst_1 : decode b_E_setAsAtFirst 1 = .ok (.istore_n 1, 1) := by decide +kernel
theorem d_E_setAsAtFirst_2 : decode b_E_setAsAtFirst 2 = .ok (.iload_n 1, 1) := by decide +kernel
theorem d_E_setAsAtFirst_3 : decode b_E_setAsAtFirst 3 = .ok (.aload_n 0, 1) := by decide +kernel
theorem d_E_setAsAtFirst_4 : decode b_E_setAsAtFirst 4 = .ok (.getfield 20, 3) := by decide +kernel
theorem d_E_setAsAtFirst_7 : decode b_E_setAsAtFirst 7 = .ok (.if_icmp .ge 20, 3) := by decide +kernel
theorem d_E_setAsAtFirst_10 : decode b_E_setAsAtFirst 10 = .ok (.aload_n 0, 1) := by decide +kernel
theorem d_E_setAsAtFirst_11 : decode b_E_setAsAtFirst 11 = .ok (.getfield 9, 3) := by decide +kernel
theorem d_E_setAsAtFirst_14 : decode b_E_setAsAtFirst 14 = .ok (.iload_n 1, 1) := by decide +kernel
theorem d_E_setAsAtFirst_15 : decode b_E_setAsAtFirst 15 = .ok (.sipush 255, 3) := by decide +kernel
theorem d_E_setAsAtFirst_18 : decode b_E_setAsAtFirst 18 = .ok (.iand, 1) := by decide +kernel
theorem d_E_setAsAtFirst_19 : decode b_E_setAsAtFirst 19 = .ok (.iconst 0, 1) := by decide +kernel
theorem d_E_setAsAtFirst_20 : decode b_E_setAsAtFirst 20 = .ok (.iastore, 1) := by decide +kernel
theorem d_E_setAsAtFirst_21 : decode b_E_setAsAtFirst 21 = .ok (.iinc 1 1, 3) := by decide +kernel
theorem d_E_setAsAtFirst_24 : decode b_E_setAsAtFirst 24 = .ok (.goto (-22), 3) := by decide +kernel
theorem d_E_setAsAtFirst_27 : decode b_E_setAsAtFirst 27 = .ok (.aload_n 0, 1) := by decide +kernel
theorem d_E_setAsAtFirst_28 : decode b_E_setAsAtFirst 28 = .ok (.iconst 0, 1) := by decide +kernel
theorem d_E_setAsAtFirst_29 : decode b_E_setAsAtFirst 29 = .ok (.putfield 23, 3) := by decide +kernel
theorem d_E_setAsAtFirst_32 : decode b_E_setAsAtFirst 32 = .ok (.aload_n 0, 1) := by decide +kernel
theorem d_E_setAsAtFirst_33 : decode b_E_setAsAtFirst 33 = .ok (.aload_n 0, 1) := by decide +kernel
theorem d_E_setAsAtFirst_34 : decode b_E_setAsAtFirst 34 = .ok (.getfield 20, 3) := by decide +kernel
theorem d_E_setAsAtFirst_37 : decode b_E_setAsAtFirst 37 = .ok (.putfield 26, 3) := by decide +kernel
theorem d_E_setAsAtFirst_40 : decode b_E_setAsAtFirst 40 = .ok (.return_, 1) := by decide +kernel
theorem d_E_at_0 : decode b_E_at 0 = .ok (.aload_n 0, 1) := by decide +kernel
theorem d_E_at_1 : decode b_E_at 1 = .ok (.getfield 9, 3) := by decide +kernel
theorem d_E_at_4 : decode b_E_at 4 = .ok (.aload_n 0, 1) := by decide +kernel
theorem d_E_at_5 : decode b_E_at 5 = .ok (.getfield 23, 3) := by decide +kernel
theorem d_E_at_8 : decode b_E_at 8 = .ok (.iload_n 1, 1) := by decide +kernel
theorem d_E_at_9 : decode b_E_at 9 = .ok (.iadd, 1) := by decide +kernel
theorem d_E_at_10 : decode b_E_at 10 = .ok (.sipush 255, 3) := by decide +kernel
theorem d_E_at_13 : decode b_E_at 13 = .ok (.iand, 1) := by decide +kernel
theorem d_E_at_14 : decode b_E_at 14 = .ok (.iaload, 1) := by decide +kernel
theorem d_E_at_15 : decode b_E_at 15 = .ok (.ireturn, 1) := by decide +kernel
theorem d_E_takeWeighed_0 : decode b_E_takeWeighed 0 = .ok (.iconst 0, 1) := by decide +kernel
theorem d_E_takeWeighed_1 : decode b_E_takeWeighed 1 = .ok (.istore_n 1, 1) := by decide +kernel
theorem d_E_takeWeighed_2 : decode b_E_takeWeighed 2 = .ok (.iconst 0, 1) := by decide +kernel
theorem d_E_takeWeighed_3 : decode b_E_takeWeighed 3 = .ok (.istore_n 2, 1) := by decide +kernel
theorem d_E_takeWeighed_4 : decode b_E_takeWeighed 4 = .ok (.iload_n 2, 1) := by decide +kernel
theorem d_E_takeWeighed_5 : decode b_E_takeWeighed 5 = .ok (.aload_n 0, 1) := by decide +kernel
theorem d_E_takeWeighed_6 : decode b_E_takeWeighed 6 = .ok (.getfield 29, 3) := by decide +kernel
theorem d_E_takeWeighed_9 : decode b_E_takeWeighed 9 = .ok (.if_icmp .ge 21, 3) := by decide +kernel
theorem d_E_takeWeighed_12 : decode b_E_takeWeighed 12 = .ok (.iload_n 1, 1) := by decide +kernel
theorem d_E_takeWeighed_13 : decode b_E_takeWeighed 13 = .ok (.aload_n 0, 1) := by decide +kernel
theorem d_E_takeWeighed_14 : decode b_E_takeWeighed 14 = .ok (.iload_n 2, 1) := by decide +kernel
theorem d_E_takeWeighed_15 : decode b_E_takeWeighed 15 = .ok (.invokevirtual 32, 3) := by decide +kernel
theorem d_E_takeWeighed_18 : decode b_E_takeWeighed 18 = .ok (.iload_n 2, 1) := by decide +kernel
theorem d_E_takeWeighed_19 : decode b_E_takeWeighed 19 = .ok (.iconst 1, 1) := by decide +kernel
theorem d_E_takeWeighed_20 : decode b_E_takeWeighed 20 = .ok (.iadd, 1) := by decide +kernel
theorem d_E_takeWeighed_21 : decode b_E_takeWeighed 21 = .ok (.imul, 1) := by decide +kernel
theorem d_E_takeWeighed_22 : decode b_E_takeWeighed 22 = .ok (.iadd, 1) := by decide +kernel
theorem d_E_takeWeighed_23 : decode b_E_takeWeighed 23 = .ok (.istore_n 1, 1) := by decide +kernel
theorem d_E_takeWeighed_24 : decode b_E_takeWeighed 24 = .ok (.iinc 2 1, 3) := by decide +kernel
theorem d_E_takeWeighed_27 : decode b_E_takeWeighed 27 = .ok (.goto (-23), 3) := by decide +kernel
theorem d_E_takeWeighed_30 : decode b_E_takeWeighed 30 = .ok (.aload_n 0, 1) := by decide +kernel
theorem d_E_takeWeighed_31 : decode b_E_takeWeighed 31 = .ok (.aload_n 0, 1) := by decide +kernel
theorem d_E_takeWeighed_32 : decode b_E_takeWeighed 32 = .ok (.getfield 23, 3) := by decide +kernel
theorem d_E_takeWeighed_35 : decode b_E_takeWeighed 35 = .ok (.aload_n 0, 1) := by decide +kernel
theorem d_E_takeWeighed_36 : decode b_E_takeWeighed 36 = .ok (.getfield 29, 3) := by decide +kernel
theorem d_E_takeWeighed_39 : decode b_E_takeWeighed 39 = .ok (.iadd, 1) := by decide +kernel
theorem d_E_takeWeighed_40 : decode b_E_takeWeighed 40 = .ok (.sipush 255, 3) := by decide +kernel
theorem d_E_takeWeighed_43 : decode b_E_takeWeighed 43 = .ok (.iand, 1) := by decide +kernel
theorem d_E_takeWeighed_44 : decode b_E_takeWeighed 44 = .ok (.putfield 23, 3) := by decide +kernel
theorem d_E_takeWeighed_47 : decode b_E_takeWeighed 47 = .ok (.aload_n 0, 1) := by decide +kernel
theorem d_E_takeWeighed_48 : decode b_E_takeWeighed 48 = .ok (.dup, 1) := by decide +kernel
theorem d_E_takeWeighed_49 : decode b_E_takeWeighed 49 = .ok (.getfield 26, 3) := by decide +kernel
theorem d_E_takeWeighed_52 : decode b_E_takeWeighed 52 = .ok (.aload_n 0, 1) := by decide +kernel
theorem d_E_takeWeighed_53 : decode b_E_takeWeighed 53 = .ok (.getfield 29, 3) := by decide +kernel
theorem d_E_takeWeighed_56 : decode b_E_takeWeighed 56 = .ok (.isub, 1) := by decide +kernel
theorem d_E_takeWeighed_57 : decode b_E_takeWeighed 57 = .ok (.putfield 26, 3) := by decide +kernel
theorem d_E_takeWeighed_60 : decode b_E_takeWeighed 60 = .ok (.iload_n 1, 1) := by decide +kernel
theorem d_E_takeWeighed_61 : decode b_E_takeWeighed 61 = .ok (.ireturn, 1) := by decide +kernel
theorem d_E_putFrom_0 : decode b_E_putFrom 0 = .ok (.iconst 0, 1) := by decide +kernel
theorem d_E_putFrom_1 : decode b_E_putFrom 1 = .ok (.istore_n 2, 1) := by decide +kernel
theorem d_E_putFrom_2 : decode b_E_putFrom 2 = .ok (.iload_n 2, 1) := by decide +kernel
theorem d_E_putFrom_3 : decode b_E_putFrom 3 = .ok (.aload_n 0, 1) := by decide +kernel
theorem d_E_putFrom_4 : decode b_E_putFrom 4 = .ok (.getfield 36, 3) := by decide +kernel
theorem d_E_putFrom_7 : decode b_E_putFrom 7 = .ok (.if_icmp .ge 32, 3) := by decide +kernel
theorem d_E_putFrom_10 : decode b_E_putFrom 10 = .ok (.aload_n 0, 1) := by decide +kernel
theorem d_E_putFrom_11 : decode b_E_putFrom 11 = .ok (.getfield 9, 3) := by decide +kernel
theorem d_E_putFrom_14 : decode b_E_putFrom 14 = .ok (.aload_n 0, 1) := by decide +kernel
theorem d_E_putFrom_15 : decode b_E_putFrom 15 = .ok (.getfield 23, 3) := by decide +kernel
theorem d_E_putFrom_18 : decode b_E_putFrom 18 = .ok (.aload_n 0, 1) := by decide +kernel
theorem d_E_putFrom_19 : decode b_E_putFrom 19 = .ok (.getfield 26, 3) := by decide +kernel
theorem d_E_putFrom_22 : decode b_E_putFrom 22 = .ok (.iadd, 1) := by decide +kernel
theorem d_E_putFrom_23 : decode b_E_putFrom 23 = .ok (.iload_n 2, 1) := by decide +kernel
theorem d_E_putFrom_24 : decode b_E_putFrom 24 = .ok (.iadd, 1) := by decide +kernel
theorem d_E_putFrom_25 : decode b_E_putFrom 25 = .ok (.sipush 255, 3) := by decide +kernel
theorem d_E_putFrom_28 : decode b_E_putFrom 28 = .ok (.iand, 1) := by decide +kernel
theorem d_E_putFrom_29 : decode b_E_putFrom 29 = .ok (.iload_n 1, 1) := by decide +kernel
theorem d_E_putFrom_30 : decode b_E_putFrom 30 = .ok (.iload_n 2, 1) := by decide +kernel
theorem d_E_putFrom_31 : decode b_E_putFrom 31 = .ok (.iadd, 1) := by decide +kernel
theorem d_E_putFrom_32 : decode b_E_putFrom 32 = .ok (.iastore, 1) := by decide +kernel
theorem d_E_putFrom_33 : decode b_E_putFrom 33 = .ok (.iinc 2 1, 3) := by decide +kernel
theorem d_E_putFrom_36 : decode b_E_putFrom 36 = .ok (.goto (-34), 3) := by decide +kernel
theorem d_E_putFrom_39 : decode b_E_putFrom 39 = .ok (.aload_n 0, 1) := by decide +kernel
theorem d_E_putFrom_40 : decode b_E_putFrom 40 = .ok (.dup, 1) := by decide +kernel
theorem d_E_putFrom_41 : decode b_E_putFrom 41 = .ok (.getfield 26, 3) := by decide +kernel
theorem d_E_putFrom_44 : decode b_E_putFrom 44 = .ok (.aload_n 0, 1) := by decide +kernel
theorem d_E_putFrom_45 : decode b_E_putFrom 45 = .ok (.getfield 36, 3) := by decide +kernel
theorem d_E_putFrom_48 : decode b_E_putFrom 48 = .ok (.iadd, 1) := by decide +kernel
theorem d_E_putFrom_49 : decode b_E_putFrom 49 = .ok (.putfield 26, 3) := by decide +kernel
theorem d_E_putFrom_52 : decode b_E_putFrom 52 = .ok (.return_, 1) := by decide +kernel
theorem d_G_init_0 : decode b_G_init 0 = .ok (.aload_n 0, 1) := by decide +kernel
theorem d_G_init_1 : decode b_G_init 1 = .ok (.invokespecial 1, 3) := by decide +kernel
theorem d_G_init_4 : decode b_G_init 4 = .ok (.aload_n 0, 1) := by decide +kernel
theorem d_G_init_5 : decode b_G_init 5 = .ok (.bipush 8, 2) := by decide +kernel
theorem d_G_init_7 : decode b_G_init 7 = .ok (.anewarray 9, 3) := by decide +kernel
theorem d_G_init_10 : decode b_G_init 10 = .ok (.putfield 11, 3) := by decide +kernel
theorem d_G_init_13 : decode b_G_init 13 = .ok (.aload_n 0, 1) := by decide +kernel
theorem d_G_init_14 : decode b_G_init 14 = .ok (.bipush 12, 2) := by decide +kernel
theorem d_G_init_16 : decode b_G_init 16 = .ok (.anewarray 15, 3) := by decide +kernel
theorem d_G_init_19 : decode b_G_init 19 = .ok (.putfield 17, 3) := by decide +kernel
theorem d_G_init_22 : decode b_G_init 22 = .ok (.aload_n 0, 1) := by decide +kernel
theorem d_G_init_23 : decode b_G_init 23 = .ok (.bipush 8, 2) := by decide +kernel
theorem d_G_init_25 : decode b_G_init 25 = .ok (.newarray .int, 2) := by decide +kernel
theorem d_G_init_27 : decode b_G_init 27 = .ok (.putfield 21, 3) := by decide +kernel
theorem d_G_init_30 : decode b_G_init 30 = .ok (.aload_n 0, 1) := by decide +kernel
theorem d_G_init_31 : decode b_G_init 31 = .ok (.bipush 8, 2) := by decide +kernel
theorem d_G_init_33 : decode b_G_init 33 = .ok (.bipush 8, 2) := by decide +kernel
theorem d_G_init_35 : decode b_G_init 35 = .ok (.multianewarray 25 2, 4) := by decide +kernel
theorem d_G_init_39 : decode b_G_init 39 = .ok (.putfield 27, 3) := by decide +kernel
theorem d_G_init_42 : decode b_G_init 42 = .ok (.aload_n 0, 1) := by decide +kernel
theorem d_G_init_43 : decode b_G_init 43 = .ok (.bipush 64, 2) := by decide +kernel
theorem d_G_init_45 : decode b_G_init 45 = .ok (.newarray .int, 2) := by decide +kernel
theorem d_G_init_47 : decode b_G_init 47 = .ok (.putfield 30, 3) := by decide +kernel
theorem d_G_init_50 : decode b_G_init 50 = .ok (.iconst 0, 1) := by decide +kernel
theorem d_G_init_51 : decode b_G_init 51 = .ok (.istore_n 1, 1) := by decide +kernel
theorem d_G_init_52 : decode b_G_init 52 = .ok (.iload_n 1, 1) := by decide +kernel
theorem d_G_init_53 : decode b_G_init 53 = .ok (.bipush 8, 2) := by decide +kernel
theorem d_G_init_55 : decode b_G_init 55 = .ok (.if_icmp .ge 22, 3) := by decide +kernel
theorem d_G_init_58 : decode b_G_init 58 = .ok (.aload_n 0, 1) := by decide +kernel
theorem d_G_init_59 : decode b_G_init 59 = .ok (.getfield 11, 3) := by decide +kernel
theorem d_G_init_62 : decode b_G_init 62 = .ok (.iload_n 1, 1) := by decide +kernel
theorem d_G_init_63 : decode b_G_init 63 = .ok (.new 9, 3) := by decide +kernel
theorem d_G_init_66 : decode b_G_init 66 = .ok (.dup, 1) := by decide +kernel
theorem d_G_init_67 : decode b_G_init 67 = .ok (.invokespecial 33, 3) := by decide +kernel
theorem d_G_init_70 : decode b_G_init 70 = .ok (.aastore, 1) := by decide +kernel
theorem d_G_init_71 : decode b_G_init 71 = .ok (.iinc 1 1, 3) := by decide +kernel
theorem d_G_init_74 : decode b_G_init 74 = .ok (.goto (-22), 3) := by decide +kernel
theorem d_G_init_77 : decode b_G_init 77 = .ok (.iconst 0, 1) := by decide +kernel
theorem d_G_init_78 : decode b_G_init 78 = .ok (.istore_n 1, 1) := by decide +kernel
theorem d_G_init_79 : decode b_G_init 79 = .ok (.iload_n 1, 1) := by decide +kernel
theorem d_G_init_80 : decode b_G_init 80 = .ok (.bipush 12, 2) := by decide +kernel
theorem d_G_init_82 : decode b_G_init 82 = .ok (.if_icmp .ge 22, 3) := by decide +kernel
theorem d_G_init_85 : decode b_G_init 85 = .ok (.aload_n 0, 1) := by decide +kernel
theorem d_G_init_86 : decode b_G_init 86 = .ok (.getfield 17, 3) := by decide +kernel
theorem d_G_init_89 : decode b_G_init 89 = .ok (.iload_n 1, 1) := by decide +kernel
theorem d_G_init_90 : decode b_G_init 90 = .ok (.new 15, 3) := by decide +kernel
theorem d_G_init_93 : decode b_G_init 93 = .ok (.dup, 1) := by decide +kernel
theorem d_G_init_94 : decode b_G_init 94 = .ok (.invokespecial 34, 3) := by decide +kernel
theorem d_G_init_97 : decode b_G_init 97 = .ok (.aastore, 1) := by decide +kernel
theorem d_G_init_98 : decode b_G_init 98 = .ok (.iinc 1 1, 3) := by decide +kernel
theorem d_G_init_101 : decode b_G_init 101 = .ok (.goto (-22), 3) := by decide +kernel
theorem d_G_init_104 : decode b_G_init 104 = .ok (.return_, 1) := by decide +kernel
theorem d_G_actor_0 : decode b_G_actor 0 = .ok (.iload_n 1, 1) := by decide +kernel
theorem d_G_actor_1 : decode b_G_actor 1 = .ok (.iconst 0, 1) := by decide +kernel
theorem d_G_actor_2 : decode b_G_actor 2 = .ok (.bipush 7, 2) := by decide +kernel
theorem d_G_actor_4 : decode b_G_actor 4 = .ok (.invokestatic 35, 3) := by decide +kernel
theorem d_G_actor_7 : decode b_G_actor 7 = .ok (.ifCond .eq 12, 3) := by decide +kernel
theorem d_G_actor_10 : decode b_G_actor 10 = .ok (.iload_n 2, 1) := by decide +kernel
theorem d_G_actor_11 : decode b_G_actor 11 = .ok (.iconst 0, 1) := by decide +kernel
theorem d_G_actor_12 : decode b_G_actor 12 = .ok (.iconst 3, 1) := by decide +kernel
theorem d_G_actor_13 : decode b_G_actor 13 = .ok (.invokestatic 35, 3) := by decide +kernel
theorem d_G_actor_16 : decode b_G_actor 16 = .ok (.ifCond .ne 5, 3) := by decide +kernel
theorem d_G_actor_19 : decode b_G_actor 19 = .ok (.iconst (-1), 1) := by decide +kernel
theorem d_G_actor_20 : decode b_G_actor 20 = .ok (.ireturn, 1) := by decide +kernel
theorem d_G_actor_21 : decode b_G_actor 21 = .ok (.aload_n 0, 1) := by decide +kernel
theorem d_G_actor_22 : decode b_G_actor 22 = .ok (.getfield 11, 3) := by decide +kernel
theorem d_G_actor_25 : decode b_G_actor 25 = .ok (.iload_n 1, 1) := by decide +kernel
theorem d_G_actor_26 : decode b_G_actor 26 = .ok (.aaload, 1) := by decide +kernel
theorem d_G_actor_27 : decode b_G_actor 27 = .ok (.astore 4, 2) := by decide +kernel
theorem d_G_actor_29 : decode b_G_actor 29 = .ok (.aload 4, 2) := by decide +kernel
theorem d_G_actor_31 : decode b_G_actor 31 = .ok (.iconst 1, 1) := by decide +kernel
theorem d_G_actor_32 : decode b_G_actor 32 = .ok (.putfield 39, 3) := by decide +kernel
theorem d_G_actor_35 : decode b_G_actor 35 = .ok (.aload 4, 2) := by decide +kernel
theorem d_G_actor_37 : decode b_G_actor 37 = .ok (.iload_n 2, 1) := by decide +kernel
theorem d_G_actor_38 : decode b_G_actor 38 = .ok (.putfield 43, 3) := by decide +kernel
theorem d_G_actor_41 : decode b_G_actor 41 = .ok (.aload 4, 2) := by decide +kernel
theorem d_G_actor_43 : decode b_G_actor 43 = .ok (.iload_n 3, 1) := by decide +kernel
theorem d_G_actor_44 : decode b_G_actor 44 = .ok (.putfield 47, 3) := by decide +kernel
theorem d_G_actor_47 : decode b_G_actor 47 = .ok (.aload_n 0, 1) := by decide +kernel
theorem d_G_actor_48 : decode b_G_actor 48 = .ok (.iconst 0, 1) := by decide +kernel
theorem d_G_actor_49 : decode b_G_actor 49 = .ok (.putfield 50, 3) := by decide +kernel
theorem d_G_actor_52 : decode b_G_actor 52 = .ok (.iconst 0, 1) := by decide +kernel
theorem d_G_actor_53 : decode b_G_actor 53 = .ok (.ireturn, 1) := by decide +kernel
theorem d_G_edge_0 : decode b_G_edge 0 = .ok (.aload_n 0, 1) := by decide +kernel
theorem d_G_edge_1 : decode b_G_edge 1 = .ok (.iload_n 1, 1) := by decide +kernel
theorem d_G_edge_2 : decode b_G_edge 2 = .ok (.invokevirtual 53, 3) := by decide +kernel
theorem d_G_edge_5 : decode b_G_edge 5 = .ok (.ifCond .eq 11, 3) := by decide +kernel
theorem d_G_edge_8 : decode b_G_edge 8 = .ok (.aload_n 0, 1) := by decide +kernel
theorem d_G_edge_9 : decode b_G_edge 9 = .ok (.iload_n 2, 1) := by decide +kernel
theorem d_G_edge_10 : decode b_G_edge 10 = .ok (.invokevirtual 53, 3) := by decide +kernel
theorem d_G_edge_13 : decode b_G_edge 13 = .ok (.ifCond .ne 5, 3) := by decide +kernel
theorem d_G_edge_16 : decode b_G_edge 16 = .ok (.iconst (-1), 1) := by decide +kernel
theorem d_G_edge_17 : decode b_G_edge 17 = .ok (.ireturn, 1) := by decide +kernel
theorem d_G_edge_18 : decode b_G_edge 18 = .ok (.iload_n 3, 1) := by decide +kernel
theorem d_G_edge_19 : decode b_G_edge 19 = .ok (.iconst 1, 1) := by decide +kernel
theorem d_G_edge_20 : decode b_G_edge 20 = .ok (.bipush 6, 2) := by decide +kernel
theorem d_G_edge_22 : decode b_G_edge 22 = .ok (.invokestatic 35, 3) := by decide +kernel
theorem d_G_edge_25 : decode b_G_edge 25 = .ok (.ifCond .eq 25, 3) := by decide +kernel
theorem d_G_edge_28 : decode b_G_edge 28 = .ok (.iload 4, 2) := by decide +kernel
theorem d_G_edge_30 : decode b_G_edge 30 = .ok (.iconst 1, 1) := by decide +kernel
theorem d_G_edge_31 : decode b_G_edge 31 = .ok (.bipush 6, 2) := by decide +kernel
theorem d_G_edge_33 : decode b_G_edge 33 = .ok (.invokestatic 35, 3) := by decide +kernel
theorem d_G_edge_36 : decode b_G_edge 36 = .ok (.ifCond .eq 14, 3) := by decide +kernel
theorem d_G_edge_39 : decode b_G_edge 39 = .ok (.iload 5, 2) := by decide +kernel
theorem d_G_edge_41 : decode b_G_edge 41 = .ok (.iconst 0, 1) := by decide +kernel
theorem d_G_edge_42 : decode b_G_edge 42 = .ok (.bipush 12, 2) := by decide +kernel
theorem d_G_edge_44 : decode b_G_edge 44 = .ok (.invokestatic 35, 3) := by decide +kernel
theorem d_G_edge_47 : decode b_G_edge 47 = .ok (.ifCond .ne 5, 3) := by decide +kernel
theorem d_G_edge_50 : decode b_G_edge 50 = .ok (.iconst (-1), 1) := by decide +kernel
theorem d_G_edge_51 : decode b_G_edge 51 = .ok (.ireturn, 1) := by decide +kernel
theorem d_G_edge_52 : decode b_G_edge 52 = .ok (.aload_n 0, 1) := by decide +kernel
theorem d_G_edge_53 : decode b_G_edge 53 = .ok (.getfield 57, 3) := by decide +kernel
theorem d_G_edge_56 : decode b_G_edge 56 = .ok (.bipush 12, 2) := by decide +kernel
theorem d_G_edge_58 : decode b_G_edge 58 = .ok (.if_icmp .lt 6, 3) := by decide +kernel
theorem d_G_edge_61 : decode b_G_edge 61 = .ok (.bipush (-2), 2) := by decide +kernel
theorem d_G_edge_63 : decode b_G_edge 63 = .ok (.ireturn, 1) := by decide +kernel
theorem d_G_edge_64 : decode b_G_edge 64 = .ok (.aload_n 0, 1) := by decide +kernel
theorem d_G_edge_65 : decode b_G_edge 65 = .ok (.getfield 17, 3) := by decide +kernel
theorem d_G_edge_68 : decode b_G_edge 68 = .ok (.aload_n 0, 1) := by decide +kernel
theorem d_G_edge_69 : decode b_G_edge 69 = .ok (.getfield 57, 3) := by decide +kernel
theorem d_G_edge_72 : decode b_G_edge 72 = .ok (.aaload, 1) := by decide +kernel
theorem d_G_edge_73 : decode b_G_edge 73 = .ok (.astore 6, 2) := by decide +kernel
theorem d_G_edge_75 : decode b_G_edge 75 = .ok (.aload 6, 2) := by decide +kernel
theorem d_G_edge_77 : decode b_G_edge 77 = .ok (.iload_n 1, 1) := by decide +kernel
theorem d_G_edge_78 : decode b_G_edge 78 = .ok (.putfield 60, 3) := by decide +kernel
theorem d_G_edge_81 : decode b_G_edge 81 = .ok (.aload 6, 2) := by decide +kernel
theorem d_G_edge_83 : decode b_G_edge 83 = .ok (.iload_n 2, 1) := by decide +kernel
theorem d_G_edge_84 : decode b_G_edge 84 = .ok (.putfield 63, 3) := by decide +kernel
theorem d_G_edge_87 : decode b_G_edge 87 = .ok (.aload 6, 2) := by decide +kernel
theorem d_G_edge_89 : decode b_G_edge 89 = .ok (.iload_n 3, 1) := by decide +kernel
theorem d_G_edge_90 : decode b_G_edge 90 = .ok (.putfield 66, 3) := by decide +kernel
theorem d_G_edge_93 : decode b_G_edge 93 = .ok (.aload 6, 2) := by decide +kernel
theorem d_G_edge_95 : decode b_G_edge 95 = .ok (.iload 4, 2) := by decide +kernel
theorem d_G_edge_97 : decode b_G_edge 97 = .ok (.putfield 69, 3) := by decide +kernel
theorem d_G_edge_100 : decode b_G_edge 100 = .ok (.aload 6, 2) := by decide +kernel
theorem d_G_edge_102 : decode b_G_edge 102 = .ok (.iload 5, 2) := by decide +kernel
theorem d_G_edge_104 : decode b_G_edge 104 = .ok (.putfield 72, 3) := by decide +kernel
theorem d_G_edge_107 : decode b_G_edge 107 = .ok (.aload_n 0, 1) := by decide +kernel
theorem d_G_edge_108 : decode b_G_edge 108 = .ok (.iconst 0, 1) := by decide +kernel
theorem d_G_edge_109 : decode b_G_edge 109 = .ok (.putfield 50, 3) := by decide +kernel
theorem d_G_edge_112 : decode b_G_edge 112 = .ok (.aload_n 0, 1) := by decide +kernel
theorem d_G_edge_113 : decode b_G_edge 113 = .ok (.dup, 1) := by decide +kernel
theorem d_G_edge_114 : decode b_G_edge 114 = .ok (.getfield 57, 3) := by decide +kernel
theorem d_G_edge_117 : decode b_G_edge 117 = .ok (.iconst 1, 1) := by decide +kernel
theorem d_G_edge_118 : decode b_G_edge 118 = .ok (.iadd, 1) := by decide +kernel
theorem d_G_edge_119 : decode b_G_edge 119 = .ok (.putfield 57, 3) := by decide +kernel
theorem d_G_edge_122 : decode b_G_edge 122 = .ok (.aload_n 0, 1) := by decide +kernel
theorem d_G_edge_123 : decode b_G_edge 123 = .ok (.getfield 57, 3) := by decide +kernel
theorem d_G_edge_126 : decode b_G_edge 126 = .ok (.iconst 1, 1) := by decide +kernel
theorem d_G_edge_127 : decode b_G_edge 127 = .ok (.isub, 1) := by decide +kernel
theorem d_G_edge_128 : decode b_G_edge 128 = .ok (.ireturn, 1) := by decide +kernel
theorem d_G_unedge_0 : decode b_G_unedge 0 = .ok (.aload_n 0, 1) := by decide +kernel
theorem d_G_unedge_1 : decode b_G_unedge 1 = .ok (.iload_n 1, 1) := by decide +kernel
theorem d_G_unedge_2 : decode b_G_unedge 2 = .ok (.invokevirtual 75, 3) := by decide +kernel
theorem d_G_unedge_5 : decode b_G_unedge 5 = .ok (.ifCond .ne 5, 3) := by decide +kernel
theorem d_G_unedge_8 : decode b_G_unedge 8 = .ok (.iconst (-1), 1) := by decide +kernel
theorem d_G_unedge_9 : decode b_G_unedge 9 = .ok (.ireturn, 1) := by decide +kernel
theorem d_G_unedge_10 : decode b_G_unedge 10 = .ok (.aload_n 0, 1) := by decide +kernel
theorem d_G_unedge_11 : decode b_G_unedge 11 = .ok (.getfield 17, 3) := by decide +kernel
theorem d_G_unedge_14 : decode b_G_unedge 14 = .ok (.iload_n 1, 1) := by decide +kernel
theorem d_G_unedge_15 : decode b_G_unedge 15 = .ok (.aaload, 1) := by decide +kernel
theorem d_G_unedge_16 : decode b_G_unedge 16 = .ok (.astore_n 2, 1) := by decide +kernel
theorem d_G_unedge_17 : decode b_G_unedge 17 = .ok (.iload_n 1, 1) := by decide +kernel
theorem d_G_unedge_18 : decode b_G_unedge 18 = .ok (.istore_n 3, 1) := by decide +kernel
theorem d_G_unedge_19 : decode b_G_unedge 19 = .ok (.iload_n 3, 1) := by decide +kernel
theorem d_G_unedge_20 : decode b_G_unedge 20 = .ok (.aload_n 0, 1) := by decide +kernel
theorem d_G_unedge_21 : decode b_G_unedge 21 = .ok (.getfield 57, 3) := by decide +kernel
theorem d_G_unedge_24 : decode b_G_unedge 24 = .ok (.iconst 1, 1) := by decide +kernel
theorem d_G_unedge_25 : decode b_G_unedge 25 = .ok (.isub, 1) := by decide +kernel
theorem d_G_unedge_26 : decode b_G_unedge 26 = .ok (.if_icmp .ge 23, 3) := by decide +kernel
theorem d_G_unedge_29 : decode b_G_unedge 29 = .ok (.aload_n 0, 1) := by decide +kernel
theorem d_G_unedge_30 : decode b_G_unedge 30 = .ok (.getfield 17, 3) := by decide +kernel
theorem d_G_unedge_33 : decode b_G_unedge 33 = .ok (.iload_n 3, 1) := by decide +kernel
theorem d_G_unedge_34 : decode b_G_unedge 34 = .ok (.aload_n 0, 1) := by decide +kernel
theorem d_G_unedge_35 : decode b_G_unedge 35 = .ok (.getfield 17, 3) := by decide +kernel
theorem d_G_unedge_38 : decode b_G_unedge 38 = .ok (.iload_n 3, 1) := by decide +kernel
theorem d_G_unedge_39 : decode b_G_unedge 39 = .ok (.iconst 1, 1) := by decide +kernel
theorem d_G_unedge_40 : decode b_G_unedge 40 = .ok (.iadd, 1) := by decide +kernel
theorem d_G_unedge_41 : decode b_G_unedge 41 = .ok (.aaload, 1) := by decide +kernel
theorem d_G_unedge_42 : decode b_G_unedge 42 = .ok (.aastore, 1) := by decide +kernel
theorem d_G_unedge_43 : decode b_G_unedge 43 = .ok (.iinc 3 1, 3) := by decide +kernel
theorem d_G_unedge_46 : decode b_G_unedge 46 = .ok (.goto (-27), 3) := by decide +kernel
theorem d_G_unedge_49 : decode b_G_unedge 49 = .ok (.aload_n 0, 1) := by decide +kernel
theorem d_G_unedge_50 : decode b_G_unedge 50 = .ok (.getfield 17, 3) := by decide +kernel
theorem d_G_unedge_53 : decode b_G_unedge 53 = .ok (.aload_n 0, 1) := by decide +kernel
theorem d_G_unedge_54 : decode b_G_unedge 54 = .ok (.getfield 57, 3) := by decide +kernel
theorem d_G_unedge_57 : decode b_G_unedge 57 = .ok (.iconst 1, 1) := by decide +kernel
theorem d_G_unedge_58 : decode b_G_unedge 58 = .ok (.isub, 1) := by decide +kernel
theorem d_G_unedge_59 : decode b_G_unedge 59 = .ok (.aload_n 2, 1) := by decide +kernel
theorem d_G_unedge_60 : decode b_G_unedge 60 = .ok (.aastore, 1) := by decide +kernel
theorem d_G_unedge_61 : decode b_G_unedge 61 = .ok (.aload_n 0, 1) := by decide +kernel
theorem d_G_unedge_62 : decode b_G_unedge 62 = .ok (.dup, 1) := by decide +kernel
theorem d_G_unedge_63 : decode b_G_unedge 63 = .ok (.getfield 57, 3) := by decide +kernel
theorem d_G_unedge_66 : decode b_G_unedge 66 = .ok (.iconst 1, 1) := by decide +kernel
theorem d_G_unedge_67 : decode b_G_unedge 67 = .ok (.isub, 1) := by decide +kernel
theorem d_G_unedge_68 : decode b_G_unedge 68 = .ok (.putfield 57, 3) := by decide +kernel
theorem d_G_unedge_71 : decode b_G_unedge 71 = .ok (.aload_n 0, 1) := by decide +kernel
theorem d_G_unedge_72 : decode b_G_unedge 72 = .ok (.iconst 0, 1) := by decide +kernel
theorem d_G_unedge_73 : decode b_G_unedge 73 = .ok (.putfield 50, 3) := by decide +kernel
theorem d_G_unedge_76 : decode b_G_unedge 76 = .ok (.aload_n 0, 1) := by decide +kernel
theorem d_G_unedge_77 : decode b_G_unedge 77 = .ok (.getfield 57, 3) := by decide +kernel
theorem d_G_unedge_80 : decode b_G_unedge 80 = .ok (.ireturn, 1) := by decide +kernel
theorem d_G_solve_0 : decode b_G_solve 0 = .ok (.iload_n 1, 1) := by decide +kernel
theorem d_G_solve_1 : decode b_G_solve 1 = .ok (.iconst 0, 1) := by decide +kernel
theorem d_G_solve_2 : decode b_G_solve 2 = .ok (.iconst 2, 1) := by decide +kernel
theorem d_G_solve_3 : decode b_G_solve 3 = .ok (.invokestatic 35, 3) := by decide +kernel
theorem d_G_solve_6 : decode b_G_solve 6 = .ok (.ifCond .ne 5, 3) := by decide +kernel
theorem d_G_solve_9 : decode b_G_solve 9 = .ok (.iconst (-1), 1) := by decide +kernel
theorem d_G_solve_10 : decode b_G_solve 10 = .ok (.ireturn, 1) := by decide +kernel
theorem d_G_solve_11 : decode b_G_solve 11 = .ok (.aload_n 0, 1) := by decide +kernel
theorem d_G_solve_12 : decode b_G_solve 12 = .ok (.invokevirtual 78, 3) := by decide +kernel
theorem d_G_solve_15 : decode b_G_solve 15 = .ok (.ifCond .ne 6, 3) := by decide +kernel
theorem d_G_solve_18 : decode b_G_solve 18 = .ok (.bipush (-4), 2) := by decide +kernel
theorem d_G_solve_20 : decode b_G_solve 20 = .ok (.ireturn, 1) := by decide +kernel
theorem d_G_solve_21 : decode b_G_solve 21 = .ok (.aload_n 0, 1) := by decide +kernel
theorem d_G_solve_22 : decode b_G_solve 22 = .ok (.iconst 0, 1) := by decide +kernel
theorem d_G_solve_23 : decode b_G_solve 23 = .ok (.putfield 50, 3) := by decide +kernel
theorem d_G_solve_26 : decode b_G_solve 26 = .ok (.aload_n 0, 1) := by decide +kernel
theorem d_G_solve_27 : decode b_G_solve 27 = .ok (.invokevirtual 82, 3) := by decide +kernel
theorem d_G_solve_30 : decode b_G_solve 30 = .ok (.istore_n 2, 1) := by decide +kernel
theorem d_G_solve_31 : decode b_G_solve 31 = .ok (.iload_n 2, 1) := by decide +kernel
theorem d_G_solve_32 : decode b_G_solve 32 = .ok (.iconst (-1), 1) := by decide +kernel
theorem d_G_solve_33 : decode b_G_solve 33 = .ok (.if_icmp .eq 8, 3) := by decide +kernel
theorem d_G_solve_36 : decode b_G_solve 36 = .ok (.bipush (-100), 2) := by decide +kernel
theorem d_G_solve_38 : decode b_G_solve 38 = .ok (.iload_n 2, 1) := by decide +kernel
theorem d_G_solve_39 : decode b_G_solve 39 = .ok (.isub, 1) := by decide +kernel
theorem d_G_solve_40 : decode b_G_solve 40 = .ok (.ireturn, 1) := by decide +kernel
theorem d_G_solve_41 : decode b_G_solve 41 = .ok (.aload_n 0, 1) := by decide +kernel
theorem d_G_solve_42 : decode b_G_solve 42 = .ok (.invokevirtual 85, 3) := by decide +kernel
theorem d_G_solve_45 : decode b_G_solve 45 = .ok (.istore_n 3, 1) := by decide +kernel
theorem d_G_solve_46 : decode b_G_solve 46 = .ok (.iload_n 3, 1) := by decide +kernel
theorem d_G_solve_47 : decode b_G_solve 47 = .ok (.bipush 64, 2) := by decide +kernel
theorem d_G_solve_49 : decode b_G_solve 49 = .ok (.if_icmp .le 6, 3) := by decide +kernel
theorem d_G_solve_52 : decode b_G_solve 52 = .ok (.bipush (-3), 2) := by decide +kernel
theorem d_G_solve_54 : decode b_G_solve 54 = .ok (.ireturn, 1) := by decide +kernel
theorem d_G_solve_55 : decode b_G_solve 55 = .ok (.aload_n 0, 1) := by decide +kernel
theorem d_G_solve_56 : decode b_G_solve 56 = .ok (.iload_n 3, 1) := by decide +kernel
theorem d_G_solve_57 : decode b_G_solve 57 = .ok (.putfield 88, 3) := by decide +kernel
theorem d_G_solve_60 : decode b_G_solve 60 = .ok (.aload_n 0, 1) := by decide +kernel
theorem d_G_solve_61 : decode b_G_solve 61 = .ok (.iload_n 1, 1) := by decide +kernel
theorem d_G_solve_62 : decode b_G_solve 62 = .ok (.invokevirtual 91, 3) := by decide +kernel
theorem d_G_solve_65 : decode b_G_solve 65 = .ok (.istore 4, 2) := by decide +kernel
theorem d_G_solve_67 : decode b_G_solve 67 = .ok (.iload 4, 2) := by decide +kernel
theorem d_G_solve_69 : decode b_G_solve 69 = .ok (.iconst (-1), 1) := by decide +kernel
theorem d_G_solve_70 : decode b_G_solve 70 = .ok (.if_icmp .eq 10, 3) := by decide +kernel
theorem d_G_solve_73 : decode b_G_solve 73 = .ok (.sipush (-200), 3) := by decide +kernel
theorem d_G_solve_76 : decode b_G_solve 76 = .ok (.iload 4, 2) := by decide +kernel
theorem d_G_solve_78 : decode b_G_solve 78 = .ok (.isub, 1) := by decide +kernel
theorem d_G_solve_79 : decode b_G_solve 79 = .ok (.ireturn, 1) := by decide +kernel
theorem d_G_solve_80 : decode b_G_solve 80 = .ok (.aload_n 0, 1) := by decide +kernel
theorem d_G_solve_81 : decode b_G_solve 81 = .ok (.invokevirtual 95, 3) := by decide +kernel
theorem d_G_solve_84 : decode b_G_solve 84 = .ok (.aload_n 0, 1) := by decide +kernel
theorem d_G_solve_85 : decode b_G_solve 85 = .ok (.iconst 1, 1) := by decide +kernel
theorem d_G_solve_86 : decode b_G_solve 86 = .ok (.putfield 50, 3) := by decide +kernel
theorem d_G_solve_89 : decode b_G_solve 89 = .ok (.aload_n 0, 1) := by decide +kernel
theorem d_G_solve_90 : decode b_G_solve 90 = .ok (.getfield 88, 3) := by decide +kernel
theorem d_G_solve_93 : decode b_G_solve 93 = .ok (.ireturn, 1) := by decide +kernel
theorem d_G_run_0 : decode b_G_run 0 = .ok (.iload_n 1, 1) := by decide +kernel
theorem d_G_run_1 : decode b_G_run 1 = .ok (.iconst 1, 1) := by decide +kernel
theorem d_G_run_2 : decode b_G_run 2 = .ok (.bipush 8, 2) := by decide +kernel
theorem d_G_run_4 : decode b_G_run 4 = .ok (.invokestatic 35, 3) := by decide +kernel
theorem d_G_run_7 : decode b_G_run 7 = .ok (.ifCond .ne 5, 3) := by decide +kernel
theorem d_G_run_10 : decode b_G_run 10 = .ok (.iconst (-1), 1) := by decide +kernel
theorem d_G_run_11 : decode b_G_run 11 = .ok (.ireturn, 1) := by decide +kernel
theorem d_G_run_12 : decode b_G_run 12 = .ok (.aload_n 0, 1) := by decide +kernel
theorem d_G_run_13 : decode b_G_run 13 = .ok (.getfield 50, 3) := by decide +kernel
theorem d_G_run_16 : decode b_G_run 16 = .ok (.ifCond .ne 6, 3) := by decide +kernel
theorem d_G_run_19 : decode b_G_run 19 = .ok (.bipush (-4), 2) := by decide +kernel
theorem d_G_run_21 : decode b_G_run 21 = .ok (.ireturn, 1) := by decide +kernel
theorem d_G_run_22 : decode b_G_run 22 = .ok (.iconst 0, 1) := by decide +kernel
theorem d_G_run_23 : decode b_G_run 23 = .ok (.istore_n 2, 1) := by decide +kernel
theorem d_G_run_24 : decode b_G_run 24 = .ok (.iload_n 2, 1) := by decide +kernel
theorem d_G_run_25 : decode b_G_run 25 = .ok (.iload_n 1, 1) := by decide +kernel
theorem d_G_run_26 : decode b_G_run 26 = .ok (.if_icmp .ge 35, 3) := by decide +kernel
theorem d_G_run_29 : decode b_G_run 29 = .ok (.iconst 0, 1) := by decide +kernel
theorem d_G_run_30 : decode b_G_run 30 = .ok (.istore_n 3, 1) := by decide +kernel
theorem d_G_run_31 : decode b_G_run 31 = .ok (.iload_n 3, 1) := by decide +kernel
theorem d_G_run_32 : decode b_G_run 32 = .ok (.aload_n 0, 1) := by decide +kernel
theorem d_G_run_33 : decode b_G_run 33 = .ok (.getfield 88, 3) := by decide +kernel
theorem d_G_run_36 : decode b_G_run 36 = .ok (.if_icmp .ge 19, 3) := by decide +kernel
theorem d_G_run_39 : decode b_G_run 39 = .ok (.aload_n 0, 1) := by decide +kernel
theorem d_G_run_40 : decode b_G_run 40 = .ok (.aload_n 0, 1) := by decide +kernel
theorem d_G_run_41 : decode b_G_run 41 = .ok (.getfield 30, 3) := by decide +kernel
theorem d_G_run_44 : decode b_G_run 44 = .ok (.iload_n 3, 1) := by decide +kernel
theorem d_G_run_45 : decode b_G_run 45 = .ok (.iaload, 1) := by decide +kernel
theorem d_G_run_46 : decode b_G_run 46 = .ok (.invokevirtual 98, 3) := by decide +kernel
theorem d_G_run_49 : decode b_G_run 49 = .ok (.iinc 3 1, 3) := by decide +kernel
theorem d_G_run_52 : decode b_G_run 52 = .ok (.goto (-21), 3) := by decide +kernel
theorem d_G_run_55 : decode b_G_run 55 = .ok (.iinc 2 1, 3) := by decide +kernel
theorem d_G_run_58 : decode b_G_run 58 = .ok (.goto (-34), 3) := by decide +kernel
theorem d_G_run_61 : decode b_G_run 61 = .ok (.aload_n 0, 1) := by decide +kernel
theorem d_G_run_62 : decode b_G_run 62 = .ok (.dup, 1) := by decide +kernel
theorem d_G_run_63 : decode b_G_run 63 = .ok (.getfield 102, 3) := by decide +kernel
theorem d_G_run_66 : decode b_G_run 66 = .ok (.iload_n 1, 1) := by decide +kernel
theorem d_G_run_67 : decode b_G_run 67 = .ok (.aload_n 0, 1) := by decide +kernel
theorem d_G_run_68 : decode b_G_run 68 = .ok (.getfield 88, 3) := by decide +kernel
theorem d_G_run_71 : decode b_G_run 71 = .ok (.imul, 1) := by decide +kernel
theorem d_G_run_72 : decode b_G_run 72 = .ok (.iadd, 1) := by decide +kernel
theorem d_G_run_73 : decode b_G_run 73 = .ok (.putfield 102, 3) := by decide +kernel
theorem d_G_run_76 : decode b_G_run 76 = .ok (.iload_n 1, 1) := by decide +kernel
theorem d_G_run_77 : decode b_G_run 77 = .ok (.aload_n 0, 1) := by decide +kernel
theorem d_G_run_78 : decode b_G_run 78 = .ok (.getfield 88, 3) := by decide +kernel
theorem d_G_run_81 : decode b_G_run 81 = .ok (.imul, 1) := by decide +kernel
theorem d_G_run_82 : decode b_G_run 82 = .ok (.ireturn, 1) := by decide +kernel
theorem d_G_repetitions_0 : decode b_G_repetitions 0 = .ok (.aload_n 0, 1) := by decide +kernel
theorem d_G_repetitions_1 : decode b_G_repetitions 1 = .ok (.iload_n 1, 1) := by decide +kernel
theorem d_G_repetitions_2 : decode b_G_repetitions 2 = .ok (.invokevirtual 53, 3) := by decide +kernel
theorem d_G_repetitions_5 : decode b_G_repetitions 5 = .ok (.ifCond .ne 5, 3) := by decide +kernel
theorem d_G_repetitions_8 : decode b_G_repetitions 8 = .ok (.iconst (-1), 1) := by decide +kernel
theorem d_G_repetitions_9 : decode b_G_repetitions 9 = .ok (.ireturn, 1) := by decide +kernel
theorem d_G_repetitions_10 : decode b_G_repetitions 10 = .ok (.aload_n 0, 1) := by decide +kernel
theorem d_G_repetitions_11 : decode b_G_repetitions 11 = .ok (.getfield 50, 3) := by decide +kernel
theorem d_G_repetitions_14 : decode b_G_repetitions 14 = .ok (.ifCond .eq 15, 3) := by decide +kernel
theorem d_G_repetitions_17 : decode b_G_repetitions 17 = .ok (.aload_n 0, 1) := by decide +kernel
theorem d_G_repetitions_18 : decode b_G_repetitions 18 = .ok (.getfield 11, 3) := by decide +kernel
theorem d_G_repetitions_21 : decode b_G_repetitions 21 = .ok (.iload_n 1, 1) := by decide +kernel
theorem d_G_repetitions_22 : decode b_G_repetitions 22 = .ok (.aaload, 1) := by decide +kernel
theorem d_G_repetitions_23 : decode b_G_repetitions 23 = .ok (.getfield 105, 3) := by decide +kernel
theorem d_G_repetitions_26 : decode b_G_repetitions 26 = .ok (.goto 5, 3) := by decide +kernel
theorem d_G_repetitions_29 : decode b_G_repetitions 29 = .ok (.bipush (-4), 2) := by decide +kernel
theorem d_G_repetitions_31 : decode b_G_repetitions 31 = .ok (.ireturn, 1) := by decide +kernel
theorem d_G_schedule_0 : decode b_G_schedule 0 = .ok (.aload_n 0, 1) := by decide +kernel
theorem d_G_schedule_1 : decode b_G_schedule 1 = .ok (.getfield 50, 3) := by decide +kernel
theorem d_G_schedule_4 : decode b_G_schedule 4 = .ok (.ifCond .ne 6, 3) := by decide +kernel
theorem d_G_schedule_7 : decode b_G_schedule 7 = .ok (.bipush (-4), 2) := by decide +kernel
theorem d_G_schedule_9 : decode b_G_schedule 9 = .ok (.ireturn, 1) := by decide +kernel
theorem d_G_schedule_10 : decode b_G_schedule 10 = .ok (.iload_n 1, 1) := by decide +kernel
theorem d_G_schedule_11 : decode b_G_schedule 11 = .ok (.iconst 0, 1) := by decide +kernel
theorem d_G_schedule_12 : decode b_G_schedule 12 = .ok (.aload_n 0, 1) := by decide +kernel
theorem d_G_schedule_13 : decode b_G_schedule 13 = .ok (.getfield 88, 3) := by decide +kernel
theorem d_G_schedule_16 : decode b_G_schedule 16 = .ok (.iconst 1, 1) := by decide +kernel
theorem d_G_schedule_17 : decode b_G_schedule 17 = .ok (.isub, 1) := by decide +kernel
theorem d_G_schedule_18 : decode b_G_schedule 18 = .ok (.invokestatic 35, 3) := by decide +kernel
theorem d_G_schedule_21 : decode b_G_schedule 21 = .ok (.ifCond .eq 12, 3) := by decide +kernel
theorem d_G_schedule_24 : decode b_G_schedule 24 = .ok (.aload_n 0, 1) := by decide +kernel
theorem d_G_schedule_25 : decode b_G_schedule 25 = .ok (.getfield 30, 3) := by decide +kernel
theorem d_G_schedule_28 : decode b_G_schedule 28 = .ok (.iload_n 1, 1) := by decide +kernel
theorem d_G_schedule_29 : decode b_G_schedule 29 = .ok (.iaload, 1) := by decide +kernel
theorem d_G_schedule_30 : decode b_G_schedule 30 = .ok (.goto 4, 3) := by decide +kernel
theorem d_G_schedule_33 : decode b_G_schedule 33 = .ok (.iconst (-1), 1) := by decide +kernel
theorem d_G_schedule_34 : decode b_G_schedule 34 = .ok (.ireturn, 1) := by decide +kernel
theorem d_G_peak_0 : decode b_G_peak 0 = .ok (.aload_n 0, 1) := by decide +kernel
theorem d_G_peak_1 : decode b_G_peak 1 = .ok (.iload_n 1, 1) := by decide +kernel
theorem d_G_peak_2 : decode b_G_peak 2 = .ok (.invokevirtual 75, 3) := by decide +kernel
theorem d_G_peak_5 : decode b_G_peak 5 = .ok (.ifCond .ne 5, 3) := by decide +kernel
theorem d_G_peak_8 : decode b_G_peak 8 = .ok (.iconst (-1), 1) := by decide +kernel
theorem d_G_peak_9 : decode b_G_peak 9 = .ok (.ireturn, 1) := by decide +kernel
theorem d_G_peak_10 : decode b_G_peak 10 = .ok (.aload_n 0, 1) := by decide +kernel
theorem d_G_peak_11 : decode b_G_peak 11 = .ok (.getfield 50, 3) := by decide +kernel
theorem d_G_peak_14 : decode b_G_peak 14 = .ok (.ifCond .eq 15, 3) := by decide +kernel
theorem d_G_peak_17 : decode b_G_peak 17 = .ok (.aload_n 0, 1) := by decide +kernel
theorem d_G_peak_18 : decode b_G_peak 18 = .ok (.getfield 17, 3) := by decide +kernel
theorem d_G_peak_21 : decode b_G_peak 21 = .ok (.iload_n 1, 1) := by decide +kernel
theorem d_G_peak_22 : decode b_G_peak 22 = .ok (.aaload, 1) := by decide +kernel
theorem d_G_peak_23 : decode b_G_peak 23 = .ok (.getfield 108, 3) := by decide +kernel
theorem d_G_peak_26 : decode b_G_peak 26 = .ok (.goto 5, 3) := by decide +kernel
theorem d_G_peak_29 : decode b_G_peak 29 = .ok (.bipush (-4), 2) := by decide +kernel
theorem d_G_peak_31 : decode b_G_peak 31 = .ok (.ireturn, 1) := by decide +kernel
theorem d_G_nested_0 : decode b_G_nested 0 = .ok (.aload_n 0, 1) := by decide +kernel
theorem d_G_nested_1 : decode b_G_nested 1 = .ok (.getfield 50, 3) := by decide +kernel
theorem d_G_nested_4 : decode b_G_nested 4 = .ok (.ifCond .eq 10, 3) := by decide +kernel
theorem d_G_nested_7 : decode b_G_nested 7 = .ok (.aload_n 0, 1) := by decide +kernel
theorem d_G_nested_8 : decode b_G_nested 8 = .ok (.invokevirtual 111, 3) := by decide +kernel
theorem d_G_nested_11 : decode b_G_nested 11 = .ok (.ifCond .ne 6, 3) := by decide +kernel
theorem d_G_nested_14 : decode b_G_nested 14 = .ok (.bipush (-4), 2) := by decide +kernel
theorem d_G_nested_16 : decode b_G_nested 16 = .ok (.ireturn, 1) := by decide +kernel
theorem d_G_nested_17 : decode b_G_nested 17 = .ok (.aload_n 0, 1) := by decide +kernel
theorem d_G_nested_18 : decode b_G_nested 18 = .ok (.invokevirtual 115, 3) := by decide +kernel
theorem d_G_nested_21 : decode b_G_nested 21 = .ok (.ireturn, 1) := by decide +kernel
theorem d_G_latest_0 : decode b_G_latest 0 = .ok (.aload_n 0, 1) := by decide +kernel
theorem d_G_latest_1 : decode b_G_latest 1 = .ok (.getfield 50, 3) := by decide +kernel
theorem d_G_latest_4 : decode b_G_latest 4 = .ok (.ifCond .eq 24, 3) := by decide +kernel
theorem d_G_latest_7 : decode b_G_latest 7 = .ok (.aload_n 0, 1) := by decide +kernel
theorem d_G_latest_8 : decode b_G_latest 8 = .ok (.iload_n 1, 1) := by decide +kernel
theorem d_G_latest_9 : decode b_G_latest 9 = .ok (.invokevirtual 53, 3) := by decide +kernel
theorem d_G_latest_12 : decode b_G_latest 12 = .ok (.ifCond .eq 16, 3) := by decide +kernel
theorem d_G_latest_15 : decode b_G_latest 15 = .ok (.aload_n 0, 1) := by decide +kernel
theorem d_G_latest_16 : decode b_G_latest 16 = .ok (.getfield 11, 3) := by decide +kernel
theorem d_G_latest_19 : decode b_G_latest 19 = .ok (.iload_n 1, 1) := by decide +kernel
theorem d_G_latest_20 : decode b_G_latest 20 = .ok (.aaload, 1) := by decide +kernel
theorem d_G_latest_21 : decode b_G_latest 21 = .ok (.getfield 118, 3) := by decide +kernel
theorem d_G_latest_24 : decode b_G_latest 24 = .ok (.i2l, 1) := by decide +kernel
theorem d_G_latest_25 : decode b_G_latest 25 = .ok (.goto 6, 3) := by decide +kernel
theorem d_G_latest_28 : decode b_G_latest 28 = .ok (.ldc2_w 121, 3) := by decide +kernel
theorem d_G_latest_31 : decode b_G_latest 31 = .ok (.lreturn, 1) := by decide +kernel
theorem d_G_token_0 : decode b_G_token 0 = .ok (.aload_n 0, 1) := by decide +kernel
theorem d_G_token_1 : decode b_G_token 1 = .ok (.getfield 50, 3) := by decide +kernel
theorem d_G_token_4 : decode b_G_token 4 = .ok (.ifCond .eq 11, 3) := by decide +kernel
theorem d_G_token_7 : decode b_G_token 7 = .ok (.aload_n 0, 1) := by decide +kernel
theorem d_G_token_8 : decode b_G_token 8 = .ok (.iload_n 1, 1) := by decide +kernel
theorem d_G_token_9 : decode b_G_token 9 = .ok (.invokevirtual 75, 3) := by decide +kernel
theorem d_G_token_12 : decode b_G_token 12 = .ok (.ifCond .ne 7, 3) := by decide +kernel
theorem d_G_token_15 : decode b_G_token 15 = .ok (.ldc2_w 121, 3) := by decide +kernel
theorem d_G_token_18 : decode b_G_token 18 = .ok (.lreturn, 1) := by decide +kernel
theorem d_G_token_19 : decode b_G_token 19 = .ok (.aload_n 0, 1) := by decide +kernel
theorem d_G_token_20 : decode b_G_token 20 = .ok (.getfield 17, 3) := by decide +kernel
theorem d_G_token_23 : decode b_G_token 23 = .ok (.iload_n 1, 1) := by decide +kernel
theorem d_G_token_24 : decode b_G_token 24 = .ok (.aaload, 1) := by decide +kernel
theorem d_G_token_25 : decode b_G_token 25 = .ok (.astore_n 3, 1) := by decide +kernel
theorem d_G_token_26 : decode b_G_token 26 = .ok (.iload_n 2, 1) := by decide +kernel
theorem d_G_token_27 : decode b_G_token 27 = .ok (.iconst 0, 1) := by decide +kernel
theorem d_G_token_28 : decode b_G_token 28 = .ok (.aload_n 3, 1) := by decide +kernel
theorem d_G_token_29 : decode b_G_token 29 = .ok (.getfield 123, 3) := by decide +kernel
theorem d_G_token_32 : decode b_G_token 32 = .ok (.iconst 1, 1) := by decide +kernel
theorem d_G_token_33 : decode b_G_token 33 = .ok (.isub, 1) := by decide +kernel
theorem d_G_token_34 : decode b_G_token 34 = .ok (.invokestatic 35, 3) := by decide +kernel
theorem d_G_token_37 : decode b_G_token 37 = .ok (.ifCond .eq 12, 3) := by decide +kernel
theorem d_G_token_40 : decode b_G_token 40 = .ok (.aload_n 3, 1) := by decide +kernel
theorem d_G_token_41 : decode b_G_token 41 = .ok (.iload_n 2, 1) := by decide +kernel
theorem d_G_token_42 : decode b_G_token 42 = .ok (.invokevirtual 126, 3) := by decide +kernel
theorem d_G_token_45 : decode b_G_token 45 = .ok (.i2l, 1) := by decide +kernel
theorem d_G_token_46 : decode b_G_token 46 = .ok (.goto 6, 3) := by decide +kernel
theorem d_G_token_49 : decode b_G_token 49 = .ok (.ldc2_w 121, 3) := by decide +kernel
theorem d_G_token_52 : decode b_G_token 52 = .ok (.lreturn, 1) := by decide +kernel
theorem d_G_tokens_0 : decode b_G_tokens 0 = .ok (.aload_n 0, 1) := by decide +kernel
theorem d_G_tokens_1 : decode b_G_tokens 1 = .ok (.iload_n 1, 1) := by decide +kernel
theorem d_G_tokens_2 : decode b_G_tokens 2 = .ok (.invokevirtual 75, 3) := by decide +kernel
theorem d_G_tokens_5 : decode b_G_tokens 5 = .ok (.ifCond .ne 5, 3) := by decide +kernel
theorem d_G_tokens_8 : decode b_G_tokens 8 = .ok (.iconst (-1), 1) := by decide +kernel
theorem d_G_tokens_9 : decode b_G_tokens 9 = .ok (.ireturn, 1) := by decide +kernel
theorem d_G_tokens_10 : decode b_G_tokens 10 = .ok (.aload_n 0, 1) := by decide +kernel
theorem d_G_tokens_11 : decode b_G_tokens 11 = .ok (.getfield 50, 3) := by decide +kernel
theorem d_G_tokens_14 : decode b_G_tokens 14 = .ok (.ifCond .eq 15, 3) := by decide +kernel
theorem d_G_tokens_17 : decode b_G_tokens 17 = .ok (.aload_n 0, 1) := by decide +kernel
theorem d_G_tokens_18 : decode b_G_tokens 18 = .ok (.getfield 17, 3) := by decide +kernel
theorem d_G_tokens_21 : decode b_G_tokens 21 = .ok (.iload_n 1, 1) := by decide +kernel
theorem d_G_tokens_22 : decode b_G_tokens 22 = .ok (.aaload, 1) := by decide +kernel
theorem d_G_tokens_23 : decode b_G_tokens 23 = .ok (.getfield 123, 3) := by decide +kernel
theorem d_G_tokens_26 : decode b_G_tokens 26 = .ok (.goto 5, 3) := by decide +kernel
theorem d_G_tokens_29 : decode b_G_tokens 29 = .ok (.bipush (-4), 2) := by decide +kernel
theorem d_G_tokens_31 : decode b_G_tokens 31 = .ok (.ireturn, 1) := by decide +kernel
theorem d_G_count_0 : decode b_G_count 0 = .ok (.iload_n 1, 1) := by decide +kernel
theorem d_G_count_1 : decode b_G_count 1 = .ok (.tableswitch 159 0 8 #[51, 56, 61, 66, 79, 95, 111, 127, 143], 51) := by decide +kernel
theorem d_G_count_52 : decode b_G_count 52 = .ok (.aload_n 0, 1) := by decide +kernel
theorem d_G_count_53 : decode b_G_count 53 = .ok (.invokevirtual 78, 3) := by decide +kernel
theorem d_G_count_56 : decode b_G_count 56 = .ok (.ireturn, 1) := by decide +kernel
theorem d_G_count_57 : decode b_G_count 57 = .ok (.aload_n 0, 1) := by decide +kernel
theorem d_G_count_58 : decode b_G_count 58 = .ok (.getfield 57, 3) := by decide +kernel
theorem d_G_count_61 : decode b_G_count 61 = .ok (.ireturn, 1) := by decide +kernel
theorem d_G_count_62 : decode b_G_count 62 = .ok (.aload_n 0, 1) := by decide +kernel
theorem d_G_count_63 : decode b_G_count 63 = .ok (.invokevirtual 129, 3) := by decide +kernel
theorem d_G_count_66 : decode b_G_count 66 = .ok (.ireturn, 1) := by decide +kernel
theorem d_G_count_67 : decode b_G_count 67 = .ok (.aload_n 0, 1) := by decide +kernel
theorem d_G_count_68 : decode b_G_count 68 = .ok (.getfield 50, 3) := by decide +kernel
theorem d_G_count_71 : decode b_G_count 71 = .ok (.ifCond .eq 7, 3) := by decide +kernel
theorem d_G_count_74 : decode b_G_count 74 = .ok (.iconst 1, 1) := by decide +kernel
theorem d_G_count_75 : decode b_G_count 75 = .ok (.goto 4, 3) := by decide +kernel
theorem d_G_count_78 : decode b_G_count 78 = .ok (.iconst 0, 1) := by decide +kernel
theorem d_G_count_79 : decode b_G_count 79 = .ok (.ireturn, 1) := by decide +kernel
theorem d_G_count_80 : decode b_G_count 80 = .ok (.aload_n 0, 1) := by decide +kernel
theorem d_G_count_81 : decode b_G_count 81 = .ok (.getfield 50, 3) := by decide +kernel
theorem d_G_count_84 : decode b_G_count 84 = .ok (.ifCond .eq 10, 3) := by decide +kernel
theorem d_G_count_87 : decode b_G_count 87 = .ok (.aload_n 0, 1) := by decide +kernel
theorem d_G_count_88 : decode b_G_count 88 = .ok (.getfield 88, 3) := by decide +kernel
theorem d_G_count_91 : decode b_G_count 91 = .ok (.goto 4, 3) := by decide +kernel
theorem d_G_count_94 : decode b_G_count 94 = .ok (.iconst 0, 1) := by decide +kernel
theorem d_G_count_95 : decode b_G_count 95 = .ok (.ireturn, 1) := by decide +kernel
theorem d_G_count_96 : decode b_G_count 96 = .ok (.aload_n 0, 1) := by decide +kernel
theorem d_G_count_97 : decode b_G_count 97 = .ok (.getfield 50, 3) := by decide +kernel
theorem d_G_count_100 : decode b_G_count 100 = .ok (.ifCond .eq 10, 3) := by decide +kernel
theorem d_G_count_103 : decode b_G_count 103 = .ok (.aload_n 0, 1) := by decide +kernel
theorem d_G_count_104 : decode b_G_count 104 = .ok (.invokevirtual 132, 3) := by decide +kernel
theorem d_G_count_107 : decode b_G_count 107 = .ok (.goto 4, 3) := by decide +kernel
theorem d_G_count_110 : decode b_G_count 110 = .ok (.iconst 0, 1) := by decide +kernel
theorem d_G_count_111 : decode b_G_count 111 = .ok (.ireturn, 1) := by decide +kernel
theorem d_G_count_112 : decode b_G_count 112 = .ok (.aload_n 0, 1) := by decide +kernel
theorem d_G_count_113 : decode b_G_count 113 = .ok (.getfield 50, 3) := by decide +kernel
theorem d_G_count_116 : decode b_G_count 116 = .ok (.ifCond .eq 10, 3) := by decide +kernel
theorem d_G_count_119 : decode b_G_count 119 = .ok (.aload_n 0, 1) := by decide +kernel
theorem d_G_count_120 : decode b_G_count 120 = .ok (.invokevirtual 135, 3) := by decide +kernel
theorem d_G_count_123 : decode b_G_count 123 = .ok (.goto 4, 3) := by decide +kernel
theorem d_G_count_126 : decode b_G_count 126 = .ok (.iconst 0, 1) := by decide +kernel
theorem d_G_count_127 : decode b_G_count 127 = .ok (.ireturn, 1) := by decide +kernel
theorem d_G_count_128 : decode b_G_count 128 = .ok (.aload_n 0, 1) := by decide +kernel
theorem d_G_count_129 : decode b_G_count 129 = .ok (.getfield 50, 3) := by decide +kernel
theorem d_G_count_132 : decode b_G_count 132 = .ok (.ifCond .eq 10, 3) := by decide +kernel
theorem d_G_count_135 : decode b_G_count 135 = .ok (.aload_n 0, 1) := by decide +kernel
theorem d_G_count_136 : decode b_G_count 136 = .ok (.getfield 102, 3) := by decide +kernel
theorem d_G_count_139 : decode b_G_count 139 = .ok (.goto 4, 3) := by decide +kernel
theorem d_G_count_142 : decode b_G_count 142 = .ok (.iconst 0, 1) := by decide +kernel
theorem d_G_count_143 : decode b_G_count 143 = .ok (.ireturn, 1) := by decide +kernel
theorem d_G_count_144 : decode b_G_count 144 = .ok (.aload_n 0, 1) := by decide +kernel
theorem d_G_count_145 : decode b_G_count 145 = .ok (.getfield 50, 3) := by decide +kernel
theorem d_G_count_148 : decode b_G_count 148 = .ok (.ifCond .eq 10, 3) := by decide +kernel
theorem d_G_count_151 : decode b_G_count 151 = .ok (.aload_n 0, 1) := by decide +kernel
theorem d_G_count_152 : decode b_G_count 152 = .ok (.invokevirtual 138, 3) := by decide +kernel
theorem d_G_count_155 : decode b_G_count 155 = .ok (.goto 4, 3) := by decide +kernel
theorem d_G_count_158 : decode b_G_count 158 = .ok (.iconst 0, 1) := by decide +kernel
theorem d_G_count_159 : decode b_G_count 159 = .ok (.ireturn, 1) := by decide +kernel
theorem d_G_count_160 : decode b_G_count 160 = .ok (.iconst (-1), 1) := by decide +kernel
theorem d_G_count_161 : decode b_G_count 161 = .ok (.ireturn, 1) := by decide +kernel
theorem d_G_isWithin_0 : decode b_G_isWithin 0 = .ok (.iload_n 0, 1) := by decide +kernel
theorem d_G_isWithin_1 : decode b_G_isWithin 1 = .ok (.iload_n 1, 1) := by decide +kernel
theorem d_G_isWithin_2 : decode b_G_isWithin 2 = .ok (.if_icmp .lt 12, 3) := by decide +kernel
theorem d_G_isWithin_5 : decode b_G_isWithin 5 = .ok (.iload_n 0, 1) := by decide +kernel
theorem d_G_isWithin_6 : decode b_G_isWithin 6 = .ok (.iload_n 2, 1) := by decide +kernel
theorem d_G_isWithin_7 : decode b_G_isWithin 7 = .ok (.if_icmp .gt 7, 3) := by decide +kernel
theorem d_G_isWithin_10 : decode b_G_isWithin 10 = .ok (.iconst 1, 1) := by decide +kernel
theorem d_G_isWithin_11 : decode b_G_isWithin 11 = .ok (.goto 4, 3) := by decide +kernel
theorem d_G_isWithin_14 : decode b_G_isWithin 14 = .ok (.iconst 0, 1) := by decide +kernel
theorem d_G_isWithin_15 : decode b_G_isWithin 15 = .ok (.ireturn, 1) := by decide +kernel
theorem d_G_isActor_0 : decode b_G_isActor 0 = .ok (.iload_n 1, 1) := by decide +kernel
theorem d_G_isActor_1 : decode b_G_isActor 1 = .ok (.iconst 0, 1) := by decide +kernel
theorem d_G_isActor_2 : decode b_G_isActor 2 = .ok (.bipush 7, 2) := by decide +kernel
theorem d_G_isActor_4 : decode b_G_isActor 4 = .ok (.invokestatic 35, 3) := by decide +kernel
theorem d_G_isActor_7 : decode b_G_isActor 7 = .ok (.ifCond .eq 19, 3) := by decide +kernel
theorem d_G_isActor_10 : decode b_G_isActor 10 = .ok (.aload_n 0, 1) := by decide +kernel
theorem d_G_isActor_11 : decode b_G_isActor 11 = .ok (.getfield 11, 3) := by decide +kernel
theorem d_G_isActor_14 : decode b_G_isActor 14 = .ok (.iload_n 1, 1) := by decide +kernel
theorem d_G_isActor_15 : decode b_G_isActor 15 = .ok (.aaload, 1) := by decide +kernel
theorem d_G_isActor_16 : decode b_G_isActor 16 = .ok (.getfield 39, 3) := by decide +kernel
theorem d_G_isActor_19 : decode b_G_isActor 19 = .ok (.ifCond .eq 7, 3) := by decide +kernel
theorem d_G_isActor_22 : decode b_G_isActor 22 = .ok (.iconst 1, 1) := by decide +kernel
theorem d_G_isActor_23 : decode b_G_isActor 23 = .ok (.goto 4, 3) := by decide +kernel
theorem d_G_isActor_26 : decode b_G_isActor 26 = .ok (.iconst 0, 1) := by decide +kernel
theorem d_G_isActor_27 : decode b_G_isActor 27 = .ok (.ireturn, 1) := by decide +kernel
theorem d_G_isEdge_0 : decode b_G_isEdge 0 = .ok (.iload_n 1, 1) := by decide +kernel
theorem d_G_isEdge_1 : decode b_G_isEdge 1 = .ok (.iconst 0, 1) := by decide +kernel
theorem d_G_isEdge_2 : decode b_G_isEdge 2 = .ok (.aload_n 0, 1) := by decide +kernel
theorem d_G_isEdge_3 : decode b_G_isEdge 3 = .ok (.getfield 57, 3) := by decide +kernel
theorem d_G_isEdge_6 : decode b_G_isEdge 6 = .ok (.iconst 1, 1) := by decide +kernel
theorem d_G_isEdge_7 : decode b_G_isEdge 7 = .ok (.isub, 1) := by decide +kernel
theorem d_G_isEdge_8 : decode b_G_isEdge 8 = .ok (.invokestatic 35, 3) := by decide +kernel
theorem d_G_isEdge_11 : decode b_G_isEdge 11 = .ok (.ireturn, 1) := by decide +kernel
theorem d_G_greatestDivisor_0 : decode b_G_greatestDivisor 0 = .ok (.iload_n 0, 1) := by decide +kernel
theorem d_G_greatestDivisor_1 : decode b_G_greatestDivisor 1 = .ok (.istore_n 2, 1) := by decide +kernel
theorem d_G_greatestDivisor_2 : decode b_G_greatestDivisor 2 = .ok (.iload_n 1, 1) := by decide +kernel
theorem d_G_greatestDivisor_3 : decode b_G_greatestDivisor 3 = .ok (.istore_n 3, 1) := by decide +kernel
theorem d_G_greatestDivisor_4 : decode b_G_greatestDivisor 4 = .ok (.iconst 0, 1) := by decide +kernel
theorem d_G_greatestDivisor_5 : decode b_G_greatestDivisor 5 = .ok (.istore 4, 2) := by decide +kernel
theorem d_G_greatestDivisor_7 : decode b_G_greatestDivisor 7 = .ok (.iload 4, 2) := by decide +kernel
theorem d_G_greatestDivisor_9 : decode b_G_greatestDivisor 9 = .ok (.bipush 64, 2) := by decide +kernel
theorem d_G_greatestDivisor_11 : decode b_G_greatestDivisor 11 = .ok (.if_icmp .ge 23, 3) := by decide +kernel
theorem d_G_greatestDivisor_14 : decode b_G_greatestDivisor 14 = .ok (.iload_n 3, 1) := by decide +kernel
theorem d_G_greatestDivisor_15 : decode b_G_greatestDivisor 15 = .ok (.ifCond .eq 19, 3) := by decide +kernel
theorem d_G_greatestDivisor_18 : decode b_G_greatestDivisor 18 = .ok (.iload_n 2, 1) := by decide +kernel
theorem d_G_greatestDivisor_19 : decode b_G_greatestDivisor 19 = .ok (.iload_n 3, 1) := by decide +kernel
theorem d_G_greatestDivisor_20 : decode b_G_greatestDivisor 20 = .ok (.irem, 1) := by decide +kernel
theorem d_G_greatestDivisor_21 : decode b_G_greatestDivisor 21 = .ok (.istore 5, 2) := by decide +kernel
theorem d_G_greatestDivisor_23 : decode b_G_greatestDivisor 23 = .ok (.iload_n 3, 1) := by decide +kernel
theorem d_G_greatestDivisor_24 : decode b_G_greatestDivisor 24 = .ok (.istore_n 2, 1) := by decide +kernel
theorem d_G_greatestDivisor_25 : decode b_G_greatestDivisor 25 = .ok (.iload 5, 2) := by decide +kernel
theorem d_G_greatestDivisor_27 : decode b_G_greatestDivisor 27 = .ok (.istore_n 3, 1) := by decide +kernel
theorem d_G_greatestDivisor_28 : decode b_G_greatestDivisor 28 = .ok (.iinc 4 1, 3) := by decide +kernel
theorem d_G_greatestDivisor_31 : decode b_G_greatestDivisor 31 = .ok (.goto (-24), 3) := by decide +kernel
theorem d_G_greatestDivisor_34 : decode b_G_greatestDivisor 34 = .ok (.iload_n 2, 1) := by decide +kernel
theorem d_G_greatestDivisor_35 : decode b_G_greatestDivisor 35 = .ok (.iconst 1, 1) := by decide +kernel
theorem d_G_greatestDivisor_36 : decode b_G_greatestDivisor 36 = .ok (.invokestatic 141, 3) := by decide +kernel
theorem d_G_greatestDivisor_39 : decode b_G_greatestDivisor 39 = .ok (.ireturn, 1) := by decide +kernel
theorem d_G_countActors_0 : decode b_G_countActors 0 = .ok (.iconst 0, 1) := by decide +kernel
theorem d_G_countActors_1 : decode b_G_countActors 1 = .ok (.istore_n 1, 1) := by decide +kernel
theorem d_G_countActors_2 : decode b_G_countActors 2 = .ok (.iconst 0, 1) := by decide +kernel
theorem d_G_countActors_3 : decode b_G_countActors 3 = .ok (.istore_n 2, 1) := by decide +kernel
theorem d_G_countActors_4 : decode b_G_countActors 4 = .ok (.iload_n 2, 1) := by decide +kernel
theorem d_G_countActors_5 : decode b_G_countActors 5 = .ok (.bipush 8, 2) := by decide +kernel
theorem d_G_countActors_7 : decode b_G_countActors 7 = .ok (.if_icmp .ge 24, 3) := by decide +kernel
theorem d_G_countActors_10 : decode b_G_countActors 10 = .ok (.aload_n 0, 1) := by decide +kernel
theorem d_G_countActors_11 : decode b_G_countActors 11 = .ok (.getfield 11, 3) := by decide +kernel
theorem d_G_countActors_14 : decode b_G_countActors 14 = .ok (.iload_n 2, 1) := by decide +kernel
theorem d_G_countActors_15 : decode b_G_countActors 15 = .ok (.aaload, 1) := by decide +kernel
theorem d_G_countActors_16 : decode b_G_countActors 16 = .ok (.getfield 39, 3) := by decide +kernel
theorem d_G_countActors_19 : decode b_G_countActors 19 = .ok (.ifCond .eq 6, 3) := by decide +kernel
theorem d_G_countActors_22 : decode b_G_countActors 22 = .ok (.iinc 1 1, 3) := by decide +kernel
theorem d_G_countActors_25 : decode b_G_countActors 25 = .ok (.iinc 2 1, 3) := by decide +kernel
theorem d_G_countActors_28 : decode b_G_countActors 28 = .ok (.goto (-24), 3) := by decide +kernel
theorem d_G_countActors_31 : decode b_G_countActors 31 = .ok (.iload_n 1, 1) := by decide +kernel
theorem d_G_countActors_32 : decode b_G_countActors 32 = .ok (.ireturn, 1) := by decide +kernel
theorem d_G_countParts_0 : decode b_G_countParts 0 = .ok (.aload_n 0, 1) := by decide +kernel
theorem d_G_countParts_1 : decode b_G_countParts 1 = .ok (.invokevirtual 147, 3) := by decide +kernel
theorem d_G_countParts_4 : decode b_G_countParts 4 = .ok (.aload_n 0, 1) := by decide +kernel
theorem d_G_countParts_5 : decode b_G_countParts 5 = .ok (.invokevirtual 78, 3) := by decide +kernel
theorem d_G_countParts_8 : decode b_G_countParts 8 = .ok (.istore_n 1, 1) := by decide +kernel
theorem d_G_countParts_9 : decode b_G_countParts 9 = .ok (.iconst 0, 1) := by decide +kernel
theorem d_G_countParts_10 : decode b_G_countParts 10 = .ok (.istore_n 2, 1) := by decide +kernel
theorem d_G_countParts_11 : decode b_G_countParts 11 = .ok (.iload_n 2, 1) := by decide +kernel
theorem d_G_countParts_12 : decode b_G_countParts 12 = .ok (.aload_n 0, 1) := by decide +kernel
theorem d_G_countParts_13 : decode b_G_countParts 13 = .ok (.getfield 57, 3) := by decide +kernel
theorem d_G_countParts_16 : decode b_G_countParts 16 = .ok (.if_icmp .ge 62, 3) := by decide +kernel
theorem d_G_countParts_19 : decode b_G_countParts 19 = .ok (.aload_n 0, 1) := by decide +kernel
theorem d_G_countParts_20 : decode b_G_countParts 20 = .ok (.getfield 11, 3) := by decide +kernel
theorem d_G_countParts_23 : decode b_G_countParts 23 = .ok (.aload_n 0, 1) := by decide +kernel
theorem d_G_countParts_24 : decode b_G_countParts 24 = .ok (.getfield 17, 3) := by decide +kernel
theorem d_G_countParts_27 : decode b_G_countParts 27 = .ok (.iload_n 2, 1) := by decide +kernel
theorem d_G_countParts_28 : decode b_G_countParts 28 = .ok (.aaload, 1) := by decide +kernel
theorem d_G_countParts_29 : decode b_G_countParts 29 = .ok (.getfield 60, 3) := by decide +kernel
theorem d_G_countParts_32 : decode b_G_countParts 32 = .ok (.aaload, 1) := by decide +kernel
theorem d_G_countParts_33 : decode b_G_countParts 33 = .ok (.getfield 150, 3) := by decide +kernel
theorem d_G_countParts_36 : decode b_G_countParts 36 = .ok (.istore_n 3, 1) := by decide +kernel
theorem d_G_countParts_37 : decode b_G_countParts 37 = .ok (.aload_n 0, 1) := by decide +kernel
theorem d_G_countParts_38 : decode b_G_countParts 38 = .ok (.getfield 11, 3) := by decide +kernel
theorem d_G_countParts_41 : decode b_G_countParts 41 = .ok (.aload_n 0, 1) := by decide +kernel
theorem d_G_countParts_42 : decode b_G_countParts 42 = .ok (.getfield 17, 3) := by decide +kernel
theorem d_G_countParts_45 : decode b_G_countParts 45 = .ok (.iload_n 2, 1) := by decide +kernel
theorem d_G_countParts_46 : decode b_G_countParts 46 = .ok (.aaload, 1) := by decide +kernel
theorem d_G_countParts_47 : decode b_G_countParts 47 = .ok (.getfield 63, 3) := by decide +kernel
theorem d_G_countParts_50 : decode b_G_countParts 50 = .ok (.aaload, 1) := by decide +kernel
theorem d_G_countParts_51 : decode b_G_countParts 51 = .ok (.getfield 150, 3) := by decide +kernel
theorem d_G_countParts_54 : decode b_G_countParts 54 = .ok (.istore 4, 2) := by decide +kernel
theorem d_G_countParts_56 : decode b_G_countParts 56 = .ok (.iload_n 3, 1) := by decide +kernel
theorem d_G_countParts_57 : decode b_G_countParts 57 = .ok (.iload 4, 2) := by decide +kernel
theorem d_G_countParts_59 : decode b_G_countParts 59 = .ok (.if_icmp .eq 13, 3) := by decide +kernel
theorem d_G_countParts_62 : decode b_G_countParts 62 = .ok (.aload_n 0, 1) := by decide +kernel
theorem d_G_countParts_63 : decode b_G_countParts 63 = .ok (.iload_n 3, 1) := by decide +kernel
theorem d_G_countParts_64 : decode b_G_countParts 64 = .ok (.iload 4, 2) := by decide +kernel
theorem d_G_countParts_66 : decode b_G_countParts 66 = .ok (.invokevirtual 153, 3) := by decide +kernel
theorem d_G_countParts_69 : decode b_G_countParts 69 = .ok (.iinc 1 (-1), 3) := by decide +kernel
theorem d_G_countParts_72 : decode b_G_countParts 72 = .ok (.iinc 2 1, 3) := by decide +kernel
theorem d_G_countParts_75 : decode b_G_countParts 75 = .ok (.goto (-64), 3) := by decide +kernel
theorem d_G_countParts_78 : decode b_G_countParts 78 = .ok (.iload_n 1, 1) := by decide +kernel
theorem d_G_countParts_79 : decode b_G_countParts 79 = .ok (.ireturn, 1) := by decide +kernel
theorem d_G_countRuns_0 : decode b_G_countRuns 0 = .ok (.iconst 0, 1) := by decide +kernel
theorem d_G_countRuns_1 : decode b_G_countRuns 1 = .ok (.istore_n 1, 1) := by decide +kernel
theorem d_G_countRuns_2 : decode b_G_countRuns 2 = .ok (.iconst 0, 1) := by decide +kernel
theorem d_G_countRuns_3 : decode b_G_countRuns 3 = .ok (.istore_n 2, 1) := by decide +kernel
theorem d_G_countRuns_4 : decode b_G_countRuns 4 = .ok (.iload_n 2, 1) := by decide +kernel
theorem d_G_countRuns_5 : decode b_G_countRuns 5 = .ok (.aload_n 0, 1) := by decide +kernel
theorem d_G_countRuns_6 : decode b_G_countRuns 6 = .ok (.getfield 88, 3) := by decide +kernel
theorem d_G_countRuns_9 : decode b_G_countRuns 9 = .ok (.if_icmp .ge 33, 3) := by decide +kernel
theorem d_G_countRuns_12 : decode b_G_countRuns 12 = .ok (.iload_n 2, 1) := by decide +kernel
theorem d_G_countRuns_13 : decode b_G_countRuns 13 = .ok (.ifCond .eq 20, 3) := by decide +kernel
theorem d_G_countRuns_16 : decode b_G_countRuns 16 = .ok (.aload_n 0, 1) := by decide +kernel
theorem d_G_countRuns_17 : decode b_G_countRuns 17 = .ok (.getfield 30, 3) := by decide +kernel
theorem d_G_countRuns_20 : decode b_G_countRuns 20 = .ok (.iload_n 2, 1) := by decide +kernel
theorem d_G_countRuns_21 : decode b_G_countRuns 21 = .ok (.iaload, 1) := by decide +kernel
theorem d_G_countRuns_22 : decode b_G_countRuns 22 = .ok (.aload_n 0, 1) := by decide +kernel
theorem d_G_countRuns_23 : decode b_G_countRuns 23 = .ok (.getfield 30, 3) := by decide +kernel
theorem d_G_countRuns_26 : decode b_G_countRuns 26 = .ok (.iload_n 2, 1) := by decide +kernel
theorem d_G_countRuns_27 : decode b_G_countRuns 27 = .ok (.iconst 1, 1) := by decide +kernel
theorem d_G_countRuns_28 : decode b_G_countRuns 28 = .ok (.isub, 1) := by decide +kernel
theorem d_G_countRuns_29 : decode b_G_countRuns 29 = .ok (.iaload, 1) := by decide +kernel
theorem d_G_countRuns_30 : decode b_G_countRuns 30 = .ok (.if_icmp .eq 6, 3) := by decide +kernel
theorem d_G_countRuns_33 : decode b_G_countRuns 33 = .ok (.iinc 1 1, 3) := by decide +kernel
theorem d_G_countRuns_36 : decode b_G_countRuns 36 = .ok (.iinc 2 1, 3) := by decide +kernel
theorem d_G_countRuns_39 : decode b_G_countRuns 39 = .ok (.goto (-35), 3) := by decide +kernel
theorem d_G_countRuns_42 : decode b_G_countRuns 42 = .ok (.iload_n 1, 1) := by decide +kernel
theorem d_G_countRuns_43 : decode b_G_countRuns 43 = .ok (.ireturn, 1) := by decide +kernel
theorem d_G_sumOfPeaks_0 : decode b_G_sumOfPeaks 0 = .ok (.iconst 0, 1) := by decide +kernel
theorem d_G_sumOfPeaks_1 : decode b_G_sumOfPeaks 1 = .ok (.istore_n 1, 1) := by decide +kernel
theorem d_G_sumOfPeaks_2 : decode b_G_sumOfPeaks 2 = .ok (.iconst 0, 1) := by decide +kernel
theorem d_G_sumOfPeaks_3 : decode b_G_sumOfPeaks 3 = .ok (.istore_n 2, 1) := by decide +kernel
theorem d_G_sumOfPeaks_4 : decode b_G_sumOfPeaks 4 = .ok (.iload_n 2, 1) := by decide +kernel
theorem d_G_sumOfPeaks_5 : decode b_G_sumOfPeaks 5 = .ok (.aload_n 0, 1) := by decide +kernel
theorem d_G_sumOfPeaks_6 : decode b_G_sumOfPeaks 6 = .ok (.getfield 57, 3) := by decide +kernel
theorem d_G_sumOfPeaks_9 : decode b_G_sumOfPeaks 9 = .ok (.if_icmp .ge 21, 3) := by decide +kernel
theorem d_G_sumOfPeaks_12 : decode b_G_sumOfPeaks 12 = .ok (.iload_n 1, 1) := by decide +kernel
theorem d_G_sumOfPeaks_13 : decode b_G_sumOfPeaks 13 = .ok (.aload_n 0, 1) := by decide +kernel
theorem d_G_sumOfPeaks_14 : decode b_G_sumOfPeaks 14 = .ok (.getfield 17, 3) := by decide +kernel
theorem d_G_sumOfPeaks_17 : decode b_G_sumOfPeaks 17 = .ok (.iload_n 2, 1) := by decide +kernel
theorem d_G_sumOfPeaks_18 : decode b_G_sumOfPeaks 18 = .ok (.aaload, 1) := by decide +kernel
theorem d_G_sumOfPeaks_19 : decode b_G_sumOfPeaks 19 = .ok (.getfield 108, 3) := by decide +kernel
theorem d_G_sumOfPeaks_22 : decode b_G_sumOfPeaks 22 = .ok (.iadd, 1) := by decide +kernel
theorem d_G_sumOfPeaks_23 : decode b_G_sumOfPeaks 23 = .ok (.istore_n 1, 1) := by decide +kernel
theorem d_G_sumOfPeaks_24 : decode b_G_sumOfPeaks 24 = .ok (.iinc 2 1, 3) := by decide +kernel
theorem d_G_sumOfPeaks_27 : decode b_G_sumOfPeaks 27 = .ok (.goto (-23), 3) := by decide +kernel
theorem d_G_sumOfPeaks_30 : decode b_G_sumOfPeaks 30 = .ok (.iload_n 1, 1) := by decide +kernel
theorem d_G_sumOfPeaks_31 : decode b_G_sumOfPeaks 31 = .ok (.ireturn, 1) := by decide +kernel
theorem d_G_sumOfTokens_0 : decode b_G_sumOfTokens 0 = .ok (.iconst 0, 1) := by decide +kernel
theorem d_G_sumOfTokens_1 : decode b_G_sumOfTokens 1 = .ok (.istore_n 1, 1) := by decide +kernel
theorem d_G_sumOfTokens_2 : decode b_G_sumOfTokens 2 = .ok (.iconst 0, 1) := by decide +kernel
theorem d_G_sumOfTokens_3 : decode b_G_sumOfTokens 3 = .ok (.istore_n 2, 1) := by decide +kernel
theorem d_G_sumOfTokens_4 : decode b_G_sumOfTokens 4 = .ok (.iload_n 2, 1) := by decide +kernel
theorem d_G_sumOfTokens_5 : decode b_G_sumOfTokens 5 = .ok (.aload_n 0, 1) := by decide +kernel
theorem d_G_sumOfTokens_6 : decode b_G_sumOfTokens 6 = .ok (.getfield 57, 3) := by decide +kernel
theorem d_G_sumOfTokens_9 : decode b_G_sumOfTokens 9 = .ok (.if_icmp .ge 21, 3) := by decide +kernel
theorem d_G_sumOfTokens_12 : decode b_G_sumOfTokens 12 = .ok (.iload_n 1, 1) := by decide +kernel
theorem d_G_sumOfTokens_13 : decode b_G_sumOfTokens 13 = .ok (.aload_n 0, 1) := by decide +kernel
theorem d_G_sumOfTokens_14 : decode b_G_sumOfTokens 14 = .ok (.getfield 17, 3) := by decide +kernel
theorem d_G_sumOfTokens_17 : decode b_G_sumOfTokens 17 = .ok (.iload_n 2, 1) := by decide +kernel
theorem d_G_sumOfTokens_18 : decode b_G_sumOfTokens 18 = .ok (.aaload, 1) := by decide +kernel
theorem d_G_sumOfTokens_19 : decode b_G_sumOfTokens 19 = .ok (.getfield 123, 3) := by decide +kernel
theorem d_G_sumOfTokens_22 : decode b_G_sumOfTokens 22 = .ok (.iadd, 1) := by decide +kernel
theorem d_G_sumOfTokens_23 : decode b_G_sumOfTokens 23 = .ok (.istore_n 1, 1) := by decide +kernel
theorem d_G_sumOfTokens_24 : decode b_G_sumOfTokens 24 = .ok (.iinc 2 1, 3) := by decide +kernel
theorem d_G_sumOfTokens_27 : decode b_G_sumOfTokens 27 = .ok (.goto (-23), 3) := by decide +kernel
theorem d_G_sumOfTokens_30 : decode b_G_sumOfTokens 30 = .ok (.iload_n 1, 1) := by decide +kernel
theorem d_G_sumOfTokens_31 : decode b_G_sumOfTokens 31 = .ok (.ireturn, 1) := by decide +kernel
theorem d_G_makePartsOfOne_0 : decode b_G_makePartsOfOne 0 = .ok (.iconst 0, 1) := by decide +kernel
theorem d_G_makePartsOfOne_1 : decode b_G_makePartsOfOne 1 = .ok (.istore_n 1, 1) := by decide +kernel
theorem d_G_makePartsOfOne_2 : decode b_G_makePartsOfOne 2 = .ok (.iload_n 1, 1) := by decide +kernel
theorem d_G_makePartsOfOne_3 : decode b_G_makePartsOfOne 3 = .ok (.bipush 8, 2) := by decide +kernel
theorem d_G_makePartsOfOne_5 : decode b_G_makePartsOfOne 5 = .ok (.if_icmp .ge 29, 3) := by decide +kernel
theorem d_G_makePartsOfOne_8 : decode b_G_makePartsOfOne 8 = .ok (.aload_n 0, 1) := by decide +kernel
theorem d_G_makePartsOfOne_9 : decode b_G_makePartsOfOne 9 = .ok (.getfield 11, 3) := by decide +kernel
theorem d_G_makePartsOfOne_12 : decode b_G_makePartsOfOne 12 = .ok (.iload_n 1, 1) := by decide +kernel
theorem d_G_makePartsOfOne_13 : decode b_G_makePartsOfOne 13 = .ok (.aaload, 1) := by decide +kernel
theorem d_G_makePartsOfOne_14 : decode b_G_makePartsOfOne 14 = .ok (.iload_n 1, 1) := by decide +kernel
theorem d_G_makePartsOfOne_15 : decode b_G_makePartsOfOne 15 = .ok (.putfield 150, 3) := by decide +kernel
theorem d_G_makePartsOfOne_18 : decode b_G_makePartsOfOne 18 = .ok (.aload_n 0, 1) := by decide +kernel
theorem d_G_makePartsOfOne_19 : decode b_G_makePartsOfOne 19 = .ok (.getfield 11, 3) := by decide +kernel
theorem d_G_makePartsOfOne_22 : decode b_G_makePartsOfOne 22 = .ok (.iload_n 1, 1) := by decide +kernel
theorem d_G_makePartsOfOne_23 : decode b_G_makePartsOfOne 23 = .ok (.aaload, 1) := by decide +kernel
theorem d_G_makePartsOfOne_24 : decode b_G_makePartsOfOne 24 = .ok (.iconst 1, 1) := by decide +kernel
theorem d_G_makePartsOfOne_25 : decode b_G_makePartsOfOne 25 = .ok (.putfield 157, 3) := by decide +kernel
theorem d_G_makePartsOfOne_28 : decode b_G_makePartsOfOne 28 = .ok (.iinc 1 1, 3) := by decide +kernel
theorem d_G_makePartsOfOne_31 : decode b_G_makePartsOfOne 31 = .ok (.goto (-29), 3) := by decide +kernel
theorem d_G_makePartsOfOne_34 : decode b_G_makePartsOfOne 34 = .ok (.return_, 1) := by decide +kernel
theorem d_G_joinParts_0 : decode b_G_joinParts 0 = .ok (.iconst 0, 1) := by decide +kernel
theorem d_G_joinParts_1 : decode b_G_joinParts 1 = .ok (.istore_n 3, 1) := by decide +kernel
theorem d_G_joinParts_2 : decode b_G_joinParts 2 = .ok (.iload_n 3, 1) := by decide +kernel
theorem d_G_joinParts_3 : decode b_G_joinParts 3 = .ok (.bipush 8, 2) := by decide +kernel
theorem d_G_joinParts_5 : decode b_G_joinParts 5 = .ok (.if_icmp .ge 32, 3) := by decide +kernel
theorem d_G_joinParts_8 : decode b_G_joinParts 8 = .ok (.aload_n 0, 1) := by decide +kernel
theorem d_G_joinParts_9 : decode b_G_joinParts 9 = .ok (.getfield 11, 3) := by decide +kernel
theorem d_G_joinParts_12 : decode b_G_joinParts 12 = .ok (.iload_n 3, 1) := by decide +kernel
theorem d_G_joinParts_13 : decode b_G_joinParts 13 = .ok (.aaload, 1) := by decide +kernel
theorem d_G_joinParts_14 : decode b_G_joinParts 14 = .ok (.getfield 150, 3) := by decide +kernel
theorem d_G_joinParts_17 : decode b_G_joinParts 17 = .ok (.iload_n 2, 1) := by decide +kernel
theorem d_G_joinParts_18 : decode b_G_joinParts 18 = .ok (.if_icmp .ne 13, 3) := by decide +kernel
theorem d_G_joinParts_21 : decode b_G_joinParts 21 = .ok (.aload_n 0, 1) := by decide +kernel
theorem d_G_joinParts_22 : decode b_G_joinParts 22 = .ok (.getfield 11, 3) := by decide +kernel
theorem d_G_joinParts_25 : decode b_G_joinParts 25 = .ok (.iload_n 3, 1) := by decide +kernel
theorem d_G_joinParts_26 : decode b_G_joinParts 26 = .ok (.aaload, 1) := by decide +kernel
theorem d_G_joinParts_27 : decode b_G_joinParts 27 = .ok (.iload_n 1, 1) := by decide +kernel
theorem d_G_joinParts_28 : decode b_G_joinParts 28 = .ok (.putfield 150, 3) := by decide +kernel
theorem d_G_joinParts_31 : decode b_G_joinParts 31 = .ok (.iinc 3 1, 3) := by decide +kernel
theorem d_G_joinParts_34 : decode b_G_joinParts 34 = .ok (.goto (-32), 3) := by decide +kernel
theorem d_G_joinParts_37 : decode b_G_joinParts 37 = .ok (.return_, 1) := by decide +kernel
theorem d_G_scalePart_0 : decode b_G_scalePart 0 = .ok (.iconst 0, 1) := by decide +kernel
theorem d_G_scalePart_1 : decode b_G_scalePart 1 = .ok (.istore_n 3, 1) := by decide +kernel
theorem d_G_scalePart_2 : decode b_G_scalePart 2 = .ok (.iload_n 3, 1) := by decide +kernel
theorem d_G_scalePart_3 : decode b_G_scalePart 3 = .ok (.bipush 8, 2) := by decide +kernel
theorem d_G_scalePart_5 : decode b_G_scalePart 5 = .ok (.if_icmp .ge 37, 3) := by decide +kernel
theorem d_G_scalePart_8 : decode b_G_scalePart 8 = .ok (.aload_n 0, 1) := by decide +kernel
theorem d_G_scalePart_9 : decode b_G_scalePart 9 = .ok (.getfield 11, 3) := by decide +kernel
theorem d_G_scalePart_12 : decode b_G_scalePart 12 = .ok (.iload_n 3, 1) := by decide +kernel
theorem d_G_scalePart_13 : decode b_G_scalePart 13 = .ok (.aaload, 1) := by decide +kernel
theorem d_G_scalePart_14 : decode b_G_scalePart 14 = .ok (.getfield 150, 3) := by decide +kernel
theorem d_G_scalePart_17 : decode b_G_scalePart 17 = .ok (.iload_n 1, 1) := by decide +kernel
theorem d_G_scalePart_18 : decode b_G_scalePart 18 = .ok (.if_icmp .ne 18, 3) := by decide +kernel
theorem d_G_scalePart_21 : decode b_G_scalePart 21 = .ok (.aload_n 0, 1) := by decide +kernel
theorem d_G_scalePart_22 : decode b_G_scalePart 22 = .ok (.getfield 11, 3) := by decide +kernel
theorem d_G_scalePart_25 : decode b_G_scalePart 25 = .ok (.iload_n 3, 1) := by decide +kernel
theorem d_G_scalePart_26 : decode b_G_scalePart 26 = .ok (.aaload, 1) := by decide +kernel
theorem d_G_scalePart_27 : decode b_G_scalePart 27 = .ok (.dup, 1) := by decide +kernel
theorem d_G_scalePart_28 : decode b_G_scalePart 28 = .ok (.getfield 157, 3) := by decide +kernel
theorem d_G_scalePart_31 : decode b_G_scalePart 31 = .ok (.iload_n 2, 1) := by decide +kernel
theorem d_G_scalePart_32 : decode b_G_scalePart 32 = .ok (.imul, 1) := by decide +kernel
theorem d_G_scalePart_33 : decode b_G_scalePart 33 = .ok (.putfield 157, 3) := by decide +kernel
theorem d_G_scalePart_36 : decode b_G_scalePart 36 = .ok (.iinc 3 1, 3) := by decide +kernel
theorem d_G_scalePart_39 : decode b_G_scalePart 39 = .ok (.goto (-37), 3) := by decide +kernel
theorem d_G_scalePart_42 : decode b_G_scalePart 42 = .ok (.return_, 1) := by decide +kernel
theorem d_G_findCulprit_0 : decode b_G_findCulprit 0 = .ok (.aload_n 0, 1) := by decide +kernel
theorem d_G_findCulprit_1 : decode b_G_findCulprit 1 = .ok (.invokevirtual 147, 3) := by decide +kernel
theorem d_G_findCulprit_4 : decode b_G_findCulprit 4 = .ok (.iconst 0, 1) := by decide +kernel
theorem d_G_findCulprit_5 : decode b_G_findCulprit 5 = .ok (.istore_n 1, 1) := by decide +kernel
theorem d_G_findCulprit_6 : decode b_G_findCulprit 6 = .ok (.iload_n 1, 1) := by decide +kernel
theorem d_G_findCulprit_7 : decode b_G_findCulprit 7 = .ok (.aload_n 0, 1) := by decide +kernel
theorem d_G_findCulprit_8 : decode b_G_findCulprit 8 = .ok (.getfield 57, 3) := by decide +kernel
theorem d_G_findCulprit_11 : decode b_G_findCulprit 11 = .ok (.if_icmp .ge 24, 3) := by decide +kernel
theorem d_G_findCulprit_14 : decode b_G_findCulprit 14 = .ok (.aload_n 0, 1) := by decide +kernel
theorem d_G_findCulprit_15 : decode b_G_findCulprit 15 = .ok (.aload_n 0, 1) := by decide +kernel
theorem d_G_findCulprit_16 : decode b_G_findCulprit 16 = .ok (.getfield 17, 3) := by decide +kernel
theorem d_G_findCulprit_19 : decode b_G_findCulprit 19 = .ok (.iload_n 1, 1) := by decide +kernel
theorem d_G_findCulprit_20 : decode b_G_findCulprit 20 = .ok (.aaload, 1) := by decide +kernel
theorem d_G_findCulprit_21 : decode b_G_findCulprit 21 = .ok (.invokevirtual 160, 3) := by decide +kernel
theorem d_G_findCulprit_24 : decode b_G_findCulprit 24 = .ok (.ifCond .ne 5, 3) := by decide +kernel
theorem d_G_findCulprit_27 : decode b_G_findCulprit 27 = .ok (.iload_n 1, 1) := by decide +kernel
theorem d_G_findCulprit_28 : decode b_G_findCulprit 28 = .ok (.ireturn, 1) := by decide +kernel
theorem d_G_findCulprit_29 : decode b_G_findCulprit 29 = .ok (.iinc 1 1, 3) := by decide +kernel
theorem d_G_findCulprit_32 : decode b_G_findCulprit 32 = .ok (.goto (-26), 3) := by decide +kernel
theorem d_G_findCulprit_35 : decode b_G_findCulprit 35 = .ok (.iconst (-1), 1) := by decide +kernel
theorem d_G_findCulprit_36 : decode b_G_findCulprit 36 = .ok (.ireturn, 1) := by decide +kernel
theorem d_G_balance_0 : decode b_G_balance 0 = .ok (.aload_n 0, 1) := by decide +kernel
theorem d_G_balance_1 : decode b_G_balance 1 = .ok (.getfield 11, 3) := by decide +kernel
theorem d_G_balance_4 : decode b_G_balance 4 = .ok (.aload_n 1, 1) := by decide +kernel
theorem d_G_balance_5 : decode b_G_balance 5 = .ok (.getfield 60, 3) := by decide +kernel
theorem d_G_balance_8 : decode b_G_balance 8 = .ok (.aaload, 1) := by decide +kernel
theorem d_G_balance_9 : decode b_G_balance 9 = .ok (.astore_n 2, 1) := by decide +kernel
theorem d_G_balance_10 : decode b_G_balance 10 = .ok (.aload_n 0, 1) := by decide +kernel
theorem d_G_balance_11 : decode b_G_balance 11 = .ok (.getfield 11, 3) := by decide +kernel
theorem d_G_balance_14 : decode b_G_balance 14 = .ok (.aload_n 1, 1) := by decide +kernel
theorem d_G_balance_15 : decode b_G_balance 15 = .ok (.getfield 63, 3) := by decide +kernel
theorem d_G_balance_18 : decode b_G_balance 18 = .ok (.aaload, 1) := by decide +kernel
theorem d_G_balance_19 : decode b_G_balance 19 = .ok (.astore_n 3, 1) := by decide +kernel
theorem d_G_balance_20 : decode b_G_balance 20 = .ok (.aload_n 1, 1) := by decide +kernel
theorem d_G_balance_21 : decode b_G_balance 21 = .ok (.getfield 66, 3) := by decide +kernel
theorem d_G_balance_24 : decode b_G_balance 24 = .ok (.aload_n 2, 1) := by decide +kernel
theorem d_G_balance_25 : decode b_G_balance 25 = .ok (.getfield 157, 3) := by decide +kernel
theorem d_G_balance_28 : decode b_G_balance 28 = .ok (.imul, 1) := by decide +kernel
theorem d_G_balance_29 : decode b_G_balance 29 = .ok (.istore 4, 2) := by decide +kernel
theorem d_G_balance_31 : decode b_G_balance 31 = .ok (.aload_n 1, 1) := by decide +kernel
theorem d_G_balance_32 : decode b_G_balance 32 = .ok (.getfield 69, 3) := by decide +kernel
theorem d_G_balance_35 : decode b_G_balance 35 = .ok (.aload_n 3, 1) := by decide +kernel
theorem d_G_balance_36 : decode b_G_balance 36 = .ok (.getfield 157, 3) := by decide +kernel
theorem d_G_balance_39 : decode b_G_balance 39 = .ok (.imul, 1) := by decide +kernel
theorem d_G_balance_40 : decode b_G_balance 40 = .ok (.istore 5, 2) := by decide +kernel
theorem d_G_balance_42 : decode b_G_balance 42 = .ok (.aload_n 2, 1) := by decide +kernel
theorem d_G_balance_43 : decode b_G_balance 43 = .ok (.getfield 150, 3) := by decide +kernel
theorem d_G_balance_46 : decode b_G_balance 46 = .ok (.aload_n 3, 1) := by decide +kernel
theorem d_G_balance_47 : decode b_G_balance 47 = .ok (.getfield 150, 3) := by decide +kernel
theorem d_G_balance_50 : decode b_G_balance 50 = .ok (.if_icmp .ne 16, 3) := by decide +kernel
theorem d_G_balance_53 : decode b_G_balance 53 = .ok (.iload 4, 2) := by decide +kernel
theorem d_G_balance_55 : decode b_G_balance 55 = .ok (.iload 5, 2) := by decide +kernel
theorem d_G_balance_57 : decode b_G_balance 57 = .ok (.if_icmp .ne 7, 3) := by decide +kernel
theorem d_G_balance_60 : decode b_G_balance 60 = .ok (.iconst 1, 1) := by decide +kernel
theorem d_G_balance_61 : decode b_G_balance 61 = .ok (.goto 4, 3) := by decide +kernel
theorem d_G_balance_64 : decode b_G_balance 64 = .ok (.iconst 0, 1) := by decide +kernel
theorem d_G_balance_65 : decode b_G_balance 65 = .ok (.ireturn, 1) := by decide +kernel
theorem d_G_balance_66 : decode b_G_balance 66 = .ok (.iload 4, 2) := by decide +kernel
theorem d_G_balance_68 : decode b_G_balance 68 = .ok (.iload 5, 2) := by decide +kernel
theorem d_G_balance_70 : decode b_G_balance 70 = .ok (.invokestatic 164, 3) := by decide +kernel
theorem d_G_balance_73 : decode b_G_balance 73 = .ok (.istore 6, 2) := by decide +kernel
theorem d_G_balance_75 : decode b_G_balance 75 = .ok (.aload_n 0, 1) := by decide +kernel
theorem d_G_balance_76 : decode b_G_balance 76 = .ok (.aload_n 2, 1) := by decide +kernel
theorem d_G_balance_77 : decode b_G_balance 77 = .ok (.getfield 150, 3) := by decide +kernel
theorem d_G_balance_80 : decode b_G_balance 80 = .ok (.iload 5, 2) := by decide +kernel
theorem d_G_balance_82 : decode b_G_balance 82 = .ok (.iload 6, 2) := by decide +kernel
theorem d_G_balance_84 : decode b_G_balance 84 = .ok (.idiv, 1) := by decide +kernel
theorem d_G_balance_85 : decode b_G_balance 85 = .ok (.invokevirtual 167, 3) := by decide +kernel
theorem d_G_balance_88 : decode b_G_balance 88 = .ok (.aload_n 0, 1) := by decide +kernel
theorem d_G_balance_89 : decode b_G_balance 89 = .ok (.aload_n 3, 1) := by decide +kernel
theorem d_G_balance_90 : decode b_G_balance 90 = .ok (.getfield 150, 3) := by decide +kernel
theorem d_G_balance_93 : decode b_G_balance 93 = .ok (.iload 4, 2) := by decide +kernel
theorem d_G_balance_95 : decode b_G_balance 95 = .ok (.iload 6, 2) := by decide +kernel
theorem d_G_balance_97 : decode b_G_balance 97 = .ok (.idiv, 1) := by decide +kernel
theorem d_G_balance_98 : decode b_G_balance 98 = .ok (.invokevirtual 167, 3) := by decide +kernel
theorem d_G_balance_101 : decode b_G_balance 101 = .ok (.aload_n 0, 1) := by decide +kernel
theorem d_G_balance_102 : decode b_G_balance 102 = .ok (.aload_n 2, 1) := by decide +kernel
theorem d_G_balance_103 : decode b_G_balance 103 = .ok (.getfield 150, 3) := by decide +kernel
theorem d_G_balance_106 : decode b_G_balance 106 = .ok (.aload_n 3, 1) := by decide +kernel
theorem d_G_balance_107 : decode b_G_balance 107 = .ok (.getfield 150, 3) := by decide +kernel
theorem d_G_balance_110 : decode b_G_balance 110 = .ok (.invokevirtual 153, 3) := by decide +kernel
theorem d_G_balance_113 : decode b_G_balance 113 = .ok (.iconst 1, 1) := by decide +kernel
theorem d_G_balance_114 : decode b_G_balance 114 = .ok (.ireturn, 1) := by decide +kernel
theorem d_G_keepRepetitions_0 : decode b_G_keepRepetitions 0 = .ok (.iconst 0, 1) := by decide +kernel
theorem d_G_keepRepetitions_1 : decode b_G_keepRepetitions 1 = .ok (.istore_n 1, 1) := by decide +kernel
theorem d_G_keepRepetitions_2 : decode b_G_keepRepetitions 2 = .ok (.iconst 0, 1) := by decide +kernel
theorem d_G_keepRepetitions_3 : decode b_G_keepRepetitions 3 = .ok (.istore_n 2, 1) := by decide +kernel
theorem d_G_keepRepetitions_4 : decode b_G_keepRepetitions 4 = .ok (.iload_n 2, 1) := by decide +kernel
theorem d_G_keepRepetitions_5 : decode b_G_keepRepetitions 5 = .ok (.bipush 8, 2) := by decide +kernel
theorem d_G_keepRepetitions_7 : decode b_G_keepRepetitions 7 = .ok (.if_icmp .ge 42, 3) := by decide +kernel
theorem d_G_keepRepetitions_10 : decode b_G_keepRepetitions 10 = .ok (.aload_n 0, 1) := by decide +kernel
theorem d_G_keepRepetitions_11 : decode b_G_keepRepetitions 11 = .ok (.getfield 11, 3) := by decide +kernel
theorem d_G_keepRepetitions_14 : decode b_G_keepRepetitions 14 = .ok (.iload_n 2, 1) := by decide +kernel
theorem d_G_keepRepetitions_15 : decode b_G_keepRepetitions 15 = .ok (.aaload, 1) := by decide +kernel
theorem d_G_keepRepetitions_16 : decode b_G_keepRepetitions 16 = .ok (.astore_n 3, 1) := by decide +kernel
theorem d_G_keepRepetitions_17 : decode b_G_keepRepetitions 17 = .ok (.aload_n 3, 1) := by decide +kernel
theorem d_G_keepRepetitions_18 : decode b_G_keepRepetitions 18 = .ok (.aload_n 3, 1) := by decide +kernel
theorem d_G_keepRepetitions_19 : decode b_G_keepRepetitions 19 = .ok (.getfield 39, 3) := by decide +kernel
theorem d_G_keepRepetitions_22 : decode b_G_keepRepetitions 22 = .ok (.ifCond .eq 10, 3) := by decide +kernel
theorem d_G_keepRepetitions_25 : decode b_G_keepRepetitions 25 = .ok (.aload_n 3, 1) := by decide +kernel
theorem d_G_keepRepetitions_26 : decode b_G_keepRepetitions 26 = .ok (.getfield 157, 3) := by decide +kernel
theorem d_G_keepRepetitions_29 : decode b_G_keepRepetitions 29 = .ok (.goto 4, 3) := by decide +kernel
theorem d_G_keepRepetitions_32 : decode b_G_keepRepetitions 32 = .ok (.iconst 0, 1) := by decide +kernel
theorem d_G_keepRepetitions_33 : decode b_G_keepRepetitions 33 = .ok (.putfield 105, 3) := by decide +kernel
theorem d_G_keepRepetitions_36 : decode b_G_keepRepetitions 36 = .ok (.iload_n 1, 1) := by decide +kernel
theorem d_G_keepRepetitions_37 : decode b_G_keepRepetitions 37 = .ok (.aload_n 3, 1) := by decide +kernel
theorem d_G_keepRepetitions_38 : decode b_G_keepRepetitions 38 = .ok (.getfield 105, 3) := by decide +kernel
theorem d_G_keepRepetitions_41 : decode b_G_keepRepetitions 41 = .ok (.iadd, 1) := by decide +kernel
theorem d_G_keepRepetitions_42 : decode b_G_keepRepetitions 42 = .ok (.istore_n 1, 1) := by decide +kernel
theorem d_G_keepRepetitions_43 : decode b_G_keepRepetitions 43 = .ok (.iinc 2 1, 3) := by decide +kernel
theorem d_G_keepRepetitions_46 : decode b_G_keepRepetitions 46 = .ok (.goto (-42), 3) := by decide +kernel
theorem d_G_keepRepetitions_49 : decode b_G_keepRepetitions 49 = .ok (.iload_n 1, 1) := by decide +kernel
theorem d_G_keepRepetitions_50 : decode b_G_keepRepetitions 50 = .ok (.ireturn, 1) := by decide +kernel
theorem d_G_makeSchedule_0 : decode b_G_makeSchedule 0 = .ok (.iconst 0, 1) := by decide +kernel
theorem d_G_makeSchedule_1 : decode b_G_makeSchedule 1 = .ok (.istore_n 2, 1) := by decide +kernel
theorem d_G_makeSchedule_2 : decode b_G_makeSchedule 2 = .ok (.iload_n 2, 1) := by decide +kernel
theorem d_G_makeSchedule_3 : decode b_G_makeSchedule 3 = .ok (.bipush 8, 2) := by decide +kernel
theorem d_G_makeSchedule_5 : decode b_G_makeSchedule 5 = .ok (.if_icmp .ge 19, 3) := by decide +kernel
theorem d_G_makeSchedule_8 : decode b_G_makeSchedule 8 = .ok (.aload_n 0, 1) := by decide +kernel
theorem d_G_makeSchedule_9 : decode b_G_makeSchedule 9 = .ok (.getfield 11, 3) := by decide +kernel
theorem d_G_makeSchedule_12 : decode b_G_makeSchedule 12 = .ok (.iload_n 2, 1) := by decide +kernel
theorem d_G_makeSchedule_13 : decode b_G_makeSchedule 13 = .ok (.aaload, 1) := by decide +kernel
theorem d_G_makeSchedule_14 : decode b_G_makeSchedule 14 = .ok (.iconst 0, 1) := by decide +kernel
theorem d_G_makeSchedule_15 : decode b_G_makeSchedule 15 = .ok (.putfield 170, 3) := by decide +kernel
theorem d_G_makeSchedule_18 : decode b_G_makeSchedule 18 = .ok (.iinc 2 1, 3) := by decide +kernel
theorem d_G_makeSchedule_21 : decode b_G_makeSchedule 21 = .ok (.goto (-19), 3) := by decide +kernel
theorem d_G_makeSchedule_24 : decode b_G_makeSchedule 24 = .ok (.iconst 0, 1) := by decide +kernel
theorem d_G_makeSchedule_25 : decode b_G_makeSchedule 25 = .ok (.istore_n 2, 1) := by decide +kernel
theorem d_G_makeSchedule_26 : decode b_G_makeSchedule 26 = .ok (.iload_n 2, 1) := by decide +kernel
theorem d_G_makeSchedule_27 : decode b_G_makeSchedule 27 = .ok (.aload_n 0, 1) := by decide +kernel
theorem d_G_makeSchedule_28 : decode b_G_makeSchedule 28 = .ok (.getfield 57, 3) := by decide +kernel
theorem d_G_makeSchedule_31 : decode b_G_makeSchedule 31 = .ok (.if_icmp .ge 45, 3) := by decide +kernel
theorem d_G_makeSchedule_34 : decode b_G_makeSchedule 34 = .ok (.aload_n 0, 1) := by decide +kernel
theorem d_G_makeSchedule_35 : decode b_G_makeSchedule 35 = .ok (.getfield 17, 3) := by decide +kernel
theorem d_G_makeSchedule_38 : decode b_G_makeSchedule 38 = .ok (.iload_n 2, 1) := by decide +kernel
theorem d_G_makeSchedule_39 : decode b_G_makeSchedule 39 = .ok (.aaload, 1) := by decide +kernel
theorem d_G_makeSchedule_40 : decode b_G_makeSchedule 40 = .ok (.aload_n 0, 1) := by decide +kernel
theorem d_G_makeSchedule_41 : decode b_G_makeSchedule 41 = .ok (.getfield 17, 3) := by decide +kernel
theorem d_G_makeSchedule_44 : decode b_G_makeSchedule 44 = .ok (.iload_n 2, 1) := by decide +kernel
theorem d_G_makeSchedule_45 : decode b_G_makeSchedule 45 = .ok (.aaload, 1) := by decide +kernel
theorem d_G_makeSchedule_46 : decode b_G_makeSchedule 46 = .ok (.getfield 72, 3) := by decide +kernel
theorem d_G_makeSchedule_49 : decode b_G_makeSchedule 49 = .ok (.putfield 123, 3) := by decide +kernel
theorem d_G_makeSchedule_52 : decode b_G_makeSchedule 52 = .ok (.aload_n 0, 1) := by decide +kernel
theorem d_G_makeSchedule_53 : decode b_G_makeSchedule 53 = .ok (.getfield 17, 3) := by decide +kernel
theorem d_G_makeSchedule_56 : decode b_G_makeSchedule 56 = .ok (.iload_n 2, 1) := by decide +kernel
theorem d_G_makeSchedule_57 : decode b_G_makeSchedule 57 = .ok (.aaload, 1) := by decide +kernel
theorem d_G_makeSchedule_58 : decode b_G_makeSchedule 58 = .ok (.aload_n 0, 1) := by decide +kernel
theorem d_G_makeSchedule_59 : decode b_G_makeSchedule 59 = .ok (.getfield 17, 3) := by decide +kernel
theorem d_G_makeSchedule_62 : decode b_G_makeSchedule 62 = .ok (.iload_n 2, 1) := by decide +kernel
theorem d_G_makeSchedule_63 : decode b_G_makeSchedule 63 = .ok (.aaload, 1) := by decide +kernel
theorem d_G_makeSchedule_64 : decode b_G_makeSchedule 64 = .ok (.getfield 72, 3) := by decide +kernel
theorem d_G_makeSchedule_67 : decode b_G_makeSchedule 67 = .ok (.putfield 108, 3) := by decide +kernel
theorem d_G_makeSchedule_70 : decode b_G_makeSchedule 70 = .ok (.iinc 2 1, 3) := by decide +kernel
theorem d_G_makeSchedule_73 : decode b_G_makeSchedule 73 = .ok (.goto (-47), 3) := by decide +kernel
theorem d_G_makeSchedule_76 : decode b_G_makeSchedule 76 = .ok (.iconst 0, 1) := by decide +kernel
theorem d_G_makeSchedule_77 : decode b_G_makeSchedule 77 = .ok (.istore_n 2, 1) := by decide +kernel
theorem d_G_makeSchedule_78 : decode b_G_makeSchedule 78 = .ok (.iconst 0, 1) := by decide +kernel
theorem d_G_makeSchedule_79 : decode b_G_makeSchedule 79 = .ok (.istore_n 3, 1) := by decide +kernel
theorem d_G_makeSchedule_80 : decode b_G_makeSchedule 80 = .ok (.iload_n 3, 1) := by decide +kernel
theorem d_G_makeSchedule_81 : decode b_G_makeSchedule 81 = .ok (.aload_n 0, 1) := by decide +kernel
theorem d_G_makeSchedule_82 : decode b_G_makeSchedule 82 = .ok (.getfield 88, 3) := by decide +kernel
theorem d_G_makeSchedule_85 : decode b_G_makeSchedule 85 = .ok (.if_icmp .ge 45, 3) := by decide +kernel
theorem d_G_makeSchedule_88 : decode b_G_makeSchedule 88 = .ok (.aload_n 0, 1) := by decide +kernel
theorem d_G_makeSchedule_89 : decode b_G_makeSchedule 89 = .ok (.iload_n 1, 1) := by decide +kernel
theorem d_G_makeSchedule_90 : decode b_G_makeSchedule 90 = .ok (.iload_n 2, 1) := by decide +kernel
theorem d_G_makeSchedule_91 : decode b_G_makeSchedule 91 = .ok (.invokevirtual 173, 3) := by decide +kernel
theorem d_G_makeSchedule_94 : decode b_G_makeSchedule 94 = .ok (.istore 4, 2) := by decide +kernel
theorem d_G_makeSchedule_96 : decode b_G_makeSchedule 96 = .ok (.iload 4, 2) := by decide +kernel
theorem d_G_makeSchedule_98 : decode b_G_makeSchedule 98 = .ok (.iconst (-1), 1) := by decide +kernel
theorem d_G_makeSchedule_99 : decode b_G_makeSchedule 99 = .ok (.if_icmp .ne 8, 3) := by decide +kernel
theorem d_G_makeSchedule_102 : decode b_G_makeSchedule 102 = .ok (.aload_n 0, 1) := by decide +kernel
theorem d_G_makeSchedule_103 : decode b_G_makeSchedule 103 = .ok (.invokevirtual 176, 3) := by decide +kernel
theorem d_G_makeSchedule_106 : decode b_G_makeSchedule 106 = .ok (.ireturn, 1) := by decide +kernel
theorem d_G_makeSchedule_107 : decode b_G_makeSchedule 107 = .ok (.aload_n 0, 1) := by decide +kernel
theorem d_G_makeSchedule_108 : decode b_G_makeSchedule 108 = .ok (.iload 4, 2) := by decide +kernel
theorem d_G_makeSchedule_110 : decode b_G_makeSchedule 110 = .ok (.invokevirtual 179, 3) := by decide +kernel
theorem d_G_makeSchedule_113 : decode b_G_makeSchedule 113 = .ok (.aload_n 0, 1) := by decide +kernel
theorem d_G_makeSchedule_114 : decode b_G_makeSchedule 114 = .ok (.getfield 30, 3) := by decide +kernel
theorem d_G_makeSchedule_117 : decode b_G_makeSchedule 117 = .ok (.iload_n 3, 1) := by decide +kernel
theorem d_G_makeSchedule_118 : decode b_G_makeSchedule 118 = .ok (.iload 4, 2) := by decide +kernel
theorem d_G_makeSchedule_120 : decode b_G_makeSchedule 120 = .ok (.iastore, 1) := by decide +kernel
theorem d_G_makeSchedule_121 : decode b_G_makeSchedule 121 = .ok (.iload 4, 2) := by decide +kernel
theorem d_G_makeSchedule_123 : decode b_G_makeSchedule 123 = .ok (.istore_n 2, 1) := by decide +kernel
theorem d_G_makeSchedule_124 : decode b_G_makeSchedule 124 = .ok (.iinc 3 1, 3) := by decide +kernel
theorem d_G_makeSchedule_127 : decode b_G_makeSchedule 127 = .ok (.goto (-47), 3) := by decide +kernel
theorem d_G_makeSchedule_130 : decode b_G_makeSchedule 130 = .ok (.iconst (-1), 1) := by decide +kernel
theorem d_G_makeSchedule_131 : decode b_G_makeSchedule 131 = .ok (.ireturn, 1) := by decide +kernel
theorem d_G_choose_0 : decode b_G_choose 0 = .ok (.iload_n 1, 1) := by decide +kernel
theorem d_G_choose_1 : decode b_G_choose 1 = .ok (.iconst 1, 1) := by decide +kernel
theorem d_G_choose_2 : decode b_G_choose 2 = .ok (.if_icmp .ne 8, 3) := by decide +kernel
theorem d_G_choose_5 : decode b_G_choose 5 = .ok (.aload_n 0, 1) := by decide +kernel
theorem d_G_choose_6 : decode b_G_choose 6 = .ok (.invokevirtual 182, 3) := by decide +kernel
theorem d_G_choose_9 : decode b_G_choose 9 = .ok (.ireturn, 1) := by decide +kernel
theorem d_G_choose_10 : decode b_G_choose 10 = .ok (.aload_n 0, 1) := by decide +kernel
theorem d_G_choose_11 : decode b_G_choose 11 = .ok (.iload_n 1, 1) := by decide +kernel
theorem d_G_choose_12 : decode b_G_choose 12 = .ok (.iconst 2, 1) := by decide +kernel
theorem d_G_choose_13 : decode b_G_choose 13 = .ok (.if_icmp .ne 7, 3) := by decide +kernel
theorem d_G_choose_16 : decode b_G_choose 16 = .ok (.iload_n 2, 1) := by decide +kernel
theorem d_G_choose_17 : decode b_G_choose 17 = .ok (.goto 4, 3) := by decide +kernel
theorem d_G_choose_20 : decode b_G_choose 20 = .ok (.iconst 0, 1) := by decide +kernel
theorem d_G_choose_21 : decode b_G_choose 21 = .ok (.invokevirtual 185, 3) := by decide +kernel
theorem d_G_choose_24 : decode b_G_choose 24 = .ok (.ireturn, 1) := by decide +kernel
theorem d_G_chooseFrom_0 : decode b_G_chooseFrom 0 = .ok (.iconst 0, 1) := by decide +kernel
theorem d_G_chooseFrom_1 : decode b_G_chooseFrom 1 = .ok (.istore_n 2, 1) := by decide +kernel
theorem d_G_chooseFrom_2 : decode b_G_chooseFrom 2 = .ok (.iload_n 2, 1) := by decide +kernel
theorem d_G_chooseFrom_3 : decode b_G_chooseFrom 3 = .ok (.bipush 8, 2) := by decide +kernel
theorem d_G_chooseFrom_5 : decode b_G_chooseFrom 5 = .ok (.if_icmp .ge 26, 3) := by decide +kernel
theorem d_G_chooseFrom_8 : decode b_G_chooseFrom 8 = .ok (.iload_n 1, 1) := by decide +kernel
theorem d_G_chooseFrom_9 : decode b_G_chooseFrom 9 = .ok (.iload_n 2, 1) := by decide +kernel
theorem d_G_chooseFrom_10 : decode b_G_chooseFrom 10 = .ok (.iadd, 1) := by decide +kernel
theorem d_G_chooseFrom_11 : decode b_G_chooseFrom 11 = .ok (.bipush 8, 2) := by decide +kernel
theorem d_G_chooseFrom_13 : decode b_G_chooseFrom 13 = .ok (.irem, 1) := by decide +kernel
theorem d_G_chooseFrom_14 : decode b_G_chooseFrom 14 = .ok (.istore_n 3, 1) := by decide +kernel
theorem d_G_chooseFrom_15 : decode b_G_chooseFrom 15 = .ok (.aload_n 0, 1) := by decide +kernel
theorem d_G_chooseFrom_16 : decode b_G_chooseFrom 16 = .ok (.iload_n 3, 1) := by decide +kernel
theorem d_G_chooseFrom_17 : decode b_G_chooseFrom 17 = .ok (.invokevirtual 188, 3) := by decide +kernel
theorem d_G_chooseFrom_20 : decode b_G_chooseFrom 20 = .ok (.ifCond .eq 5, 3) := by decide +kernel
theorem d_G_chooseFrom_23 : decode b_G_chooseFrom 23 = .ok (.iload_n 3, 1) := by decide +kernel
theorem d_G_chooseFrom_24 : decode b_G_chooseFrom 24 = .ok (.ireturn, 1) := by decide +kernel
theorem d_G_chooseFrom_25 : decode b_G_chooseFrom 25 = .ok (.iinc 2 1, 3) := by decide +kernel
theorem d_G_chooseFrom_28 : decode b_G_chooseFrom 28 = .ok (.goto (-26), 3) := by decide +kernel
theorem d_G_chooseFrom_31 : decode b_G_chooseFrom 31 = .ok (.iconst (-1), 1) := by decide +kernel
theorem d_G_chooseFrom_32 : decode b_G_chooseFrom 32 = .ok (.ireturn, 1) := by decide +kernel
theorem d_G_chooseFewestTokens_0 : decode b_G_chooseFewestTokens 0 = .ok (.iconst (-1), 1) := by decide +kernel
theorem d_G_chooseFewestTokens_1 : decode b_G_chooseFewestTokens 1 = .ok (.istore_n 1, 1) := by decide +kernel
theorem d_G_chooseFewestTokens_2 : decode b_G_chooseFewestTokens 2 = .ok (.iconst 0, 1) := by decide +kernel
theorem d_G_chooseFewestTokens_3 : decode b_G_chooseFewestTokens 3 = .ok (.istore_n 2, 1) := by decide +kernel
theorem d_G_chooseFewestTokens_4 : decode b_G_chooseFewestTokens 4 = .ok (.iconst 0, 1) := by decide +kernel
theorem d_G_chooseFewestTokens_5 : decode b_G_chooseFewestTokens 5 = .ok (.istore_n 3, 1) := by decide +kernel
theorem d_G_chooseFewestTokens_6 : decode b_G_chooseFewestTokens 6 = .ok (.iload_n 3, 1) := by decide +kernel
theorem d_G_chooseFewestTokens_7 : decode b_G_chooseFewestTokens 7 = .ok (.bipush 8, 2) := by decide +kernel
theorem d_G_chooseFewestTokens_9 : decode b_G_chooseFewestTokens 9 = .ok (.if_icmp .ge 40, 3) := by decide +kernel
theorem d_G_chooseFewestTokens_12 : decode b_G_chooseFewestTokens 12 = .ok (.aload_n 0, 1) := by decide +kernel
theorem d_G_chooseFewestTokens_13 : decode b_G_chooseFewestTokens 13 = .ok (.iload_n 3, 1) := by decide +kernel
theorem d_G_chooseFewestTokens_14 : decode b_G_chooseFewestTokens 14 = .ok (.invokevirtual 188, 3) := by decide +kernel
theorem d_G_chooseFewestTokens_17 : decode b_G_chooseFewestTokens 17 = .ok (.ifCond .eq 26, 3) := by decide +kernel
theorem d_G_chooseFewestTokens_20 : decode b_G_chooseFewestTokens 20 = .ok (.aload_n 0, 1) := by decide +kernel
theorem d_G_chooseFewestTokens_21 : decode b_G_chooseFewestTokens 21 = .ok (.iload_n 3, 1) := by decide +kernel
theorem d_G_chooseFewestTokens_22 : decode b_G_chooseFewestTokens 22 = .ok (.invokevirtual 191, 3) := by decide +kernel
theorem d_G_chooseFewestTokens_25 : decode b_G_chooseFewestTokens 25 = .ok (.istore 4, 2) := by decide +kernel
theorem d_G_chooseFewestTokens_27 : decode b_G_chooseFewestTokens 27 = .ok (.iload_n 1, 1) := by decide +kernel
theorem d_G_chooseFewestTokens_28 : decode b_G_chooseFewestTokens 28 = .ok (.iconst (-1), 1) := by decide +kernel
theorem d_G_chooseFewestTokens_29 : decode b_G_chooseFewestTokens 29 = .ok (.if_icmp .eq 9, 3) := by decide +kernel
theorem d_G_chooseFewestTokens_32 : decode b_G_chooseFewestTokens 32 = .ok (.iload 4, 2) := by decide +kernel
theorem d_G_chooseFewestTokens_34 : decode b_G_chooseFewestTokens 34 = .ok (.iload_n 2, 1) := by decide +kernel
theorem d_G_chooseFewestTokens_35 : decode b_G_chooseFewestTokens 35 = .ok (.if_icmp .ge 8, 3) := by decide +kernel
theorem d_G_chooseFewestTokens_38 : decode b_G_chooseFewestTokens 38 = .ok (.iload_n 3, 1) := by decide +kernel
theorem d_G_chooseFewestTokens_39 : decode b_G_chooseFewestTokens 39 = .ok (.istore_n 1, 1) := by decide +kernel
theorem d_G_chooseFewestTokens_40 : decode b_G_chooseFewestTokens 40 = .ok (.iload 4, 2) := by decide +kernel
theorem d_G_chooseFewestTokens_42 : decode b_G_chooseFewestTokens 42 = .ok (.istore_n 2, 1) := by decide +kernel
theorem d_G_chooseFewestTokens_43 : decode b_G_chooseFewestTokens 43 = .ok (.iinc 3 1, 3) := by decide +kernel
theorem d_G_chooseFewestTokens_46 : decode b_G_chooseFewestTokens 46 = .ok (.goto (-40), 3) := by decide +kernel
theorem d_G_chooseFewestTokens_49 : decode b_G_chooseFewestTokens 49 = .ok (.iload_n 1, 1) := by decide +kernel
theorem d_G_chooseFewestTokens_50 : decode b_G_chooseFewestTokens 50 = .ok (.ireturn, 1) := by decide +kernel
theorem d_G_tokensWonBy_0 : decode b_G_tokensWonBy 0 = .ok (.iconst 0, 1) := by decide +kernel
theorem d_G_tokensWonBy_1 : decode b_G_tokensWonBy 1 = .ok (.istore_n 2, 1) := by decide +kernel
theorem d_G_tokensWonBy_2 : decode b_G_tokensWonBy 2 = .ok (.iconst 0, 1) := by decide +kernel
theorem d_G_tokensWonBy_3 : decode b_G_tokensWonBy 3 = .ok (.istore_n 3, 1) := by decide +kernel
theorem d_G_tokensWonBy_4 : decode b_G_tokensWonBy 4 = .ok (.iload_n 3, 1) := by decide +kernel
theorem d_G_tokensWonBy_5 : decode b_G_tokensWonBy 5 = .ok (.aload_n 0, 1) := by decide +kernel
theorem d_G_tokensWonBy_6 : decode b_G_tokensWonBy 6 = .ok (.getfield 57, 3) := by decide +kernel
theorem d_G_tokensWonBy_9 : decode b_G_tokensWonBy 9 = .ok (.if_icmp .ge 51, 3) := by decide +kernel
theorem d_G_tokensWonBy_12 : decode b_G_tokensWonBy 12 = .ok (.aload_n 0, 1) := by decide +kernel
theorem d_G_tokensWonBy_13 : decode b_G_tokensWonBy 13 = .ok (.getfield 17, 3) := by decide +kernel
theorem d_G_tokensWonBy_16 : decode b_G_tokensWonBy 16 = .ok (.iload_n 3, 1) := by decide +kernel
theorem d_G_tokensWonBy_17 : decode b_G_tokensWonBy 17 = .ok (.aaload, 1) := by decide +kernel
theorem d_G_tokensWonBy_18 : decode b_G_tokensWonBy 18 = .ok (.astore 4, 2) := by decide +kernel
theorem d_G_tokensWonBy_20 : decode b_G_tokensWonBy 20 = .ok (.aload 4, 2) := by decide +kernel
theorem d_G_tokensWonBy_22 : decode b_G_tokensWonBy 22 = .ok (.getfield 60, 3) := by decide +kernel
theorem d_G_tokensWonBy_25 : decode b_G_tokensWonBy 25 = .ok (.iload_n 1, 1) := by decide +kernel
theorem d_G_tokensWonBy_26 : decode b_G_tokensWonBy 26 = .ok (.if_icmp .ne 11, 3) := by decide +kernel
theorem d_G_tokensWonBy_29 : decode b_G_tokensWonBy 29 = .ok (.iload_n 2, 1) := by decide +kernel
theorem d_G_tokensWonBy_30 : decode b_G_tokensWonBy 30 = .ok (.aload 4, 2) := by decide +kernel
theorem d_G_tokensWonBy_32 : decode b_G_tokensWonBy 32 = .ok (.getfield 66, 3) := by decide +kernel
theorem d_G_tokensWonBy_35 : decode b_G_tokensWonBy 35 = .ok (.iadd, 1) := by decide +kernel
theorem d_G_tokensWonBy_36 : decode b_G_tokensWonBy 36 = .ok (.istore_n 2, 1) := by decide +kernel
theorem d_G_tokensWonBy_37 : decode b_G_tokensWonBy 37 = .ok (.aload 4, 2) := by decide +kernel
theorem d_G_tokensWonBy_39 : decode b_G_tokensWonBy 39 = .ok (.getfield 63, 3) := by decide +kernel
theorem d_G_tokensWonBy_42 : decode b_G_tokensWonBy 42 = .ok (.iload_n 1, 1) := by decide +kernel
theorem d_G_tokensWonBy_43 : decode b_G_tokensWonBy 43 = .ok (.if_icmp .ne 11, 3) := by decide +kernel
theorem d_G_tokensWonBy_46 : decode b_G_tokensWonBy 46 = .ok (.iload_n 2, 1) := by decide +kernel
theorem d_G_tokensWonBy_47 : decode b_G_tokensWonBy 47 = .ok (.aload 4, 2) := by decide +kernel
theorem d_G_tokensWonBy_49 : decode b_G_tokensWonBy 49 = .ok (.getfield 69, 3) := by decide +kernel
theorem d_G_tokensWonBy_52 : decode b_G_tokensWonBy 52 = .ok (.isub, 1) := by decide +kernel
theorem d_G_tokensWonBy_53 : decode b_G_tokensWonBy 53 = .ok (.istore_n 2, 1) := by decide +kernel
theorem d_G_tokensWonBy_54 : decode b_G_tokensWonBy 54 = .ok (.iinc 3 1, 3) := by decide +kernel
theorem d_G_tokensWonBy_57 : decode b_G_tokensWonBy 57 = .ok (.goto (-53), 3) := by decide +kernel
theorem d_G_tokensWonBy_60 : decode b_G_tokensWonBy 60 = .ok (.iload_n 2, 1) := by decide +kernel
theorem d_G_tokensWonBy_61 : decode b_G_tokensWonBy 61 = .ok (.ireturn, 1) := by decide +kernel
theorem d_G_canFire_0 : decode b_G_canFire 0 = .ok (.aload_n 0, 1) := by decide +kernel
theorem d_G_canFire_1 : decode b_G_canFire 1 = .ok (.getfield 11, 3) := by decide +kernel
theorem d_G_canFire_4 : decode b_G_canFire 4 = .ok (.iload_n 1, 1) := by decide +kernel
theorem d_G_canFire_5 : decode b_G_canFire 5 = .ok (.aaload, 1) := by decide +kernel
theorem d_G_canFire_6 : decode b_G_canFire 6 = .ok (.invokevirtual 194, 3) := by decide +kernel
theorem d_G_canFire_9 : decode b_G_canFire 9 = .ok (.ifCond .eq 15, 3) := by decide +kernel
theorem d_G_canFire_12 : decode b_G_canFire 12 = .ok (.aload_n 0, 1) := by decide +kernel
theorem d_G_canFire_13 : decode b_G_canFire 13 = .ok (.iload_n 1, 1) := by decide +kernel
theorem d_G_canFire_14 : decode b_G_canFire 14 = .ok (.invokevirtual 197, 3) := by decide +kernel
theorem d_G_canFire_17 : decode b_G_canFire 17 = .ok (.ifCond .eq 7, 3) := by decide +kernel
theorem d_G_canFire_20 : decode b_G_canFire 20 = .ok (.iconst 1, 1) := by decide +kernel
theorem d_G_canFire_21 : decode b_G_canFire 21 = .ok (.goto 4, 3) := by decide +kernel
theorem d_G_canFire_24 : decode b_G_canFire 24 = .ok (.iconst 0, 1) := by decide +kernel
theorem d_G_canFire_25 : decode b_G_canFire 25 = .ok (.ireturn, 1) := by decide +kernel
theorem d_G_isReady_0 : decode b_G_isReady 0 = .ok (.iconst 0, 1) := by decide +kernel
theorem d_G_isReady_1 : decode b_G_isReady 1 = .ok (.istore_n 2, 1) := by decide +kernel
theorem d_G_isReady_2 : decode b_G_isReady 2 = .ok (.iload_n 2, 1) := by decide +kernel
theorem d_G_isReady_3 : decode b_G_isReady 3 = .ok (.aload_n 0, 1) := by decide +kernel
theorem d_G_isReady_4 : decode b_G_isReady 4 = .ok (.getfield 57, 3) := by decide +kernel
theorem d_G_isReady_7 : decode b_G_isReady 7 = .ok (.if_icmp .ge 37, 3) := by decide +kernel
theorem d_G_isReady_10 : decode b_G_isReady 10 = .ok (.aload_n 0, 1) := by decide +kernel
theorem d_G_isReady_11 : decode b_G_isReady 11 = .ok (.getfield 17, 3) := by decide +kernel
theorem d_G_isReady_14 : decode b_G_isReady 14 = .ok (.iload_n 2, 1) := by decide +kernel
theorem d_G_isReady_15 : decode b_G_isReady 15 = .ok (.aaload, 1) := by decide +kernel
theorem d_G_isReady_16 : decode b_G_isReady 16 = .ok (.astore_n 3, 1) := by decide +kernel
theorem d_G_isReady_17 : decode b_G_isReady 17 = .ok (.aload_n 3, 1) := by decide +kernel
theorem d_G_isReady_18 : decode b_G_isReady 18 = .ok (.getfield 63, 3) := by decide +kernel
theorem d_G_isReady_21 : decode b_G_isReady 21 = .ok (.iload_n 1, 1) := by decide +kernel
theorem d_G_isReady_22 : decode b_G_isReady 22 = .ok (.if_icmp .ne 16, 3) := by decide +kernel
theorem d_G_isReady_25 : decode b_G_isReady 25 = .ok (.aload_n 3, 1) := by decide +kernel
theorem d_G_isReady_26 : decode b_G_isReady 26 = .ok (.getfield 123, 3) := by decide +kernel
theorem d_G_isReady_29 : decode b_G_isReady 29 = .ok (.aload_n 3, 1) := by decide +kernel
theorem d_G_isReady_30 : decode b_G_isReady 30 = .ok (.getfield 69, 3) := by decide +kernel
theorem d_G_isReady_33 : decode b_G_isReady 33 = .ok (.if_icmp .ge 5, 3) := by decide +kernel
theorem d_G_isReady_36 : decode b_G_isReady 36 = .ok (.iconst 0, 1) := by decide +kernel
theorem d_G_isReady_37 : decode b_G_isReady 37 = .ok (.ireturn, 1) := by decide +kernel
theorem d_G_isReady_38 : decode b_G_isReady 38 = .ok (.iinc 2 1, 3) := by decide +kernel
theorem d_G_isReady_41 : decode b_G_isReady 41 = .ok (.goto (-39), 3) := by decide +kernel
theorem d_G_isReady_44 : decode b_G_isReady 44 = .ok (.iconst 1, 1) := by decide +kernel
theorem d_G_isReady_45 : decode b_G_isReady 45 = .ok (.ireturn, 1) := by decide +kernel
theorem d_G_leastDue_0 : decode b_G_leastDue 0 = .ok (.iconst 0, 1) := by decide +kernel
theorem d_G_leastDue_1 : decode b_G_leastDue 1 = .ok (.istore_n 1, 1) := by decide +kernel
theorem d_G_leastDue_2 : decode b_G_leastDue 2 = .ok (.iload_n 1, 1) := by decide +kernel
theorem d_G_leastDue_3 : decode b_G_leastDue 3 = .ok (.bipush 8, 2) := by decide +kernel
theorem d_G_leastDue_5 : decode b_G_leastDue 5 = .ok (.if_icmp .ge 23, 3) := by decide +kernel
theorem d_G_leastDue_8 : decode b_G_leastDue 8 = .ok (.aload_n 0, 1) := by decide +kernel
theorem d_G_leastDue_9 : decode b_G_leastDue 9 = .ok (.getfield 11, 3) := by decide +kernel
theorem d_G_leastDue_12 : decode b_G_leastDue 12 = .ok (.iload_n 1, 1) := by decide +kernel
theorem d_G_leastDue_13 : decode b_G_leastDue 13 = .ok (.aaload, 1) := by decide +kernel
theorem d_G_leastDue_14 : decode b_G_leastDue 14 = .ok (.invokevirtual 194, 3) := by decide +kernel
theorem d_G_leastDue_17 : decode b_G_leastDue 17 = .ok (.ifCond .eq 5, 3) := by decide +kernel
theorem d_G_leastDue_20 : decode b_G_leastDue 20 = .ok (.iload_n 1, 1) := by decide +kernel
theorem d_G_leastDue_21 : decode b_G_leastDue 21 = .ok (.ireturn, 1) := by decide +kernel
theorem d_G_leastDue_22 : decode b_G_leastDue 22 = .ok (.iinc 1 1, 3) := by decide +kernel
theorem d_G_leastDue_25 : decode b_G_leastDue 25 = .ok (.goto (-23), 3) := by decide +kernel
theorem d_G_leastDue_28 : decode b_G_leastDue 28 = .ok (.iconst (-1), 1) := by decide +kernel
theorem d_G_leastDue_29 : decode b_G_leastDue 29 = .ok (.ireturn, 1) := by decide +kernel
theorem d_G_fireCounting_0 : decode b_G_fireCounting 0 = .ok (.iconst 0, 1) := by decide +kernel
theorem d_G_fireCounting_1 : decode b_G_fireCounting 1 = .ok (.istore_n 2, 1) := by decide +kernel
theorem d_G_fireCounting_2 : decode b_G_fireCounting 2 = .ok (.iload_n 2, 1) := by decide +kernel
theorem d_G_fireCounting_3 : decode b_G_fireCounting 3 = .ok (.aload_n 0, 1) := by decide +kernel
theorem d_G_fireCounting_4 : decode b_G_fireCounting 4 = .ok (.getfield 57, 3) := by decide +kernel
theorem d_G_fireCounting_7 : decode b_G_fireCounting 7 = .ok (.if_icmp .ge 73, 3) := by decide +kernel
theorem d_G_fireCounting_10 : decode b_G_fireCounting 10 = .ok (.aload_n 0, 1) := by decide +kernel
theorem d_G_fireCounting_11 : decode b_G_fireCounting 11 = .ok (.getfield 17, 3) := by decide +kernel
theorem d_G_fireCounting_14 : decode b_G_fireCounting 14 = .ok (.iload_n 2, 1) := by decide +kernel
theorem d_G_fireCounting_15 : decode b_G_fireCounting 15 = .ok (.aaload, 1) := by decide +kernel
theorem d_G_fireCounting_16 : decode b_G_fireCounting 16 = .ok (.astore_n 3, 1) := by decide +kernel
theorem d_G_fireCounting_17 : decode b_G_fireCounting 17 = .ok (.aload_n 3, 1) := by decide +kernel
theorem d_G_fireCounting_18 : decode b_G_fireCounting 18 = .ok (.getfield 63, 3) := by decide +kernel
theorem d_G_fireCounting_21 : decode b_G_fireCounting 21 = .ok (.iload_n 1, 1) := by decide +kernel
theorem d_G_fireCounting_22 : decode b_G_fireCounting 22 = .ok (.if_icmp .ne 16, 3) := by decide +kernel
theorem d_G_fireCounting_25 : decode b_G_fireCounting 25 = .ok (.aload_n 3, 1) := by decide +kernel
theorem d_G_fireCounting_26 : decode b_G_fireCounting 26 = .ok (.dup, 1) := by decide +kernel
theorem d_G_fireCounting_27 : decode b_G_fireCounting 27 = .ok (.getfield 123, 3) := by decide +kernel
theorem d_G_fireCounting_30 : decode b_G_fireCounting 30 = .ok (.aload_n 3, 1) := by decide +kernel
theorem d_G_fireCounting_31 : decode b_G_fireCounting 31 = .ok (.getfield 69, 3) := by decide +kernel
theorem d_G_fireCounting_34 : decode b_G_fireCounting 34 = .ok (.isub, 1) := by decide +kernel
theorem d_G_fireCounting_35 : decode b_G_fireCounting 35 = .ok (.putfield 123, 3) := by decide +kernel
theorem d_G_fireCounting_38 : decode b_G_fireCounting 38 = .ok (.aload_n 3, 1) := by decide +kernel
theorem d_G_fireCounting_39 : decode b_G_fireCounting 39 = .ok (.getfield 60, 3) := by decide +kernel
theorem d_G_fireCounting_42 : decode b_G_fireCounting 42 = .ok (.iload_n 1, 1) := by decide +kernel
theorem d_G_fireCounting_43 : decode b_G_fireCounting 43 = .ok (.if_icmp .ne 16, 3) := by decide +kernel
theorem d_G_fireCounting_46 : decode b_G_fireCounting 46 = .ok (.aload_n 3, 1) := by decide +kernel
theorem d_G_fireCounting_47 : decode b_G_fireCounting 47 = .ok (.dup, 1) := by decide +kernel
theorem d_G_fireCounting_48 : decode b_G_fireCounting 48 = .ok (.getfield 123, 3) := by decide +kernel
theorem d_G_fireCounting_51 : decode b_G_fireCounting 51 = .ok (.aload_n 3, 1) := by decide +kernel
theorem d_G_fireCounting_52 : decode b_G_fireCounting 52 = .ok (.getfield 66, 3) := by decide +kernel
theorem d_G_fireCounting_55 : decode b_G_fireCounting 55 = .ok (.iadd, 1) := by decide +kernel
theorem d_G_fireCounting_56 : decode b_G_fireCounting 56 = .ok (.putfield 123, 3) := by decide +kernel
theorem d_G_fireCounting_59 : decode b_G_fireCounting 59 = .ok (.aload_n 3, 1) := by decide +kernel
theorem d_G_fireCounting_60 : decode b_G_fireCounting 60 = .ok (.aload_n 3, 1) := by decide +kernel
theorem d_G_fireCounting_61 : decode b_G_fireCounting 61 = .ok (.getfield 108, 3) := by decide +kernel
theorem d_G_fireCounting_64 : decode b_G_fireCounting 64 = .ok (.aload_n 3, 1) := by decide +kernel
theorem d_G_fireCounting_65 : decode b_G_fireCounting 65 = .ok (.getfield 123, 3) := by decide +kernel
theorem d_G_fireCounting_68 : decode b_G_fireCounting 68 = .ok (.invokestatic 141, 3) := by decide +kernel
theorem d_G_fireCounting_71 : decode b_G_fireCounting 71 = .ok (.putfield 108, 3) := by decide +kernel
theorem d_G_fireCounting_74 : decode b_G_fireCounting 74 = .ok (.iinc 2 1, 3) := by decide +kernel
theorem d_G_fireCounting_77 : decode b_G_fireCounting 77 = .ok (.goto (-75), 3) := by decide +kernel
theorem d_G_fireCounting_80 : decode b_G_fireCounting 80 = .ok (.aload_n 0, 1) := by decide +kernel
theorem d_G_fireCounting_81 : decode b_G_fireCounting 81 = .ok (.getfield 11, 3) := by decide +kernel
theorem d_G_fireCounting_84 : decode b_G_fireCounting 84 = .ok (.iload_n 1, 1) := by decide +kernel
theorem d_G_fireCounting_85 : decode b_G_fireCounting 85 = .ok (.aaload, 1) := by decide +kernel
theorem d_G_fireCounting_86 : decode b_G_fireCounting 86 = .ok (.dup, 1) := by decide +kernel
theorem d_G_fireCounting_87 : decode b_G_fireCounting 87 = .ok (.getfield 170, 3) := by decide +kernel
theorem d_G_fireCounting_90 : decode b_G_fireCounting 90 = .ok (.iconst 1, 1) := by decide +kernel
theorem d_G_fireCounting_91 : decode b_G_fireCounting 91 = .ok (.iadd, 1) := by decide +kernel
theorem d_G_fireCounting_92 : decode b_G_fireCounting 92 = .ok (.putfield 170, 3) := by decide +kernel
theorem d_G_fireCounting_95 : decode b_G_fireCounting 95 = .ok (.return_, 1) := by decide +kernel
theorem d_G_setRunAsAtFirst_0 : decode b_G_setRunAsAtFirst 0 = .ok (.iconst 0, 1) := by decide +kernel
theorem d_G_setRunAsAtFirst_1 : decode b_G_setRunAsAtFirst 1 = .ok (.istore_n 1, 1) := by decide +kernel
theorem d_G_setRunAsAtFirst_2 : decode b_G_setRunAsAtFirst 2 = .ok (.iload_n 1, 1) := by decide +kernel
theorem d_G_setRunAsAtFirst_3 : decode b_G_setRunAsAtFirst 3 = .ok (.bipush 8, 2) := by decide +kernel
theorem d_G_setRunAsAtFirst_5 : decode b_G_setRunAsAtFirst 5 = .ok (.if_icmp .ge 18, 3) := by decide +kernel
theorem d_G_setRunAsAtFirst_8 : decode b_G_setRunAsAtFirst 8 = .ok (.aload_n 0, 1) := by decide +kernel
theorem d_G_setRunAsAtFirst_9 : decode b_G_setRunAsAtFirst 9 = .ok (.getfield 11, 3) := by decide +kernel
theorem d_G_setRunAsAtFirst_12 : decode b_G_setRunAsAtFirst 12 = .ok (.iload_n 1, 1) := by decide +kernel
theorem d_G_setRunAsAtFirst_13 : decode b_G_setRunAsAtFirst 13 = .ok (.aaload, 1) := by decide +kernel
theorem d_G_setRunAsAtFirst_14 : decode b_G_setRunAsAtFirst 14 = .ok (.invokevirtual 200, 3) := by decide +kernel
theorem d_G_setRunAsAtFirst_17 : decode b_G_setRunAsAtFirst 17 = .ok (.iinc 1 1, 3) := by decide +kernel
theorem d_G_setRunAsAtFirst_20 : decode b_G_setRunAsAtFirst 20 = .ok (.goto (-18), 3) := by decide +kernel
theorem d_G_setRunAsAtFirst_23 : decode b_G_setRunAsAtFirst 23 = .ok (.iconst 0, 1) := by decide +kernel
theorem d_G_setRunAsAtFirst_24 : decode b_G_setRunAsAtFirst 24 = .ok (.istore_n 1, 1) := by decide +kernel
theorem d_G_setRunAsAtFirst_25 : decode b_G_setRunAsAtFirst 25 = .ok (.iload_n 1, 1) := by decide +kernel
theorem d_G_setRunAsAtFirst_26 : decode b_G_setRunAsAtFirst 26 = .ok (.aload_n 0, 1) := by decide +kernel
theorem d_G_setRunAsAtFirst_27 : decode b_G_setRunAsAtFirst 27 = .ok (.getfield 57, 3) := by decide +kernel
theorem d_G_setRunAsAtFirst_30 : decode b_G_setRunAsAtFirst 30 = .ok (.if_icmp .ge 18, 3) := by decide +kernel
theorem d_G_setRunAsAtFirst_33 : decode b_G_setRunAsAtFirst 33 = .ok (.aload_n 0, 1) := by decide +kernel
theorem d_G_setRunAsAtFirst_34 : decode b_G_setRunAsAtFirst 34 = .ok (.getfield 17, 3) := by decide +kernel
theorem d_G_setRunAsAtFirst_37 : decode b_G_setRunAsAtFirst 37 = .ok (.iload_n 1, 1) := by decide +kernel
theorem d_G_setRunAsAtFirst_38 : decode b_G_setRunAsAtFirst 38 = .ok (.aaload, 1) := by decide +kernel
theorem d_G_setRunAsAtFirst_39 : decode b_G_setRunAsAtFirst 39 = .ok (.invokevirtual 203, 3) := by decide +kernel
theorem d_G_setRunAsAtFirst_42 : decode b_G_setRunAsAtFirst 42 = .ok (.iinc 1 1, 3) := by decide +kernel
theorem d_G_setRunAsAtFirst_45 : decode b_G_setRunAsAtFirst 45 = .ok (.goto (-20), 3) := by decide +kernel
theorem d_G_setRunAsAtFirst_48 : decode b_G_setRunAsAtFirst 48 = .ok (.aload_n 0, 1) := by decide +kernel
theorem d_G_setRunAsAtFirst_49 : decode b_G_setRunAsAtFirst 49 = .ok (.iconst 0, 1) := by decide +kernel
theorem d_G_setRunAsAtFirst_50 : decode b_G_setRunAsAtFirst 50 = .ok (.putfield 102, 3) := by decide +kernel
theorem d_G_setRunAsAtFirst_53 : decode b_G_setRunAsAtFirst 53 = .ok (.return_, 1) := by decide +kernel
theorem d_G_fire_0 : decode b_G_fire 0 = .ok (.iconst 0, 1) := by decide +kernel
theorem d_G_fire_1 : decode b_G_fire 1 = .ok (.istore_n 2, 1) := by decide +kernel
theorem d_G_fire_2 : decode b_G_fire 2 = .ok (.iconst 0, 1) := by decide +kernel
theorem d_G_fire_3 : decode b_G_fire 3 = .ok (.istore_n 3, 1) := by decide +kernel
theorem d_G_fire_4 : decode b_G_fire 4 = .ok (.iload_n 3, 1) := by decide +kernel
theorem d_G_fire_5 : decode b_G_fire 5 = .ok (.aload_n 0, 1) := by decide +kernel
theorem d_G_fire_6 : decode b_G_fire 6 = .ok (.getfield 57, 3) := by decide +kernel
theorem d_G_fire_9 : decode b_G_fire 9 = .ok (.if_icmp .ge 34, 3) := by decide +kernel
theorem d_G_fire_12 : decode b_G_fire 12 = .ok (.aload_n 0, 1) := by decide +kernel
theorem d_G_fire_13 : decode b_G_fire 13 = .ok (.getfield 17, 3) := by decide +kernel
theorem d_G_fire_16 : decode b_G_fire 16 = .ok (.iload_n 3, 1) := by decide +kernel
theorem d_G_fire_17 : decode b_G_fire 17 = .ok (.aaload, 1) := by decide +kernel
theorem d_G_fire_18 : decode b_G_fire 18 = .ok (.getfield 63, 3) := by decide +kernel
theorem d_G_fire_21 : decode b_G_fire 21 = .ok (.iload_n 1, 1) := by decide +kernel
theorem d_G_fire_22 : decode b_G_fire 22 = .ok (.if_icmp .ne 15, 3) := by decide +kernel
theorem d_G_fire_25 : decode b_G_fire 25 = .ok (.iload_n 2, 1) := by decide +kernel
theorem d_G_fire_26 : decode b_G_fire 26 = .ok (.aload_n 0, 1) := by decide +kernel
theorem d_G_fire_27 : decode b_G_fire 27 = .ok (.getfield 17, 3) := by decide +kernel
theorem d_G_fire_30 : decode b_G_fire 30 = .ok (.iload_n 3, 1) := by decide +kernel
theorem d_G_fire_31 : decode b_G_fire 31 = .ok (.aaload, 1) := by decide +kernel
theorem d_G_fire_32 : decode b_G_fire 32 = .ok (.invokevirtual 206, 3) := by decide +kernel
theorem d_G_fire_35 : decode b_G_fire 35 = .ok (.iadd, 1) := by decide +kernel
theorem d_G_fire_36 : decode b_G_fire 36 = .ok (.istore_n 2, 1) := by decide +kernel
theorem d_G_fire_37 : decode b_G_fire 37 = .ok (.iinc 3 1, 3) := by decide +kernel
theorem d_G_fire_40 : decode b_G_fire 40 = .ok (.goto (-36), 3) := by decide +kernel
theorem d_G_fire_43 : decode b_G_fire 43 = .ok (.aload_n 0, 1) := by decide +kernel
theorem d_G_fire_44 : decode b_G_fire 44 = .ok (.getfield 11, 3) := by decide +kernel
theorem d_G_fire_47 : decode b_G_fire 47 = .ok (.iload_n 1, 1) := by decide +kernel
theorem d_G_fire_48 : decode b_G_fire 48 = .ok (.aaload, 1) := by decide +kernel
theorem d_G_fire_49 : decode b_G_fire 49 = .ok (.iload_n 2, 1) := by decide +kernel
theorem d_G_fire_50 : decode b_G_fire 50 = .ok (.invokevirtual 209, 3) := by decide +kernel
theorem d_G_fire_53 : decode b_G_fire 53 = .ok (.istore_n 3, 1) := by decide +kernel
theorem d_G_fire_54 : decode b_G_fire 54 = .ok (.aload_n 0, 1) := by decide +kernel
theorem d_G_fire_55 : decode b_G_fire 55 = .ok (.getfield 11, 3) := by decide +kernel
theorem d_G_fire_58 : decode b_G_fire 58 = .ok (.iload_n 1, 1) := by decide +kernel
theorem d_G_fire_59 : decode b_G_fire 59 = .ok (.aaload, 1) := by decide +kernel
theorem d_G_fire_60 : decode b_G_fire 60 = .ok (.iload_n 3, 1) := by decide +kernel
theorem d_G_fire_61 : decode b_G_fire 61 = .ok (.putfield 118, 3) := by decide +kernel
theorem d_G_fire_64 : decode b_G_fire 64 = .ok (.iconst 0, 1) := by decide +kernel
theorem d_G_fire_65 : decode b_G_fire 65 = .ok (.istore 4, 2) := by decide +kernel
theorem d_G_fire_67 : decode b_G_fire 67 = .ok (.iload 4, 2) := by decide +kernel
theorem d_G_fire_69 : decode b_G_fire 69 = .ok (.aload_n 0, 1) := by decide +kernel
theorem d_G_fire_70 : decode b_G_fire 70 = .ok (.getfield 57, 3) := by decide +kernel
theorem d_G_fire_73 : decode b_G_fire 73 = .ok (.if_icmp .ge 34, 3) := by decide +kernel
theorem d_G_fire_76 : decode b_G_fire 76 = .ok (.aload_n 0, 1) := by decide +kernel
theorem d_G_fire_77 : decode b_G_fire 77 = .ok (.getfield 17, 3) := by decide +kernel
theorem d_G_fire_80 : decode b_G_fire 80 = .ok (.iload 4, 2) := by decide +kernel
theorem d_G_fire_82 : decode b_G_fire 82 = .ok (.aaload, 1) := by decide +kernel
theorem d_G_fire_83 : decode b_G_fire 83 = .ok (.getfield 60, 3) := by decide +kernel
theorem d_G_fire_86 : decode b_G_fire 86 = .ok (.iload_n 1, 1) := by decide +kernel
theorem d_G_fire_87 : decode b_G_fire 87 = .ok (.if_icmp .ne 14, 3) := by decide +kernel
theorem d_G_fire_90 : decode b_G_fire 90 = .ok (.aload_n 0, 1) := by decide +kernel
theorem d_G_fire_91 : decode b_G_fire 91 = .ok (.getfield 17, 3) := by decide +kernel
theorem d_G_fire_94 : decode b_G_fire 94 = .ok (.iload 4, 2) := by decide +kernel
theorem d_G_fire_96 : decode b_G_fire 96 = .ok (.aaload, 1) := by decide +kernel
theorem d_G_fire_97 : decode b_G_fire 97 = .ok (.iload_n 3, 1) := by decide +kernel
theorem d_G_fire_98 : decode b_G_fire 98 = .ok (.invokevirtual 212, 3) := by decide +kernel
theorem d_G_fire_101 : decode b_G_fire 101 = .ok (.iinc 4 1, 3) := by decide +kernel
theorem d_G_fire_104 : decode b_G_fire 104 = .ok (.goto (-37), 3) := by decide +kernel
theorem d_G_fire_107 : decode b_G_fire 107 = .ok (.return_, 1) := by decide +kernel
theorem d_G_canNest_0 : decode b_G_canNest 0 = .ok (.iconst 0, 1) := by decide +kernel
theorem d_G_canNest_1 : decode b_G_canNest 1 = .ok (.istore_n 1, 1) := by decide +kernel
theorem d_G_canNest_2 : decode b_G_canNest 2 = .ok (.iload_n 1, 1) := by decide +kernel
theorem d_G_canNest_3 : decode b_G_canNest 3 = .ok (.aload_n 0, 1) := by decide +kernel
theorem d_G_canNest_4 : decode b_G_canNest 4 = .ok (.getfield 57, 3) := by decide +kernel
theorem d_G_canNest_7 : decode b_G_canNest 7 = .ok (.if_icmp .ge 53, 3) := by decide +kernel
theorem d_G_canNest_10 : decode b_G_canNest 10 = .ok (.aload_n 0, 1) := by decide +kernel
theorem d_G_canNest_11 : decode b_G_canNest 11 = .ok (.getfield 17, 3) := by decide +kernel
theorem d_G_canNest_14 : decode b_G_canNest 14 = .ok (.iload_n 1, 1) := by decide +kernel
theorem d_G_canNest_15 : decode b_G_canNest 15 = .ok (.aaload, 1) := by decide +kernel
theorem d_G_canNest_16 : decode b_G_canNest 16 = .ok (.astore_n 2, 1) := by decide +kernel
theorem d_G_canNest_17 : decode b_G_canNest 17 = .ok (.aload_n 2, 1) := by decide +kernel
theorem d_G_canNest_18 : decode b_G_canNest 18 = .ok (.getfield 60, 3) := by decide +kernel
theorem d_G_canNest_21 : decode b_G_canNest 21 = .ok (.aload_n 2, 1) := by decide +kernel
theorem d_G_canNest_22 : decode b_G_canNest 22 = .ok (.getfield 63, 3) := by decide +kernel
theorem d_G_canNest_25 : decode b_G_canNest 25 = .ok (.if_icmp .ge 14, 3) := by decide +kernel
theorem d_G_canNest_28 : decode b_G_canNest 28 = .ok (.aload_n 2, 1) := by decide +kernel
theorem d_G_canNest_29 : decode b_G_canNest 29 = .ok (.getfield 72, 3) := by decide +kernel
theorem d_G_canNest_32 : decode b_G_canNest 32 = .ok (.ifCond .ne 7, 3) := by decide +kernel
theorem d_G_canNest_35 : decode b_G_canNest 35 = .ok (.iconst 1, 1) := by decide +kernel
theorem d_G_canNest_36 : decode b_G_canNest 36 = .ok (.goto 4, 3) := by decide +kernel
theorem d_G_canNest_39 : decode b_G_canNest 39 = .ok (.iconst 0, 1) := by decide +kernel
theorem d_G_canNest_40 : decode b_G_canNest 40 = .ok (.istore_n 3, 1) := by decide +kernel
theorem d_G_canNest_41 : decode b_G_canNest 41 = .ok (.iload_n 3, 1) := by decide +kernel
theorem d_G_canNest_42 : decode b_G_canNest 42 = .ok (.ifCond .ne 12, 3) := by decide +kernel
theorem d_G_canNest_45 : decode b_G_canNest 45 = .ok (.aload_n 2, 1) := by decide +kernel
theorem d_G_canNest_46 : decode b_G_canNest 46 = .ok (.invokevirtual 215, 3) := by decide +kernel
theorem d_G_canNest_49 : decode b_G_canNest 49 = .ok (.ifCond .ne 5, 3) := by decide +kernel
theorem d_G_canNest_52 : decode b_G_canNest 52 = .ok (.iconst 0, 1) := by decide +kernel
theorem d_G_canNest_53 : decode b_G_canNest 53 = .ok (.ireturn, 1) := by decide +kernel
theorem d_G_canNest_54 : decode b_G_canNest 54 = .ok (.iinc 1 1, 3) := by decide +kernel
theorem d_G_canNest_57 : decode b_G_canNest 57 = .ok (.goto (-55), 3) := by decide +kernel
theorem d_G_canNest_60 : decode b_G_canNest 60 = .ok (.iconst 1, 1) := by decide +kernel
theorem d_G_canNest_61 : decode b_G_canNest 61 = .ok (.ireturn, 1) := by decide +kernel
theorem d_G_listActors_0 : decode b_G_listActors 0 = .ok (.iconst 0, 1) := by decide +kernel
theorem d_G_listActors_1 : decode b_G_listActors 1 = .ok (.istore_n 1, 1) := by decide +kernel
theorem d_G_listActors_2 : decode b_G_listActors 2 = .ok (.iconst 0, 1) := by decide +kernel
theorem d_G_listActors_3 : decode b_G_listActors 3 = .ok (.istore_n 2, 1) := by decide +kernel
theorem d_G_listActors_4 : decode b_G_listActors 4 = .ok (.iload_n 2, 1) := by decide +kernel
theorem d_G_listActors_5 : decode b_G_listActors 5 = .ok (.bipush 8, 2) := by decide +kernel
theorem d_G_listActors_7 : decode b_G_listActors 7 = .ok (.if_icmp .ge 31, 3) := by decide +kernel
theorem d_G_listActors_10 : decode b_G_listActors 10 = .ok (.aload_n 0, 1) := by decide +kernel
theorem d_G_listActors_11 : decode b_G_listActors 11 = .ok (.getfield 11, 3) := by decide +kernel
theorem d_G_listActors_14 : decode b_G_listActors 14 = .ok (.iload_n 2, 1) := by decide +kernel
theorem d_G_listActors_15 : decode b_G_listActors 15 = .ok (.aaload, 1) := by decide +kernel
theorem d_G_listActors_16 : decode b_G_listActors 16 = .ok (.getfield 39, 3) := by decide +kernel
theorem d_G_listActors_19 : decode b_G_listActors 19 = .ok (.ifCond .eq 13, 3) := by decide +kernel
theorem d_G_listActors_22 : decode b_G_listActors 22 = .ok (.aload_n 0, 1) := by decide +kernel
theorem d_G_listActors_23 : decode b_G_listActors 23 = .ok (.getfield 21, 3) := by decide +kernel
theorem d_G_listActors_26 : decode b_G_listActors 26 = .ok (.iload_n 1, 1) := by decide +kernel
theorem d_G_listActors_27 : decode b_G_listActors 27 = .ok (.iload_n 2, 1) := by decide +kernel
theorem d_G_listActors_28 : decode b_G_listActors 28 = .ok (.iastore, 1) := by decide +kernel
theorem d_G_listActors_29 : decode b_G_listActors 29 = .ok (.iinc 1 1, 3) := by decide +kernel
theorem d_G_listActors_32 : decode b_G_listActors 32 = .ok (.iinc 2 1, 3) := by decide +kernel
theorem d_G_listActors_35 : decode b_G_listActors 35 = .ok (.goto (-31), 3) := by decide +kernel
theorem d_G_listActors_38 : decode b_G_listActors 38 = .ok (.iload_n 1, 1) := by decide +kernel
theorem d_G_listActors_39 : decode b_G_listActors 39 = .ok (.ireturn, 1) := by decide +kernel
theorem d_G_nestedRoom_0 : decode b_G_nestedRoom 0 = .ok (.aload_n 0, 1) := by decide +kernel
theorem d_G_nestedRoom_1 : decode b_G_nestedRoom 1 = .ok (.invokevirtual 218, 3) := by decide +kernel
theorem d_G_nestedRoom_4 : decode b_G_nestedRoom 4 = .ok (.istore_n 1, 1) := by decide +kernel
theorem d_G_nestedRoom_5 : decode b_G_nestedRoom 5 = .ok (.iconst 0, 1) := by decide +kernel
theorem d_G_nestedRoom_6 : decode b_G_nestedRoom 6 = .ok (.istore_n 2, 1) := by decide +kernel
theorem d_G_nestedRoom_7 : decode b_G_nestedRoom 7 = .ok (.iload_n 2, 1) := by decide +kernel
theorem d_G_nestedRoom_8 : decode b_G_nestedRoom 8 = .ok (.iload_n 1, 1) := by decide +kernel
theorem d_G_nestedRoom_9 : decode b_G_nestedRoom 9 = .ok (.if_icmp .ge 18, 3) := by decide +kernel
theorem d_G_nestedRoom_12 : decode b_G_nestedRoom 12 = .ok (.aload_n 0, 1) := by decide +kernel
theorem d_G_nestedRoom_13 : decode b_G_nestedRoom 13 = .ok (.getfield 27, 3) := by decide +kernel
theorem d_G_nestedRoom_16 : decode b_G_nestedRoom 16 = .ok (.iload_n 2, 1) := by decide +kernel
theorem d_G_nestedRoom_17 : decode b_G_nestedRoom 17 = .ok (.aaload, 1) := by decide +kernel
theorem d_G_nestedRoom_18 : decode b_G_nestedRoom 18 = .ok (.iload_n 2, 1) := by decide +kernel
theorem d_G_nestedRoom_19 : decode b_G_nestedRoom 19 = .ok (.iconst 0, 1) := by decide +kernel
theorem d_G_nestedRoom_20 : decode b_G_nestedRoom 20 = .ok (.iastore, 1) := by decide +kernel
theorem d_G_nestedRoom_21 : decode b_G_nestedRoom 21 = .ok (.iinc 2 1, 3) := by decide +kernel
theorem d_G_nestedRoom_24 : decode b_G_nestedRoom 24 = .ok (.goto (-17), 3) := by decide +kernel
theorem d_G_nestedRoom_27 : decode b_G_nestedRoom 27 = .ok (.iconst 2, 1) := by decide +kernel
theorem d_G_nestedRoom_28 : decode b_G_nestedRoom 28 = .ok (.istore_n 2, 1) := by decide +kernel
theorem d_G_nestedRoom_29 : decode b_G_nestedRoom 29 = .ok (.iload_n 2, 1) := by decide +kernel
theorem d_G_nestedRoom_30 : decode b_G_nestedRoom 30 = .ok (.iload_n 1, 1) := by decide +kernel
theorem d_G_nestedRoom_31 : decode b_G_nestedRoom 31 = .ok (.if_icmp .gt 46, 3) := by decide +kernel
theorem d_G_nestedRoom_34 : decode b_G_nestedRoom 34 = .ok (.iconst 0, 1) := by decide +kernel
theorem d_G_nestedRoom_35 : decode b_G_nestedRoom 35 = .ok (.istore_n 3, 1) := by decide +kernel
theorem d_G_nestedRoom_36 : decode b_G_nestedRoom 36 = .ok (.iload_n 3, 1) := by decide +kernel
theorem d_G_nestedRoom_37 : decode b_G_nestedRoom 37 = .ok (.iload_n 2, 1) := by decide +kernel
theorem d_G_nestedRoom_38 : decode b_G_nestedRoom 38 = .ok (.iadd, 1) := by decide +kernel
theorem d_G_nestedRoom_39 : decode b_G_nestedRoom 39 = .ok (.iload_n 1, 1) := by decide +kernel
theorem d_G_nestedRoom_40 : decode b_G_nestedRoom 40 = .ok (.if_icmp .gt 31, 3) := by decide +kernel
theorem d_G_nestedRoom_43 : decode b_G_nestedRoom 43 = .ok (.aload_n 0, 1) := by decide +kernel
theorem d_G_nestedRoom_44 : decode b_G_nestedRoom 44 = .ok (.getfield 27, 3) := by decide +kernel
theorem d_G_nestedRoom_47 : decode b_G_nestedRoom 47 = .ok (.iload_n 3, 1) := by decide +kernel
theorem d_G_nestedRoom_48 : decode b_G_nestedRoom 48 = .ok (.aaload, 1) := by decide +kernel
theorem d_G_nestedRoom_49 : decode b_G_nestedRoom 49 = .ok (.iload_n 3, 1) := by decide +kernel
theorem d_G_nestedRoom_50 : decode b_G_nestedRoom 50 = .ok (.iload_n 2, 1) := by decide +kernel
theorem d_G_nestedRoom_51 : decode b_G_nestedRoom 51 = .ok (.iadd, 1) := by decide +kernel
theorem d_G_nestedRoom_52 : decode b_G_nestedRoom 52 = .ok (.iconst 1, 1) := by decide +kernel
theorem d_G_nestedRoom_53 : decode b_G_nestedRoom 53 = .ok (.isub, 1) := by decide +kernel
theorem d_G_nestedRoom_54 : decode b_G_nestedRoom 54 = .ok (.aload_n 0, 1) := by decide +kernel
theorem d_G_nestedRoom_55 : decode b_G_nestedRoom 55 = .ok (.iload_n 3, 1) := by decide +kernel
theorem d_G_nestedRoom_56 : decode b_G_nestedRoom 56 = .ok (.iload_n 3, 1) := by decide +kernel
theorem d_G_nestedRoom_57 : decode b_G_nestedRoom 57 = .ok (.iload_n 2, 1) := by decide +kernel
theorem d_G_nestedRoom_58 : decode b_G_nestedRoom 58 = .ok (.iadd, 1) := by decide +kernel
theorem d_G_nestedRoom_59 : decode b_G_nestedRoom 59 = .ok (.iconst 1, 1) := by decide +kernel
theorem d_G_nestedRoom_60 : decode b_G_nestedRoom 60 = .ok (.isub, 1) := by decide +kernel
theorem d_G_nestedRoom_61 : decode b_G_nestedRoom 61 = .ok (.invokevirtual 221, 3) := by decide +kernel
theorem d_G_nestedRoom_64 : decode b_G_nestedRoom 64 = .ok (.iastore, 1) := by decide +kernel
theorem d_G_nestedRoom_65 : decode b_G_nestedRoom 65 = .ok (.iinc 3 1, 3) := by decide +kernel
theorem d_G_nestedRoom_68 : decode b_G_nestedRoom 68 = .ok (.goto (-32), 3) := by decide +kernel
theorem d_G_nestedRoom_71 : decode b_G_nestedRoom 71 = .ok (.iinc 2 1, 3) := by decide +kernel
theorem d_G_nestedRoom_74 : decode b_G_nestedRoom 74 = .ok (.goto (-45), 3) := by decide +kernel
theorem d_G_nestedRoom_77 : decode b_G_nestedRoom 77 = .ok (.iload_n 1, 1) := by decide +kernel
theorem d_G_nestedRoom_78 : decode b_G_nestedRoom 78 = .ok (.ifCond .ne 7, 3) := by decide +kernel
theorem d_G_nestedRoom_81 : decode b_G_nestedRoom 81 = .ok (.iconst 0, 1) := by decide +kernel
theorem d_G_nestedRoom_82 : decode b_G_nestedRoom 82 = .ok (.goto 13, 3) := by decide +kernel
theorem d_G_nestedRoom_85 : decode b_G_nestedRoom 85 = .ok (.aload_n 0, 1) := by decide +kernel
theorem d_G_nestedRoom_86 : decode b_G_nestedRoom 86 = .ok (.getfield 27, 3) := by decide +kernel
theorem d_G_nestedRoom_89 : decode b_G_nestedRoom 89 = .ok (.iconst 0, 1) := by decide +kernel
theorem d_G_nestedRoom_90 : decode b_G_nestedRoom 90 = .ok (.aaload, 1) := by decide +kernel
theorem d_G_nestedRoom_91 : decode b_G_nestedRoom 91 = .ok (.iload_n 1, 1) := by decide +kernel
theorem d_G_nestedRoom_92 : decode b_G_nestedRoom 92 = .ok (.iconst 1, 1) := by decide +kernel
theorem d_G_nestedRoom_93 : decode b_G_nestedRoom 93 = .ok (.isub, 1) := by decide +kernel
theorem d_G_nestedRoom_94 : decode b_G_nestedRoom 94 = .ok (.iaload, 1) := by decide +kernel
theorem d_G_nestedRoom_95 : decode b_G_nestedRoom 95 = .ok (.ireturn, 1) := by decide +kernel
theorem d_G_costOfStretch_0 : decode b_G_costOfStretch 0 = .ok (.aload_n 0, 1) := by decide +kernel
theorem d_G_costOfStretch_1 : decode b_G_costOfStretch 1 = .ok (.iload_n 1, 1) := by decide +kernel
theorem d_G_costOfStretch_2 : decode b_G_costOfStretch 2 = .ok (.iload_n 2, 1) := by decide +kernel
theorem d_G_costOfStretch_3 : decode b_G_costOfStretch 3 = .ok (.invokevirtual 224, 3) := by decide +kernel
theorem d_G_costOfStretch_6 : decode b_G_costOfStretch 6 = .ok (.istore_n 3, 1) := by decide +kernel
theorem d_G_costOfStretch_7 : decode b_G_costOfStretch 7 = .ok (.ldc 229, 2) := by decide +kernel
theorem d_G_costOfStretch_9 : decode b_G_costOfStretch 9 = .ok (.istore 4, 2) := by decide +kernel
theorem d_G_costOfStretch_11 : decode b_G_costOfStretch 11 = .ok (.iload_n 1, 1) := by decide +kernel
theorem d_G_costOfStretch_12 : decode b_G_costOfStretch 12 = .ok (.istore 5, 2) := by decide +kernel
theorem d_G_costOfStretch_14 : decode b_G_costOfStretch 14 = .ok (.iload 5, 2) := by decide +kernel
theorem d_G_costOfStretch_16 : decode b_G_costOfStretch 16 = .ok (.iload_n 2, 1) := by decide +kernel
theorem d_G_costOfStretch_17 : decode b_G_costOfStretch 17 = .ok (.if_icmp .ge 67, 3) := by decide +kernel
theorem d_G_costOfStretch_20 : decode b_G_costOfStretch 20 = .ok (.aload_n 0, 1) := by decide +kernel
theorem d_G_costOfStretch_21 : decode b_G_costOfStretch 21 = .ok (.aload_n 0, 1) := by decide +kernel
theorem d_G_costOfStretch_22 : decode b_G_costOfStretch 22 = .ok (.getfield 21, 3) := by decide +kernel
theorem d_G_costOfStretch_25 : decode b_G_costOfStretch 25 = .ok (.iload_n 1, 1) := by decide +kernel
theorem d_G_costOfStretch_26 : decode b_G_costOfStretch 26 = .ok (.iaload, 1) := by decide +kernel
theorem d_G_costOfStretch_27 : decode b_G_costOfStretch 27 = .ok (.aload_n 0, 1) := by decide +kernel
theorem d_G_costOfStretch_28 : decode b_G_costOfStretch 28 = .ok (.getfield 21, 3) := by decide +kernel
theorem d_G_costOfStretch_31 : decode b_G_costOfStretch 31 = .ok (.iload 5, 2) := by decide +kernel
theorem d_G_costOfStretch_33 : decode b_G_costOfStretch 33 = .ok (.iaload, 1) := by decide +kernel
theorem d_G_costOfStretch_34 : decode b_G_costOfStretch 34 = .ok (.aload_n 0, 1) := by decide +kernel
theorem d_G_costOfStretch_35 : decode b_G_costOfStretch 35 = .ok (.getfield 21, 3) := by decide +kernel
theorem d_G_costOfStretch_38 : decode b_G_costOfStretch 38 = .ok (.iload_n 2, 1) := by decide +kernel
theorem d_G_costOfStretch_39 : decode b_G_costOfStretch 39 = .ok (.iaload, 1) := by decide +kernel
theorem d_G_costOfStretch_40 : decode b_G_costOfStretch 40 = .ok (.invokevirtual 230, 3) := by decide +kernel
theorem d_G_costOfStretch_43 : decode b_G_costOfStretch 43 = .ok (.iload_n 3, 1) := by decide +kernel
theorem d_G_costOfStretch_44 : decode b_G_costOfStretch 44 = .ok (.idiv, 1) := by decide +kernel
theorem d_G_costOfStretch_45 : decode b_G_costOfStretch 45 = .ok (.istore 6, 2) := by decide +kernel
theorem d_G_costOfStretch_47 : decode b_G_costOfStretch 47 = .ok (.iload 4, 2) := by decide +kernel
theorem d_G_costOfStretch_49 : decode b_G_costOfStretch 49 = .ok (.aload_n 0, 1) := by decide +kernel
theorem d_G_costOfStretch_50 : decode b_G_costOfStretch 50 = .ok (.getfield 27, 3) := by decide +kernel
theorem d_G_costOfStretch_53 : decode b_G_costOfStretch 53 = .ok (.iload_n 1, 1) := by decide +kernel
theorem d_G_costOfStretch_54 : decode b_G_costOfStretch 54 = .ok (.aaload, 1) := by decide +kernel
theorem d_G_costOfStretch_55 : decode b_G_costOfStretch 55 = .ok (.iload 5, 2) := by decide +kernel
theorem d_G_costOfStretch_57 : decode b_G_costOfStretch 57 = .ok (.iaload, 1) := by decide +kernel
theorem d_G_costOfStretch_58 : decode b_G_costOfStretch 58 = .ok (.aload_n 0, 1) := by decide +kernel
theorem d_G_costOfStretch_59 : decode b_G_costOfStretch 59 = .ok (.getfield 27, 3) := by decide +kernel
theorem d_G_costOfStretch_62 : decode b_G_costOfStretch 62 = .ok (.iload 5, 2) := by decide +kernel
theorem d_G_costOfStretch_64 : decode b_G_costOfStretch 64 = .ok (.iconst 1, 1) := by decide +kernel
theorem d_G_costOfStretch_65 : decode b_G_costOfStretch 65 = .ok (.iadd, 1) := by decide +kernel
theorem d_G_costOfStretch_66 : decode b_G_costOfStretch 66 = .ok (.aaload, 1) := by decide +kernel
theorem d_G_costOfStretch_67 : decode b_G_costOfStretch 67 = .ok (.iload_n 2, 1) := by decide +kernel
theorem d_G_costOfStretch_68 : decode b_G_costOfStretch 68 = .ok (.iaload, 1) := by decide +kernel
theorem d_G_costOfStretch_69 : decode b_G_costOfStretch 69 = .ok (.iadd, 1) := by decide +kernel
theorem d_G_costOfStretch_70 : decode b_G_costOfStretch 70 = .ok (.iload 6, 2) := by decide +kernel
theorem d_G_costOfStretch_72 : decode b_G_costOfStretch 72 = .ok (.iadd, 1) := by decide +kernel
theorem d_G_costOfStretch_73 : decode b_G_costOfStretch 73 = .ok (.invokestatic 234, 3) := by decide +kernel
theorem d_G_costOfStretch_76 : decode b_G_costOfStretch 76 = .ok (.istore 4, 2) := by decide +kernel
theorem d_G_costOfStretch_78 : decode b_G_costOfStretch 78 = .ok (.iinc 5 1, 3) := by decide +kernel
theorem d_G_costOfStretch_81 : decode b_G_costOfStretch 81 = .ok (.goto (-67), 3) := by decide +kernel
theorem d_G_costOfStretch_84 : decode b_G_costOfStretch 84 = .ok (.iload 4, 2) := by decide +kernel
theorem d_G_costOfStretch_86 : decode b_G_costOfStretch 86 = .ok (.ireturn, 1) := by decide +kernel
theorem d_G_divisorOfStretch_0 : decode b_G_divisorOfStretch 0 = .ok (.iconst 0, 1) := by decide +kernel
theorem d_G_divisorOfStretch_1 : decode b_G_divisorOfStretch 1 = .ok (.istore_n 3, 1) := by decide +kernel
theorem d_G_divisorOfStretch_2 : decode b_G_divisorOfStretch 2 = .ok (.iload_n 1, 1) := by decide +kernel
theorem d_G_divisorOfStretch_3 : decode b_G_divisorOfStretch 3 = .ok (.istore 4, 2) := by decide +kernel
theorem d_G_divisorOfStretch_5 : decode b_G_divisorOfStretch 5 = .ok (.iload 4, 2) := by decide +kernel
theorem d_G_divisorOfStretch_7 : decode b_G_divisorOfStretch 7 = .ok (.iload_n 2, 1) := by decide +kernel
theorem d_G_divisorOfStretch_8 : decode b_G_divisorOfStretch 8 = .ok (.if_icmp .gt 29, 3) := by decide +kernel
theorem d_G_divisorOfStretch_11 : decode b_G_divisorOfStretch 11 = .ok (.iload_n 3, 1) := by decide +kernel
theorem d_G_divisorOfStretch_12 : decode b_G_divisorOfStretch 12 = .ok (.aload_n 0, 1) := by decide +kernel
theorem d_G_divisorOfStretch_13 : decode b_G_divisorOfStretch 13 = .ok (.getfield 11, 3) := by decide +kernel
theorem d_G_divisorOfStretch_16 : decode b_G_divisorOfStretch 16 = .ok (.aload_n 0, 1) := by decide +kernel
theorem d_G_divisorOfStretch_17 : decode b_G_divisorOfStretch 17 = .ok (.getfield 21, 3) := by decide +kernel
theorem d_G_divisorOfStretch_20 : decode b_G_divisorOfStretch 20 = .ok (.iload 4, 2) := by decide +kernel
theorem d_G_divisorOfStretch_22 : decode b_G_divisorOfStretch 22 = .ok (.iaload, 1) := by decide +kernel
theorem d_G_divisorOfStretch_23 : decode b_G_divisorOfStretch 23 = .ok (.aaload, 1) := by decide +kernel
theorem d_G_divisorOfStretch_24 : decode b_G_divisorOfStretch 24 = .ok (.getfield 105, 3) := by decide +kernel
theorem d_G_divisorOfStretch_27 : decode b_G_divisorOfStretch 27 = .ok (.invokestatic 164, 3) := by decide +kernel
theorem d_G_divisorOfStretch_30 : decode b_G_divisorOfStretch 30 = .ok (.istore_n 3, 1) := by decide +kernel
theorem d_G_divisorOfStretch_31 : decode b_G_divisorOfStretch 31 = .ok (.iinc 4 1, 3) := by decide +kernel
theorem d_G_divisorOfStretch_34 : decode b_G_divisorOfStretch 34 = .ok (.goto (-29), 3) := by decide +kernel
theorem d_G_divisorOfStretch_37 : decode b_G_divisorOfStretch 37 = .ok (.iload_n 3, 1) := by decide +kernel
theorem d_G_divisorOfStretch_38 : decode b_G_divisorOfStretch 38 = .ok (.iconst 1, 1) := by decide +kernel
theorem d_G_divisorOfStretch_39 : decode b_G_divisorOfStretch 39 = .ok (.invokestatic 141, 3) := by decide +kernel
theorem d_G_divisorOfStretch_42 : decode b_G_divisorOfStretch 42 = .ok (.ireturn, 1) := by decide +kernel
theorem d_G_tokensAcross_0 : decode b_G_tokensAcross 0 = .ok (.iconst 0, 1) := by decide +kernel
theorem d_G_tokensAcross_1 : decode b_G_tokensAcross 1 = .ok (.istore 4, 2) := by decide +kernel
theorem d_G_tokensAcross_3 : decode b_G_tokensAcross 3 = .ok (.iconst 0, 1) := by decide +kernel
theorem d_G_tokensAcross_4 : decode b_G_tokensAcross 4 = .ok (.istore 5, 2) := by decide +kernel
theorem d_G_tokensAcross_6 : decode b_G_tokensAcross 6 = .ok (.iload 5, 2) := by decide +kernel
theorem d_G_tokensAcross_8 : decode b_G_tokensAcross 8 = .ok (.aload_n 0, 1) := by decide +kernel
theorem d_G_tokensAcross_9 : decode b_G_tokensAcross 9 = .ok (.getfield 57, 3) := by decide +kernel
theorem d_G_tokensAcross_12 : decode b_G_tokensAcross 12 = .ok (.if_icmp .ge 70, 3) := by decide +kernel
theorem d_G_tokensAcross_15 : decode b_G_tokensAcross 15 = .ok (.aload_n 0, 1) := by decide +kernel
theorem d_G_tokensAcross_16 : decode b_G_tokensAcross 16 = .ok (.getfield 17, 3) := by decide +kernel
theorem d_G_tokensAcross_19 : decode b_G_tokensAcross 19 = .ok (.iload 5, 2) := by decide +kernel
theorem d_G_tokensAcross_21 : decode b_G_tokensAcross 21 = .ok (.aaload, 1) := by decide +kernel
theorem d_G_tokensAcross_22 : decode b_G_tokensAcross 22 = .ok (.astore 6, 2) := by decide +kernel
theorem d_G_tokensAcross_24 : decode b_G_tokensAcross 24 = .ok (.aload 6, 2) := by decide +kernel
theorem d_G_tokensAcross_26 : decode b_G_tokensAcross 26 = .ok (.getfield 60, 3) := by decide +kernel
theorem d_G_tokensAcross_29 : decode b_G_tokensAcross 29 = .ok (.iload_n 1, 1) := by decide +kernel
theorem d_G_tokensAcross_30 : decode b_G_tokensAcross 30 = .ok (.iload_n 2, 1) := by decide +kernel
theorem d_G_tokensAcross_31 : decode b_G_tokensAcross 31 = .ok (.invokestatic 35, 3) := by decide +kernel
theorem d_G_tokensAcross_34 : decode b_G_tokensAcross 34 = .ok (.ifCond .eq 42, 3) := by decide +kernel
theorem d_G_tokensAcross_37 : decode b_G_tokensAcross 37 = .ok (.aload 6, 2) := by decide +kernel
theorem d_G_tokensAcross_39 : decode b_G_tokensAcross 39 = .ok (.getfield 63, 3) := by decide +kernel
theorem d_G_tokensAcross_42 : decode b_G_tokensAcross 42 = .ok (.iload_n 2, 1) := by decide +kernel
theorem d_G_tokensAcross_43 : decode b_G_tokensAcross 43 = .ok (.iconst 1, 1) := by decide +kernel
theorem d_G_tokensAcross_44 : decode b_G_tokensAcross 44 = .ok (.iadd, 1) := by decide +kernel
theorem d_G_tokensAcross_45 : decode b_G_tokensAcross 45 = .ok (.iload_n 3, 1) := by decide +kernel
theorem d_G_tokensAcross_46 : decode b_G_tokensAcross 46 = .ok (.invokestatic 35, 3) := by decide +kernel
theorem d_G_tokensAcross_49 : decode b_G_tokensAcross 49 = .ok (.ifCond .eq 27, 3) := by decide +kernel
theorem d_G_tokensAcross_52 : decode b_G_tokensAcross 52 = .ok (.iload 4, 2) := by decide +kernel
theorem d_G_tokensAcross_54 : decode b_G_tokensAcross 54 = .ok (.aload 6, 2) := by decide +kernel
theorem d_G_tokensAcross_56 : decode b_G_tokensAcross 56 = .ok (.getfield 66, 3) := by decide +kernel
theorem d_G_tokensAcross_59 : decode b_G_tokensAcross 59 = .ok (.aload_n 0, 1) := by decide +kernel
theorem d_G_tokensAcross_60 : decode b_G_tokensAcross 60 = .ok (.getfield 11, 3) := by decide +kernel
theorem d_G_tokensAcross_63 : decode b_G_tokensAcross 63 = .ok (.aload 6, 2) := by decide +kernel
theorem d_G_tokensAcross_65 : decode b_G_tokensAcross 65 = .ok (.getfield 60, 3) := by decide +kernel
theorem d_G_tokensAcross_68 : decode b_G_tokensAcross 68 = .ok (.aaload, 1) := by decide +kernel
theorem d_G_tokensAcross_69 : decode b_G_tokensAcross 69 = .ok (.getfield 105, 3) := by decide +kernel
theorem d_G_tokensAcross_72 : decode b_G_tokensAcross 72 = .ok (.imul, 1) := by decide +kernel
theorem d_G_tokensAcross_73 : decode b_G_tokensAcross 73 = .ok (.iadd, 1) := by decide +kernel
theorem d_G_tokensAcross_74 : decode b_G_tokensAcross 74 = .ok (.istore 4, 2) := by decide +kernel
theorem d_G_tokensAcross_76 : decode b_G_tokensAcross 76 = .ok (.iinc 5 1, 3) := by decide +kernel
theorem d_G_tokensAcross_79 : decode b_G_tokensAcross 79 = .ok (.goto (-73), 3) := by decide +kernel
theorem d_G_tokensAcross_82 : decode b_G_tokensAcross 82 = .ok (.iload 4, 2) := by decide +kernel
theorem d_G_tokensAcross_84 : decode b_G_tokensAcross 84 = .ok (.ireturn, 1) := by decide +kernel
end
section
theorem d_M_init_0 : decode b_M_init 0 = .ok (.aload_n 0, 1) := by decide +kernel
theorem d_M_init_1 : decode b_M_init 1 = .ok (.invokespecial 1, 3) := by decide +kernel
theorem d_M_init_4 : decode b_M_init 4 = .ok (.aload_n 0, 1) := by decide +kernel
theorem d_M_init_5 : decode b_M_init 5 = .ok (.bipush 8, 2) := by decide +kernel
theorem d_M_init_7 : decode b_M_init 7 = .ok (.newarray .boolean, 2) := by decide +kernel
theorem d_M_init_9 : decode b_M_init 9 = .ok (.putfield 7, 3) := by decide +kernel
theorem d_M_init_12 : decode b_M_init 12 = .ok (.aload_n 0, 1) := by decide +kernel
theorem d_M_init_13 : decode b_M_init 13 = .ok (.bipush 8, 2) := by decide +kernel
theorem d_M_init_15 : decode b_M_init 15 = .ok (.newarray .int, 2) := by decide +kernel
theorem d_M_init_17 : decode b_M_init 17 = .ok (.putfield 13, 3) := by decide +kernel
theorem d_M_init_20 : decode b_M_init 20 = .ok (.aload_n 0, 1) := by decide +kernel
theorem d_M_init_21 : decode b_M_init 21 = .ok (.bipush 8, 2) := by decide +kernel
theorem d_M_init_23 : decode b_M_init 23 = .ok (.newarray .int, 2) := by decide +kernel
theorem d_M_init_25 : decode b_M_init 25 = .ok (.putfield 17, 3) := by decide +kernel
theorem d_M_init_28 : decode b_M_init 28 = .ok (.aload_n 0, 1) := by decide +kernel
theorem d_M_init_29 : decode b_M_init 29 = .ok (.bipush 13, 2) := by decide +kernel
theorem d_M_init_31 : decode b_M_init 31 = .ok (.newarray .int, 2) := by decide +kernel
theorem d_M_init_33 : decode b_M_init 33 = .ok (.putfield 20, 3) := by decide +kernel
theorem d_M_init_36 : decode b_M_init 36 = .ok (.aload_n 0, 1) := by decide +kernel
theorem d_M_init_37 : decode b_M_init 37 = .ok (.bipush 13, 2) := by decide +kernel
theorem d_M_init_39 : decode b_M_init 39 = .ok (.newarray .int, 2) := by decide +kernel
theorem d_M_init_41 : decode b_M_init 41 = .ok (.putfield 23, 3) := by decide +kernel
theorem d_M_init_44 : decode b_M_init 44 = .ok (.aload_n 0, 1) := by decide +kernel
theorem d_M_init_45 : decode b_M_init 45 = .ok (.bipush 13, 2) := by decide +kernel
theorem d_M_init_47 : decode b_M_init 47 = .ok (.newarray .int, 2) := by decide +kernel
theorem d_M_init_49 : decode b_M_init 49 = .ok (.putfield 26, 3) := by decide +kernel
theorem d_M_init_52 : decode b_M_init 52 = .ok (.aload_n 0, 1) := by decide +kernel
theorem d_M_init_53 : decode b_M_init 53 = .ok (.bipush 13, 2) := by decide +kernel
theorem d_M_init_55 : decode b_M_init 55 = .ok (.newarray .int, 2) := by decide +kernel
theorem d_M_init_57 : decode b_M_init 57 = .ok (.putfield 29, 3) := by decide +kernel
theorem d_M_init_60 : decode b_M_init 60 = .ok (.aload_n 0, 1) := by decide +kernel
theorem d_M_init_61 : decode b_M_init 61 = .ok (.bipush 13, 2) := by decide +kernel
theorem d_M_init_63 : decode b_M_init 63 = .ok (.newarray .int, 2) := by decide +kernel
theorem d_M_init_65 : decode b_M_init 65 = .ok (.putfield 32, 3) := by decide +kernel
theorem d_M_init_68 : decode b_M_init 68 = .ok (.aload_n 0, 1) := by decide +kernel
theorem d_M_init_69 : decode b_M_init 69 = .ok (.bipush 8, 2) := by decide +kernel
theorem d_M_init_71 : decode b_M_init 71 = .ok (.newarray .long, 2) := by decide +kernel
theorem d_M_init_73 : decode b_M_init 73 = .ok (.putfield 35, 3) := by decide +kernel
theorem d_M_init_76 : decode b_M_init 76 = .ok (.aload_n 0, 1) := by decide +kernel
theorem d_M_init_77 : decode b_M_init 77 = .ok (.bipush 8, 2) := by decide +kernel
theorem d_M_init_79 : decode b_M_init 79 = .ok (.newarray .long, 2) := by decide +kernel
theorem d_M_init_81 : decode b_M_init 81 = .ok (.putfield 39, 3) := by decide +kernel
theorem d_M_init_84 : decode b_M_init 84 = .ok (.aload_n 0, 1) := by decide +kernel
theorem d_M_init_85 : decode b_M_init 85 = .ok (.bipush 8, 2) := by decide +kernel
theorem d_M_init_87 : decode b_M_init 87 = .ok (.newarray .int, 2) := by decide +kernel
theorem d_M_init_89 : decode b_M_init 89 = .ok (.putfield 42, 3) := by decide +kernel
theorem d_M_init_92 : decode b_M_init 92 = .ok (.aload_n 0, 1) := by decide +kernel
theorem d_M_init_93 : decode b_M_init 93 = .ok (.bipush 8, 2) := by decide +kernel
theorem d_M_init_95 : decode b_M_init 95 = .ok (.newarray .int, 2) := by decide +kernel
theorem d_M_init_97 : decode b_M_init 97 = .ok (.putfield 45, 3) := by decide +kernel
theorem d_M_init_100 : decode b_M_init 100 = .ok (.aload_n 0, 1) := by decide +kernel
theorem d_M_init_101 : decode b_M_init 101 = .ok (.bipush 8, 2) := by decide +kernel
theorem d_M_init_103 : decode b_M_init 103 = .ok (.newarray .int, 2) := by decide +kernel
theorem d_M_init_105 : decode b_M_init 105 = .ok (.putfield 48, 3) := by decide +kernel
theorem d_M_init_108 : decode b_M_init 108 = .ok (.aload_n 0, 1) := by decide +kernel
theorem d_M_init_109 : decode b_M_init 109 = .ok (.bipush 64, 2) := by decide +kernel
theorem d_M_init_111 : decode b_M_init 111 = .ok (.newarray .int, 2) := by decide +kernel
theorem d_M_init_113 : decode b_M_init 113 = .ok (.putfield 51, 3) := by decide +kernel
theorem d_M_init_116 : decode b_M_init 116 = .ok (.aload_n 0, 1) := by decide +kernel
theorem d_M_init_117 : decode b_M_init 117 = .ok (.bipush 12, 2) := by decide +kernel
theorem d_M_init_119 : decode b_M_init 119 = .ok (.newarray .int, 2) := by decide +kernel
theorem d_M_init_121 : decode b_M_init 121 = .ok (.putfield 54, 3) := by decide +kernel
theorem d_M_init_124 : decode b_M_init 124 = .ok (.aload_n 0, 1) := by decide +kernel
theorem d_M_init_125 : decode b_M_init 125 = .ok (.bipush 12, 2) := by decide +kernel
theorem d_M_init_127 : decode b_M_init 127 = .ok (.newarray .int, 2) := by decide +kernel
theorem d_M_init_129 : decode b_M_init 129 = .ok (.putfield 57, 3) := by decide +kernel
theorem d_M_init_132 : decode b_M_init 132 = .ok (.aload_n 0, 1) := by decide +kernel
theorem d_M_init_133 : decode b_M_init 133 = .ok (.sipush 4800, 3) := by decide +kernel
theorem d_M_init_136 : decode b_M_init 136 = .ok (.newarray .int, 2) := by decide +kernel
theorem d_M_init_138 : decode b_M_init 138 = .ok (.putfield 60, 3) := by decide +kernel
theorem d_M_init_141 : decode b_M_init 141 = .ok (.aload_n 0, 1) := by decide +kernel
theorem d_M_init_142 : decode b_M_init 142 = .ok (.bipush 12, 2) := by decide +kernel
theorem d_M_init_144 : decode b_M_init 144 = .ok (.newarray .int, 2) := by decide +kernel
theorem d_M_init_146 : decode b_M_init 146 = .ok (.putfield 63, 3) := by decide +kernel
theorem d_M_init_149 : decode b_M_init 149 = .ok (.aload_n 0, 1) := by decide +kernel
theorem d_M_init_150 : decode b_M_init 150 = .ok (.bipush 8, 2) := by decide +kernel
theorem d_M_init_152 : decode b_M_init 152 = .ok (.newarray .int, 2) := by decide +kernel
theorem d_M_init_154 : decode b_M_init 154 = .ok (.putfield 66, 3) := by decide +kernel
theorem d_M_init_157 : decode b_M_init 157 = .ok (.aload_n 0, 1) := by decide +kernel
theorem d_M_init_158 : decode b_M_init 158 = .ok (.bipush 8, 2) := by decide +kernel
theorem d_M_init_160 : decode b_M_init 160 = .ok (.newarray .int, 2) := by decide +kernel
theorem d_M_init_162 : decode b_M_init 162 = .ok (.putfield 69, 3) := by decide +kernel
theorem d_M_init_165 : decode b_M_init 165 = .ok (.aload_n 0, 1) := by decide +kernel
theorem d_M_init_166 : decode b_M_init 166 = .ok (.bipush 64, 2) := by decide +kernel
theorem d_M_init_168 : decode b_M_init 168 = .ok (.newarray .int, 2) := by decide +kernel
theorem d_M_init_170 : decode b_M_init 170 = .ok (.putfield 72, 3) := by decide +kernel
theorem d_M_init_173 : decode b_M_init 173 = .ok (.return_, 1) := by decide +kernel
theorem d_M_isActor_0 : decode b_M_isActor 0 = .ok (.iload_n 1, 1) := by decide +kernel
theorem d_M_isActor_1 : decode b_M_isActor 1 = .ok (.ifCond .lt 22, 3) := by decide +kernel
theorem d_M_isActor_4 : decode b_M_isActor 4 = .ok (.iload_n 1, 1) := by decide +kernel
theorem d_M_isActor_5 : decode b_M_isActor 5 = .ok (.bipush 8, 2) := by decide +kernel
theorem d_M_isActor_7 : decode b_M_isActor 7 = .ok (.if_icmp .ge 16, 3) := by decide +kernel
theorem d_M_isActor_10 : decode b_M_isActor 10 = .ok (.aload_n 0, 1) := by decide +kernel
theorem d_M_isActor_11 : decode b_M_isActor 11 = .ok (.getfield 7, 3) := by decide +kernel
theorem d_M_isActor_14 : decode b_M_isActor 14 = .ok (.iload_n 1, 1) := by decide +kernel
theorem d_M_isActor_15 : decode b_M_isActor 15 = .ok (.baload, 1) := by decide +kernel
theorem d_M_isActor_16 : decode b_M_isActor 16 = .ok (.ifCond .eq 7, 3) := by decide +kernel
theorem d_M_isActor_19 : decode b_M_isActor 19 = .ok (.iconst 1, 1) := by decide +kernel
theorem d_M_isActor_20 : decode b_M_isActor 20 = .ok (.goto 4, 3) := by decide +kernel
theorem d_M_isActor_23 : decode b_M_isActor 23 = .ok (.iconst 0, 1) := by decide +kernel
theorem d_M_isActor_24 : decode b_M_isActor 24 = .ok (.ireturn, 1) := by decide +kernel
theorem d_M_actor_0 : decode b_M_actor 0 = .ok (.iload_n 1, 1) := by decide +kernel
theorem d_M_actor_1 : decode b_M_actor 1 = .ok (.ifCond .lt 18, 3) := by decide +kernel
theorem d_M_actor_4 : decode b_M_actor 4 = .ok (.iload_n 1, 1) := by decide +kernel
theorem d_M_actor_5 : decode b_M_actor 5 = .ok (.bipush 7, 2) := by decide +kernel
theorem d_M_actor_7 : decode b_M_actor 7 = .ok (.if_icmp .gt 12, 3) := by decide +kernel
theorem d_M_actor_10 : decode b_M_actor 10 = .ok (.iload_n 2, 1) := by decide +kernel
theorem d_M_actor_11 : decode b_M_actor 11 = .ok (.ifCond .lt 8, 3) := by decide +kernel
theorem d_M_actor_14 : decode b_M_actor 14 = .ok (.iload_n 2, 1) := by decide +kernel
theorem d_M_actor_15 : decode b_M_actor 15 = .ok (.iconst 3, 1) := by decide +kernel
theorem d_M_actor_16 : decode b_M_actor 16 = .ok (.if_icmp .le 5, 3) := by decide +kernel
theorem d_M_actor_19 : decode b_M_actor 19 = .ok (.iconst (-1), 1) := by decide +kernel
theorem d_M_actor_20 : decode b_M_actor 20 = .ok (.ireturn, 1) := by decide +kernel
theorem d_M_actor_21 : decode b_M_actor 21 = .ok (.aload_n 0, 1) := by decide +kernel
theorem d_M_actor_22 : decode b_M_actor 22 = .ok (.getfield 7, 3) := by decide +kernel
theorem d_M_actor_25 : decode b_M_actor 25 = .ok (.iload_n 1, 1) := by decide +kernel
theorem d_M_actor_26 : decode b_M_actor 26 = .ok (.iconst 1, 1) := by decide +kernel
theorem d_M_actor_27 : decode b_M_actor 27 = .ok (.bastore, 1) := by decide +kernel
theorem d_M_actor_28 : decode b_M_actor 28 = .ok (.aload_n 0, 1) := by decide +kernel
theorem d_M_actor_29 : decode b_M_actor 29 = .ok (.getfield 13, 3) := by decide +kernel
theorem d_M_actor_32 : decode b_M_actor 32 = .ok (.iload_n 1, 1) := by decide +kernel
theorem d_M_actor_33 : decode b_M_actor 33 = .ok (.iload_n 2, 1) := by decide +kernel
theorem d_M_actor_34 : decode b_M_actor 34 = .ok (.iastore, 1) := by decide +kernel
theorem d_M_actor_35 : decode b_M_actor 35 = .ok (.aload_n 0, 1) := by decide +kernel
theorem d_M_actor_36 : decode b_M_actor 36 = .ok (.getfield 17, 3) := by decide +kernel
theorem d_M_actor_39 : decode b_M_actor 39 = .ok (.iload_n 1, 1) := by decide +kernel
theorem d_M_actor_40 : decode b_M_actor 40 = .ok (.iload_n 3, 1) := by decide +kernel
theorem d_M_actor_41 : decode b_M_actor 41 = .ok (.iastore, 1) := by decide +kernel
theorem d_M_actor_42 : decode b_M_actor 42 = .ok (.aload_n 0, 1) := by decide +kernel
theorem d_M_actor_43 : decode b_M_actor 43 = .ok (.iconst 0, 1) := by decide +kernel
theorem d_M_actor_44 : decode b_M_actor 44 = .ok (.putfield 75, 3) := by decide +kernel
theorem d_M_actor_47 : decode b_M_actor 47 = .ok (.iconst 0, 1) := by decide +kernel
theorem d_M_actor_48 : decode b_M_actor 48 = .ok (.ireturn, 1) := by decide +kernel
theorem d_M_edge_0 : decode b_M_edge 0 = .ok (.aload_n 0, 1) := by decide +kernel
theorem d_M_edge_1 : decode b_M_edge 1 = .ok (.iload_n 1, 1) := by decide +kernel
theorem d_M_edge_2 : decode b_M_edge 2 = .ok (.invokevirtual 79, 3) := by decide +kernel
theorem d_M_edge_5 : decode b_M_edge 5 = .ok (.ifCond .eq 47, 3) := by decide +kernel
theorem d_M_edge_8 : decode b_M_edge 8 = .ok (.aload_n 0, 1) := by decide +kernel
theorem d_M_edge_9 : decode b_M_edge 9 = .ok (.iload_n 2, 1) := by decide +kernel
theorem d_M_edge_10 : decode b_M_edge 10 = .ok (.invokevirtual 79, 3) := by decide +kernel
theorem d_M_edge_13 : decode b_M_edge 13 = .ok (.ifCond .eq 39, 3) := by decide +kernel
theorem d_M_edge_16 : decode b_M_edge 16 = .ok (.iload_n 3, 1) := by decide +kernel
theorem d_M_edge_17 : decode b_M_edge 17 = .ok (.iconst 1, 1) := by decide +kernel
theorem d_M_edge_18 : decode b_M_edge 18 = .ok (.if_icmp .lt 34, 3) := by decide +kernel
theorem d_M_edge_21 : decode b_M_edge 21 = .ok (.iload_n 3, 1) := by decide +kernel
theorem d_M_edge_22 : decode b_M_edge 22 = .ok (.bipush 6, 2) := by decide +kernel
theorem d_M_edge_24 : decode b_M_edge 24 = .ok (.if_icmp .gt 28, 3) := by decide +kernel
theorem d_M_edge_27 : decode b_M_edge 27 = .ok (.iload 4, 2) := by decide +kernel
theorem d_M_edge_29 : decode b_M_edge 29 = .ok (.iconst 1, 1) := by decide +kernel
theorem d_M_edge_30 : decode b_M_edge 30 = .ok (.if_icmp .lt 22, 3) := by decide +kernel
theorem d_M_edge_33 : decode b_M_edge 33 = .ok (.iload 4, 2) := by decide +kernel
theorem d_M_edge_35 : decode b_M_edge 35 = .ok (.bipush 6, 2) := by decide +kernel
theorem d_M_edge_37 : decode b_M_edge 37 = .ok (.if_icmp .gt 15, 3) := by decide +kernel
theorem d_M_edge_40 : decode b_M_edge 40 = .ok (.iload 5, 2) := by decide +kernel
theorem d_M_edge_42 : decode b_M_edge 42 = .ok (.ifCond .lt 10, 3) := by decide +kernel
theorem d_M_edge_45 : decode b_M_edge 45 = .ok (.iload 5, 2) := by decide +kernel
theorem d_M_edge_47 : decode b_M_edge 47 = .ok (.bipush 12, 2) := by decide +kernel
theorem d_M_edge_49 : decode b_M_edge 49 = .ok (.if_icmp .le 5, 3) := by decide +kernel
theorem d_M_edge_52 : decode b_M_edge 52 = .ok (.iconst (-1), 1) := by decide +kernel
theorem d_M_edge_53 : decode b_M_edge 53 = .ok (.ireturn, 1) := by decide +kernel
theorem d_M_edge_54 : decode b_M_edge 54 = .ok (.aload_n 0, 1) := by decide +kernel
theorem d_M_edge_55 : decode b_M_edge 55 = .ok (.getfield 83, 3) := by decide +kernel
theorem d_M_edge_58 : decode b_M_edge 58 = .ok (.bipush 12, 2) := by decide +kernel
theorem d_M_edge_60 : decode b_M_edge 60 = .ok (.if_icmp .ne 6, 3) := by decide +kernel
theorem d_M_edge_63 : decode b_M_edge 63 = .ok (.bipush (-2), 2) := by decide +kernel
theorem d_M_edge_65 : decode b_M_edge 65 = .ok (.ireturn, 1) := by decide +kernel
theorem d_M_edge_66 : decode b_M_edge 66 = .ok (.aload_n 0, 1) := by decide +kernel
theorem d_M_edge_67 : decode b_M_edge 67 = .ok (.getfield 20, 3) := by decide +kernel
theorem d_M_edge_70 : decode b_M_edge 70 = .ok (.aload_n 0, 1) := by decide +kernel
theorem d_M_edge_71 : decode b_M_edge 71 = .ok (.getfield 83, 3) := by decide +kernel
theorem d_M_edge_74 : decode b_M_edge 74 = .ok (.iload_n 1, 1) := by decide +kernel
theorem d_M_edge_75 : decode b_M_edge 75 = .ok (.iastore, 1) := by decide +kernel
theorem d_M_edge_76 : decode b_M_edge 76 = .ok (.aload_n 0, 1) := by decide +kernel
theorem d_M_edge_77 : decode b_M_edge 77 = .ok (.getfield 23, 3) := by decide +kernel
theorem d_M_edge_80 : decode b_M_edge 80 = .ok (.aload_n 0, 1) := by decide +kernel
theorem d_M_edge_81 : decode b_M_edge 81 = .ok (.getfield 83, 3) := by decide +kernel
theorem d_M_edge_84 : decode b_M_edge 84 = .ok (.iload_n 2, 1) := by decide +kernel
theorem d_M_edge_85 : decode b_M_edge 85 = .ok (.iastore, 1) := by decide +kernel
theorem d_M_edge_86 : decode b_M_edge 86 = .ok (.aload_n 0, 1) := by decide +kernel
theorem d_M_edge_87 : decode b_M_edge 87 = .ok (.getfield 26, 3) := by decide +kernel
theorem d_M_edge_90 : decode b_M_edge 90 = .ok (.aload_n 0, 1) := by decide +kernel
theorem d_M_edge_91 : decode b_M_edge 91 = .ok (.getfield 83, 3) := by decide +kernel
theorem d_M_edge_94 : decode b_M_edge 94 = .ok (.iload_n 3, 1) := by decide +kernel
theorem d_M_edge_95 : decode b_M_edge 95 = .ok (.iastore, 1) := by decide +kernel
theorem d_M_edge_96 : decode b_M_edge 96 = .ok (.aload_n 0, 1) := by decide +kernel
theorem d_M_edge_97 : decode b_M_edge 97 = .ok (.getfield 29, 3) := by decide +kernel
theorem d_M_edge_100 : decode b_M_edge 100 = .ok (.aload_n 0, 1) := by decide +kernel
theorem d_M_edge_101 : decode b_M_edge 101 = .ok (.getfield 83, 3) := by decide +kernel
theorem d_M_edge_104 : decode b_M_edge 104 = .ok (.iload 4, 2) := by decide +kernel
theorem d_M_edge_106 : decode b_M_edge 106 = .ok (.iastore, 1) := by decide +kernel
theorem d_M_edge_107 : decode b_M_edge 107 = .ok (.aload_n 0, 1) := by decide +kernel
theorem d_M_edge_108 : decode b_M_edge 108 = .ok (.getfield 32, 3) := by decide +kernel
theorem d_M_edge_111 : decode b_M_edge 111 = .ok (.aload_n 0, 1) := by decide +kernel
theorem d_M_edge_112 : decode b_M_edge 112 = .ok (.getfield 83, 3) := by decide +kernel
theorem d_M_edge_115 : decode b_M_edge 115 = .ok (.iload 5, 2) := by decide +kernel
theorem d_M_edge_117 : decode b_M_edge 117 = .ok (.iastore, 1) := by decide +kernel
theorem d_M_edge_118 : decode b_M_edge 118 = .ok (.aload_n 0, 1) := by decide +kernel
theorem d_M_edge_119 : decode b_M_edge 119 = .ok (.dup, 1) := by decide +kernel
theorem d_M_edge_120 : decode b_M_edge 120 = .ok (.getfield 83, 3) := by decide +kernel
theorem d_M_edge_123 : decode b_M_edge 123 = .ok (.iconst 1, 1) := by decide +kernel
theorem d_M_edge_124 : decode b_M_edge 124 = .ok (.iadd, 1) := by decide +kernel
theorem d_M_edge_125 : decode b_M_edge 125 = .ok (.putfield 83, 3) := by decide +kernel
theorem d_M_edge_128 : decode b_M_edge 128 = .ok (.aload_n 0, 1) := by decide +kernel
theorem d_M_edge_129 : decode b_M_edge 129 = .ok (.iconst 0, 1) := by decide +kernel
theorem d_M_edge_130 : decode b_M_edge 130 = .ok (.putfield 75, 3) := by decide +kernel
theorem d_M_edge_133 : decode b_M_edge 133 = .ok (.aload_n 0, 1) := by decide +kernel
theorem d_M_edge_134 : decode b_M_edge 134 = .ok (.getfield 83, 3) := by decide +kernel
theorem d_M_edge_137 : decode b_M_edge 137 = .ok (.iconst 1, 1) := by decide +kernel
theorem d_M_edge_138 : decode b_M_edge 138 = .ok (.isub, 1) := by decide +kernel
theorem d_M_edge_139 : decode b_M_edge 139 = .ok (.ireturn, 1) := by decide +kernel
theorem d_M_unedge_0 : decode b_M_unedge 0 = .ok (.iload_n 1, 1) := by decide +kernel
theorem d_M_unedge_1 : decode b_M_unedge 1 = .ok (.ifCond .lt 11, 3) := by decide +kernel
theorem d_M_unedge_4 : decode b_M_unedge 4 = .ok (.iload_n 1, 1) := by decide +kernel
theorem d_M_unedge_5 : decode b_M_unedge 5 = .ok (.aload_n 0, 1) := by decide +kernel
theorem d_M_unedge_6 : decode b_M_unedge 6 = .ok (.getfield 83, 3) := by decide +kernel
theorem d_M_unedge_9 : decode b_M_unedge 9 = .ok (.if_icmp .lt 5, 3) := by decide +kernel
theorem d_M_unedge_12 : decode b_M_unedge 12 = .ok (.iconst (-1), 1) := by decide +kernel
theorem d_M_unedge_13 : decode b_M_unedge 13 = .ok (.ireturn, 1) := by decide +kernel
theorem d_M_unedge_14 : decode b_M_unedge 14 = .ok (.aload_n 0, 1) := by decide +kernel
theorem d_M_unedge_15 : decode b_M_unedge 15 = .ok (.dup, 1) := by decide +kernel
theorem d_M_unedge_16 : decode b_M_unedge 16 = .ok (.getfield 83, 3) := by decide +kernel
theorem d_M_unedge_19 : decode b_M_unedge 19 = .ok (.iconst 1, 1) := by decide +kernel
theorem d_M_unedge_20 : decode b_M_unedge 20 = .ok (.isub, 1) := by decide +kernel
theorem d_M_unedge_21 : decode b_M_unedge 21 = .ok (.putfield 83, 3) := by decide +kernel
theorem d_M_unedge_24 : decode b_M_unedge 24 = .ok (.iload_n 1, 1) := by decide +kernel
theorem d_M_unedge_25 : decode b_M_unedge 25 = .ok (.istore_n 2, 1) := by decide +kernel
theorem d_M_unedge_26 : decode b_M_unedge 26 = .ok (.iload_n 2, 1) := by decide +kernel
theorem d_M_unedge_27 : decode b_M_unedge 27 = .ok (.aload_n 0, 1) := by decide +kernel
theorem d_M_unedge_28 : decode b_M_unedge 28 = .ok (.getfield 83, 3) := by decide +kernel
theorem d_M_unedge_31 : decode b_M_unedge 31 = .ok (.if_icmp .ge 79, 3) := by decide +kernel
theorem d_M_unedge_34 : decode b_M_unedge 34 = .ok (.aload_n 0, 1) := by decide +kernel
theorem d_M_unedge_35 : decode b_M_unedge 35 = .ok (.getfield 20, 3) := by decide +kernel
theorem d_M_unedge_38 : decode b_M_unedge 38 = .ok (.iload_n 2, 1) := by decide +kernel
theorem d_M_unedge_39 : decode b_M_unedge 39 = .ok (.aload_n 0, 1) := by decide +kernel
theorem d_M_unedge_40 : decode b_M_unedge 40 = .ok (.getfield 20, 3) := by decide +kernel
theorem d_M_unedge_43 : decode b_M_unedge 43 = .ok (.iload_n 2, 1) := by decide +kernel
theorem d_M_unedge_44 : decode b_M_unedge 44 = .ok (.iconst 1, 1) := by decide +kernel
theorem d_M_unedge_45 : decode b_M_unedge 45 = .ok (.iadd, 1) := by decide +kernel
theorem d_M_unedge_46 : decode b_M_unedge 46 = .ok (.iaload, 1) := by decide +kernel
theorem d_M_unedge_47 : decode b_M_unedge 47 = .ok (.iastore, 1) := by decide +kernel
theorem d_M_unedge_48 : decode b_M_unedge 48 = .ok (.aload_n 0, 1) := by decide +kernel
theorem d_M_unedge_49 : decode b_M_unedge 49 = .ok (.getfield 23, 3) := by decide +kernel
theorem d_M_unedge_52 : decode b_M_unedge 52 = .ok (.iload_n 2, 1) := by decide +kernel
theorem d_M_unedge_53 : decode b_M_unedge 53 = .ok (.aload_n 0, 1) := by decide +kernel
theorem d_M_unedge_54 : decode b_M_unedge 54 = .ok (.getfield 23, 3) := by decide +kernel
theorem d_M_unedge_57 : decode b_M_unedge 57 = .ok (.iload_n 2, 1) := by decide +kernel
theorem d_M_unedge_58 : decode b_M_unedge 58 = .ok (.iconst 1, 1) := by decide +kernel
theorem d_M_unedge_59 : decode b_M_unedge 59 = .ok (.iadd, 1) := by decide +kernel
theorem d_M_unedge_60 : decode b_M_unedge 60 = .ok (.iaload, 1) := by decide +kernel
theorem d_M_unedge_61 : decode b_M_unedge 61 = .ok (.iastore, 1) := by decide +kernel
theorem d_M_unedge_62 : decode b_M_unedge 62 = .ok (.aload_n 0, 1) := by decide +kernel
theorem d_M_unedge_63 : decode b_M_unedge 63 = .ok (.getfield 26, 3) := by decide +kernel
theorem d_M_unedge_66 : decode b_M_unedge 66 = .ok (.iload_n 2, 1) := by decide +kernel
theorem d_M_unedge_67 : decode b_M_unedge 67 = .ok (.aload_n 0, 1) := by decide +kernel
theorem d_M_unedge_68 : decode b_M_unedge 68 = .ok (.getfield 26, 3) := by decide +kernel
theorem d_M_unedge_71 : decode b_M_unedge 71 = .ok (.iload_n 2, 1) := by decide +kernel
theorem d_M_unedge_72 : decode b_M_unedge 72 = .ok (.iconst 1, 1) := by decide +kernel
theorem d_M_unedge_73 : decode b_M_unedge 73 = .ok (.iadd, 1) := by decide +kernel
theorem d_M_unedge_74 : decode b_M_unedge 74 = .ok (.iaload, 1) := by decide +kernel
theorem d_M_unedge_75 : decode b_M_unedge 75 = .ok (.iastore, 1) := by decide +kernel
theorem d_M_unedge_76 : decode b_M_unedge 76 = .ok (.aload_n 0, 1) := by decide +kernel
theorem d_M_unedge_77 : decode b_M_unedge 77 = .ok (.getfield 29, 3) := by decide +kernel
theorem d_M_unedge_80 : decode b_M_unedge 80 = .ok (.iload_n 2, 1) := by decide +kernel
theorem d_M_unedge_81 : decode b_M_unedge 81 = .ok (.aload_n 0, 1) := by decide +kernel
theorem d_M_unedge_82 : decode b_M_unedge 82 = .ok (.getfield 29, 3) := by decide +kernel
theorem d_M_unedge_85 : decode b_M_unedge 85 = .ok (.iload_n 2, 1) := by decide +kernel
theorem d_M_unedge_86 : decode b_M_unedge 86 = .ok (.iconst 1, 1) := by decide +kernel
theorem d_M_unedge_87 : decode b_M_unedge 87 = .ok (.iadd, 1) := by decide +kernel
theorem d_M_unedge_88 : decode b_M_unedge 88 = .ok (.iaload, 1) := by decide +kernel
theorem d_M_unedge_89 : decode b_M_unedge 89 = .ok (.iastore, 1) := by decide +kernel
theorem d_M_unedge_90 : decode b_M_unedge 90 = .ok (.aload_n 0, 1) := by decide +kernel
theorem d_M_unedge_91 : decode b_M_unedge 91 = .ok (.getfield 32, 3) := by decide +kernel
theorem d_M_unedge_94 : decode b_M_unedge 94 = .ok (.iload_n 2, 1) := by decide +kernel
theorem d_M_unedge_95 : decode b_M_unedge 95 = .ok (.aload_n 0, 1) := by decide +kernel
theorem d_M_unedge_96 : decode b_M_unedge 96 = .ok (.getfield 32, 3) := by decide +kernel
theorem d_M_unedge_99 : decode b_M_unedge 99 = .ok (.iload_n 2, 1) := by decide +kernel
theorem d_M_unedge_100 : decode b_M_unedge 100 = .ok (.iconst 1, 1) := by decide +kernel
theorem d_M_unedge_101 : decode b_M_unedge 101 = .ok (.iadd, 1) := by decide +kernel
theorem d_M_unedge_102 : decode b_M_unedge 102 = .ok (.iaload, 1) := by decide +kernel
theorem d_M_unedge_103 : decode b_M_unedge 103 = .ok (.iastore, 1) := by decide +kernel
theorem d_M_unedge_104 : decode b_M_unedge 104 = .ok (.iinc 2 1, 3) := by decide +kernel
theorem d_M_unedge_107 : decode b_M_unedge 107 = .ok (.goto (-81), 3) := by decide +kernel
theorem d_M_unedge_110 : decode b_M_unedge 110 = .ok (.aload_n 0, 1) := by decide +kernel
theorem d_M_unedge_111 : decode b_M_unedge 111 = .ok (.iconst 0, 1) := by decide +kernel
theorem d_M_unedge_112 : decode b_M_unedge 112 = .ok (.putfield 75, 3) := by decide +kernel
theorem d_M_unedge_115 : decode b_M_unedge 115 = .ok (.aload_n 0, 1) := by decide +kernel
theorem d_M_unedge_116 : decode b_M_unedge 116 = .ok (.getfield 83, 3) := by decide +kernel
theorem d_M_unedge_119 : decode b_M_unedge 119 = .ok (.ireturn, 1) := by decide +kernel
theorem d_M_gcd_0 : decode b_M_gcd 0 = .ok (.lload_n 0, 1) := by decide +kernel
theorem d_M_gcd_1 : decode b_M_gcd 1 = .ok (.lstore 4, 2) := by decide +kernel
theorem d_M_gcd_3 : decode b_M_gcd 3 = .ok (.lload_n 2, 1) := by decide +kernel
theorem d_M_gcd_4 : decode b_M_gcd 4 = .ok (.lstore 6, 2) := by decide +kernel
theorem d_M_gcd_6 : decode b_M_gcd 6 = .ok (.lload 6, 2) := by decide +kernel
theorem d_M_gcd_8 : decode b_M_gcd 8 = .ok (.lconst 0, 1) := by decide +kernel
theorem d_M_gcd_9 : decode b_M_gcd 9 = .ok (.lcmp, 1) := by decide +kernel
theorem d_M_gcd_10 : decode b_M_gcd 10 = .ok (.ifCond .eq 21, 3) := by decide +kernel
theorem d_M_gcd_13 : decode b_M_gcd 13 = .ok (.lload 4, 2) := by decide +kernel
theorem d_M_gcd_15 : decode b_M_gcd 15 = .ok (.lload 6, 2) := by decide +kernel
theorem d_M_gcd_17 : decode b_M_gcd 17 = .ok (.lrem, 1) := by decide +kernel
theorem d_M_gcd_18 : decode b_M_gcd 18 = .ok (.lstore 8, 2) := by decide +kernel
theorem d_M_gcd_20 : decode b_M_gcd 20 = .ok (.lload 6, 2) := by decide +kernel
theorem d_M_gcd_22 : decode b_M_gcd 22 = .ok (.lstore 4, 2) := by decide +kernel
theorem d_M_gcd_24 : decode b_M_gcd 24 = .ok (.lload 8, 2) := by decide +kernel
theorem d_M_gcd_26 : decode b_M_gcd 26 = .ok (.lstore 6, 2) := by decide +kernel
theorem d_M_gcd_28 : decode b_M_gcd 28 = .ok (.goto (-22), 3) := by decide +kernel
theorem d_M_gcd_31 : decode b_M_gcd 31 = .ok (.lload 4, 2) := by decide +kernel
theorem d_M_gcd_33 : decode b_M_gcd 33 = .ok (.lreturn, 1) := by decide +kernel
theorem d_M_setFraction_0 : decode b_M_setFraction 0 = .ok (.lload_n 2, 1) := by decide +kernel
theorem d_M_setFraction_1 : decode b_M_setFraction 1 = .ok (.lload 4, 2) := by decide +kernel
theorem d_M_setFraction_3 : decode b_M_setFraction 3 = .ok (.invokestatic 87, 3) := by decide +kernel
theorem d_M_setFraction_6 : decode b_M_setFraction 6 = .ok (.lstore 6, 2) := by decide +kernel
theorem d_M_setFraction_8 : decode b_M_setFraction 8 = .ok (.aload_n 0, 1) := by decide +kernel
theorem d_M_setFraction_9 : decode b_M_setFraction 9 = .ok (.getfield 35, 3) := by decide +kernel
theorem d_M_setFraction_12 : decode b_M_setFraction 12 = .ok (.iload_n 1, 1) := by decide +kernel
theorem d_M_setFraction_13 : decode b_M_setFraction 13 = .ok (.lload_n 2, 1) := by decide +kernel
theorem d_M_setFraction_14 : decode b_M_setFraction 14 = .ok (.lload 6, 2) := by decide +kernel
theorem d_M_setFraction_16 : decode b_M_setFraction 16 = .ok (.ldiv, 1) := by decide +kernel
theorem d_M_setFraction_17 : decode b_M_setFraction 17 = .ok (.lastore, 1) := by decide +kernel
theorem d_M_setFraction_18 : decode b_M_setFraction 18 = .ok (.aload_n 0, 1) := by decide +kernel
theorem d_M_setFraction_19 : decode b_M_setFraction 19 = .ok (.getfield 39, 3) := by decide +kernel
theorem d_M_setFraction_22 : decode b_M_setFraction 22 = .ok (.iload_n 1, 1) := by decide +kernel
theorem d_M_setFraction_23 : decode b_M_setFraction 23 = .ok (.lload 4, 2) := by decide +kernel
theorem d_M_setFraction_25 : decode b_M_setFraction 25 = .ok (.lload 6, 2) := by decide +kernel
theorem d_M_setFraction_27 : decode b_M_setFraction 27 = .ok (.ldiv, 1) := by decide +kernel
theorem d_M_setFraction_28 : decode b_M_setFraction 28 = .ok (.lastore, 1) := by decide +kernel
theorem d_M_setFraction_29 : decode b_M_setFraction 29 = .ok (.return_, 1) := by decide +kernel
theorem d_M_balance_0 : decode b_M_balance 0 = .ok (.iconst 0, 1) := by decide +kernel
theorem d_M_balance_1 : decode b_M_balance 1 = .ok (.istore_n 2, 1) := by decide +kernel
theorem d_M_balance_2 : decode b_M_balance 2 = .ok (.iload_n 2, 1) := by decide +kernel
theorem d_M_balance_3 : decode b_M_balance 3 = .ok (.bipush 8, 2) := by decide +kernel
theorem d_M_balance_5 : decode b_M_balance 5 = .ok (.if_icmp .ge 16, 3) := by decide +kernel
theorem d_M_balance_8 : decode b_M_balance 8 = .ok (.aload_n 0, 1) := by decide +kernel
theorem d_M_balance_9 : decode b_M_balance 9 = .ok (.getfield 42, 3) := by decide +kernel
theorem d_M_balance_12 : decode b_M_balance 12 = .ok (.iload_n 2, 1) := by decide +kernel
theorem d_M_balance_13 : decode b_M_balance 13 = .ok (.iconst (-1), 1) := by decide +kernel
theorem d_M_balance_14 : decode b_M_balance 14 = .ok (.iastore, 1) := by decide +kernel
theorem d_M_balance_15 : decode b_M_balance 15 = .ok (.iinc 2 1, 3) := by decide +kernel
theorem d_M_balance_18 : decode b_M_balance 18 = .ok (.goto (-16), 3) := by decide +kernel
theorem d_M_balance_21 : decode b_M_balance 21 = .ok (.iconst 0, 1) := by decide +kernel
theorem d_M_balance_22 : decode b_M_balance 22 = .ok (.istore_n 2, 1) := by decide +kernel
theorem d_M_balance_23 : decode b_M_balance 23 = .ok (.iload_n 2, 1) := by decide +kernel
theorem d_M_balance_24 : decode b_M_balance 24 = .ok (.bipush 8, 2) := by decide +kernel
theorem d_M_balance_26 : decode b_M_balance 26 = .ok (.if_icmp .ge 232, 3) := by decide +kernel
theorem d_M_balance_29 : decode b_M_balance 29 = .ok (.aload_n 0, 1) := by decide +kernel
theorem d_M_balance_30 : decode b_M_balance 30 = .ok (.getfield 7, 3) := by decide +kernel
theorem d_M_balance_33 : decode b_M_balance 33 = .ok (.iload_n 2, 1) := by decide +kernel
theorem d_M_balance_34 : decode b_M_balance 34 = .ok (.baload, 1) := by decide +kernel
theorem d_M_balance_35 : decode b_M_balance 35 = .ok (.ifCond .eq 217, 3) := by decide +kernel
theorem d_M_balance_38 : decode b_M_balance 38 = .ok (.aload_n 0, 1) := by decide +kernel
theorem d_M_balance_39 : decode b_M_balance 39 = .ok (.getfield 42, 3) := by decide +kernel
theorem d_M_balance_42 : decode b_M_balance 42 = .ok (.iload_n 2, 1) := by decide +kernel
theorem d_M_balance_43 : decode b_M_balance 43 = .ok (.iaload, 1) := by decide +kernel
theorem d_M_balance_44 : decode b_M_balance 44 = .ok (.ifCond .lt 6, 3) := by decide +kernel
theorem d_M_balance_47 : decode b_M_balance 47 = .ok (.goto 205, 3) := by decide +kernel
theorem d_M_balance_50 : decode b_M_balance 50 = .ok (.aload_n 0, 1) := by decide +kernel
theorem d_M_balance_51 : decode b_M_balance 51 = .ok (.getfield 42, 3) := by decide +kernel
theorem d_M_balance_54 : decode b_M_balance 54 = .ok (.iload_n 2, 1) := by decide +kernel
theorem d_M_balance_55 : decode b_M_balance 55 = .ok (.iload_n 2, 1) := by decide +kernel
theorem d_M_balance_56 : decode b_M_balance 56 = .ok (.iastore, 1) := by decide +kernel
theorem d_M_balance_57 : decode b_M_balance 57 = .ok (.aload_n 0, 1) := by decide +kernel
theorem d_M_balance_58 : decode b_M_balance 58 = .ok (.getfield 35, 3) := by decide +kernel
theorem d_M_balance_61 : decode b_M_balance 61 = .ok (.iload_n 2, 1) := by decide +kernel
theorem d_M_balance_62 : decode b_M_balance 62 = .ok (.aload_n 0, 1) := by decide +kernel
theorem d_M_balance_63 : decode b_M_balance 63 = .ok (.getfield 39, 3) := by decide +kernel
theorem d_M_balance_66 : decode b_M_balance 66 = .ok (.iload_n 2, 1) := by decide +kernel
theorem d_M_balance_67 : decode b_M_balance 67 = .ok (.lconst 1, 1) := by decide +kernel
theorem d_M_balance_68 : decode b_M_balance 68 = .ok (.dup2_x2, 1) := by decide +kernel
theorem d_M_balance_69 : decode b_M_balance 69 = .ok (.lastore, 1) := by decide +kernel
theorem d_M_balance_70 : decode b_M_balance 70 = .ok (.lastore, 1) := by decide +kernel
theorem d_M_balance_71 : decode b_M_balance 71 = .ok (.iconst 0, 1) := by decide +kernel
theorem d_M_balance_72 : decode b_M_balance 72 = .ok (.istore_n 3, 1) := by decide +kernel
theorem d_M_balance_73 : decode b_M_balance 73 = .ok (.iload_n 3, 1) := by decide +kernel
theorem d_M_balance_74 : decode b_M_balance 74 = .ok (.bipush 8, 2) := by decide +kernel
theorem d_M_balance_76 : decode b_M_balance 76 = .ok (.if_icmp .ge 176, 3) := by decide +kernel
theorem d_M_balance_79 : decode b_M_balance 79 = .ok (.iconst 0, 1) := by decide +kernel
theorem d_M_balance_80 : decode b_M_balance 80 = .ok (.istore 4, 2) := by decide +kernel
theorem d_M_balance_82 : decode b_M_balance 82 = .ok (.iload 4, 2) := by decide +kernel
theorem d_M_balance_84 : decode b_M_balance 84 = .ok (.iload_n 1, 1) := by decide +kernel
theorem d_M_balance_85 : decode b_M_balance 85 = .ok (.if_icmp .ge 161, 3) := by decide +kernel
theorem d_M_balance_88 : decode b_M_balance 88 = .ok (.aload_n 0, 1) := by decide +kernel
theorem d_M_balance_89 : decode b_M_balance 89 = .ok (.getfield 20, 3) := by decide +kernel
theorem d_M_balance_92 : decode b_M_balance 92 = .ok (.iload 4, 2) := by decide +kernel
theorem d_M_balance_94 : decode b_M_balance 94 = .ok (.iaload, 1) := by decide +kernel
theorem d_M_balance_95 : decode b_M_balance 95 = .ok (.istore 5, 2) := by decide +kernel
theorem d_M_balance_97 : decode b_M_balance 97 = .ok (.aload_n 0, 1) := by decide +kernel
theorem d_M_balance_98 : decode b_M_balance 98 = .ok (.getfield 23, 3) := by decide +kernel
theorem d_M_balance_101 : decode b_M_balance 101 = .ok (.iload 4, 2) := by decide +kernel
theorem d_M_balance_103 : decode b_M_balance 103 = .ok (.iaload, 1) := by decide +kernel
theorem d_M_balance_104 : decode b_M_balance 104 = .ok (.istore 6, 2) := by decide +kernel
theorem d_M_balance_106 : decode b_M_balance 106 = .ok (.aload_n 0, 1) := by decide +kernel
theorem d_M_balance_107 : decode b_M_balance 107 = .ok (.getfield 42, 3) := by decide +kernel
theorem d_M_balance_110 : decode b_M_balance 110 = .ok (.iload 5, 2) := by decide +kernel
theorem d_M_balance_112 : decode b_M_balance 112 = .ok (.iaload, 1) := by decide +kernel
theorem d_M_balance_113 : decode b_M_balance 113 = .ok (.iload_n 2, 1) := by decide +kernel
theorem d_M_balance_114 : decode b_M_balance 114 = .ok (.if_icmp .ne 59, 3) := by decide +kernel
theorem d_M_balance_117 : decode b_M_balance 117 = .ok (.aload_n 0, 1) := by decide +kernel
theorem d_M_balance_118 : decode b_M_balance 118 = .ok (.getfield 42, 3) := by decide +kernel
theorem d_M_balance_121 : decode b_M_balance 121 = .ok (.iload 6, 2) := by decide +kernel
theorem d_M_balance_123 : decode b_M_balance 123 = .ok (.iaload, 1) := by decide +kernel
theorem d_M_balance_124 : decode b_M_balance 124 = .ok (.ifCond .ge 49, 3) := by decide +kernel
theorem d_M_balance_127 : decode b_M_balance 127 = .ok (.aload_n 0, 1) := by decide +kernel
theorem d_M_balance_128 : decode b_M_balance 128 = .ok (.getfield 42, 3) := by decide +kernel
theorem d_M_balance_131 : decode b_M_balance 131 = .ok (.iload 6, 2) := by decide +kernel
theorem d_M_balance_133 : decode b_M_balance 133 = .ok (.iload_n 2, 1) := by decide +kernel
theorem d_M_balance_134 : decode b_M_balance 134 = .ok (.iastore, 1) := by decide +kernel
theorem d_M_balance_135 : decode b_M_balance 135 = .ok (.aload_n 0, 1) := by decide +kernel
theorem d_M_balance_136 : decode b_M_balance 136 = .ok (.iload 6, 2) := by decide +kernel
theorem d_M_balance_138 : decode b_M_balance 138 = .ok (.aload_n 0, 1) := by decide +kernel
theorem d_M_balance_139 : decode b_M_balance 139 = .ok (.getfield 35, 3) := by decide +kernel
theorem d_M_balance_142 : decode b_M_balance 142 = .ok (.iload 5, 2) := by decide +kernel
theorem d_M_balance_144 : decode b_M_balance 144 = .ok (.laload, 1) := by decide +kernel
theorem d_M_balance_145 : decode b_M_balance 145 = .ok (.aload_n 0, 1) := by decide +kernel
theorem d_M_balance_146 : decode b_M_balance 146 = .ok (.getfield 26, 3) := by decide +kernel
theorem d_M_balance_149 : decode b_M_balance 149 = .ok (.iload 4, 2) := by decide +kernel
theorem d_M_balance_151 : decode b_M_balance 151 = .ok (.iaload, 1) := by decide +kernel
theorem d_M_balance_152 : decode b_M_balance 152 = .ok (.i2l, 1) := by decide +kernel
theorem d_M_balance_153 : decode b_M_balance 153 = .ok (.lmul, 1) := by decide +kernel
theorem d_M_balance_154 : decode b_M_balance 154 = .ok (.aload_n 0, 1) := by decide +kernel
theorem d_M_balance_155 : decode b_M_balance 155 = .ok (.getfield 39, 3) := by decide +kernel
theorem d_M_balance_158 : decode b_M_balance 158 = .ok (.iload 5, 2) := by decide +kernel
theorem d_M_balance_160 : decode b_M_balance 160 = .ok (.laload, 1) := by decide +kernel
theorem d_M_balance_161 : decode b_M_balance 161 = .ok (.aload_n 0, 1) := by decide +kernel
theorem d_M_balance_162 : decode b_M_balance 162 = .ok (.getfield 29, 3) := by decide +kernel
theorem d_M_balance_165 : decode b_M_balance 165 = .ok (.iload 4, 2) := by decide +kernel
theorem d_M_balance_167 : decode b_M_balance 167 = .ok (.iaload, 1) := by decide +kernel
theorem d_M_balance_168 : decode b_M_balance 168 = .ok (.i2l, 1) := by decide +kernel
theorem d_M_balance_169 : decode b_M_balance 169 = .ok (.lmul, 1) := by decide +kernel
theorem d_M_balance_170 : decode b_M_balance 170 = .ok (.invokevirtual 91, 3) := by decide +kernel
theorem d_M_balance_173 : decode b_M_balance 173 = .ok (.aload_n 0, 1) := by decide +kernel
theorem d_M_balance_174 : decode b_M_balance 174 = .ok (.getfield 42, 3) := by decide +kernel
theorem d_M_balance_177 : decode b_M_balance 177 = .ok (.iload 6, 2) := by decide +kernel
theorem d_M_balance_179 : decode b_M_balance 179 = .ok (.iaload, 1) := by decide +kernel
theorem d_M_balance_180 : decode b_M_balance 180 = .ok (.iload_n 2, 1) := by decide +kernel
theorem d_M_balance_181 : decode b_M_balance 181 = .ok (.if_icmp .ne 59, 3) := by decide +kernel
theorem d_M_balance_184 : decode b_M_balance 184 = .ok (.aload_n 0, 1) := by decide +kernel
theorem d_M_balance_185 : decode b_M_balance 185 = .ok (.getfield 42, 3) := by decide +kernel
theorem d_M_balance_188 : decode b_M_balance 188 = .ok (.iload 5, 2) := by decide +kernel
theorem d_M_balance_190 : decode b_M_balance 190 = .ok (.iaload, 1) := by decide +kernel
theorem d_M_balance_191 : decode b_M_balance 191 = .ok (.ifCond .ge 49, 3) := by decide +kernel
theorem d_M_balance_194 : decode b_M_balance 194 = .ok (.aload_n 0, 1) := by decide +kernel
theorem d_M_balance_195 : decode b_M_balance 195 = .ok (.getfield 42, 3) := by decide +kernel
theorem d_M_balance_198 : decode b_M_balance 198 = .ok (.iload 5, 2) := by decide +kernel
theorem d_M_balance_200 : decode b_M_balance 200 = .ok (.iload_n 2, 1) := by decide +kernel
theorem d_M_balance_201 : decode b_M_balance 201 = .ok (.iastore, 1) := by decide +kernel
theorem d_M_balance_202 : decode b_M_balance 202 = .ok (.aload_n 0, 1) := by decide +kernel
theorem d_M_balance_203 : decode b_M_balance 203 = .ok (.iload 5, 2) := by decide +kernel
theorem d_M_balance_205 : decode b_M_balance 205 = .ok (.aload_n 0, 1) := by decide +kernel
theorem d_M_balance_206 : decode b_M_balance 206 = .ok (.getfield 35, 3) := by decide +kernel
theorem d_M_balance_209 : decode b_M_balance 209 = .ok (.iload 6, 2) := by decide +kernel
theorem d_M_balance_211 : decode b_M_balance 211 = .ok (.laload, 1) := by decide +kernel
theorem d_M_balance_212 : decode b_M_balance 212 = .ok (.aload_n 0, 1) := by decide +kernel
theorem d_M_balance_213 : decode b_M_balance 213 = .ok (.getfield 29, 3) := by decide +kernel
theorem d_M_balance_216 : decode b_M_balance 216 = .ok (.iload 4, 2) := by decide +kernel
theorem d_M_balance_218 : decode b_M_balance 218 = .ok (.iaload, 1) := by decide +kernel
theorem d_M_balance_219 : decode b_M_balance 219 = .ok (.i2l, 1) := by decide +kernel
theorem d_M_balance_220 : decode b_M_balance 220 = .ok (.lmul, 1) := by decide +kernel
theorem d_M_balance_221 : decode b_M_balance 221 = .ok (.aload_n 0, 1) := by decide +kernel
theorem d_M_balance_222 : decode b_M_balance 222 = .ok (.getfield 39, 3) := by decide +kernel
theorem d_M_balance_225 : decode b_M_balance 225 = .ok (.iload 6, 2) := by decide +kernel
theorem d_M_balance_227 : decode b_M_balance 227 = .ok (.laload, 1) := by decide +kernel
theorem d_M_balance_228 : decode b_M_balance 228 = .ok (.aload_n 0, 1) := by decide +kernel
theorem d_M_balance_229 : decode b_M_balance 229 = .ok (.getfield 26, 3) := by decide +kernel
theorem d_M_balance_232 : decode b_M_balance 232 = .ok (.iload 4, 2) := by decide +kernel
theorem d_M_balance_234 : decode b_M_balance 234 = .ok (.iaload, 1) := by decide +kernel
theorem d_M_balance_235 : decode b_M_balance 235 = .ok (.i2l, 1) := by decide +kernel
theorem d_M_balance_236 : decode b_M_balance 236 = .ok (.lmul, 1) := by decide +kernel
theorem d_M_balance_237 : decode b_M_balance 237 = .ok (.invokevirtual 91, 3) := by decide +kernel
theorem d_M_balance_240 : decode b_M_balance 240 = .ok (.iinc 4 1, 3) := by decide +kernel
theorem d_M_balance_243 : decode b_M_balance 243 = .ok (.goto (-161), 3) := by decide +kernel
theorem d_M_balance_246 : decode b_M_balance 246 = .ok (.iinc 3 1, 3) := by decide +kernel
theorem d_M_balance_249 : decode b_M_balance 249 = .ok (.goto (-176), 3) := by decide +kernel
theorem d_M_balance_252 : decode b_M_balance 252 = .ok (.iinc 2 1, 3) := by decide +kernel
theorem d_M_balance_255 : decode b_M_balance 255 = .ok (.goto (-232), 3) := by decide +kernel
theorem d_M_balance_258 : decode b_M_balance 258 = .ok (.iconst 0, 1) := by decide +kernel
theorem d_M_balance_259 : decode b_M_balance 259 = .ok (.istore_n 2, 1) := by decide +kernel
theorem d_M_balance_260 : decode b_M_balance 260 = .ok (.iload_n 2, 1) := by decide +kernel
theorem d_M_balance_261 : decode b_M_balance 261 = .ok (.iload_n 1, 1) := by decide +kernel
theorem d_M_balance_262 : decode b_M_balance 262 = .ok (.if_icmp .ge 77, 3) := by decide +kernel
theorem d_M_balance_265 : decode b_M_balance 265 = .ok (.aload_n 0, 1) := by decide +kernel
theorem d_M_balance_266 : decode b_M_balance 266 = .ok (.getfield 35, 3) := by decide +kernel
theorem d_M_balance_269 : decode b_M_balance 269 = .ok (.aload_n 0, 1) := by decide +kernel
theorem d_M_balance_270 : decode b_M_balance 270 = .ok (.getfield 20, 3) := by decide +kernel
theorem d_M_balance_273 : decode b_M_balance 273 = .ok (.iload_n 2, 1) := by decide +kernel
theorem d_M_balance_274 : decode b_M_balance 274 = .ok (.iaload, 1) := by decide +kernel
theorem d_M_balance_275 : decode b_M_balance 275 = .ok (.laload, 1) := by decide +kernel
theorem d_M_balance_276 : decode b_M_balance 276 = .ok (.aload_n 0, 1) := by decide +kernel
theorem d_M_balance_277 : decode b_M_balance 277 = .ok (.getfield 26, 3) := by decide +kernel
theorem d_M_balance_280 : decode b_M_balance 280 = .ok (.iload_n 2, 1) := by decide +kernel
theorem d_M_balance_281 : decode b_M_balance 281 = .ok (.iaload, 1) := by decide +kernel
theorem d_M_balance_282 : decode b_M_balance 282 = .ok (.i2l, 1) := by decide +kernel
theorem d_M_balance_283 : decode b_M_balance 283 = .ok (.lmul, 1) := by decide +kernel
theorem d_M_balance_284 : decode b_M_balance 284 = .ok (.aload_n 0, 1) := by decide +kernel
theorem d_M_balance_285 : decode b_M_balance 285 = .ok (.getfield 39, 3) := by decide +kernel
theorem d_M_balance_288 : decode b_M_balance 288 = .ok (.aload_n 0, 1) := by decide +kernel
theorem d_M_balance_289 : decode b_M_balance 289 = .ok (.getfield 23, 3) := by decide +kernel
theorem d_M_balance_292 : decode b_M_balance 292 = .ok (.iload_n 2, 1) := by decide +kernel
theorem d_M_balance_293 : decode b_M_balance 293 = .ok (.iaload, 1) := by decide +kernel
theorem d_M_balance_294 : decode b_M_balance 294 = .ok (.laload, 1) := by decide +kernel
theorem d_M_balance_295 : decode b_M_balance 295 = .ok (.lmul, 1) := by decide +kernel
theorem d_M_balance_296 : decode b_M_balance 296 = .ok (.aload_n 0, 1) := by decide +kernel
theorem d_M_balance_297 : decode b_M_balance 297 = .ok (.getfield 35, 3) := by decide +kernel
theorem d_M_balance_300 : decode b_M_balance 300 = .ok (.aload_n 0, 1) := by decide +kernel
theorem d_M_balance_301 : decode b_M_balance 301 = .ok (.getfield 23, 3) := by decide +kernel
theorem d_M_balance_304 : decode b_M_balance 304 = .ok (.iload_n 2, 1) := by decide +kernel
theorem d_M_balance_305 : decode b_M_balance 305 = .ok (.iaload, 1) := by decide +kernel
theorem d_M_balance_306 : decode b_M_balance 306 = .ok (.laload, 1) := by decide +kernel
theorem d_M_balance_307 : decode b_M_balance 307 = .ok (.aload_n 0, 1) := by decide +kernel
theorem d_M_balance_308 : decode b_M_balance 308 = .ok (.getfield 29, 3) := by decide +kernel
theorem d_M_balance_311 : decode b_M_balance 311 = .ok (.iload_n 2, 1) := by decide +kernel
theorem d_M_balance_312 : decode b_M_balance 312 = .ok (.iaload, 1) := by decide +kernel
theorem d_M_balance_313 : decode b_M_balance 313 = .ok (.i2l, 1) := by decide +kernel
theorem d_M_balance_314 : decode b_M_balance 314 = .ok (.lmul, 1) := by decide +kernel
theorem d_M_balance_315 : decode b_M_balance 315 = .ok (.aload_n 0, 1) := by decide +kernel
theorem d_M_balance_316 : decode b_M_balance 316 = .ok (.getfield 39, 3) := by decide +kernel
theorem d_M_balance_319 : decode b_M_balance 319 = .ok (.aload_n 0, 1) := by decide +kernel
theorem d_M_balance_320 : decode b_M_balance 320 = .ok (.getfield 20, 3) := by decide +kernel
theorem d_M_balance_323 : decode b_M_balance 323 = .ok (.iload_n 2, 1) := by decide +kernel
theorem d_M_balance_324 : decode b_M_balance 324 = .ok (.iaload, 1) := by decide +kernel
theorem d_M_balance_325 : decode b_M_balance 325 = .ok (.laload, 1) := by decide +kernel
theorem d_M_balance_326 : decode b_M_balance 326 = .ok (.lmul, 1) := by decide +kernel
theorem d_M_balance_327 : decode b_M_balance 327 = .ok (.lcmp, 1) := by decide +kernel
theorem d_M_balance_328 : decode b_M_balance 328 = .ok (.ifCond .eq 5, 3) := by decide +kernel
theorem d_M_balance_331 : decode b_M_balance 331 = .ok (.iconst 0, 1) := by decide +kernel
theorem d_M_balance_332 : decode b_M_balance 332 = .ok (.ireturn, 1) := by decide +kernel
theorem d_M_balance_333 : decode b_M_balance 333 = .ok (.iinc 2 1, 3) := by decide +kernel
theorem d_M_balance_336 : decode b_M_balance 336 = .ok (.goto (-76), 3) := by decide +kernel
theorem d_M_balance_339 : decode b_M_balance 339 = .ok (.iconst 1, 1) := by decide +kernel
theorem d_M_balance_340 : decode b_M_balance 340 = .ok (.ireturn, 1) := by decide +kernel
theorem d_M_whole_0 : decode b_M_whole 0 = .ok (.iconst 0, 1) := by decide +kernel
theorem d_M_whole_1 : decode b_M_whole 1 = .ok (.istore_n 3, 1) := by decide +kernel
theorem d_M_whole_2 : decode b_M_whole 2 = .ok (.iload_n 3, 1) := by decide +kernel
theorem d_M_whole_3 : decode b_M_whole 3 = .ok (.bipush 8, 2) := by decide +kernel
theorem d_M_whole_5 : decode b_M_whole 5 = .ok (.if_icmp .ge 87, 3) := by decide +kernel
theorem d_M_whole_8 : decode b_M_whole 8 = .ok (.aload_n 0, 1) := by decide +kernel
theorem d_M_whole_9 : decode b_M_whole 9 = .ok (.getfield 42, 3) := by decide +kernel
theorem d_M_whole_12 : decode b_M_whole 12 = .ok (.iload_n 3, 1) := by decide +kernel
theorem d_M_whole_13 : decode b_M_whole 13 = .ok (.iaload, 1) := by decide +kernel
theorem d_M_whole_14 : decode b_M_whole 14 = .ok (.iload_n 1, 1) := by decide +kernel
theorem d_M_whole_15 : decode b_M_whole 15 = .ok (.if_icmp .eq 6, 3) := by decide +kernel
theorem d_M_whole_18 : decode b_M_whole 18 = .ok (.goto 68, 3) := by decide +kernel
theorem d_M_whole_21 : decode b_M_whole 21 = .ok (.iload_n 2, 1) := by decide +kernel
theorem d_M_whole_22 : decode b_M_whole 22 = .ok (.i2l, 1) := by decide +kernel
theorem d_M_whole_23 : decode b_M_whole 23 = .ok (.aload_n 0, 1) := by decide +kernel
theorem d_M_whole_24 : decode b_M_whole 24 = .ok (.getfield 35, 3) := by decide +kernel
theorem d_M_whole_27 : decode b_M_whole 27 = .ok (.iload_n 3, 1) := by decide +kernel
theorem d_M_whole_28 : decode b_M_whole 28 = .ok (.laload, 1) := by decide +kernel
theorem d_M_whole_29 : decode b_M_whole 29 = .ok (.lmul, 1) := by decide +kernel
theorem d_M_whole_30 : decode b_M_whole 30 = .ok (.aload_n 0, 1) := by decide +kernel
theorem d_M_whole_31 : decode b_M_whole 31 = .ok (.getfield 39, 3) := by decide +kernel
theorem d_M_whole_34 : decode b_M_whole 34 = .ok (.iload_n 3, 1) := by decide +kernel
theorem d_M_whole_35 : decode b_M_whole 35 = .ok (.laload, 1) := by decide +kernel
theorem d_M_whole_36 : decode b_M_whole 36 = .ok (.lrem, 1) := by decide +kernel
theorem d_M_whole_37 : decode b_M_whole 37 = .ok (.lconst 0, 1) := by decide +kernel
theorem d_M_whole_38 : decode b_M_whole 38 = .ok (.lcmp, 1) := by decide +kernel
theorem d_M_whole_39 : decode b_M_whole 39 = .ok (.ifCond .eq 5, 3) := by decide +kernel
theorem d_M_whole_42 : decode b_M_whole 42 = .ok (.iconst 0, 1) := by decide +kernel
theorem d_M_whole_43 : decode b_M_whole 43 = .ok (.ireturn, 1) := by decide +kernel
theorem d_M_whole_44 : decode b_M_whole 44 = .ok (.iload_n 2, 1) := by decide +kernel
theorem d_M_whole_45 : decode b_M_whole 45 = .ok (.i2l, 1) := by decide +kernel
theorem d_M_whole_46 : decode b_M_whole 46 = .ok (.aload_n 0, 1) := by decide +kernel
theorem d_M_whole_47 : decode b_M_whole 47 = .ok (.getfield 35, 3) := by decide +kernel
theorem d_M_whole_50 : decode b_M_whole 50 = .ok (.iload_n 3, 1) := by decide +kernel
theorem d_M_whole_51 : decode b_M_whole 51 = .ok (.laload, 1) := by decide +kernel
theorem d_M_whole_52 : decode b_M_whole 52 = .ok (.lmul, 1) := by decide +kernel
theorem d_M_whole_53 : decode b_M_whole 53 = .ok (.aload_n 0, 1) := by decide +kernel
theorem d_M_whole_54 : decode b_M_whole 54 = .ok (.getfield 39, 3) := by decide +kernel
theorem d_M_whole_57 : decode b_M_whole 57 = .ok (.iload_n 3, 1) := by decide +kernel
theorem d_M_whole_58 : decode b_M_whole 58 = .ok (.laload, 1) := by decide +kernel
theorem d_M_whole_59 : decode b_M_whole 59 = .ok (.ldiv, 1) := by decide +kernel
theorem d_M_whole_60 : decode b_M_whole 60 = .ok (.lstore 4, 2) := by decide +kernel
theorem d_M_whole_62 : decode b_M_whole 62 = .ok (.aload_n 0, 1) := by decide +kernel
theorem d_M_whole_63 : decode b_M_whole 63 = .ok (.getfield 45, 3) := by decide +kernel
theorem d_M_whole_66 : decode b_M_whole 66 = .ok (.iload_n 3, 1) := by decide +kernel
theorem d_M_whole_67 : decode b_M_whole 67 = .ok (.lload 4, 2) := by decide +kernel
theorem d_M_whole_69 : decode b_M_whole 69 = .ok (.ldc2_w 95, 3) := by decide +kernel
theorem d_M_whole_72 : decode b_M_whole 72 = .ok (.lcmp, 1) := by decide +kernel
theorem d_M_whole_73 : decode b_M_whole 73 = .ok (.ifCond .le 9, 3) := by decide +kernel
theorem d_M_whole_76 : decode b_M_whole 76 = .ok (.sipush 1000, 3) := by decide +kernel
theorem d_M_whole_79 : decode b_M_whole 79 = .ok (.goto 6, 3) := by decide +kernel
theorem d_M_whole_82 : decode b_M_whole 82 = .ok (.lload 4, 2) := by decide +kernel
theorem d_M_whole_84 : decode b_M_whole 84 = .ok (.l2i, 1) := by decide +kernel
theorem d_M_whole_85 : decode b_M_whole 85 = .ok (.iastore, 1) := by decide +kernel
theorem d_M_whole_86 : decode b_M_whole 86 = .ok (.iinc 3 1, 3) := by decide +kernel
theorem d_M_whole_89 : decode b_M_whole 89 = .ok (.goto (-87), 3) := by decide +kernel
theorem d_M_whole_92 : decode b_M_whole 92 = .ok (.iconst 1, 1) := by decide +kernel
theorem d_M_whole_93 : decode b_M_whole 93 = .ok (.ireturn, 1) := by decide +kernel
theorem d_M_repeat_0 : decode b_M_repeat 0 = .ok (.iconst 0, 1) := by decide +kernel
theorem d_M_repeat_1 : decode b_M_repeat 1 = .ok (.istore_n 1, 1) := by decide +kernel
theorem d_M_repeat_2 : decode b_M_repeat 2 = .ok (.iconst 0, 1) := by decide +kernel
theorem d_M_repeat_3 : decode b_M_repeat 3 = .ok (.istore_n 2, 1) := by decide +kernel
theorem d_M_repeat_4 : decode b_M_repeat 4 = .ok (.iload_n 2, 1) := by decide +kernel
theorem d_M_repeat_5 : decode b_M_repeat 5 = .ok (.bipush 8, 2) := by decide +kernel
theorem d_M_repeat_7 : decode b_M_repeat 7 = .ok (.if_icmp .ge 54, 3) := by decide +kernel
theorem d_M_repeat_10 : decode b_M_repeat 10 = .ok (.aload_n 0, 1) := by decide +kernel
theorem d_M_repeat_11 : decode b_M_repeat 11 = .ok (.getfield 42, 3) := by decide +kernel
theorem d_M_repeat_14 : decode b_M_repeat 14 = .ok (.iload_n 2, 1) := by decide +kernel
theorem d_M_repeat_15 : decode b_M_repeat 15 = .ok (.iaload, 1) := by decide +kernel
theorem d_M_repeat_16 : decode b_M_repeat 16 = .ok (.iload_n 2, 1) := by decide +kernel
theorem d_M_repeat_17 : decode b_M_repeat 17 = .ok (.if_icmp .eq 6, 3) := by decide +kernel
theorem d_M_repeat_20 : decode b_M_repeat 20 = .ok (.goto 35, 3) := by decide +kernel
theorem d_M_repeat_23 : decode b_M_repeat 23 = .ok (.iconst 1, 1) := by decide +kernel
theorem d_M_repeat_24 : decode b_M_repeat 24 = .ok (.istore_n 3, 1) := by decide +kernel
theorem d_M_repeat_25 : decode b_M_repeat 25 = .ok (.iload_n 3, 1) := by decide +kernel
theorem d_M_repeat_26 : decode b_M_repeat 26 = .ok (.bipush 65, 2) := by decide +kernel
theorem d_M_repeat_28 : decode b_M_repeat 28 = .ok (.if_icmp .ge 18, 3) := by decide +kernel
theorem d_M_repeat_31 : decode b_M_repeat 31 = .ok (.aload_n 0, 1) := by decide +kernel
theorem d_M_repeat_32 : decode b_M_repeat 32 = .ok (.iload_n 2, 1) := by decide +kernel
theorem d_M_repeat_33 : decode b_M_repeat 33 = .ok (.iload_n 3, 1) := by decide +kernel
theorem d_M_repeat_34 : decode b_M_repeat 34 = .ok (.invokevirtual 97, 3) := by decide +kernel
theorem d_M_repeat_37 : decode b_M_repeat 37 = .ok (.ifCond .ne 9, 3) := by decide +kernel
theorem d_M_repeat_40 : decode b_M_repeat 40 = .ok (.iinc 3 1, 3) := by decide +kernel
theorem d_M_repeat_43 : decode b_M_repeat 43 = .ok (.goto (-18), 3) := by decide +kernel
theorem d_M_repeat_46 : decode b_M_repeat 46 = .ok (.iload_n 3, 1) := by decide +kernel
theorem d_M_repeat_47 : decode b_M_repeat 47 = .ok (.bipush 65, 2) := by decide +kernel
theorem d_M_repeat_49 : decode b_M_repeat 49 = .ok (.if_icmp .ne 6, 3) := by decide +kernel
theorem d_M_repeat_52 : decode b_M_repeat 52 = .ok (.bipush 65, 2) := by decide +kernel
theorem d_M_repeat_54 : decode b_M_repeat 54 = .ok (.ireturn, 1) := by decide +kernel
theorem d_M_repeat_55 : decode b_M_repeat 55 = .ok (.iinc 2 1, 3) := by decide +kernel
theorem d_M_repeat_58 : decode b_M_repeat 58 = .ok (.goto (-54), 3) := by decide +kernel
theorem d_M_repeat_61 : decode b_M_repeat 61 = .ok (.iconst 0, 1) := by decide +kernel
theorem d_M_repeat_62 : decode b_M_repeat 62 = .ok (.istore_n 2, 1) := by decide +kernel
theorem d_M_repeat_63 : decode b_M_repeat 63 = .ok (.iload_n 2, 1) := by decide +kernel
theorem d_M_repeat_64 : decode b_M_repeat 64 = .ok (.bipush 8, 2) := by decide +kernel
theorem d_M_repeat_66 : decode b_M_repeat 66 = .ok (.if_icmp .ge 27, 3) := by decide +kernel
theorem d_M_repeat_69 : decode b_M_repeat 69 = .ok (.aload_n 0, 1) := by decide +kernel
theorem d_M_repeat_70 : decode b_M_repeat 70 = .ok (.getfield 7, 3) := by decide +kernel
theorem d_M_repeat_73 : decode b_M_repeat 73 = .ok (.iload_n 2, 1) := by decide +kernel
theorem d_M_repeat_74 : decode b_M_repeat 74 = .ok (.baload, 1) := by decide +kernel
theorem d_M_repeat_75 : decode b_M_repeat 75 = .ok (.ifCond .eq 12, 3) := by decide +kernel
theorem d_M_repeat_78 : decode b_M_repeat 78 = .ok (.iload_n 1, 1) := by decide +kernel
theorem d_M_repeat_79 : decode b_M_repeat 79 = .ok (.aload_n 0, 1) := by decide +kernel
theorem d_M_repeat_80 : decode b_M_repeat 80 = .ok (.getfield 45, 3) := by decide +kernel
theorem d_M_repeat_83 : decode b_M_repeat 83 = .ok (.iload_n 2, 1) := by decide +kernel
theorem d_M_repeat_84 : decode b_M_repeat 84 = .ok (.iaload, 1) := by decide +kernel
theorem d_M_repeat_85 : decode b_M_repeat 85 = .ok (.iadd, 1) := by decide +kernel
theorem d_M_repeat_86 : decode b_M_repeat 86 = .ok (.istore_n 1, 1) := by decide +kernel
theorem d_M_repeat_87 : decode b_M_repeat 87 = .ok (.iinc 2 1, 3) := by decide +kernel
theorem d_M_repeat_90 : decode b_M_repeat 90 = .ok (.goto (-27), 3) := by decide +kernel
theorem d_M_repeat_93 : decode b_M_repeat 93 = .ok (.iload_n 1, 1) := by decide +kernel
theorem d_M_repeat_94 : decode b_M_repeat 94 = .ok (.ireturn, 1) := by decide +kernel
theorem d_M_ready_0 : decode b_M_ready 0 = .ok (.aload_n 0, 1) := by decide +kernel
theorem d_M_ready_1 : decode b_M_ready 1 = .ok (.getfield 7, 3) := by decide +kernel
theorem d_M_ready_4 : decode b_M_ready 4 = .ok (.iload_n 1, 1) := by decide +kernel
theorem d_M_ready_5 : decode b_M_ready 5 = .ok (.baload, 1) := by decide +kernel
theorem d_M_ready_6 : decode b_M_ready 6 = .ok (.ifCond .eq 18, 3) := by decide +kernel
theorem d_M_ready_9 : decode b_M_ready 9 = .ok (.aload_n 0, 1) := by decide +kernel
theorem d_M_ready_10 : decode b_M_ready 10 = .ok (.getfield 48, 3) := by decide +kernel
theorem d_M_ready_13 : decode b_M_ready 13 = .ok (.iload_n 1, 1) := by decide +kernel
theorem d_M_ready_14 : decode b_M_ready 14 = .ok (.iaload, 1) := by decide +kernel
theorem d_M_ready_15 : decode b_M_ready 15 = .ok (.aload_n 0, 1) := by decide +kernel
theorem d_M_ready_16 : decode b_M_ready 16 = .ok (.getfield 45, 3) := by decide +kernel
theorem d_M_ready_19 : decode b_M_ready 19 = .ok (.iload_n 1, 1) := by decide +kernel
theorem d_M_ready_20 : decode b_M_ready 20 = .ok (.iaload, 1) := by decide +kernel
theorem d_M_ready_21 : decode b_M_ready 21 = .ok (.if_icmp .lt 5, 3) := by decide +kernel
theorem d_M_ready_24 : decode b_M_ready 24 = .ok (.iconst 0, 1) := by decide +kernel
theorem d_M_ready_25 : decode b_M_ready 25 = .ok (.ireturn, 1) := by decide +kernel
theorem d_M_ready_26 : decode b_M_ready 26 = .ok (.iconst 0, 1) := by decide +kernel
theorem d_M_ready_27 : decode b_M_ready 27 = .ok (.istore_n 2, 1) := by decide +kernel
theorem d_M_ready_28 : decode b_M_ready 28 = .ok (.iload_n 2, 1) := by decide +kernel
theorem d_M_ready_29 : decode b_M_ready 29 = .ok (.aload_n 0, 1) := by decide +kernel
theorem d_M_ready_30 : decode b_M_ready 30 = .ok (.getfield 83, 3) := by decide +kernel
theorem d_M_ready_33 : decode b_M_ready 33 = .ok (.if_icmp .ge 36, 3) := by decide +kernel
theorem d_M_ready_36 : decode b_M_ready 36 = .ok (.aload_n 0, 1) := by decide +kernel
theorem d_M_ready_37 : decode b_M_ready 37 = .ok (.getfield 23, 3) := by decide +kernel
theorem d_M_ready_40 : decode b_M_ready 40 = .ok (.iload_n 2, 1) := by decide +kernel
theorem d_M_ready_41 : decode b_M_ready 41 = .ok (.iaload, 1) := by decide +kernel
theorem d_M_ready_42 : decode b_M_ready 42 = .ok (.iload_n 1, 1) := by decide +kernel
theorem d_M_ready_43 : decode b_M_ready 43 = .ok (.if_icmp .ne 20, 3) := by decide +kernel
theorem d_M_ready_46 : decode b_M_ready 46 = .ok (.aload_n 0, 1) := by decide +kernel
theorem d_M_ready_47 : decode b_M_ready 47 = .ok (.getfield 57, 3) := by decide +kernel
theorem d_M_ready_50 : decode b_M_ready 50 = .ok (.iload_n 2, 1) := by decide +kernel
theorem d_M_ready_51 : decode b_M_ready 51 = .ok (.iaload, 1) := by decide +kernel
theorem d_M_ready_52 : decode b_M_ready 52 = .ok (.aload_n 0, 1) := by decide +kernel
theorem d_M_ready_53 : decode b_M_ready 53 = .ok (.getfield 29, 3) := by decide +kernel
theorem d_M_ready_56 : decode b_M_ready 56 = .ok (.iload_n 2, 1) := by decide +kernel
theorem d_M_ready_57 : decode b_M_ready 57 = .ok (.iaload, 1) := by decide +kernel
theorem d_M_ready_58 : decode b_M_ready 58 = .ok (.if_icmp .ge 5, 3) := by decide +kernel
theorem d_M_ready_61 : decode b_M_ready 61 = .ok (.iconst 0, 1) := by decide +kernel
theorem d_M_ready_62 : decode b_M_ready 62 = .ok (.ireturn, 1) := by decide +kernel
theorem d_M_ready_63 : decode b_M_ready 63 = .ok (.iinc 2 1, 3) := by decide +kernel
theorem d_M_ready_66 : decode b_M_ready 66 = .ok (.goto (-38), 3) := by decide +kernel
theorem d_M_ready_69 : decode b_M_ready 69 = .ok (.iconst 1, 1) := by decide +kernel
theorem d_M_ready_70 : decode b_M_ready 70 = .ok (.ireturn, 1) := by decide +kernel
theorem d_M_growth_0 : decode b_M_growth 0 = .ok (.iconst 0, 1) := by decide +kernel
theorem d_M_growth_1 : decode b_M_growth 1 = .ok (.istore_n 2, 1) := by decide +kernel
theorem d_M_growth_2 : decode b_M_growth 2 = .ok (.iconst 0, 1) := by decide +kernel
theorem d_M_growth_3 : decode b_M_growth 3 = .ok (.istore_n 3, 1) := by decide +kernel
theorem d_M_growth_4 : decode b_M_growth 4 = .ok (.iload_n 3, 1) := by decide +kernel
theorem d_M_growth_5 : decode b_M_growth 5 = .ok (.aload_n 0, 1) := by decide +kernel
theorem d_M_growth_6 : decode b_M_growth 6 = .ok (.getfield 83, 3) := by decide +kernel
theorem d_M_growth_9 : decode b_M_growth 9 = .ok (.if_icmp .ge 47, 3) := by decide +kernel
theorem d_M_growth_12 : decode b_M_growth 12 = .ok (.aload_n 0, 1) := by decide +kernel
theorem d_M_growth_13 : decode b_M_growth 13 = .ok (.getfield 20, 3) := by decide +kernel
theorem d_M_growth_16 : decode b_M_growth 16 = .ok (.iload_n 3, 1) := by decide +kernel
theorem d_M_growth_17 : decode b_M_growth 17 = .ok (.iaload, 1) := by decide +kernel
theorem d_M_growth_18 : decode b_M_growth 18 = .ok (.iload_n 1, 1) := by decide +kernel
theorem d_M_growth_19 : decode b_M_growth 19 = .ok (.if_icmp .ne 12, 3) := by decide +kernel
theorem d_M_growth_22 : decode b_M_growth 22 = .ok (.iload_n 2, 1) := by decide +kernel
theorem d_M_growth_23 : decode b_M_growth 23 = .ok (.aload_n 0, 1) := by decide +kernel
theorem d_M_growth_24 : decode b_M_growth 24 = .ok (.getfield 26, 3) := by decide +kernel
theorem d_M_growth_27 : decode b_M_growth 27 = .ok (.iload_n 3, 1) := by decide +kernel
theorem d_M_growth_28 : decode b_M_growth 28 = .ok (.iaload, 1) := by decide +kernel
theorem d_M_growth_29 : decode b_M_growth 29 = .ok (.iadd, 1) := by decide +kernel
theorem d_M_growth_30 : decode b_M_growth 30 = .ok (.istore_n 2, 1) := by decide +kernel
theorem d_M_growth_31 : decode b_M_growth 31 = .ok (.aload_n 0, 1) := by decide +kernel
theorem d_M_growth_32 : decode b_M_growth 32 = .ok (.getfield 23, 3) := by decide +kernel
theorem d_M_growth_35 : decode b_M_growth 35 = .ok (.iload_n 3, 1) := by decide +kernel
theorem d_M_growth_36 : decode b_M_growth 36 = .ok (.iaload, 1) := by decide +kernel
theorem d_M_growth_37 : decode b_M_growth 37 = .ok (.iload_n 1, 1) := by decide +kernel
theorem d_M_growth_38 : decode b_M_growth 38 = .ok (.if_icmp .ne 12, 3) := by decide +kernel
theorem d_M_growth_41 : decode b_M_growth 41 = .ok (.iload_n 2, 1) := by decide +kernel
theorem d_M_growth_42 : decode b_M_growth 42 = .ok (.aload_n 0, 1) := by decide +kernel
theorem d_M_growth_43 : decode b_M_growth 43 = .ok (.getfield 29, 3) := by decide +kernel
theorem d_M_growth_46 : decode b_M_growth 46 = .ok (.iload_n 3, 1) := by decide +kernel
theorem d_M_growth_47 : decode b_M_growth 47 = .ok (.iaload, 1) := by decide +kernel
theorem d_M_growth_48 : decode b_M_growth 48 = .ok (.isub, 1) := by decide +kernel
theorem d_M_growth_49 : decode b_M_growth 49 = .ok (.istore_n 2, 1) := by decide +kernel
theorem d_M_growth_50 : decode b_M_growth 50 = .ok (.iinc 3 1, 3) := by decide +kernel
theorem d_M_growth_53 : decode b_M_growth 53 = .ok (.goto (-49), 3) := by decide +kernel
theorem d_M_growth_56 : decode b_M_growth 56 = .ok (.iload_n 2, 1) := by decide +kernel
theorem d_M_growth_57 : decode b_M_growth 57 = .ok (.ireturn, 1) := by decide +kernel
theorem d_M_pick_0 : decode b_M_pick 0 = .ok (.iload_n 1, 1) := by decide +kernel
theorem d_M_pick_1 : decode b_M_pick 1 = .ok (.iconst 2, 1) := by decide +kernel
theorem d_M_pick_2 : decode b_M_pick 2 = .ok (.if_icmp .ne 17, 3) := by decide +kernel
theorem d_M_pick_5 : decode b_M_pick 5 = .ok (.iload_n 2, 1) := by decide +kernel
theorem d_M_pick_6 : decode b_M_pick 6 = .ok (.ifCond .lt 13, 3) := by decide +kernel
theorem d_M_pick_9 : decode b_M_pick 9 = .ok (.aload_n 0, 1) := by decide +kernel
theorem d_M_pick_10 : decode b_M_pick 10 = .ok (.iload_n 2, 1) := by decide +kernel
theorem d_M_pick_11 : decode b_M_pick 11 = .ok (.invokevirtual 101, 3) := by decide +kernel
theorem d_M_pick_14 : decode b_M_pick 14 = .ok (.ifCond .eq 5, 3) := by decide +kernel
theorem d_M_pick_17 : decode b_M_pick 17 = .ok (.iload_n 2, 1) := by decide +kernel
theorem d_M_pick_18 : decode b_M_pick 18 = .ok (.ireturn, 1) := by decide +kernel
theorem d_M_pick_19 : decode b_M_pick 19 = .ok (.iconst (-1), 1) := by decide +kernel
theorem d_M_pick_20 : decode b_M_pick 20 = .ok (.istore_n 3, 1) := by decide +kernel
theorem d_M_pick_21 : decode b_M_pick 21 = .ok (.iconst 0, 1) := by decide +kernel
theorem d_M_pick_22 : decode b_M_pick 22 = .ok (.istore 4, 2) := by decide +kernel
theorem d_M_pick_24 : decode b_M_pick 24 = .ok (.iload 4, 2) := by decide +kernel
theorem d_M_pick_26 : decode b_M_pick 26 = .ok (.bipush 8, 2) := by decide +kernel
theorem d_M_pick_28 : decode b_M_pick 28 = .ok (.if_icmp .ge 68, 3) := by decide +kernel
theorem d_M_pick_31 : decode b_M_pick 31 = .ok (.iload_n 1, 1) := by decide +kernel
theorem d_M_pick_32 : decode b_M_pick 32 = .ok (.iconst 2, 1) := by decide +kernel
theorem d_M_pick_33 : decode b_M_pick 33 = .ok (.if_icmp .ne 15, 3) := by decide +kernel
theorem d_M_pick_36 : decode b_M_pick 36 = .ok (.iload 4, 2) := by decide +kernel
theorem d_M_pick_38 : decode b_M_pick 38 = .ok (.iload_n 2, 1) := by decide +kernel
theorem d_M_pick_39 : decode b_M_pick 39 = .ok (.iadd, 1) := by decide +kernel
theorem d_M_pick_40 : decode b_M_pick 40 = .ok (.iconst 1, 1) := by decide +kernel
theorem d_M_pick_41 : decode b_M_pick 41 = .ok (.iadd, 1) := by decide +kernel
theorem d_M_pick_42 : decode b_M_pick 42 = .ok (.bipush 8, 2) := by decide +kernel
theorem d_M_pick_44 : decode b_M_pick 44 = .ok (.irem, 1) := by decide +kernel
theorem d_M_pick_45 : decode b_M_pick 45 = .ok (.goto 5, 3) := by decide +kernel
theorem d_M_pick_48 : decode b_M_pick 48 = .ok (.iload 4, 2) := by decide +kernel
theorem d_M_pick_50 : decode b_M_pick 50 = .ok (.istore 5, 2) := by decide +kernel
theorem d_M_pick_52 : decode b_M_pick 52 = .ok (.aload_n 0, 1) := by decide +kernel
theorem d_M_pick_53 : decode b_M_pick 53 = .ok (.iload 5, 2) := by decide +kernel
theorem d_M_pick_55 : decode b_M_pick 55 = .ok (.invokevirtual 101, 3) := by decide +kernel
theorem d_M_pick_58 : decode b_M_pick 58 = .ok (.ifCond .ne 6, 3) := by decide +kernel
theorem d_M_pick_61 : decode b_M_pick 61 = .ok (.goto 29, 3) := by decide +kernel
theorem d_M_pick_64 : decode b_M_pick 64 = .ok (.iload_n 3, 1) := by decide +kernel
theorem d_M_pick_65 : decode b_M_pick 65 = .ok (.ifCond .lt 22, 3) := by decide +kernel
theorem d_M_pick_68 : decode b_M_pick 68 = .ok (.iload_n 1, 1) := by decide +kernel
theorem d_M_pick_69 : decode b_M_pick 69 = .ok (.iconst 1, 1) := by decide +kernel
theorem d_M_pick_70 : decode b_M_pick 70 = .ok (.if_icmp .ne 20, 3) := by decide +kernel
theorem d_M_pick_73 : decode b_M_pick 73 = .ok (.aload_n 0, 1) := by decide +kernel
theorem d_M_pick_74 : decode b_M_pick 74 = .ok (.iload 5, 2) := by decide +kernel
theorem d_M_pick_76 : decode b_M_pick 76 = .ok (.invokevirtual 104, 3) := by decide +kernel
theorem d_M_pick_79 : decode b_M_pick 79 = .ok (.aload_n 0, 1) := by decide +kernel
theorem d_M_pick_80 : decode b_M_pick 80 = .ok (.iload_n 3, 1) := by decide +kernel
theorem d_M_pick_81 : decode b_M_pick 81 = .ok (.invokevirtual 104, 3) := by decide +kernel
theorem d_M_pick_84 : decode b_M_pick 84 = .ok (.if_icmp .ge 6, 3) := by decide +kernel
theorem d_M_pick_87 : decode b_M_pick 87 = .ok (.iload 5, 2) := by decide +kernel
theorem d_M_pick_89 : decode b_M_pick 89 = .ok (.istore_n 3, 1) := by decide +kernel
theorem d_M_pick_90 : decode b_M_pick 90 = .ok (.iinc 4 1, 3) := by decide +kernel
theorem d_M_pick_93 : decode b_M_pick 93 = .ok (.goto (-69), 3) := by decide +kernel
theorem d_M_pick_96 : decode b_M_pick 96 = .ok (.iload_n 3, 1) := by decide +kernel
theorem d_M_pick_97 : decode b_M_pick 97 = .ok (.ireturn, 1) := by decide +kernel
theorem d_M_step_0 : decode b_M_step 0 = .ok (.iconst 0, 1) := by decide +kernel
theorem d_M_step_1 : decode b_M_step 1 = .ok (.istore_n 2, 1) := by decide +kernel
theorem d_M_step_2 : decode b_M_step 2 = .ok (.iload_n 2, 1) := by decide +kernel
theorem d_M_step_3 : decode b_M_step 3 = .ok (.aload_n 0, 1) := by decide +kernel
theorem d_M_step_4 : decode b_M_step 4 = .ok (.getfield 83, 3) := by decide +kernel
theorem d_M_step_7 : decode b_M_step 7 = .ok (.if_icmp .ge 34, 3) := by decide +kernel
theorem d_M_step_10 : decode b_M_step 10 = .ok (.aload_n 0, 1) := by decide +kernel
theorem d_M_step_11 : decode b_M_step 11 = .ok (.getfield 23, 3) := by decide +kernel
theorem d_M_step_14 : decode b_M_step 14 = .ok (.iload_n 2, 1) := by decide +kernel
theorem d_M_step_15 : decode b_M_step 15 = .ok (.iaload, 1) := by decide +kernel
theorem d_M_step_16 : decode b_M_step 16 = .ok (.iload_n 1, 1) := by decide +kernel
theorem d_M_step_17 : decode b_M_step 17 = .ok (.if_icmp .ne 18, 3) := by decide +kernel
theorem d_M_step_20 : decode b_M_step 20 = .ok (.aload_n 0, 1) := by decide +kernel
theorem d_M_step_21 : decode b_M_step 21 = .ok (.getfield 57, 3) := by decide +kernel
theorem d_M_step_24 : decode b_M_step 24 = .ok (.iload_n 2, 1) := by decide +kernel
theorem d_M_step_25 : decode b_M_step 25 = .ok (.dup2, 1) := by decide +kernel
theorem d_M_step_26 : decode b_M_step 26 = .ok (.iaload, 1) := by decide +kernel
theorem d_M_step_27 : decode b_M_step 27 = .ok (.aload_n 0, 1) := by decide +kernel
theorem d_M_step_28 : decode b_M_step 28 = .ok (.getfield 29, 3) := by decide +kernel
theorem d_M_step_31 : decode b_M_step 31 = .ok (.iload_n 2, 1) := by decide +kernel
theorem d_M_step_32 : decode b_M_step 32 = .ok (.iaload, 1) := by decide +kernel
theorem d_M_step_33 : decode b_M_step 33 = .ok (.isub, 1) := by decide +kernel
theorem d_M_step_34 : decode b_M_step 34 = .ok (.iastore, 1) := by decide +kernel
theorem d_M_step_35 : decode b_M_step 35 = .ok (.iinc 2 1, 3) := by decide +kernel
theorem d_M_step_38 : decode b_M_step 38 = .ok (.goto (-36), 3) := by decide +kernel
theorem d_M_step_41 : decode b_M_step 41 = .ok (.iconst 0, 1) := by decide +kernel
theorem d_M_step_42 : decode b_M_step 42 = .ok (.istore_n 2, 1) := by decide +kernel
theorem d_M_step_43 : decode b_M_step 43 = .ok (.iload_n 2, 1) := by decide +kernel
theorem d_M_step_44 : decode b_M_step 44 = .ok (.aload_n 0, 1) := by decide +kernel
theorem d_M_step_45 : decode b_M_step 45 = .ok (.getfield 83, 3) := by decide +kernel
theorem d_M_step_48 : decode b_M_step 48 = .ok (.if_icmp .ge 34, 3) := by decide +kernel
theorem d_M_step_51 : decode b_M_step 51 = .ok (.aload_n 0, 1) := by decide +kernel
theorem d_M_step_52 : decode b_M_step 52 = .ok (.getfield 20, 3) := by decide +kernel
theorem d_M_step_55 : decode b_M_step 55 = .ok (.iload_n 2, 1) := by decide +kernel
theorem d_M_step_56 : decode b_M_step 56 = .ok (.iaload, 1) := by decide +kernel
theorem d_M_step_57 : decode b_M_step 57 = .ok (.iload_n 1, 1) := by decide +kernel
theorem d_M_step_58 : decode b_M_step 58 = .ok (.if_icmp .ne 18, 3) := by decide +kernel
theorem d_M_step_61 : decode b_M_step 61 = .ok (.aload_n 0, 1) := by decide +kernel
theorem d_M_step_62 : decode b_M_step 62 = .ok (.getfield 57, 3) := by decide +kernel
theorem d_M_step_65 : decode b_M_step 65 = .ok (.iload_n 2, 1) := by decide +kernel
theorem d_M_step_66 : decode b_M_step 66 = .ok (.dup2, 1) := by decide +kernel
theorem d_M_step_67 : decode b_M_step 67 = .ok (.iaload, 1) := by decide +kernel
theorem d_M_step_68 : decode b_M_step 68 = .ok (.aload_n 0, 1) := by decide +kernel
theorem d_M_step_69 : decode b_M_step 69 = .ok (.getfield 26, 3) := by decide +kernel
theorem d_M_step_72 : decode b_M_step 72 = .ok (.iload_n 2, 1) := by decide +kernel
theorem d_M_step_73 : decode b_M_step 73 = .ok (.iaload, 1) := by decide +kernel
theorem d_M_step_74 : decode b_M_step 74 = .ok (.iadd, 1) := by decide +kernel
theorem d_M_step_75 : decode b_M_step 75 = .ok (.iastore, 1) := by decide +kernel
theorem d_M_step_76 : decode b_M_step 76 = .ok (.iinc 2 1, 3) := by decide +kernel
theorem d_M_step_79 : decode b_M_step 79 = .ok (.goto (-36), 3) := by decide +kernel
theorem d_M_step_82 : decode b_M_step 82 = .ok (.iconst 0, 1) := by decide +kernel
theorem d_M_step_83 : decode b_M_step 83 = .ok (.istore_n 2, 1) := by decide +kernel
theorem d_M_step_84 : decode b_M_step 84 = .ok (.iload_n 2, 1) := by decide +kernel
theorem d_M_step_85 : decode b_M_step 85 = .ok (.aload_n 0, 1) := by decide +kernel
theorem d_M_step_86 : decode b_M_step 86 = .ok (.getfield 83, 3) := by decide +kernel
theorem d_M_step_89 : decode b_M_step 89 = .ok (.if_icmp .ge 36, 3) := by decide +kernel
theorem d_M_step_92 : decode b_M_step 92 = .ok (.aload_n 0, 1) := by decide +kernel
theorem d_M_step_93 : decode b_M_step 93 = .ok (.getfield 57, 3) := by decide +kernel
theorem d_M_step_96 : decode b_M_step 96 = .ok (.iload_n 2, 1) := by decide +kernel
theorem d_M_step_97 : decode b_M_step 97 = .ok (.iaload, 1) := by decide +kernel
theorem d_M_step_98 : decode b_M_step 98 = .ok (.aload_n 0, 1) := by decide +kernel
theorem d_M_step_99 : decode b_M_step 99 = .ok (.getfield 54, 3) := by decide +kernel
theorem d_M_step_102 : decode b_M_step 102 = .ok (.iload_n 2, 1) := by decide +kernel
theorem d_M_step_103 : decode b_M_step 103 = .ok (.iaload, 1) := by decide +kernel
theorem d_M_step_104 : decode b_M_step 104 = .ok (.if_icmp .le 15, 3) := by decide +kernel
theorem d_M_step_107 : decode b_M_step 107 = .ok (.aload_n 0, 1) := by decide +kernel
theorem d_M_step_108 : decode b_M_step 108 = .ok (.getfield 54, 3) := by decide +kernel
theorem d_M_step_111 : decode b_M_step 111 = .ok (.iload_n 2, 1) := by decide +kernel
theorem d_M_step_112 : decode b_M_step 112 = .ok (.aload_n 0, 1) := by decide +kernel
theorem d_M_step_113 : decode b_M_step 113 = .ok (.getfield 57, 3) := by decide +kernel
theorem d_M_step_116 : decode b_M_step 116 = .ok (.iload_n 2, 1) := by decide +kernel
theorem d_M_step_117 : decode b_M_step 117 = .ok (.iaload, 1) := by decide +kernel
theorem d_M_step_118 : decode b_M_step 118 = .ok (.iastore, 1) := by decide +kernel
theorem d_M_step_119 : decode b_M_step 119 = .ok (.iinc 2 1, 3) := by decide +kernel
theorem d_M_step_122 : decode b_M_step 122 = .ok (.goto (-38), 3) := by decide +kernel
theorem d_M_step_125 : decode b_M_step 125 = .ok (.aload_n 0, 1) := by decide +kernel
theorem d_M_step_126 : decode b_M_step 126 = .ok (.getfield 48, 3) := by decide +kernel
theorem d_M_step_129 : decode b_M_step 129 = .ok (.iload_n 1, 1) := by decide +kernel
theorem d_M_step_130 : decode b_M_step 130 = .ok (.dup2, 1) := by decide +kernel
theorem d_M_step_131 : decode b_M_step 131 = .ok (.iaload, 1) := by decide +kernel
theorem d_M_step_132 : decode b_M_step 132 = .ok (.iconst 1, 1) := by decide +kernel
theorem d_M_step_133 : decode b_M_step 133 = .ok (.iadd, 1) := by decide +kernel
theorem d_M_step_134 : decode b_M_step 134 = .ok (.iastore, 1) := by decide +kernel
theorem d_M_step_135 : decode b_M_step 135 = .ok (.aload_n 0, 1) := by decide +kernel
theorem d_M_step_136 : decode b_M_step 136 = .ok (.getfield 51, 3) := by decide +kernel
theorem d_M_step_139 : decode b_M_step 139 = .ok (.aload_n 0, 1) := by decide +kernel
theorem d_M_step_140 : decode b_M_step 140 = .ok (.getfield 108, 3) := by decide +kernel
theorem d_M_step_143 : decode b_M_step 143 = .ok (.iload_n 1, 1) := by decide +kernel
theorem d_M_step_144 : decode b_M_step 144 = .ok (.iastore, 1) := by decide +kernel
theorem d_M_step_145 : decode b_M_step 145 = .ok (.aload_n 0, 1) := by decide +kernel
theorem d_M_step_146 : decode b_M_step 146 = .ok (.dup, 1) := by decide +kernel
theorem d_M_step_147 : decode b_M_step 147 = .ok (.getfield 108, 3) := by decide +kernel
theorem d_M_step_150 : decode b_M_step 150 = .ok (.iconst 1, 1) := by decide +kernel
theorem d_M_step_151 : decode b_M_step 151 = .ok (.iadd, 1) := by decide +kernel
theorem d_M_step_152 : decode b_M_step 152 = .ok (.putfield 108, 3) := by decide +kernel
theorem d_M_step_155 : decode b_M_step 155 = .ok (.return_, 1) := by decide +kernel
theorem d_M_solve_0 : decode b_M_solve 0 = .ok (.iload_n 1, 1) := by decide +kernel
theorem d_M_solve_1 : decode b_M_solve 1 = .ok (.ifCond .lt 8, 3) := by decide +kernel
theorem d_M_solve_4 : decode b_M_solve 4 = .ok (.iload_n 1, 1) := by decide +kernel
theorem d_M_solve_5 : decode b_M_solve 5 = .ok (.iconst 2, 1) := by decide +kernel
theorem d_M_solve_6 : decode b_M_solve 6 = .ok (.if_icmp .le 5, 3) := by decide +kernel
theorem d_M_solve_9 : decode b_M_solve 9 = .ok (.iconst (-1), 1) := by decide +kernel
theorem d_M_solve_10 : decode b_M_solve 10 = .ok (.ireturn, 1) := by decide +kernel
theorem d_M_solve_11 : decode b_M_solve 11 = .ok (.aload_n 0, 1) := by decide +kernel
theorem d_M_solve_12 : decode b_M_solve 12 = .ok (.iconst 0, 1) := by decide +kernel
theorem d_M_solve_13 : decode b_M_solve 13 = .ok (.putfield 75, 3) := by decide +kernel
theorem d_M_solve_16 : decode b_M_solve 16 = .ok (.iconst 0, 1) := by decide +kernel
theorem d_M_solve_17 : decode b_M_solve 17 = .ok (.istore_n 2, 1) := by decide +kernel
theorem d_M_solve_18 : decode b_M_solve 18 = .ok (.iconst 0, 1) := by decide +kernel
theorem d_M_solve_19 : decode b_M_solve 19 = .ok (.istore_n 3, 1) := by decide +kernel
theorem d_M_solve_20 : decode b_M_solve 20 = .ok (.iload_n 3, 1) := by decide +kernel
theorem d_M_solve_21 : decode b_M_solve 21 = .ok (.bipush 8, 2) := by decide +kernel
theorem d_M_solve_23 : decode b_M_solve 23 = .ok (.if_icmp .ge 21, 3) := by decide +kernel
theorem d_M_solve_26 : decode b_M_solve 26 = .ok (.aload_n 0, 1) := by decide +kernel
theorem d_M_solve_27 : decode b_M_solve 27 = .ok (.getfield 7, 3) := by decide +kernel
theorem d_M_solve_30 : decode b_M_solve 30 = .ok (.iload_n 3, 1) := by decide +kernel
theorem d_M_solve_31 : decode b_M_solve 31 = .ok (.baload, 1) := by decide +kernel
theorem d_M_solve_32 : decode b_M_solve 32 = .ok (.ifCond .eq 6, 3) := by decide +kernel
theorem d_M_solve_35 : decode b_M_solve 35 = .ok (.iinc 2 1, 3) := by decide +kernel
theorem d_M_solve_38 : decode b_M_solve 38 = .ok (.iinc 3 1, 3) := by decide +kernel
theorem d_M_solve_41 : decode b_M_solve 41 = .ok (.goto (-21), 3) := by decide +kernel
theorem d_M_solve_44 : decode b_M_solve 44 = .ok (.iload_n 2, 1) := by decide +kernel
theorem d_M_solve_45 : decode b_M_solve 45 = .ok (.ifCond .ne 6, 3) := by decide +kernel
theorem d_M_solve_48 : decode b_M_solve 48 = .ok (.bipush (-4), 2) := by decide +kernel
theorem d_M_solve_50 : decode b_M_solve 50 = .ok (.ireturn, 1) := by decide +kernel
theorem d_M_solve_51 : decode b_M_solve 51 = .ok (.iconst 1, 1) := by decide +kernel
theorem d_M_solve_52 : decode b_M_solve 52 = .ok (.istore_n 3, 1) := by decide +kernel
theorem d_M_solve_53 : decode b_M_solve 53 = .ok (.iload_n 3, 1) := by decide +kernel
theorem d_M_solve_54 : decode b_M_solve 54 = .ok (.aload_n 0, 1) := by decide +kernel
theorem d_M_solve_55 : decode b_M_solve 55 = .ok (.getfield 83, 3) := by decide +kernel
theorem d_M_solve_58 : decode b_M_solve 58 = .ok (.if_icmp .gt 24, 3) := by decide +kernel
theorem d_M_solve_61 : decode b_M_solve 61 = .ok (.aload_n 0, 1) := by decide +kernel
theorem d_M_solve_62 : decode b_M_solve 62 = .ok (.iload_n 3, 1) := by decide +kernel
theorem d_M_solve_63 : decode b_M_solve 63 = .ok (.invokevirtual 111, 3) := by decide +kernel
theorem d_M_solve_66 : decode b_M_solve 66 = .ok (.ifCond .ne 10, 3) := by decide +kernel
theorem d_M_solve_69 : decode b_M_solve 69 = .ok (.bipush (-100), 2) := by decide +kernel
theorem d_M_solve_71 : decode b_M_solve 71 = .ok (.iload_n 3, 1) := by decide +kernel
theorem d_M_solve_72 : decode b_M_solve 72 = .ok (.iconst 1, 1) := by decide +kernel
theorem d_M_solve_73 : decode b_M_solve 73 = .ok (.isub, 1) := by decide +kernel
theorem d_M_solve_74 : decode b_M_solve 74 = .ok (.isub, 1) := by decide +kernel
theorem d_M_solve_75 : decode b_M_solve 75 = .ok (.ireturn, 1) := by decide +kernel
theorem d_M_solve_76 : decode b_M_solve 76 = .ok (.iinc 3 1, 3) := by decide +kernel
theorem d_M_solve_79 : decode b_M_solve 79 = .ok (.goto (-26), 3) := by decide +kernel
theorem d_M_solve_82 : decode b_M_solve 82 = .ok (.aload_n 0, 1) := by decide +kernel
theorem d_M_solve_83 : decode b_M_solve 83 = .ok (.aload_n 0, 1) := by decide +kernel
theorem d_M_solve_84 : decode b_M_solve 84 = .ok (.getfield 83, 3) := by decide +kernel
theorem d_M_solve_87 : decode b_M_solve 87 = .ok (.invokevirtual 111, 3) := by decide +kernel
theorem d_M_solve_90 : decode b_M_solve 90 = .ok (.istore_n 3, 1) := by decide +kernel
theorem d_M_solve_91 : decode b_M_solve 91 = .ok (.aload_n 0, 1) := by decide +kernel
theorem d_M_solve_92 : decode b_M_solve 92 = .ok (.invokevirtual 114, 3) := by decide +kernel
theorem d_M_solve_95 : decode b_M_solve 95 = .ok (.istore 4, 2) := by decide +kernel
theorem d_M_solve_97 : decode b_M_solve 97 = .ok (.iload 4, 2) := by decide +kernel
theorem d_M_solve_99 : decode b_M_solve 99 = .ok (.bipush 64, 2) := by decide +kernel
theorem d_M_solve_101 : decode b_M_solve 101 = .ok (.if_icmp .le 6, 3) := by decide +kernel
theorem d_M_solve_104 : decode b_M_solve 104 = .ok (.bipush (-3), 2) := by decide +kernel
theorem d_M_solve_106 : decode b_M_solve 106 = .ok (.ireturn, 1) := by decide +kernel
theorem d_M_solve_107 : decode b_M_solve 107 = .ok (.iconst 0, 1) := by decide +kernel
theorem d_M_solve_108 : decode b_M_solve 108 = .ok (.istore 5, 2) := by decide +kernel
theorem d_M_solve_110 : decode b_M_solve 110 = .ok (.iload 5, 2) := by decide +kernel
theorem d_M_solve_112 : decode b_M_solve 112 = .ok (.bipush 8, 2) := by decide +kernel
theorem d_M_solve_114 : decode b_M_solve 114 = .ok (.if_icmp .ge 33, 3) := by decide +kernel
theorem d_M_solve_117 : decode b_M_solve 117 = .ok (.aload_n 0, 1) := by decide +kernel
theorem d_M_solve_118 : decode b_M_solve 118 = .ok (.getfield 48, 3) := by decide +kernel
theorem d_M_solve_121 : decode b_M_solve 121 = .ok (.iload 5, 2) := by decide +kernel
theorem d_M_solve_123 : decode b_M_solve 123 = .ok (.aload_n 0, 1) := by decide +kernel
theorem d_M_solve_124 : decode b_M_solve 124 = .ok (.getfield 66, 3) := by decide +kernel
theorem d_M_solve_127 : decode b_M_solve 127 = .ok (.iload 5, 2) := by decide +kernel
theorem d_M_solve_129 : decode b_M_solve 129 = .ok (.aload_n 0, 1) := by decide +kernel
theorem d_M_solve_130 : decode b_M_solve 130 = .ok (.getfield 69, 3) := by decide +kernel
theorem d_M_solve_133 : decode b_M_solve 133 = .ok (.iload 5, 2) := by decide +kernel
theorem d_M_solve_135 : decode b_M_solve 135 = .ok (.iconst 0, 1) := by decide +kernel
theorem d_M_solve_136 : decode b_M_solve 136 = .ok (.dup_x2, 1) := by decide +kernel
theorem d_M_solve_137 : decode b_M_solve 137 = .ok (.iastore, 1) := by decide +kernel
theorem d_M_solve_138 : decode b_M_solve 138 = .ok (.dup_x2, 1) := by decide +kernel
theorem d_M_solve_139 : decode b_M_solve 139 = .ok (.iastore, 1) := by decide +kernel
theorem d_M_solve_140 : decode b_M_solve 140 = .ok (.iastore, 1) := by decide +kernel
theorem d_M_solve_141 : decode b_M_solve 141 = .ok (.iinc 5 1, 3) := by decide +kernel
theorem d_M_solve_144 : decode b_M_solve 144 = .ok (.goto (-34), 3) := by decide +kernel
theorem d_M_solve_147 : decode b_M_solve 147 = .ok (.iconst 0, 1) := by decide +kernel
theorem d_M_solve_148 : decode b_M_solve 148 = .ok (.istore 5, 2) := by decide +kernel
theorem d_M_solve_150 : decode b_M_solve 150 = .ok (.iload 5, 2) := by decide +kernel
theorem d_M_solve_152 : decode b_M_solve 152 = .ok (.aload_n 0, 1) := by decide +kernel
theorem d_M_solve_153 : decode b_M_solve 153 = .ok (.getfield 83, 3) := by decide +kernel
theorem d_M_solve_156 : decode b_M_solve 156 = .ok (.if_icmp .ge 31, 3) := by decide +kernel
theorem d_M_solve_159 : decode b_M_solve 159 = .ok (.aload_n 0, 1) := by decide +kernel
theorem d_M_solve_160 : decode b_M_solve 160 = .ok (.getfield 57, 3) := by decide +kernel
theorem d_M_solve_163 : decode b_M_solve 163 = .ok (.iload 5, 2) := by decide +kernel
theorem d_M_solve_165 : decode b_M_solve 165 = .ok (.aload_n 0, 1) := by decide +kernel
theorem d_M_solve_166 : decode b_M_solve 166 = .ok (.getfield 54, 3) := by decide +kernel
theorem d_M_solve_169 : decode b_M_solve 169 = .ok (.iload 5, 2) := by decide +kernel
theorem d_M_solve_171 : decode b_M_solve 171 = .ok (.aload_n 0, 1) := by decide +kernel
theorem d_M_solve_172 : decode b_M_solve 172 = .ok (.getfield 32, 3) := by decide +kernel
theorem d_M_solve_175 : decode b_M_solve 175 = .ok (.iload 5, 2) := by decide +kernel
theorem d_M_solve_177 : decode b_M_solve 177 = .ok (.iaload, 1) := by decide +kernel
theorem d_M_solve_178 : decode b_M_solve 178 = .ok (.dup_x2, 1) := by decide +kernel
theorem d_M_solve_179 : decode b_M_solve 179 = .ok (.iastore, 1) := by decide +kernel
theorem d_M_solve_180 : decode b_M_solve 180 = .ok (.iastore, 1) := by decide +kernel
theorem d_M_solve_181 : decode b_M_solve 181 = .ok (.iinc 5 1, 3) := by decide +kernel
theorem d_M_solve_184 : decode b_M_solve 184 = .ok (.goto (-34), 3) := by decide +kernel
theorem d_M_solve_187 : decode b_M_solve 187 = .ok (.aload_n 0, 1) := by decide +kernel
theorem d_M_solve_188 : decode b_M_solve 188 = .ok (.aload_n 0, 1) := by decide +kernel
theorem d_M_solve_189 : decode b_M_solve 189 = .ok (.iconst 0, 1) := by decide +kernel
theorem d_M_solve_190 : decode b_M_solve 190 = .ok (.dup_x1, 1) := by decide +kernel
theorem d_M_solve_191 : decode b_M_solve 191 = .ok (.putfield 118, 3) := by decide +kernel
theorem d_M_solve_194 : decode b_M_solve 194 = .ok (.putfield 108, 3) := by decide +kernel
theorem d_M_solve_197 : decode b_M_solve 197 = .ok (.iconst (-1), 1) := by decide +kernel
theorem d_M_solve_198 : decode b_M_solve 198 = .ok (.istore 5, 2) := by decide +kernel
theorem d_M_solve_200 : decode b_M_solve 200 = .ok (.aload_n 0, 1) := by decide +kernel
theorem d_M_solve_201 : decode b_M_solve 201 = .ok (.getfield 108, 3) := by decide +kernel
theorem d_M_solve_204 : decode b_M_solve 204 = .ok (.iload 4, 2) := by decide +kernel
theorem d_M_solve_206 : decode b_M_solve 206 = .ok (.if_icmp .ge 76, 3) := by decide +kernel
theorem d_M_solve_209 : decode b_M_solve 209 = .ok (.aload_n 0, 1) := by decide +kernel
theorem d_M_solve_210 : decode b_M_solve 210 = .ok (.iload_n 1, 1) := by decide +kernel
theorem d_M_solve_211 : decode b_M_solve 211 = .ok (.iload 5, 2) := by decide +kernel
theorem d_M_solve_213 : decode b_M_solve 213 = .ok (.invokevirtual 121, 3) := by decide +kernel
theorem d_M_solve_216 : decode b_M_solve 216 = .ok (.istore 5, 2) := by decide +kernel
theorem d_M_solve_218 : decode b_M_solve 218 = .ok (.iload 5, 2) := by decide +kernel
theorem d_M_solve_220 : decode b_M_solve 220 = .ok (.ifCond .ge 53, 3) := by decide +kernel
theorem d_M_solve_223 : decode b_M_solve 223 = .ok (.iconst 0, 1) := by decide +kernel
theorem d_M_solve_224 : decode b_M_solve 224 = .ok (.istore 6, 2) := by decide +kernel
theorem d_M_solve_226 : decode b_M_solve 226 = .ok (.iload 6, 2) := by decide +kernel
theorem d_M_solve_228 : decode b_M_solve 228 = .ok (.bipush 8, 2) := by decide +kernel
theorem d_M_solve_230 : decode b_M_solve 230 = .ok (.if_icmp .ge 43, 3) := by decide +kernel
theorem d_M_solve_233 : decode b_M_solve 233 = .ok (.aload_n 0, 1) := by decide +kernel
theorem d_M_solve_234 : decode b_M_solve 234 = .ok (.getfield 7, 3) := by decide +kernel
theorem d_M_solve_237 : decode b_M_solve 237 = .ok (.iload 6, 2) := by decide +kernel
theorem d_M_solve_239 : decode b_M_solve 239 = .ok (.baload, 1) := by decide +kernel
theorem d_M_solve_240 : decode b_M_solve 240 = .ok (.ifCond .eq 27, 3) := by decide +kernel
theorem d_M_solve_243 : decode b_M_solve 243 = .ok (.aload_n 0, 1) := by decide +kernel
theorem d_M_solve_244 : decode b_M_solve 244 = .ok (.getfield 48, 3) := by decide +kernel
theorem d_M_solve_247 : decode b_M_solve 247 = .ok (.iload 6, 2) := by decide +kernel
theorem d_M_solve_249 : decode b_M_solve 249 = .ok (.iaload, 1) := by decide +kernel
theorem d_M_solve_250 : decode b_M_solve 250 = .ok (.aload_n 0, 1) := by decide +kernel
theorem d_M_solve_251 : decode b_M_solve 251 = .ok (.getfield 45, 3) := by decide +kernel
theorem d_M_solve_254 : decode b_M_solve 254 = .ok (.iload 6, 2) := by decide +kernel
theorem d_M_solve_256 : decode b_M_solve 256 = .ok (.iaload, 1) := by decide +kernel
theorem d_M_solve_257 : decode b_M_solve 257 = .ok (.if_icmp .ge 10, 3) := by decide +kernel
theorem d_M_solve_260 : decode b_M_solve 260 = .ok (.sipush (-200), 3) := by decide +kernel
theorem d_M_solve_263 : decode b_M_solve 263 = .ok (.iload 6, 2) := by decide +kernel
theorem d_M_solve_265 : decode b_M_solve 265 = .ok (.isub, 1) := by decide +kernel
theorem d_M_solve_266 : decode b_M_solve 266 = .ok (.ireturn, 1) := by decide +kernel
theorem d_M_solve_267 : decode b_M_solve 267 = .ok (.iinc 6 1, 3) := by decide +kernel
theorem d_M_solve_270 : decode b_M_solve 270 = .ok (.goto (-44), 3) := by decide +kernel
theorem d_M_solve_273 : decode b_M_solve 273 = .ok (.aload_n 0, 1) := by decide +kernel
theorem d_M_solve_274 : decode b_M_solve 274 = .ok (.iload 5, 2) := by decide +kernel
theorem d_M_solve_276 : decode b_M_solve 276 = .ok (.invokevirtual 125, 3) := by decide +kernel
theorem d_M_solve_279 : decode b_M_solve 279 = .ok (.goto (-79), 3) := by decide +kernel
theorem d_M_solve_282 : decode b_M_solve 282 = .ok (.iconst 0, 1) := by decide +kernel
theorem d_M_solve_283 : decode b_M_solve 283 = .ok (.istore 6, 2) := by decide +kernel
theorem d_M_solve_285 : decode b_M_solve 285 = .ok (.iload 6, 2) := by decide +kernel
theorem d_M_solve_287 : decode b_M_solve 287 = .ok (.aload_n 0, 1) := by decide +kernel
theorem d_M_solve_288 : decode b_M_solve 288 = .ok (.getfield 83, 3) := by decide +kernel
theorem d_M_solve_291 : decode b_M_solve 291 = .ok (.if_icmp .ge 59, 3) := by decide +kernel
theorem d_M_solve_294 : decode b_M_solve 294 = .ok (.aload_n 0, 1) := by decide +kernel
theorem d_M_solve_295 : decode b_M_solve 295 = .ok (.getfield 63, 3) := by decide +kernel
theorem d_M_solve_298 : decode b_M_solve 298 = .ok (.iload 6, 2) := by decide +kernel
theorem d_M_solve_300 : decode b_M_solve 300 = .ok (.aload_n 0, 1) := by decide +kernel
theorem d_M_solve_301 : decode b_M_solve 301 = .ok (.getfield 32, 3) := by decide +kernel
theorem d_M_solve_304 : decode b_M_solve 304 = .ok (.iload 6, 2) := by decide +kernel
theorem d_M_solve_306 : decode b_M_solve 306 = .ok (.iaload, 1) := by decide +kernel
theorem d_M_solve_307 : decode b_M_solve 307 = .ok (.iastore, 1) := by decide +kernel
theorem d_M_solve_308 : decode b_M_solve 308 = .ok (.iconst 0, 1) := by decide +kernel
theorem d_M_solve_309 : decode b_M_solve 309 = .ok (.istore 7, 2) := by decide +kernel
theorem d_M_solve_311 : decode b_M_solve 311 = .ok (.iload 7, 2) := by decide +kernel
theorem d_M_solve_313 : decode b_M_solve 313 = .ok (.aload_n 0, 1) := by decide +kernel
theorem d_M_solve_314 : decode b_M_solve 314 = .ok (.getfield 32, 3) := by decide +kernel
theorem d_M_solve_317 : decode b_M_solve 317 = .ok (.iload 6, 2) := by decide +kernel
theorem d_M_solve_319 : decode b_M_solve 319 = .ok (.iaload, 1) := by decide +kernel
theorem d_M_solve_320 : decode b_M_solve 320 = .ok (.if_icmp .ge 24, 3) := by decide +kernel
theorem d_M_solve_323 : decode b_M_solve 323 = .ok (.aload_n 0, 1) := by decide +kernel
theorem d_M_solve_324 : decode b_M_solve 324 = .ok (.getfield 60, 3) := by decide +kernel
theorem d_M_solve_327 : decode b_M_solve 327 = .ok (.iload 6, 2) := by decide +kernel
theorem d_M_solve_329 : decode b_M_solve 329 = .ok (.sipush 400, 3) := by decide +kernel
theorem d_M_solve_332 : decode b_M_solve 332 = .ok (.imul, 1) := by decide +kernel
theorem d_M_solve_333 : decode b_M_solve 333 = .ok (.iload 7, 2) := by decide +kernel
theorem d_M_solve_335 : decode b_M_solve 335 = .ok (.iadd, 1) := by decide +kernel
theorem d_M_solve_336 : decode b_M_solve 336 = .ok (.iconst 0, 1) := by decide +kernel
theorem d_M_solve_337 : decode b_M_solve 337 = .ok (.iastore, 1) := by decide +kernel
theorem d_M_solve_338 : decode b_M_solve 338 = .ok (.iinc 7 1, 3) := by decide +kernel
theorem d_M_solve_341 : decode b_M_solve 341 = .ok (.goto (-30), 3) := by decide +kernel
theorem d_M_solve_344 : decode b_M_solve 344 = .ok (.iinc 6 1, 3) := by decide +kernel
theorem d_M_solve_347 : decode b_M_solve 347 = .ok (.goto (-62), 3) := by decide +kernel
theorem d_M_solve_350 : decode b_M_solve 350 = .ok (.aload_n 0, 1) := by decide +kernel
theorem d_M_solve_351 : decode b_M_solve 351 = .ok (.iconst 1, 1) := by decide +kernel
theorem d_M_solve_352 : decode b_M_solve 352 = .ok (.putfield 75, 3) := by decide +kernel
theorem d_M_solve_355 : decode b_M_solve 355 = .ok (.iload 4, 2) := by decide +kernel
theorem d_M_solve_357 : decode b_M_solve 357 = .ok (.ireturn, 1) := by decide +kernel
theorem d_M_takeFrom_0 : decode b_M_takeFrom 0 = .ok (.iconst 0, 1) := by decide +kernel
theorem d_M_takeFrom_1 : decode b_M_takeFrom 1 = .ok (.istore_n 2, 1) := by decide +kernel
theorem d_M_takeFrom_2 : decode b_M_takeFrom 2 = .ok (.iconst 0, 1) := by decide +kernel
theorem d_M_takeFrom_3 : decode b_M_takeFrom 3 = .ok (.istore_n 3, 1) := by decide +kernel
theorem d_M_takeFrom_4 : decode b_M_takeFrom 4 = .ok (.iload_n 3, 1) := by decide +kernel
theorem d_M_takeFrom_5 : decode b_M_takeFrom 5 = .ok (.aload_n 0, 1) := by decide +kernel
theorem d_M_takeFrom_6 : decode b_M_takeFrom 6 = .ok (.getfield 29, 3) := by decide +kernel
theorem d_M_takeFrom_9 : decode b_M_takeFrom 9 = .ok (.iload_n 1, 1) := by decide +kernel
theorem d_M_takeFrom_10 : decode b_M_takeFrom 10 = .ok (.iaload, 1) := by decide +kernel
theorem d_M_takeFrom_11 : decode b_M_takeFrom 11 = .ok (.if_icmp .ge 28, 3) := by decide +kernel
theorem d_M_takeFrom_14 : decode b_M_takeFrom 14 = .ok (.iload_n 2, 1) := by decide +kernel
theorem d_M_takeFrom_15 : decode b_M_takeFrom 15 = .ok (.aload_n 0, 1) := by decide +kernel
theorem d_M_takeFrom_16 : decode b_M_takeFrom 16 = .ok (.getfield 60, 3) := by decide +kernel
theorem d_M_takeFrom_19 : decode b_M_takeFrom 19 = .ok (.iload_n 1, 1) := by decide +kernel
theorem d_M_takeFrom_20 : decode b_M_takeFrom 20 = .ok (.sipush 400, 3) := by decide +kernel
theorem d_M_takeFrom_23 : decode b_M_takeFrom 23 = .ok (.imul, 1) := by decide +kernel
theorem d_M_takeFrom_24 : decode b_M_takeFrom 24 = .ok (.iload_n 3, 1) := by decide +kernel
theorem d_M_takeFrom_25 : decode b_M_takeFrom 25 = .ok (.iadd, 1) := by decide +kernel
theorem d_M_takeFrom_26 : decode b_M_takeFrom 26 = .ok (.iaload, 1) := by decide +kernel
theorem d_M_takeFrom_27 : decode b_M_takeFrom 27 = .ok (.iload_n 3, 1) := by decide +kernel
theorem d_M_takeFrom_28 : decode b_M_takeFrom 28 = .ok (.iconst 1, 1) := by decide +kernel
theorem d_M_takeFrom_29 : decode b_M_takeFrom 29 = .ok (.iadd, 1) := by decide +kernel
theorem d_M_takeFrom_30 : decode b_M_takeFrom 30 = .ok (.imul, 1) := by decide +kernel
theorem d_M_takeFrom_31 : decode b_M_takeFrom 31 = .ok (.iadd, 1) := by decide +kernel
theorem d_M_takeFrom_32 : decode b_M_takeFrom 32 = .ok (.istore_n 2, 1) := by decide +kernel
theorem d_M_takeFrom_33 : decode b_M_takeFrom 33 = .ok (.iinc 3 1, 3) := by decide +kernel
theorem d_M_takeFrom_36 : decode b_M_takeFrom 36 = .ok (.goto (-32), 3) := by decide +kernel
theorem d_M_takeFrom_39 : decode b_M_takeFrom 39 = .ok (.aload_n 0, 1) := by decide +kernel
theorem d_M_takeFrom_40 : decode b_M_takeFrom 40 = .ok (.getfield 63, 3) := by decide +kernel
theorem d_M_takeFrom_43 : decode b_M_takeFrom 43 = .ok (.iload_n 1, 1) := by decide +kernel
theorem d_M_takeFrom_44 : decode b_M_takeFrom 44 = .ok (.dup2, 1) := by decide +kernel
theorem d_M_takeFrom_45 : decode b_M_takeFrom 45 = .ok (.iaload, 1) := by decide +kernel
theorem d_M_takeFrom_46 : decode b_M_takeFrom 46 = .ok (.aload_n 0, 1) := by decide +kernel
theorem d_M_takeFrom_47 : decode b_M_takeFrom 47 = .ok (.getfield 29, 3) := by decide +kernel
theorem d_M_takeFrom_50 : decode b_M_takeFrom 50 = .ok (.iload_n 1, 1) := by decide +kernel
theorem d_M_takeFrom_51 : decode b_M_takeFrom 51 = .ok (.iaload, 1) := by decide +kernel
theorem d_M_takeFrom_52 : decode b_M_takeFrom 52 = .ok (.isub, 1) := by decide +kernel
theorem d_M_takeFrom_53 : decode b_M_takeFrom 53 = .ok (.iastore, 1) := by decide +kernel
theorem d_M_takeFrom_54 : decode b_M_takeFrom 54 = .ok (.iconst 0, 1) := by decide +kernel
theorem d_M_takeFrom_55 : decode b_M_takeFrom 55 = .ok (.istore_n 3, 1) := by decide +kernel
theorem d_M_takeFrom_56 : decode b_M_takeFrom 56 = .ok (.iload_n 3, 1) := by decide +kernel
theorem d_M_takeFrom_57 : decode b_M_takeFrom 57 = .ok (.aload_n 0, 1) := by decide +kernel
theorem d_M_takeFrom_58 : decode b_M_takeFrom 58 = .ok (.getfield 63, 3) := by decide +kernel
theorem d_M_takeFrom_61 : decode b_M_takeFrom 61 = .ok (.iload_n 1, 1) := by decide +kernel
theorem d_M_takeFrom_62 : decode b_M_takeFrom 62 = .ok (.iaload, 1) := by decide +kernel
theorem d_M_takeFrom_63 : decode b_M_takeFrom 63 = .ok (.if_icmp .ge 40, 3) := by decide +kernel
theorem d_M_takeFrom_66 : decode b_M_takeFrom 66 = .ok (.aload_n 0, 1) := by decide +kernel
theorem d_M_takeFrom_67 : decode b_M_takeFrom 67 = .ok (.getfield 60, 3) := by decide +kernel
theorem d_M_takeFrom_70 : decode b_M_takeFrom 70 = .ok (.iload_n 1, 1) := by decide +kernel
theorem d_M_takeFrom_71 : decode b_M_takeFrom 71 = .ok (.sipush 400, 3) := by decide +kernel
theorem d_M_takeFrom_74 : decode b_M_takeFrom 74 = .ok (.imul, 1) := by decide +kernel
theorem d_M_takeFrom_75 : decode b_M_takeFrom 75 = .ok (.iload_n 3, 1) := by decide +kernel
theorem d_M_takeFrom_76 : decode b_M_takeFrom 76 = .ok (.iadd, 1) := by decide +kernel
theorem d_M_takeFrom_77 : decode b_M_takeFrom 77 = .ok (.aload_n 0, 1) := by decide +kernel
theorem d_M_takeFrom_78 : decode b_M_takeFrom 78 = .ok (.getfield 60, 3) := by decide +kernel
theorem d_M_takeFrom_81 : decode b_M_takeFrom 81 = .ok (.iload_n 1, 1) := by decide +kernel
theorem d_M_takeFrom_82 : decode b_M_takeFrom 82 = .ok (.sipush 400, 3) := by decide +kernel
theorem d_M_takeFrom_85 : decode b_M_takeFrom 85 = .ok (.imul, 1) := by decide +kernel
theorem d_M_takeFrom_86 : decode b_M_takeFrom 86 = .ok (.iload_n 3, 1) := by decide +kernel
theorem d_M_takeFrom_87 : decode b_M_takeFrom 87 = .ok (.iadd, 1) := by decide +kernel
theorem d_M_takeFrom_88 : decode b_M_takeFrom 88 = .ok (.aload_n 0, 1) := by decide +kernel
theorem d_M_takeFrom_89 : decode b_M_takeFrom 89 = .ok (.getfield 29, 3) := by decide +kernel
theorem d_M_takeFrom_92 : decode b_M_takeFrom 92 = .ok (.iload_n 1, 1) := by decide +kernel
theorem d_M_takeFrom_93 : decode b_M_takeFrom 93 = .ok (.iaload, 1) := by decide +kernel
theorem d_M_takeFrom_94 : decode b_M_takeFrom 94 = .ok (.iadd, 1) := by decide +kernel
theorem d_M_takeFrom_95 : decode b_M_takeFrom 95 = .ok (.iaload, 1) := by decide +kernel
theorem d_M_takeFrom_96 : decode b_M_takeFrom 96 = .ok (.iastore, 1) := by decide +kernel
theorem d_M_takeFrom_97 : decode b_M_takeFrom 97 = .ok (.iinc 3 1, 3) := by decide +kernel
theorem d_M_takeFrom_100 : decode b_M_takeFrom 100 = .ok (.goto (-44), 3) := by decide +kernel
theorem d_M_takeFrom_103 : decode b_M_takeFrom 103 = .ok (.iload_n 2, 1) := by decide +kernel
theorem d_M_takeFrom_104 : decode b_M_takeFrom 104 = .ok (.ireturn, 1) := by decide +kernel
theorem d_M_fire_0 : decode b_M_fire 0 = .ok (.iconst 0, 1) := by decide +kernel
theorem d_M_fire_1 : decode b_M_fire 1 = .ok (.istore_n 2, 1) := by decide +kernel
theorem d_M_fire_2 : decode b_M_fire 2 = .ok (.iconst 0, 1) := by decide +kernel
theorem d_M_fire_3 : decode b_M_fire 3 = .ok (.istore_n 3, 1) := by decide +kernel
theorem d_M_fire_4 : decode b_M_fire 4 = .ok (.iload_n 3, 1) := by decide +kernel
theorem d_M_fire_5 : decode b_M_fire 5 = .ok (.aload_n 0, 1) := by decide +kernel
theorem d_M_fire_6 : decode b_M_fire 6 = .ok (.getfield 83, 3) := by decide +kernel
theorem d_M_fire_9 : decode b_M_fire 9 = .ok (.if_icmp .ge 27, 3) := by decide +kernel
theorem d_M_fire_12 : decode b_M_fire 12 = .ok (.aload_n 0, 1) := by decide +kernel
theorem d_M_fire_13 : decode b_M_fire 13 = .ok (.getfield 23, 3) := by decide +kernel
theorem d_M_fire_16 : decode b_M_fire 16 = .ok (.iload_n 3, 1) := by decide +kernel
theorem d_M_fire_17 : decode b_M_fire 17 = .ok (.iaload, 1) := by decide +kernel
theorem d_M_fire_18 : decode b_M_fire 18 = .ok (.iload_n 1, 1) := by decide +kernel
theorem d_M_fire_19 : decode b_M_fire 19 = .ok (.if_icmp .ne 11, 3) := by decide +kernel
theorem d_M_fire_22 : decode b_M_fire 22 = .ok (.iload_n 2, 1) := by decide +kernel
theorem d_M_fire_23 : decode b_M_fire 23 = .ok (.aload_n 0, 1) := by decide +kernel
theorem d_M_fire_24 : decode b_M_fire 24 = .ok (.iload_n 3, 1) := by decide +kernel
theorem d_M_fire_25 : decode b_M_fire 25 = .ok (.invokevirtual 129, 3) := by decide +kernel
theorem d_M_fire_28 : decode b_M_fire 28 = .ok (.iadd, 1) := by decide +kernel
theorem d_M_fire_29 : decode b_M_fire 29 = .ok (.istore_n 2, 1) := by decide +kernel
theorem d_M_fire_30 : decode b_M_fire 30 = .ok (.iinc 3 1, 3) := by decide +kernel
theorem d_M_fire_33 : decode b_M_fire 33 = .ok (.goto (-29), 3) := by decide +kernel
theorem d_M_fire_36 : decode b_M_fire 36 = .ok (.aload_n 0, 1) := by decide +kernel
theorem d_M_fire_37 : decode b_M_fire 37 = .ok (.getfield 13, 3) := by decide +kernel
theorem d_M_fire_40 : decode b_M_fire 40 = .ok (.iload_n 1, 1) := by decide +kernel
theorem d_M_fire_41 : decode b_M_fire 41 = .ok (.iaload, 1) := by decide +kernel
theorem d_M_fire_42 : decode b_M_fire 42 = .ok (.ifCond .ne 14, 3) := by decide +kernel
theorem d_M_fire_45 : decode b_M_fire 45 = .ok (.aload_n 0, 1) := by decide +kernel
theorem d_M_fire_46 : decode b_M_fire 46 = .ok (.getfield 17, 3) := by decide +kernel
theorem d_M_fire_49 : decode b_M_fire 49 = .ok (.iload_n 1, 1) := by decide +kernel
theorem d_M_fire_50 : decode b_M_fire 50 = .ok (.iaload, 1) := by decide +kernel
theorem d_M_fire_51 : decode b_M_fire 51 = .ok (.iload_n 2, 1) := by decide +kernel
theorem d_M_fire_52 : decode b_M_fire 52 = .ok (.iadd, 1) := by decide +kernel
theorem d_M_fire_53 : decode b_M_fire 53 = .ok (.goto 53, 3) := by decide +kernel
theorem d_M_fire_56 : decode b_M_fire 56 = .ok (.aload_n 0, 1) := by decide +kernel
theorem d_M_fire_57 : decode b_M_fire 57 = .ok (.getfield 13, 3) := by decide +kernel
theorem d_M_fire_60 : decode b_M_fire 60 = .ok (.iload_n 1, 1) := by decide +kernel
theorem d_M_fire_61 : decode b_M_fire 61 = .ok (.iaload, 1) := by decide +kernel
theorem d_M_fire_62 : decode b_M_fire 62 = .ok (.iconst 1, 1) := by decide +kernel
theorem d_M_fire_63 : decode b_M_fire 63 = .ok (.if_icmp .ne 14, 3) := by decide +kernel
theorem d_M_fire_66 : decode b_M_fire 66 = .ok (.aload_n 0, 1) := by decide +kernel
theorem d_M_fire_67 : decode b_M_fire 67 = .ok (.getfield 17, 3) := by decide +kernel
theorem d_M_fire_70 : decode b_M_fire 70 = .ok (.iload_n 1, 1) := by decide +kernel
theorem d_M_fire_71 : decode b_M_fire 71 = .ok (.iaload, 1) := by decide +kernel
theorem d_M_fire_72 : decode b_M_fire 72 = .ok (.iload_n 2, 1) := by decide +kernel
theorem d_M_fire_73 : decode b_M_fire 73 = .ok (.imul, 1) := by decide +kernel
theorem d_M_fire_74 : decode b_M_fire 74 = .ok (.goto 32, 3) := by decide +kernel
theorem d_M_fire_77 : decode b_M_fire 77 = .ok (.aload_n 0, 1) := by decide +kernel
theorem d_M_fire_78 : decode b_M_fire 78 = .ok (.getfield 13, 3) := by decide +kernel
theorem d_M_fire_81 : decode b_M_fire 81 = .ok (.iload_n 1, 1) := by decide +kernel
theorem d_M_fire_82 : decode b_M_fire 82 = .ok (.iaload, 1) := by decide +kernel
theorem d_M_fire_83 : decode b_M_fire 83 = .ok (.iconst 2, 1) := by decide +kernel
theorem d_M_fire_84 : decode b_M_fire 84 = .ok (.if_icmp .ne 14, 3) := by decide +kernel
theorem d_M_fire_87 : decode b_M_fire 87 = .ok (.aload_n 0, 1) := by decide +kernel
theorem d_M_fire_88 : decode b_M_fire 88 = .ok (.getfield 69, 3) := by decide +kernel
theorem d_M_fire_91 : decode b_M_fire 91 = .ok (.iload_n 1, 1) := by decide +kernel
theorem d_M_fire_92 : decode b_M_fire 92 = .ok (.iaload, 1) := by decide +kernel
theorem d_M_fire_93 : decode b_M_fire 93 = .ok (.iload_n 2, 1) := by decide +kernel
theorem d_M_fire_94 : decode b_M_fire 94 = .ok (.iadd, 1) := by decide +kernel
theorem d_M_fire_95 : decode b_M_fire 95 = .ok (.goto 11, 3) := by decide +kernel
theorem d_M_fire_98 : decode b_M_fire 98 = .ok (.iload_n 2, 1) := by decide +kernel
theorem d_M_fire_99 : decode b_M_fire 99 = .ok (.aload_n 0, 1) := by decide +kernel
theorem d_M_fire_100 : decode b_M_fire 100 = .ok (.getfield 69, 3) := by decide +kernel
theorem d_M_fire_103 : decode b_M_fire 103 = .ok (.iload_n 1, 1) := by decide +kernel
theorem d_M_fire_104 : decode b_M_fire 104 = .ok (.iaload, 1) := by decide +kernel
theorem d_M_fire_105 : decode b_M_fire 105 = .ok (.isub, 1) := by decide +kernel
theorem d_M_fire_106 : decode b_M_fire 106 = .ok (.istore_n 3, 1) := by decide +kernel
theorem d_M_fire_107 : decode b_M_fire 107 = .ok (.aload_n 0, 1) := by decide +kernel
theorem d_M_fire_108 : decode b_M_fire 108 = .ok (.getfield 69, 3) := by decide +kernel
theorem d_M_fire_111 : decode b_M_fire 111 = .ok (.iload_n 1, 1) := by decide +kernel
theorem d_M_fire_112 : decode b_M_fire 112 = .ok (.aload_n 0, 1) := by decide +kernel
theorem d_M_fire_113 : decode b_M_fire 113 = .ok (.getfield 13, 3) := by decide +kernel
theorem d_M_fire_116 : decode b_M_fire 116 = .ok (.iload_n 1, 1) := by decide +kernel
theorem d_M_fire_117 : decode b_M_fire 117 = .ok (.iaload, 1) := by decide +kernel
theorem d_M_fire_118 : decode b_M_fire 118 = .ok (.iconst 2, 1) := by decide +kernel
theorem d_M_fire_119 : decode b_M_fire 119 = .ok (.if_icmp .ne 14, 3) := by decide +kernel
theorem d_M_fire_122 : decode b_M_fire 122 = .ok (.aload_n 0, 1) := by decide +kernel
theorem d_M_fire_123 : decode b_M_fire 123 = .ok (.getfield 69, 3) := by decide +kernel
theorem d_M_fire_126 : decode b_M_fire 126 = .ok (.iload_n 1, 1) := by decide +kernel
theorem d_M_fire_127 : decode b_M_fire 127 = .ok (.iaload, 1) := by decide +kernel
theorem d_M_fire_128 : decode b_M_fire 128 = .ok (.iload_n 2, 1) := by decide +kernel
theorem d_M_fire_129 : decode b_M_fire 129 = .ok (.iadd, 1) := by decide +kernel
theorem d_M_fire_130 : decode b_M_fire 130 = .ok (.goto 4, 3) := by decide +kernel
theorem d_M_fire_133 : decode b_M_fire 133 = .ok (.iload_n 2, 1) := by decide +kernel
theorem d_M_fire_134 : decode b_M_fire 134 = .ok (.iastore, 1) := by decide +kernel
theorem d_M_fire_135 : decode b_M_fire 135 = .ok (.aload_n 0, 1) := by decide +kernel
theorem d_M_fire_136 : decode b_M_fire 136 = .ok (.getfield 66, 3) := by decide +kernel
theorem d_M_fire_139 : decode b_M_fire 139 = .ok (.iload_n 1, 1) := by decide +kernel
theorem d_M_fire_140 : decode b_M_fire 140 = .ok (.iload_n 3, 1) := by decide +kernel
theorem d_M_fire_141 : decode b_M_fire 141 = .ok (.iastore, 1) := by decide +kernel
theorem d_M_fire_142 : decode b_M_fire 142 = .ok (.iconst 0, 1) := by decide +kernel
theorem d_M_fire_143 : decode b_M_fire 143 = .ok (.istore 4, 2) := by decide +kernel
theorem d_M_fire_145 : decode b_M_fire 145 = .ok (.iload 4, 2) := by decide +kernel
theorem d_M_fire_147 : decode b_M_fire 147 = .ok (.aload_n 0, 1) := by decide +kernel
theorem d_M_fire_148 : decode b_M_fire 148 = .ok (.getfield 83, 3) := by decide +kernel
theorem d_M_fire_151 : decode b_M_fire 151 = .ok (.if_icmp .ge 87, 3) := by decide +kernel
theorem d_M_fire_154 : decode b_M_fire 154 = .ok (.aload_n 0, 1) := by decide +kernel
theorem d_M_fire_155 : decode b_M_fire 155 = .ok (.getfield 20, 3) := by decide +kernel
theorem d_M_fire_158 : decode b_M_fire 158 = .ok (.iload 4, 2) := by decide +kernel
theorem d_M_fire_160 : decode b_M_fire 160 = .ok (.iaload, 1) := by decide +kernel
theorem d_M_fire_161 : decode b_M_fire 161 = .ok (.iload_n 1, 1) := by decide +kernel
theorem d_M_fire_162 : decode b_M_fire 162 = .ok (.if_icmp .eq 6, 3) := by decide +kernel
theorem d_M_fire_165 : decode b_M_fire 165 = .ok (.goto 67, 3) := by decide +kernel
theorem d_M_fire_168 : decode b_M_fire 168 = .ok (.iconst 0, 1) := by decide +kernel
theorem d_M_fire_169 : decode b_M_fire 169 = .ok (.istore 5, 2) := by decide +kernel
theorem d_M_fire_171 : decode b_M_fire 171 = .ok (.iload 5, 2) := by decide +kernel
theorem d_M_fire_173 : decode b_M_fire 173 = .ok (.aload_n 0, 1) := by decide +kernel
theorem d_M_fire_174 : decode b_M_fire 174 = .ok (.getfield 26, 3) := by decide +kernel
theorem d_M_fire_177 : decode b_M_fire 177 = .ok (.iload 4, 2) := by decide +kernel
theorem d_M_fire_179 : decode b_M_fire 179 = .ok (.iaload, 1) := by decide +kernel
theorem d_M_fire_180 : decode b_M_fire 180 = .ok (.if_icmp .ge 35, 3) := by decide +kernel
theorem d_M_fire_183 : decode b_M_fire 183 = .ok (.aload_n 0, 1) := by decide +kernel
theorem d_M_fire_184 : decode b_M_fire 184 = .ok (.getfield 60, 3) := by decide +kernel
theorem d_M_fire_187 : decode b_M_fire 187 = .ok (.iload 4, 2) := by decide +kernel
theorem d_M_fire_189 : decode b_M_fire 189 = .ok (.sipush 400, 3) := by decide +kernel
theorem d_M_fire_192 : decode b_M_fire 192 = .ok (.imul, 1) := by decide +kernel
theorem d_M_fire_193 : decode b_M_fire 193 = .ok (.aload_n 0, 1) := by decide +kernel
theorem d_M_fire_194 : decode b_M_fire 194 = .ok (.getfield 63, 3) := by decide +kernel
theorem d_M_fire_197 : decode b_M_fire 197 = .ok (.iload 4, 2) := by decide +kernel
theorem d_M_fire_199 : decode b_M_fire 199 = .ok (.iaload, 1) := by decide +kernel
theorem d_M_fire_200 : decode b_M_fire 200 = .ok (.iadd, 1) := by decide +kernel
theorem d_M_fire_201 : decode b_M_fire 201 = .ok (.iload 5, 2) := by decide +kernel
theorem d_M_fire_203 : decode b_M_fire 203 = .ok (.iadd, 1) := by decide +kernel
theorem d_M_fire_204 : decode b_M_fire 204 = .ok (.iload_n 3, 1) := by decide +kernel
theorem d_M_fire_205 : decode b_M_fire 205 = .ok (.iload 5, 2) := by decide +kernel
theorem d_M_fire_207 : decode b_M_fire 207 = .ok (.iadd, 1) := by decide +kernel
theorem d_M_fire_208 : decode b_M_fire 208 = .ok (.iastore, 1) := by decide +kernel
theorem d_M_fire_209 : decode b_M_fire 209 = .ok (.iinc 5 1, 3) := by decide +kernel
theorem d_M_fire_212 : decode b_M_fire 212 = .ok (.goto (-41), 3) := by decide +kernel
theorem d_M_fire_215 : decode b_M_fire 215 = .ok (.aload_n 0, 1) := by decide +kernel
theorem d_M_fire_216 : decode b_M_fire 216 = .ok (.getfield 63, 3) := by decide +kernel
theorem d_M_fire_219 : decode b_M_fire 219 = .ok (.iload 4, 2) := by decide +kernel
theorem d_M_fire_221 : decode b_M_fire 221 = .ok (.dup2, 1) := by decide +kernel
theorem d_M_fire_222 : decode b_M_fire 222 = .ok (.iaload, 1) := by decide +kernel
theorem d_M_fire_223 : decode b_M_fire 223 = .ok (.aload_n 0, 1) := by decide +kernel
theorem d_M_fire_224 : decode b_M_fire 224 = .ok (.getfield 26, 3) := by decide +kernel
theorem d_M_fire_227 : decode b_M_fire 227 = .ok (.iload 4, 2) := by decide +kernel
theorem d_M_fire_229 : decode b_M_fire 229 = .ok (.iaload, 1) := by decide +kernel
theorem d_M_fire_230 : decode b_M_fire 230 = .ok (.iadd, 1) := by decide +kernel
theorem d_M_fire_231 : decode b_M_fire 231 = .ok (.iastore, 1) := by decide +kernel
theorem d_M_fire_232 : decode b_M_fire 232 = .ok (.iinc 4 1, 3) := by decide +kernel
theorem d_M_fire_235 : decode b_M_fire 235 = .ok (.goto (-90), 3) := by decide +kernel
theorem d_M_fire_238 : decode b_M_fire 238 = .ok (.aload_n 0, 1) := by decide +kernel
theorem d_M_fire_239 : decode b_M_fire 239 = .ok (.dup, 1) := by decide +kernel
theorem d_M_fire_240 : decode b_M_fire 240 = .ok (.getfield 118, 3) := by decide +kernel
theorem d_M_fire_243 : decode b_M_fire 243 = .ok (.iconst 1, 1) := by decide +kernel
theorem d_M_fire_244 : decode b_M_fire 244 = .ok (.iadd, 1) := by decide +kernel
theorem d_M_fire_245 : decode b_M_fire 245 = .ok (.putfield 118, 3) := by decide +kernel
theorem d_M_fire_248 : decode b_M_fire 248 = .ok (.return_, 1) := by decide +kernel
theorem d_M_run_0 : decode b_M_run 0 = .ok (.iload_n 1, 1) := by decide +kernel
theorem d_M_run_1 : decode b_M_run 1 = .ok (.iconst 1, 1) := by decide +kernel
theorem d_M_run_2 : decode b_M_run 2 = .ok (.if_icmp .lt 9, 3) := by decide +kernel
theorem d_M_run_5 : decode b_M_run 5 = .ok (.iload_n 1, 1) := by decide +kernel
theorem d_M_run_6 : decode b_M_run 6 = .ok (.bipush 8, 2) := by decide +kernel
theorem d_M_run_8 : decode b_M_run 8 = .ok (.if_icmp .le 5, 3) := by decide +kernel
theorem d_M_run_11 : decode b_M_run 11 = .ok (.iconst (-1), 1) := by decide +kernel
theorem d_M_run_12 : decode b_M_run 12 = .ok (.ireturn, 1) := by decide +kernel
theorem d_M_run_13 : decode b_M_run 13 = .ok (.aload_n 0, 1) := by decide +kernel
theorem d_M_run_14 : decode b_M_run 14 = .ok (.getfield 75, 3) := by decide +kernel
theorem d_M_run_17 : decode b_M_run 17 = .ok (.ifCond .ne 6, 3) := by decide +kernel
theorem d_M_run_20 : decode b_M_run 20 = .ok (.bipush (-4), 2) := by decide +kernel
theorem d_M_run_22 : decode b_M_run 22 = .ok (.ireturn, 1) := by decide +kernel
theorem d_M_run_23 : decode b_M_run 23 = .ok (.iconst 0, 1) := by decide +kernel
theorem d_M_run_24 : decode b_M_run 24 = .ok (.istore_n 2, 1) := by decide +kernel
theorem d_M_run_25 : decode b_M_run 25 = .ok (.iload_n 2, 1) := by decide +kernel
theorem d_M_run_26 : decode b_M_run 26 = .ok (.iload_n 1, 1) := by decide +kernel
theorem d_M_run_27 : decode b_M_run 27 = .ok (.if_icmp .ge 35, 3) := by decide +kernel
theorem d_M_run_30 : decode b_M_run 30 = .ok (.iconst 0, 1) := by decide +kernel
theorem d_M_run_31 : decode b_M_run 31 = .ok (.istore_n 3, 1) := by decide +kernel
theorem d_M_run_32 : decode b_M_run 32 = .ok (.iload_n 3, 1) := by decide +kernel
theorem d_M_run_33 : decode b_M_run 33 = .ok (.aload_n 0, 1) := by decide +kernel
theorem d_M_run_34 : decode b_M_run 34 = .ok (.getfield 108, 3) := by decide +kernel
theorem d_M_run_37 : decode b_M_run 37 = .ok (.if_icmp .ge 19, 3) := by decide +kernel
theorem d_M_run_40 : decode b_M_run 40 = .ok (.aload_n 0, 1) := by decide +kernel
theorem d_M_run_41 : decode b_M_run 41 = .ok (.aload_n 0, 1) := by decide +kernel
theorem d_M_run_42 : decode b_M_run 42 = .ok (.getfield 51, 3) := by decide +kernel
theorem d_M_run_45 : decode b_M_run 45 = .ok (.iload_n 3, 1) := by decide +kernel
theorem d_M_run_46 : decode b_M_run 46 = .ok (.iaload, 1) := by decide +kernel
theorem d_M_run_47 : decode b_M_run 47 = .ok (.invokevirtual 132, 3) := by decide +kernel
theorem d_M_run_50 : decode b_M_run 50 = .ok (.iinc 3 1, 3) := by decide +kernel
theorem d_M_run_53 : decode b_M_run 53 = .ok (.goto (-21), 3) := by decide +kernel
theorem d_M_run_56 : decode b_M_run 56 = .ok (.iinc 2 1, 3) := by decide +kernel
theorem d_M_run_59 : decode b_M_run 59 = .ok (.goto (-34), 3) := by decide +kernel
theorem d_M_run_62 : decode b_M_run 62 = .ok (.iload_n 1, 1) := by decide +kernel
theorem d_M_run_63 : decode b_M_run 63 = .ok (.aload_n 0, 1) := by decide +kernel
theorem d_M_run_64 : decode b_M_run 64 = .ok (.getfield 108, 3) := by decide +kernel
theorem d_M_run_67 : decode b_M_run 67 = .ok (.imul, 1) := by decide +kernel
theorem d_M_run_68 : decode b_M_run 68 = .ok (.ireturn, 1) := by decide +kernel
theorem d_M_repetitions_0 : decode b_M_repetitions 0 = .ok (.aload_n 0, 1) := by decide +kernel
theorem d_M_repetitions_1 : decode b_M_repetitions 1 = .ok (.iload_n 1, 1) := by decide +kernel
theorem d_M_repetitions_2 : decode b_M_repetitions 2 = .ok (.invokevirtual 79, 3) := by decide +kernel
theorem d_M_repetitions_5 : decode b_M_repetitions 5 = .ok (.ifCond .ne 5, 3) := by decide +kernel
theorem d_M_repetitions_8 : decode b_M_repetitions 8 = .ok (.iconst (-1), 1) := by decide +kernel
theorem d_M_repetitions_9 : decode b_M_repetitions 9 = .ok (.ireturn, 1) := by decide +kernel
theorem d_M_repetitions_10 : decode b_M_repetitions 10 = .ok (.aload_n 0, 1) := by decide +kernel
theorem d_M_repetitions_11 : decode b_M_repetitions 11 = .ok (.getfield 75, 3) := by decide +kernel
theorem d_M_repetitions_14 : decode b_M_repetitions 14 = .ok (.ifCond .eq 12, 3) := by decide +kernel
theorem d_M_repetitions_17 : decode b_M_repetitions 17 = .ok (.aload_n 0, 1) := by decide +kernel
theorem d_M_repetitions_18 : decode b_M_repetitions 18 = .ok (.getfield 45, 3) := by decide +kernel
theorem d_M_repetitions_21 : decode b_M_repetitions 21 = .ok (.iload_n 1, 1) := by decide +kernel
theorem d_M_repetitions_22 : decode b_M_repetitions 22 = .ok (.iaload, 1) := by decide +kernel
theorem d_M_repetitions_23 : decode b_M_repetitions 23 = .ok (.goto 5, 3) := by decide +kernel
theorem d_M_repetitions_26 : decode b_M_repetitions 26 = .ok (.bipush (-4), 2) := by decide +kernel
theorem d_M_repetitions_28 : decode b_M_repetitions 28 = .ok (.ireturn, 1) := by decide +kernel
theorem d_M_schedule_0 : decode b_M_schedule 0 = .ok (.aload_n 0, 1) := by decide +kernel
theorem d_M_schedule_1 : decode b_M_schedule 1 = .ok (.getfield 75, 3) := by decide +kernel
theorem d_M_schedule_4 : decode b_M_schedule 4 = .ok (.ifCond .ne 6, 3) := by decide +kernel
theorem d_M_schedule_7 : decode b_M_schedule 7 = .ok (.bipush (-4), 2) := by decide +kernel
theorem d_M_schedule_9 : decode b_M_schedule 9 = .ok (.ireturn, 1) := by decide +kernel
theorem d_M_schedule_10 : decode b_M_schedule 10 = .ok (.iload_n 1, 1) := by decide +kernel
theorem d_M_schedule_11 : decode b_M_schedule 11 = .ok (.ifCond .lt 11, 3) := by decide +kernel
theorem d_M_schedule_14 : decode b_M_schedule 14 = .ok (.iload_n 1, 1) := by decide +kernel
theorem d_M_schedule_15 : decode b_M_schedule 15 = .ok (.aload_n 0, 1) := by decide +kernel
theorem d_M_schedule_16 : decode b_M_schedule 16 = .ok (.getfield 108, 3) := by decide +kernel
theorem d_M_schedule_19 : decode b_M_schedule 19 = .ok (.if_icmp .lt 7, 3) := by decide +kernel
theorem d_M_schedule_22 : decode b_M_schedule 22 = .ok (.iconst (-1), 1) := by decide +kernel
theorem d_M_schedule_23 : decode b_M_schedule 23 = .ok (.goto 9, 3) := by decide +kernel
theorem d_M_schedule_26 : decode b_M_schedule 26 = .ok (.aload_n 0, 1) := by decide +kernel
theorem d_M_schedule_27 : decode b_M_schedule 27 = .ok (.getfield 51, 3) := by decide +kernel
theorem d_M_schedule_30 : decode b_M_schedule 30 = .ok (.iload_n 1, 1) := by decide +kernel
theorem d_M_schedule_31 : decode b_M_schedule 31 = .ok (.iaload, 1) := by decide +kernel
theorem d_M_schedule_32 : decode b_M_schedule 32 = .ok (.ireturn, 1) := by decide +kernel
theorem d_M_peak_0 : decode b_M_peak 0 = .ok (.iload_n 1, 1) := by decide +kernel
theorem d_M_peak_1 : decode b_M_peak 1 = .ok (.ifCond .lt 11, 3) := by decide +kernel
theorem d_M_peak_4 : decode b_M_peak 4 = .ok (.iload_n 1, 1) := by decide +kernel
theorem d_M_peak_5 : decode b_M_peak 5 = .ok (.aload_n 0, 1) := by decide +kernel
theorem d_M_peak_6 : decode b_M_peak 6 = .ok (.getfield 83, 3) := by decide +kernel
theorem d_M_peak_9 : decode b_M_peak 9 = .ok (.if_icmp .lt 5, 3) := by decide +kernel
theorem d_M_peak_12 : decode b_M_peak 12 = .ok (.iconst (-1), 1) := by decide +kernel
theorem d_M_peak_13 : decode b_M_peak 13 = .ok (.ireturn, 1) := by decide +kernel
theorem d_M_peak_14 : decode b_M_peak 14 = .ok (.aload_n 0, 1) := by decide +kernel
theorem d_M_peak_15 : decode b_M_peak 15 = .ok (.getfield 75, 3) := by decide +kernel
theorem d_M_peak_18 : decode b_M_peak 18 = .ok (.ifCond .eq 12, 3) := by decide +kernel
theorem d_M_peak_21 : decode b_M_peak 21 = .ok (.aload_n 0, 1) := by decide +kernel
theorem d_M_peak_22 : decode b_M_peak 22 = .ok (.getfield 54, 3) := by decide +kernel
theorem d_M_peak_25 : decode b_M_peak 25 = .ok (.iload_n 1, 1) := by decide +kernel
theorem d_M_peak_26 : decode b_M_peak 26 = .ok (.iaload, 1) := by decide +kernel
theorem d_M_peak_27 : decode b_M_peak 27 = .ok (.goto 5, 3) := by decide +kernel
theorem d_M_peak_30 : decode b_M_peak 30 = .ok (.bipush (-4), 2) := by decide +kernel
theorem d_M_peak_32 : decode b_M_peak 32 = .ok (.ireturn, 1) := by decide +kernel
theorem d_M_cut_0 : decode b_M_cut 0 = .ok (.lconst 0, 1) := by decide +kernel
theorem d_M_cut_1 : decode b_M_cut 1 = .ok (.lstore 4, 2) := by decide +kernel
theorem d_M_cut_3 : decode b_M_cut 3 = .ok (.iload_n 1, 1) := by decide +kernel
theorem d_M_cut_4 : decode b_M_cut 4 = .ok (.istore 6, 2) := by decide +kernel
theorem d_M_cut_6 : decode b_M_cut 6 = .ok (.iload 6, 2) := by decide +kernel
theorem d_M_cut_8 : decode b_M_cut 8 = .ok (.iload_n 3, 1) := by decide +kernel
theorem d_M_cut_9 : decode b_M_cut 9 = .ok (.if_icmp .gt 34, 3) := by decide +kernel
theorem d_M_cut_12 : decode b_M_cut 12 = .ok (.aload_n 0, 1) := by decide +kernel
theorem d_M_cut_13 : decode b_M_cut 13 = .ok (.getfield 7, 3) := by decide +kernel
theorem d_M_cut_16 : decode b_M_cut 16 = .ok (.iload 6, 2) := by decide +kernel
theorem d_M_cut_18 : decode b_M_cut 18 = .ok (.baload, 1) := by decide +kernel
theorem d_M_cut_19 : decode b_M_cut 19 = .ok (.ifCond .eq 18, 3) := by decide +kernel
theorem d_M_cut_22 : decode b_M_cut 22 = .ok (.aload_n 0, 1) := by decide +kernel
theorem d_M_cut_23 : decode b_M_cut 23 = .ok (.getfield 45, 3) := by decide +kernel
theorem d_M_cut_26 : decode b_M_cut 26 = .ok (.iload 6, 2) := by decide +kernel
theorem d_M_cut_28 : decode b_M_cut 28 = .ok (.iaload, 1) := by decide +kernel
theorem d_M_cut_29 : decode b_M_cut 29 = .ok (.i2l, 1) := by decide +kernel
theorem d_M_cut_30 : decode b_M_cut 30 = .ok (.lload 4, 2) := by decide +kernel
theorem d_M_cut_32 : decode b_M_cut 32 = .ok (.invokestatic 87, 3) := by decide +kernel
theorem d_M_cut_35 : decode b_M_cut 35 = .ok (.lstore 4, 2) := by decide +kernel
theorem d_M_cut_37 : decode b_M_cut 37 = .ok (.iinc 6 1, 3) := by decide +kernel
theorem d_M_cut_40 : decode b_M_cut 40 = .ok (.goto (-34), 3) := by decide +kernel
theorem d_M_cut_43 : decode b_M_cut 43 = .ok (.iconst 0, 1) := by decide +kernel
theorem d_M_cut_44 : decode b_M_cut 44 = .ok (.istore 6, 2) := by decide +kernel
theorem d_M_cut_46 : decode b_M_cut 46 = .ok (.iconst 0, 1) := by decide +kernel
theorem d_M_cut_47 : decode b_M_cut 47 = .ok (.istore 7, 2) := by decide +kernel
theorem d_M_cut_49 : decode b_M_cut 49 = .ok (.iload 7, 2) := by decide +kernel
theorem d_M_cut_51 : decode b_M_cut 51 = .ok (.aload_n 0, 1) := by decide +kernel
theorem d_M_cut_52 : decode b_M_cut 52 = .ok (.getfield 83, 3) := by decide +kernel
theorem d_M_cut_55 : decode b_M_cut 55 = .ok (.if_icmp .ge 82, 3) := by decide +kernel
theorem d_M_cut_58 : decode b_M_cut 58 = .ok (.aload_n 0, 1) := by decide +kernel
theorem d_M_cut_59 : decode b_M_cut 59 = .ok (.getfield 20, 3) := by decide +kernel
theorem d_M_cut_62 : decode b_M_cut 62 = .ok (.iload 7, 2) := by decide +kernel
theorem d_M_cut_64 : decode b_M_cut 64 = .ok (.iaload, 1) := by decide +kernel
theorem d_M_cut_65 : decode b_M_cut 65 = .ok (.iload_n 1, 1) := by decide +kernel
theorem d_M_cut_66 : decode b_M_cut 66 = .ok (.if_icmp .lt 65, 3) := by decide +kernel
theorem d_M_cut_69 : decode b_M_cut 69 = .ok (.aload_n 0, 1) := by decide +kernel
theorem d_M_cut_70 : decode b_M_cut 70 = .ok (.getfield 20, 3) := by decide +kernel
theorem d_M_cut_73 : decode b_M_cut 73 = .ok (.iload 7, 2) := by decide +kernel
theorem d_M_cut_75 : decode b_M_cut 75 = .ok (.iaload, 1) := by decide +kernel
theorem d_M_cut_76 : decode b_M_cut 76 = .ok (.iload_n 2, 1) := by decide +kernel
theorem d_M_cut_77 : decode b_M_cut 77 = .ok (.if_icmp .gt 54, 3) := by decide +kernel
theorem d_M_cut_80 : decode b_M_cut 80 = .ok (.aload_n 0, 1) := by decide +kernel
theorem d_M_cut_81 : decode b_M_cut 81 = .ok (.getfield 23, 3) := by decide +kernel
theorem d_M_cut_84 : decode b_M_cut 84 = .ok (.iload 7, 2) := by decide +kernel
theorem d_M_cut_86 : decode b_M_cut 86 = .ok (.iaload, 1) := by decide +kernel
theorem d_M_cut_87 : decode b_M_cut 87 = .ok (.iload_n 2, 1) := by decide +kernel
theorem d_M_cut_88 : decode b_M_cut 88 = .ok (.if_icmp .le 43, 3) := by decide +kernel
theorem d_M_cut_91 : decode b_M_cut 91 = .ok (.aload_n 0, 1) := by decide +kernel
theorem d_M_cut_92 : decode b_M_cut 92 = .ok (.getfield 23, 3) := by decide +kernel
theorem d_M_cut_95 : decode b_M_cut 95 = .ok (.iload 7, 2) := by decide +kernel
theorem d_M_cut_97 : decode b_M_cut 97 = .ok (.iaload, 1) := by decide +kernel
theorem d_M_cut_98 : decode b_M_cut 98 = .ok (.iload_n 3, 1) := by decide +kernel
theorem d_M_cut_99 : decode b_M_cut 99 = .ok (.if_icmp .gt 32, 3) := by decide +kernel
theorem d_M_cut_102 : decode b_M_cut 102 = .ok (.iload 6, 2) := by decide +kernel
theorem d_M_cut_104 : decode b_M_cut 104 = .ok (.aload_n 0, 1) := by decide +kernel
theorem d_M_cut_105 : decode b_M_cut 105 = .ok (.getfield 26, 3) := by decide +kernel
theorem d_M_cut_108 : decode b_M_cut 108 = .ok (.iload 7, 2) := by decide +kernel
theorem d_M_cut_110 : decode b_M_cut 110 = .ok (.iaload, 1) := by decide +kernel
theorem d_M_cut_111 : decode b_M_cut 111 = .ok (.aload_n 0, 1) := by decide +kernel
theorem d_M_cut_112 : decode b_M_cut 112 = .ok (.getfield 45, 3) := by decide +kernel
theorem d_M_cut_115 : decode b_M_cut 115 = .ok (.aload_n 0, 1) := by decide +kernel
theorem d_M_cut_116 : decode b_M_cut 116 = .ok (.getfield 20, 3) := by decide +kernel
theorem d_M_cut_119 : decode b_M_cut 119 = .ok (.iload 7, 2) := by decide +kernel
theorem d_M_cut_121 : decode b_M_cut 121 = .ok (.iaload, 1) := by decide +kernel
theorem d_M_cut_122 : decode b_M_cut 122 = .ok (.iaload, 1) := by decide +kernel
theorem d_M_cut_123 : decode b_M_cut 123 = .ok (.imul, 1) := by decide +kernel
theorem d_M_cut_124 : decode b_M_cut 124 = .ok (.lload 4, 2) := by decide +kernel
theorem d_M_cut_126 : decode b_M_cut 126 = .ok (.l2i, 1) := by decide +kernel
theorem d_M_cut_127 : decode b_M_cut 127 = .ok (.idiv, 1) := by decide +kernel
theorem d_M_cut_128 : decode b_M_cut 128 = .ok (.iadd, 1) := by decide +kernel
theorem d_M_cut_129 : decode b_M_cut 129 = .ok (.istore 6, 2) := by decide +kernel
theorem d_M_cut_131 : decode b_M_cut 131 = .ok (.iinc 7 1, 3) := by decide +kernel
theorem d_M_cut_134 : decode b_M_cut 134 = .ok (.goto (-85), 3) := by decide +kernel
theorem d_M_cut_137 : decode b_M_cut 137 = .ok (.iload 6, 2) := by decide +kernel
theorem d_M_cut_139 : decode b_M_cut 139 = .ok (.ireturn, 1) := by decide +kernel
theorem d_M_nested_0 : decode b_M_nested 0 = .ok (.aload_n 0, 1) := by decide +kernel
theorem d_M_nested_1 : decode b_M_nested 1 = .ok (.getfield 75, 3) := by decide +kernel
theorem d_M_nested_4 : decode b_M_nested 4 = .ok (.ifCond .ne 6, 3) := by decide +kernel
theorem d_M_nested_7 : decode b_M_nested 7 = .ok (.bipush (-4), 2) := by decide +kernel
theorem d_M_nested_9 : decode b_M_nested 9 = .ok (.ireturn, 1) := by decide +kernel
theorem d_M_nested_10 : decode b_M_nested 10 = .ok (.iconst 0, 1) := by decide +kernel
theorem d_M_nested_11 : decode b_M_nested 11 = .ok (.istore_n 1, 1) := by decide +kernel
theorem d_M_nested_12 : decode b_M_nested 12 = .ok (.iload_n 1, 1) := by decide +kernel
theorem d_M_nested_13 : decode b_M_nested 13 = .ok (.aload_n 0, 1) := by decide +kernel
theorem d_M_nested_14 : decode b_M_nested 14 = .ok (.getfield 83, 3) := by decide +kernel
theorem d_M_nested_17 : decode b_M_nested 17 = .ok (.if_icmp .ge 51, 3) := by decide +kernel
theorem d_M_nested_20 : decode b_M_nested 20 = .ok (.aload_n 0, 1) := by decide +kernel
theorem d_M_nested_21 : decode b_M_nested 21 = .ok (.getfield 20, 3) := by decide +kernel
theorem d_M_nested_24 : decode b_M_nested 24 = .ok (.iload_n 1, 1) := by decide +kernel
theorem d_M_nested_25 : decode b_M_nested 25 = .ok (.iaload, 1) := by decide +kernel
theorem d_M_nested_26 : decode b_M_nested 26 = .ok (.aload_n 0, 1) := by decide +kernel
theorem d_M_nested_27 : decode b_M_nested 27 = .ok (.getfield 23, 3) := by decide +kernel
theorem d_M_nested_30 : decode b_M_nested 30 = .ok (.iload_n 1, 1) := by decide +kernel
theorem d_M_nested_31 : decode b_M_nested 31 = .ok (.iaload, 1) := by decide +kernel
theorem d_M_nested_32 : decode b_M_nested 32 = .ok (.if_icmp .eq 30, 3) := by decide +kernel
theorem d_M_nested_35 : decode b_M_nested 35 = .ok (.aload_n 0, 1) := by decide +kernel
theorem d_M_nested_36 : decode b_M_nested 36 = .ok (.getfield 20, 3) := by decide +kernel
theorem d_M_nested_39 : decode b_M_nested 39 = .ok (.iload_n 1, 1) := by decide +kernel
theorem d_M_nested_40 : decode b_M_nested 40 = .ok (.iaload, 1) := by decide +kernel
theorem d_M_nested_41 : decode b_M_nested 41 = .ok (.aload_n 0, 1) := by decide +kernel
theorem d_M_nested_42 : decode b_M_nested 42 = .ok (.getfield 23, 3) := by decide +kernel
theorem d_M_nested_45 : decode b_M_nested 45 = .ok (.iload_n 1, 1) := by decide +kernel
theorem d_M_nested_46 : decode b_M_nested 46 = .ok (.iaload, 1) := by decide +kernel
theorem d_M_nested_47 : decode b_M_nested 47 = .ok (.if_icmp .gt 12, 3) := by decide +kernel
theorem d_M_nested_50 : decode b_M_nested 50 = .ok (.aload_n 0, 1) := by decide +kernel
theorem d_M_nested_51 : decode b_M_nested 51 = .ok (.getfield 32, 3) := by decide +kernel
theorem d_M_nested_54 : decode b_M_nested 54 = .ok (.iload_n 1, 1) := by decide +kernel
theorem d_M_nested_55 : decode b_M_nested 55 = .ok (.iaload, 1) := by decide +kernel
theorem d_M_nested_56 : decode b_M_nested 56 = .ok (.ifCond .le 6, 3) := by decide +kernel
theorem d_M_nested_59 : decode b_M_nested 59 = .ok (.bipush (-4), 2) := by decide +kernel
theorem d_M_nested_61 : decode b_M_nested 61 = .ok (.ireturn, 1) := by decide +kernel
theorem d_M_nested_62 : decode b_M_nested 62 = .ok (.iinc 1 1, 3) := by decide +kernel
theorem d_M_nested_65 : decode b_M_nested 65 = .ok (.goto (-53), 3) := by decide +kernel
theorem d_M_nested_68 : decode b_M_nested 68 = .ok (.iconst 0, 1) := by decide +kernel
theorem d_M_nested_69 : decode b_M_nested 69 = .ok (.istore_n 1, 1) := by decide +kernel
theorem d_M_nested_70 : decode b_M_nested 70 = .ok (.bipush 7, 2) := by decide +kernel
theorem d_M_nested_72 : decode b_M_nested 72 = .ok (.istore_n 2, 1) := by decide +kernel
theorem d_M_nested_73 : decode b_M_nested 73 = .ok (.aload_n 0, 1) := by decide +kernel
theorem d_M_nested_74 : decode b_M_nested 74 = .ok (.getfield 7, 3) := by decide +kernel
theorem d_M_nested_77 : decode b_M_nested 77 = .ok (.iload_n 1, 1) := by decide +kernel
theorem d_M_nested_78 : decode b_M_nested 78 = .ok (.baload, 1) := by decide +kernel
theorem d_M_nested_79 : decode b_M_nested 79 = .ok (.ifCond .ne 9, 3) := by decide +kernel
theorem d_M_nested_82 : decode b_M_nested 82 = .ok (.iinc 1 1, 3) := by decide +kernel
theorem d_M_nested_85 : decode b_M_nested 85 = .ok (.goto (-12), 3) := by decide +kernel
theorem d_M_nested_88 : decode b_M_nested 88 = .ok (.aload_n 0, 1) := by decide +kernel
theorem d_M_nested_89 : decode b_M_nested 89 = .ok (.getfield 7, 3) := by decide +kernel
theorem d_M_nested_92 : decode b_M_nested 92 = .ok (.iload_n 2, 1) := by decide +kernel
theorem d_M_nested_93 : decode b_M_nested 93 = .ok (.baload, 1) := by decide +kernel
theorem d_M_nested_94 : decode b_M_nested 94 = .ok (.ifCond .ne 9, 3) := by decide +kernel
theorem d_M_nested_97 : decode b_M_nested 97 = .ok (.iinc 2 (-1), 3) := by decide +kernel
theorem d_M_nested_100 : decode b_M_nested 100 = .ok (.goto (-12), 3) := by decide +kernel
theorem d_M_nested_103 : decode b_M_nested 103 = .ok (.iconst 1, 1) := by decide +kernel
theorem d_M_nested_104 : decode b_M_nested 104 = .ok (.istore_n 3, 1) := by decide +kernel
theorem d_M_nested_105 : decode b_M_nested 105 = .ok (.iload_n 3, 1) := by decide +kernel
theorem d_M_nested_106 : decode b_M_nested 106 = .ok (.iload_n 2, 1) := by decide +kernel
theorem d_M_nested_107 : decode b_M_nested 107 = .ok (.iload_n 1, 1) := by decide +kernel
theorem d_M_nested_108 : decode b_M_nested 108 = .ok (.isub, 1) := by decide +kernel
theorem d_M_nested_109 : decode b_M_nested 109 = .ok (.iconst 1, 1) := by decide +kernel
theorem d_M_nested_110 : decode b_M_nested 110 = .ok (.iadd, 1) := by decide +kernel
theorem d_M_nested_111 : decode b_M_nested 111 = .ok (.if_icmp .gt 191, 3) := by decide +kernel
theorem d_M_nested_114 : decode b_M_nested 114 = .ok (.iload_n 1, 1) := by decide +kernel
theorem d_M_nested_115 : decode b_M_nested 115 = .ok (.istore 4, 2) := by decide +kernel
theorem d_M_nested_117 : decode b_M_nested 117 = .ok (.iload 4, 2) := by decide +kernel
theorem d_M_nested_119 : decode b_M_nested 119 = .ok (.iload_n 3, 1) := by decide +kernel
theorem d_M_nested_120 : decode b_M_nested 120 = .ok (.iadd, 1) := by decide +kernel
theorem d_M_nested_121 : decode b_M_nested 121 = .ok (.iconst 1, 1) := by decide +kernel
theorem d_M_nested_122 : decode b_M_nested 122 = .ok (.isub, 1) := by decide +kernel
theorem d_M_nested_123 : decode b_M_nested 123 = .ok (.iload_n 2, 1) := by decide +kernel
theorem d_M_nested_124 : decode b_M_nested 124 = .ok (.if_icmp .gt 172, 3) := by decide +kernel
theorem d_M_nested_127 : decode b_M_nested 127 = .ok (.iload 4, 2) := by decide +kernel
theorem d_M_nested_129 : decode b_M_nested 129 = .ok (.iload_n 3, 1) := by decide +kernel
theorem d_M_nested_130 : decode b_M_nested 130 = .ok (.iadd, 1) := by decide +kernel
theorem d_M_nested_131 : decode b_M_nested 131 = .ok (.iconst 1, 1) := by decide +kernel
theorem d_M_nested_132 : decode b_M_nested 132 = .ok (.isub, 1) := by decide +kernel
theorem d_M_nested_133 : decode b_M_nested 133 = .ok (.istore 5, 2) := by decide +kernel
theorem d_M_nested_135 : decode b_M_nested 135 = .ok (.iconst (-1), 1) := by decide +kernel
theorem d_M_nested_136 : decode b_M_nested 136 = .ok (.istore 6, 2) := by decide +kernel
theorem d_M_nested_138 : decode b_M_nested 138 = .ok (.iload 4, 2) := by decide +kernel
theorem d_M_nested_140 : decode b_M_nested 140 = .ok (.istore 7, 2) := by decide +kernel
theorem d_M_nested_142 : decode b_M_nested 142 = .ok (.iload 7, 2) := by decide +kernel
theorem d_M_nested_144 : decode b_M_nested 144 = .ok (.iload 5, 2) := by decide +kernel
theorem d_M_nested_146 : decode b_M_nested 146 = .ok (.if_icmp .ge 120, 3) := by decide +kernel
theorem d_M_nested_149 : decode b_M_nested 149 = .ok (.aload_n 0, 1) := by decide +kernel
theorem d_M_nested_150 : decode b_M_nested 150 = .ok (.getfield 7, 3) := by decide +kernel
theorem d_M_nested_153 : decode b_M_nested 153 = .ok (.iload 4, 2) := by decide +kernel
theorem d_M_nested_155 : decode b_M_nested 155 = .ok (.baload, 1) := by decide +kernel
theorem d_M_nested_156 : decode b_M_nested 156 = .ok (.ifCond .eq 110, 3) := by decide +kernel
theorem d_M_nested_159 : decode b_M_nested 159 = .ok (.aload_n 0, 1) := by decide +kernel
theorem d_M_nested_160 : decode b_M_nested 160 = .ok (.getfield 7, 3) := by decide +kernel
theorem d_M_nested_163 : decode b_M_nested 163 = .ok (.iload 5, 2) := by decide +kernel
theorem d_M_nested_165 : decode b_M_nested 165 = .ok (.baload, 1) := by decide +kernel
theorem d_M_nested_166 : decode b_M_nested 166 = .ok (.ifCond .eq 100, 3) := by decide +kernel
theorem d_M_nested_169 : decode b_M_nested 169 = .ok (.aload_n 0, 1) := by decide +kernel
theorem d_M_nested_170 : decode b_M_nested 170 = .ok (.getfield 7, 3) := by decide +kernel
theorem d_M_nested_173 : decode b_M_nested 173 = .ok (.iload 7, 2) := by decide +kernel
theorem d_M_nested_175 : decode b_M_nested 175 = .ok (.baload, 1) := by decide +kernel
theorem d_M_nested_176 : decode b_M_nested 176 = .ok (.ifCond .ne 6, 3) := by decide +kernel
theorem d_M_nested_179 : decode b_M_nested 179 = .ok (.goto 81, 3) := by decide +kernel
theorem d_M_nested_182 : decode b_M_nested 182 = .ok (.iload 7, 2) := by decide +kernel
theorem d_M_nested_184 : decode b_M_nested 184 = .ok (.iconst 1, 1) := by decide +kernel
theorem d_M_nested_185 : decode b_M_nested 185 = .ok (.iadd, 1) := by decide +kernel
theorem d_M_nested_186 : decode b_M_nested 186 = .ok (.istore 8, 2) := by decide +kernel
theorem d_M_nested_188 : decode b_M_nested 188 = .ok (.aload_n 0, 1) := by decide +kernel
theorem d_M_nested_189 : decode b_M_nested 189 = .ok (.getfield 7, 3) := by decide +kernel
theorem d_M_nested_192 : decode b_M_nested 192 = .ok (.iload 8, 2) := by decide +kernel
theorem d_M_nested_194 : decode b_M_nested 194 = .ok (.baload, 1) := by decide +kernel
theorem d_M_nested_195 : decode b_M_nested 195 = .ok (.ifCond .ne 9, 3) := by decide +kernel
theorem d_M_nested_198 : decode b_M_nested 198 = .ok (.iinc 8 1, 3) := by decide +kernel
theorem d_M_nested_201 : decode b_M_nested 201 = .ok (.goto (-13), 3) := by decide +kernel
theorem d_M_nested_204 : decode b_M_nested 204 = .ok (.aload_n 0, 1) := by decide +kernel
theorem d_M_nested_205 : decode b_M_nested 205 = .ok (.getfield 72, 3) := by decide +kernel
theorem d_M_nested_208 : decode b_M_nested 208 = .ok (.iload 4, 2) := by decide +kernel
theorem d_M_nested_210 : decode b_M_nested 210 = .ok (.bipush 8, 2) := by decide +kernel
theorem d_M_nested_212 : decode b_M_nested 212 = .ok (.imul, 1) := by decide +kernel
theorem d_M_nested_213 : decode b_M_nested 213 = .ok (.iload 7, 2) := by decide +kernel
theorem d_M_nested_215 : decode b_M_nested 215 = .ok (.iadd, 1) := by decide +kernel
theorem d_M_nested_216 : decode b_M_nested 216 = .ok (.iaload, 1) := by decide +kernel
theorem d_M_nested_217 : decode b_M_nested 217 = .ok (.aload_n 0, 1) := by decide +kernel
theorem d_M_nested_218 : decode b_M_nested 218 = .ok (.getfield 72, 3) := by decide +kernel
theorem d_M_nested_221 : decode b_M_nested 221 = .ok (.iload 8, 2) := by decide +kernel
theorem d_M_nested_223 : decode b_M_nested 223 = .ok (.bipush 8, 2) := by decide +kernel
theorem d_M_nested_225 : decode b_M_nested 225 = .ok (.imul, 1) := by decide +kernel
theorem d_M_nested_226 : decode b_M_nested 226 = .ok (.iload 5, 2) := by decide +kernel
theorem d_M_nested_228 : decode b_M_nested 228 = .ok (.iadd, 1) := by decide +kernel
theorem d_M_nested_229 : decode b_M_nested 229 = .ok (.iaload, 1) := by decide +kernel
theorem d_M_nested_230 : decode b_M_nested 230 = .ok (.iadd, 1) := by decide +kernel
theorem d_M_nested_231 : decode b_M_nested 231 = .ok (.aload_n 0, 1) := by decide +kernel
theorem d_M_nested_232 : decode b_M_nested 232 = .ok (.iload 4, 2) := by decide +kernel
theorem d_M_nested_234 : decode b_M_nested 234 = .ok (.iload 7, 2) := by decide +kernel
theorem d_M_nested_236 : decode b_M_nested 236 = .ok (.iload 5, 2) := by decide +kernel
theorem d_M_nested_238 : decode b_M_nested 238 = .ok (.invokevirtual 135, 3) := by decide +kernel
theorem d_M_nested_241 : decode b_M_nested 241 = .ok (.iadd, 1) := by decide +kernel
theorem d_M_nested_242 : decode b_M_nested 242 = .ok (.istore 9, 2) := by decide +kernel
theorem d_M_nested_244 : decode b_M_nested 244 = .ok (.iload 6, 2) := by decide +kernel
theorem d_M_nested_246 : decode b_M_nested 246 = .ok (.ifCond .lt 10, 3) := by decide +kernel
theorem d_M_nested_249 : decode b_M_nested 249 = .ok (.iload 9, 2) := by decide +kernel
theorem d_M_nested_251 : decode b_M_nested 251 = .ok (.iload 6, 2) := by decide +kernel
theorem d_M_nested_253 : decode b_M_nested 253 = .ok (.if_icmp .ge 7, 3) := by decide +kernel
theorem d_M_nested_256 : decode b_M_nested 256 = .ok (.iload 9, 2) := by decide +kernel
theorem d_M_nested_258 : decode b_M_nested 258 = .ok (.istore 6, 2) := by decide +kernel
theorem d_M_nested_260 : decode b_M_nested 260 = .ok (.iinc 7 1, 3) := by decide +kernel
theorem d_M_nested_263 : decode b_M_nested 263 = .ok (.goto (-121), 3) := by decide +kernel
theorem d_M_nested_266 : decode b_M_nested 266 = .ok (.aload_n 0, 1) := by decide +kernel
theorem d_M_nested_267 : decode b_M_nested 267 = .ok (.getfield 72, 3) := by decide +kernel
theorem d_M_nested_270 : decode b_M_nested 270 = .ok (.iload 4, 2) := by decide +kernel
theorem d_M_nested_272 : decode b_M_nested 272 = .ok (.bipush 8, 2) := by decide +kernel
theorem d_M_nested_274 : decode b_M_nested 274 = .ok (.imul, 1) := by decide +kernel
theorem d_M_nested_275 : decode b_M_nested 275 = .ok (.iload 5, 2) := by decide +kernel
theorem d_M_nested_277 : decode b_M_nested 277 = .ok (.iadd, 1) := by decide +kernel
theorem d_M_nested_278 : decode b_M_nested 278 = .ok (.iload 6, 2) := by decide +kernel
theorem d_M_nested_280 : decode b_M_nested 280 = .ok (.ifCond .ge 7, 3) := by decide +kernel
theorem d_M_nested_283 : decode b_M_nested 283 = .ok (.iconst 0, 1) := by decide +kernel
theorem d_M_nested_284 : decode b_M_nested 284 = .ok (.goto 5, 3) := by decide +kernel
theorem d_M_nested_287 : decode b_M_nested 287 = .ok (.iload 6, 2) := by decide +kernel
theorem d_M_nested_289 : decode b_M_nested 289 = .ok (.iastore, 1) := by decide +kernel
theorem d_M_nested_290 : decode b_M_nested 290 = .ok (.iinc 4 1, 3) := by decide +kernel
theorem d_M_nested_293 : decode b_M_nested 293 = .ok (.goto (-176), 3) := by decide +kernel
theorem d_M_nested_296 : decode b_M_nested 296 = .ok (.iinc 3 1, 3) := by decide +kernel
theorem d_M_nested_299 : decode b_M_nested 299 = .ok (.goto (-194), 3) := by decide +kernel
theorem d_M_nested_302 : decode b_M_nested 302 = .ok (.aload_n 0, 1) := by decide +kernel
theorem d_M_nested_303 : decode b_M_nested 303 = .ok (.getfield 72, 3) := by decide +kernel
theorem d_M_nested_306 : decode b_M_nested 306 = .ok (.iload_n 1, 1) := by decide +kernel
theorem d_M_nested_307 : decode b_M_nested 307 = .ok (.bipush 8, 2) := by decide +kernel
theorem d_M_nested_309 : decode b_M_nested 309 = .ok (.imul, 1) := by decide +kernel
theorem d_M_nested_310 : decode b_M_nested 310 = .ok (.iload_n 2, 1) := by decide +kernel
theorem d_M_nested_311 : decode b_M_nested 311 = .ok (.iadd, 1) := by decide +kernel
theorem d_M_nested_312 : decode b_M_nested 312 = .ok (.iaload, 1) := by decide +kernel
theorem d_M_nested_313 : decode b_M_nested 313 = .ok (.ireturn, 1) := by decide +kernel
theorem d_M_latest_0 : decode b_M_latest 0 = .ok (.aload_n 0, 1) := by decide +kernel
theorem d_M_latest_1 : decode b_M_latest 1 = .ok (.iload_n 1, 1) := by decide +kernel
theorem d_M_latest_2 : decode b_M_latest 2 = .ok (.invokevirtual 79, 3) := by decide +kernel
theorem d_M_latest_5 : decode b_M_latest 5 = .ok (.ifCond .eq 10, 3) := by decide +kernel
theorem d_M_latest_8 : decode b_M_latest 8 = .ok (.aload_n 0, 1) := by decide +kernel
theorem d_M_latest_9 : decode b_M_latest 9 = .ok (.getfield 75, 3) := by decide +kernel
theorem d_M_latest_12 : decode b_M_latest 12 = .ok (.ifCond .ne 9, 3) := by decide +kernel
theorem d_M_latest_15 : decode b_M_latest 15 = .ok (.ldc2_w 139, 3) := by decide +kernel
theorem d_M_latest_18 : decode b_M_latest 18 = .ok (.goto 10, 3) := by decide +kernel
theorem d_M_latest_21 : decode b_M_latest 21 = .ok (.aload_n 0, 1) := by decide +kernel
theorem d_M_latest_22 : decode b_M_latest 22 = .ok (.getfield 66, 3) := by decide +kernel
theorem d_M_latest_25 : decode b_M_latest 25 = .ok (.iload_n 1, 1) := by decide +kernel
theorem d_M_latest_26 : decode b_M_latest 26 = .ok (.iaload, 1) := by decide +kernel
theorem d_M_latest_27 : decode b_M_latest 27 = .ok (.i2l, 1) := by decide +kernel
theorem d_M_latest_28 : decode b_M_latest 28 = .ok (.lreturn, 1) := by decide +kernel
theorem d_M_token_0 : decode b_M_token 0 = .ok (.iload_n 1, 1) := by decide +kernel
theorem d_M_token_1 : decode b_M_token 1 = .ok (.ifCond .lt 32, 3) := by decide +kernel
theorem d_M_token_4 : decode b_M_token 4 = .ok (.iload_n 1, 1) := by decide +kernel
theorem d_M_token_5 : decode b_M_token 5 = .ok (.aload_n 0, 1) := by decide +kernel
theorem d_M_token_6 : decode b_M_token 6 = .ok (.getfield 83, 3) := by decide +kernel
theorem d_M_token_9 : decode b_M_token 9 = .ok (.if_icmp .ge 24, 3) := by decide +kernel
theorem d_M_token_12 : decode b_M_token 12 = .ok (.aload_n 0, 1) := by decide +kernel
theorem d_M_token_13 : decode b_M_token 13 = .ok (.getfield 75, 3) := by decide +kernel
theorem d_M_token_16 : decode b_M_token 16 = .ok (.ifCond .eq 17, 3) := by decide +kernel
theorem d_M_token_19 : decode b_M_token 19 = .ok (.iload_n 2, 1) := by decide +kernel
theorem d_M_token_20 : decode b_M_token 20 = .ok (.ifCond .lt 13, 3) := by decide +kernel
theorem d_M_token_23 : decode b_M_token 23 = .ok (.iload_n 2, 1) := by decide +kernel
theorem d_M_token_24 : decode b_M_token 24 = .ok (.aload_n 0, 1) := by decide +kernel
theorem d_M_token_25 : decode b_M_token 25 = .ok (.getfield 63, 3) := by decide +kernel
theorem d_M_token_28 : decode b_M_token 28 = .ok (.iload_n 1, 1) := by decide +kernel
theorem d_M_token_29 : decode b_M_token 29 = .ok (.iaload, 1) := by decide +kernel
theorem d_M_token_30 : decode b_M_token 30 = .ok (.if_icmp .lt 9, 3) := by decide +kernel
theorem d_M_token_33 : decode b_M_token 33 = .ok (.ldc2_w 139, 3) := by decide +kernel
theorem d_M_token_36 : decode b_M_token 36 = .ok (.goto 16, 3) := by decide +kernel
theorem d_M_token_39 : decode b_M_token 39 = .ok (.aload_n 0, 1) := by decide +kernel
theorem d_M_token_40 : decode b_M_token 40 = .ok (.getfield 60, 3) := by decide +kernel
theorem d_M_token_43 : decode b_M_token 43 = .ok (.iload_n 1, 1) := by decide +kernel
theorem d_M_token_44 : decode b_M_token 44 = .ok (.sipush 400, 3) := by decide +kernel
theorem d_M_token_47 : decode b_M_token 47 = .ok (.imul, 1) := by decide +kernel
theorem d_M_token_48 : decode b_M_token 48 = .ok (.iload_n 2, 1) := by decide +kernel
theorem d_M_token_49 : decode b_M_token 49 = .ok (.iadd, 1) := by decide +kernel
theorem d_M_token_50 : decode b_M_token 50 = .ok (.iaload, 1) := by decide +kernel
theorem d_M_token_51 : decode b_M_token 51 = .ok (.i2l, 1) := by decide +kernel
theorem d_M_token_52 : decode b_M_token 52 = .ok (.lreturn, 1) := by decide +kernel
theorem d_M_tokens_0 : decode b_M_tokens 0 = .ok (.iload_n 1, 1) := by decide +kernel
theorem d_M_tokens_1 : decode b_M_tokens 1 = .ok (.ifCond .lt 11, 3) := by decide +kernel
theorem d_M_tokens_4 : decode b_M_tokens 4 = .ok (.iload_n 1, 1) := by decide +kernel
theorem d_M_tokens_5 : decode b_M_tokens 5 = .ok (.aload_n 0, 1) := by decide +kernel
theorem d_M_tokens_6 : decode b_M_tokens 6 = .ok (.getfield 83, 3) := by decide +kernel
theorem d_M_tokens_9 : decode b_M_tokens 9 = .ok (.if_icmp .lt 5, 3) := by decide +kernel
theorem d_M_tokens_12 : decode b_M_tokens 12 = .ok (.iconst (-1), 1) := by decide +kernel
theorem d_M_tokens_13 : decode b_M_tokens 13 = .ok (.ireturn, 1) := by decide +kernel
theorem d_M_tokens_14 : decode b_M_tokens 14 = .ok (.aload_n 0, 1) := by decide +kernel
theorem d_M_tokens_15 : decode b_M_tokens 15 = .ok (.getfield 75, 3) := by decide +kernel
theorem d_M_tokens_18 : decode b_M_tokens 18 = .ok (.ifCond .eq 12, 3) := by decide +kernel
theorem d_M_tokens_21 : decode b_M_tokens 21 = .ok (.aload_n 0, 1) := by decide +kernel
theorem d_M_tokens_22 : decode b_M_tokens 22 = .ok (.getfield 63, 3) := by decide +kernel
theorem d_M_tokens_25 : decode b_M_tokens 25 = .ok (.iload_n 1, 1) := by decide +kernel
theorem d_M_tokens_26 : decode b_M_tokens 26 = .ok (.iaload, 1) := by decide +kernel
theorem d_M_tokens_27 : decode b_M_tokens 27 = .ok (.goto 5, 3) := by decide +kernel
theorem d_M_tokens_30 : decode b_M_tokens 30 = .ok (.bipush (-4), 2) := by decide +kernel
theorem d_M_tokens_32 : decode b_M_tokens 32 = .ok (.ireturn, 1) := by decide +kernel
theorem d_M_count_0 : decode b_M_count 0 = .ok (.iload_n 1, 1) := by decide +kernel
theorem d_M_count_1 : decode b_M_count 1 = .ok (.ifCond .lt 9, 3) := by decide +kernel
theorem d_M_count_4 : decode b_M_count 4 = .ok (.iload_n 1, 1) := by decide +kernel
theorem d_M_count_5 : decode b_M_count 5 = .ok (.bipush 8, 2) := by decide +kernel
theorem d_M_count_7 : decode b_M_count 7 = .ok (.if_icmp .le 5, 3) := by decide +kernel
theorem d_M_count_10 : decode b_M_count 10 = .ok (.iconst (-1), 1) := by decide +kernel
theorem d_M_count_11 : decode b_M_count 11 = .ok (.ireturn, 1) := by decide +kernel
theorem d_M_count_12 : decode b_M_count 12 = .ok (.iconst 0, 1) := by decide +kernel
theorem d_M_count_13 : decode b_M_count 13 = .ok (.istore_n 2, 1) := by decide +kernel
theorem d_M_count_14 : decode b_M_count 14 = .ok (.iload_n 1, 1) := by decide +kernel
theorem d_M_count_15 : decode b_M_count 15 = .ok (.iconst 2, 1) := by decide +kernel
theorem d_M_count_16 : decode b_M_count 16 = .ok (.if_icmp .ne 45, 3) := by decide +kernel
theorem d_M_count_19 : decode b_M_count 19 = .ok (.aload_n 0, 1) := by decide +kernel
theorem d_M_count_20 : decode b_M_count 20 = .ok (.aload_n 0, 1) := by decide +kernel
theorem d_M_count_21 : decode b_M_count 21 = .ok (.getfield 83, 3) := by decide +kernel
theorem d_M_count_24 : decode b_M_count 24 = .ok (.invokevirtual 111, 3) := by decide +kernel
theorem d_M_count_27 : decode b_M_count 27 = .ok (.istore_n 3, 1) := by decide +kernel
theorem d_M_count_28 : decode b_M_count 28 = .ok (.iconst 0, 1) := by decide +kernel
theorem d_M_count_29 : decode b_M_count 29 = .ok (.istore 4, 2) := by decide +kernel
theorem d_M_count_31 : decode b_M_count 31 = .ok (.iload 4, 2) := by decide +kernel
theorem d_M_count_33 : decode b_M_count 33 = .ok (.bipush 8, 2) := by decide +kernel
theorem d_M_count_35 : decode b_M_count 35 = .ok (.if_icmp .ge 24, 3) := by decide +kernel
theorem d_M_count_38 : decode b_M_count 38 = .ok (.aload_n 0, 1) := by decide +kernel
theorem d_M_count_39 : decode b_M_count 39 = .ok (.getfield 42, 3) := by decide +kernel
theorem d_M_count_42 : decode b_M_count 42 = .ok (.iload 4, 2) := by decide +kernel
theorem d_M_count_44 : decode b_M_count 44 = .ok (.iaload, 1) := by decide +kernel
theorem d_M_count_45 : decode b_M_count 45 = .ok (.iload 4, 2) := by decide +kernel
theorem d_M_count_47 : decode b_M_count 47 = .ok (.if_icmp .ne 6, 3) := by decide +kernel
theorem d_M_count_50 : decode b_M_count 50 = .ok (.iinc 2 1, 3) := by decide +kernel
theorem d_M_count_53 : decode b_M_count 53 = .ok (.iinc 4 1, 3) := by decide +kernel
theorem d_M_count_56 : decode b_M_count 56 = .ok (.goto (-25), 3) := by decide +kernel
theorem d_M_count_59 : decode b_M_count 59 = .ok (.iload_n 2, 1) := by decide +kernel
theorem d_M_count_60 : decode b_M_count 60 = .ok (.ireturn, 1) := by decide +kernel
theorem d_M_count_61 : decode b_M_count 61 = .ok (.iconst 0, 1) := by decide +kernel
theorem d_M_count_62 : decode b_M_count 62 = .ok (.istore_n 3, 1) := by decide +kernel
theorem d_M_count_63 : decode b_M_count 63 = .ok (.iload_n 3, 1) := by decide +kernel
theorem d_M_count_64 : decode b_M_count 64 = .ok (.bipush 8, 2) := by decide +kernel
theorem d_M_count_66 : decode b_M_count 66 = .ok (.if_icmp .ge 21, 3) := by decide +kernel
theorem d_M_count_69 : decode b_M_count 69 = .ok (.aload_n 0, 1) := by decide +kernel
theorem d_M_count_70 : decode b_M_count 70 = .ok (.getfield 7, 3) := by decide +kernel
theorem d_M_count_73 : decode b_M_count 73 = .ok (.iload_n 3, 1) := by decide +kernel
theorem d_M_count_74 : decode b_M_count 74 = .ok (.baload, 1) := by decide +kernel
theorem d_M_count_75 : decode b_M_count 75 = .ok (.ifCond .eq 6, 3) := by decide +kernel
theorem d_M_count_78 : decode b_M_count 78 = .ok (.iinc 2 1, 3) := by decide +kernel
theorem d_M_count_81 : decode b_M_count 81 = .ok (.iinc 3 1, 3) := by decide +kernel
theorem d_M_count_84 : decode b_M_count 84 = .ok (.goto (-21), 3) := by decide +kernel
theorem d_M_count_87 : decode b_M_count 87 = .ok (.iload_n 1, 1) := by decide +kernel
theorem d_M_count_88 : decode b_M_count 88 = .ok (.iconst 2, 1) := by decide +kernel
theorem d_M_count_89 : decode b_M_count 89 = .ok (.if_icmp .ge 16, 3) := by decide +kernel
theorem d_M_count_92 : decode b_M_count 92 = .ok (.iload_n 1, 1) := by decide +kernel
theorem d_M_count_93 : decode b_M_count 93 = .ok (.ifCond .ne 7, 3) := by decide +kernel
theorem d_M_count_96 : decode b_M_count 96 = .ok (.iload_n 2, 1) := by decide +kernel
theorem d_M_count_97 : decode b_M_count 97 = .ok (.goto 7, 3) := by decide +kernel
theorem d_M_count_100 : decode b_M_count 100 = .ok (.aload_n 0, 1) := by decide +kernel
theorem d_M_count_101 : decode b_M_count 101 = .ok (.getfield 83, 3) := by decide +kernel
theorem d_M_count_104 : decode b_M_count 104 = .ok (.ireturn, 1) := by decide +kernel
theorem d_M_count_105 : decode b_M_count 105 = .ok (.aload_n 0, 1) := by decide +kernel
theorem d_M_count_106 : decode b_M_count 106 = .ok (.getfield 75, 3) := by decide +kernel
theorem d_M_count_109 : decode b_M_count 109 = .ok (.ifCond .ne 5, 3) := by decide +kernel
theorem d_M_count_112 : decode b_M_count 112 = .ok (.iconst 0, 1) := by decide +kernel
theorem d_M_count_113 : decode b_M_count 113 = .ok (.ireturn, 1) := by decide +kernel
theorem d_M_count_114 : decode b_M_count 114 = .ok (.iload_n 1, 1) := by decide +kernel
theorem d_M_count_115 : decode b_M_count 115 = .ok (.iconst 3, 1) := by decide +kernel
theorem d_M_count_116 : decode b_M_count 116 = .ok (.if_icmp .ne 5, 3) := by decide +kernel
theorem d_M_count_119 : decode b_M_count 119 = .ok (.iconst 1, 1) := by decide +kernel
theorem d_M_count_120 : decode b_M_count 120 = .ok (.ireturn, 1) := by decide +kernel
theorem d_M_count_121 : decode b_M_count 121 = .ok (.iload_n 1, 1) := by decide +kernel
theorem d_M_count_122 : decode b_M_count 122 = .ok (.iconst 4, 1) := by decide +kernel
theorem d_M_count_123 : decode b_M_count 123 = .ok (.if_icmp .ne 8, 3) := by decide +kernel
theorem d_M_count_126 : decode b_M_count 126 = .ok (.aload_n 0, 1) := by decide +kernel
theorem d_M_count_127 : decode b_M_count 127 = .ok (.getfield 108, 3) := by decide +kernel
theorem d_M_count_130 : decode b_M_count 130 = .ok (.ireturn, 1) := by decide +kernel
theorem d_M_count_131 : decode b_M_count 131 = .ok (.iload_n 1, 1) := by decide +kernel
theorem d_M_count_132 : decode b_M_count 132 = .ok (.bipush 7, 2) := by decide +kernel
theorem d_M_count_134 : decode b_M_count 134 = .ok (.if_icmp .ne 8, 3) := by decide +kernel
theorem d_M_count_137 : decode b_M_count 137 = .ok (.aload_n 0, 1) := by decide +kernel
theorem d_M_count_138 : decode b_M_count 138 = .ok (.getfield 118, 3) := by decide +kernel
theorem d_M_count_141 : decode b_M_count 141 = .ok (.ireturn, 1) := by decide +kernel
theorem d_M_count_142 : decode b_M_count 142 = .ok (.iconst 0, 1) := by decide +kernel
theorem d_M_count_143 : decode b_M_count 143 = .ok (.istore_n 2, 1) := by decide +kernel
theorem d_M_count_144 : decode b_M_count 144 = .ok (.iconst 0, 1) := by decide +kernel
theorem d_M_count_145 : decode b_M_count 145 = .ok (.istore_n 3, 1) := by decide +kernel
theorem d_M_count_146 : decode b_M_count 146 = .ok (.iload_n 1, 1) := by decide +kernel
theorem d_M_count_147 : decode b_M_count 147 = .ok (.iconst 5, 1) := by decide +kernel
theorem d_M_count_148 : decode b_M_count 148 = .ok (.if_icmp .ne 41, 3) := by decide +kernel
theorem d_M_count_151 : decode b_M_count 151 = .ok (.iload_n 3, 1) := by decide +kernel
theorem d_M_count_152 : decode b_M_count 152 = .ok (.aload_n 0, 1) := by decide +kernel
theorem d_M_count_153 : decode b_M_count 153 = .ok (.getfield 108, 3) := by decide +kernel
theorem d_M_count_156 : decode b_M_count 156 = .ok (.if_icmp .ge 33, 3) := by decide +kernel
theorem d_M_count_159 : decode b_M_count 159 = .ok (.iload_n 3, 1) := by decide +kernel
theorem d_M_count_160 : decode b_M_count 160 = .ok (.ifCond .eq 20, 3) := by decide +kernel
theorem d_M_count_163 : decode b_M_count 163 = .ok (.aload_n 0, 1) := by decide +kernel
theorem d_M_count_164 : decode b_M_count 164 = .ok (.getfield 51, 3) := by decide +kernel
theorem d_M_count_167 : decode b_M_count 167 = .ok (.iload_n 3, 1) := by decide +kernel
theorem d_M_count_168 : decode b_M_count 168 = .ok (.iaload, 1) := by decide +kernel
theorem d_M_count_169 : decode b_M_count 169 = .ok (.aload_n 0, 1) := by decide +kernel
theorem d_M_count_170 : decode b_M_count 170 = .ok (.getfield 51, 3) := by decide +kernel
theorem d_M_count_173 : decode b_M_count 173 = .ok (.iload_n 3, 1) := by decide +kernel
theorem d_M_count_174 : decode b_M_count 174 = .ok (.iconst 1, 1) := by decide +kernel
theorem d_M_count_175 : decode b_M_count 175 = .ok (.isub, 1) := by decide +kernel
theorem d_M_count_176 : decode b_M_count 176 = .ok (.iaload, 1) := by decide +kernel
theorem d_M_count_177 : decode b_M_count 177 = .ok (.if_icmp .eq 6, 3) := by decide +kernel
theorem d_M_count_180 : decode b_M_count 180 = .ok (.iinc 2 1, 3) := by decide +kernel
theorem d_M_count_183 : decode b_M_count 183 = .ok (.iinc 3 1, 3) := by decide +kernel
theorem d_M_count_186 : decode b_M_count 186 = .ok (.goto (-40), 3) := by decide +kernel
theorem d_M_count_189 : decode b_M_count 189 = .ok (.iconst 0, 1) := by decide +kernel
theorem d_M_count_190 : decode b_M_count 190 = .ok (.istore_n 3, 1) := by decide +kernel
theorem d_M_count_191 : decode b_M_count 191 = .ok (.iload_n 1, 1) := by decide +kernel
theorem d_M_count_192 : decode b_M_count 192 = .ok (.iconst 5, 1) := by decide +kernel
theorem d_M_count_193 : decode b_M_count 193 = .ok (.if_icmp .le 41, 3) := by decide +kernel
theorem d_M_count_196 : decode b_M_count 196 = .ok (.iload_n 3, 1) := by decide +kernel
theorem d_M_count_197 : decode b_M_count 197 = .ok (.aload_n 0, 1) := by decide +kernel
theorem d_M_count_198 : decode b_M_count 198 = .ok (.getfield 83, 3) := by decide +kernel
theorem d_M_count_201 : decode b_M_count 201 = .ok (.if_icmp .ge 33, 3) := by decide +kernel
theorem d_M_count_204 : decode b_M_count 204 = .ok (.iload_n 2, 1) := by decide +kernel
theorem d_M_count_205 : decode b_M_count 205 = .ok (.iload_n 1, 1) := by decide +kernel
theorem d_M_count_206 : decode b_M_count 206 = .ok (.bipush 6, 2) := by decide +kernel
theorem d_M_count_208 : decode b_M_count 208 = .ok (.if_icmp .ne 12, 3) := by decide +kernel
theorem d_M_count_211 : decode b_M_count 211 = .ok (.aload_n 0, 1) := by decide +kernel
theorem d_M_count_212 : decode b_M_count 212 = .ok (.getfield 54, 3) := by decide +kernel
theorem d_M_count_215 : decode b_M_count 215 = .ok (.iload_n 3, 1) := by decide +kernel
theorem d_M_count_216 : decode b_M_count 216 = .ok (.iaload, 1) := by decide +kernel
theorem d_M_count_217 : decode b_M_count 217 = .ok (.goto 9, 3) := by decide +kernel
theorem d_M_count_220 : decode b_M_count 220 = .ok (.aload_n 0, 1) := by decide +kernel
theorem d_M_count_221 : decode b_M_count 221 = .ok (.getfield 63, 3) := by decide +kernel
theorem d_M_count_224 : decode b_M_count 224 = .ok (.iload_n 3, 1) := by decide +kernel
theorem d_M_count_225 : decode b_M_count 225 = .ok (.iaload, 1) := by decide +kernel
theorem d_M_count_226 : decode b_M_count 226 = .ok (.iadd, 1) := by decide +kernel
theorem d_M_count_227 : decode b_M_count 227 = .ok (.istore_n 2, 1) := by decide +kernel
theorem d_M_count_228 : decode b_M_count 228 = .ok (.iinc 3 1, 3) := by decide +kernel
theorem d_M_count_231 : decode b_M_count 231 = .ok (.goto (-40), 3) := by decide +kernel
theorem d_M_count_234 : decode b_M_count 234 = .ok (.iload_n 2, 1) := by decide +kernel
theorem d_M_count_235 : decode b_M_count 235 = .ok (.ireturn, 1) := by decide +kernel
end
section
def C_isWithin (x0 : Int32) (x1 : Int32) (x2 : Int32) : Option (Int32) :=
  if x0 < x1 then
  (some 0) else
  (if x2 < x0 then
  (some 0) else
  (some 1))
abbrev rm_C_isWithin : Room := { frames := 0, cells := 0, slots := 0, locals := 0 }
set_option maxRecDepth 100000 in
set_option maxHeartbeats 4000000 in
theorem ac_C_isWithin {l : Launch} {D : va_G} {cc : Nat → ClassId} {al : Nat → Nat → Nat} {σ : ST} {h0 h : AH} {x0 : Int32} {x1 : Int32} {x2 : Int32} {res : Int32}  (hG : SW dmC (cfC cc) al σ h0 h) (E : C_isWithin x0 x1 x2 = some res) : AC l D vwCl (tysOf cc) NN y_G_isWithin (Cond.code y_G_isWithin b_G_isWithin 3 (some .boolean) :: TT) rm_C_isWithin [.int x0, .int x1, .int x2] h (fun rv h' => rv = some (.int res) ∧ SW dmC (cfC cc) al σ h0 h') := by
  refine AC.of (by decide) rfl (Nat.le_of_ble_eq_true rfl) (fun X M hR hI => ?_)
  unfold C_isWithin at E
  refine ax_lv (lv' := [(0, .int x0), (1, .int x1), (2, .int x2)]) [0, 1, 2] rfl ?_
  refine ax_iload_n M d_G_isWithin_0 0 rfl ?_
  refine ax_iload_n M d_G_isWithin_1 1 rfl ?_
  refine ax_icmp_lt (tgt := 14) M d_G_isWithin_2 (by decide) (fun c1 => ?_) (fun c1 => ?_)
  · have E := ob_t E c1
    refine ax_iconst (v := 0) M d_G_isWithin_14 (by decide) ?_
    obtain rfl := Option.some.inj E
    exact ax_zret M hR rfl (by decide) (by decide) d_G_isWithin_15 ⟨rfl, hG⟩
  · have E := ob_f E c1
    refine ax_iload_n M d_G_isWithin_5 0 rfl ?_
    refine ax_iload_n M d_G_isWithin_6 2 rfl ?_
    refine ax_icmp_gt (tgt := 14) M d_G_isWithin_7 (by decide) (fun c2 => ?_) (fun c2 => ?_)
    · have E := ob_t E c2
      refine ax_iconst (v := 0) M d_G_isWithin_14 (by decide) ?_
      obtain rfl := Option.some.inj E
      exact ax_zret M hR rfl (by decide) (by decide) d_G_isWithin_15 ⟨rfl, hG⟩
    · have E := ob_f E c2
      refine ax_iconst (v := 1) M d_G_isWithin_10 (by decide) ?_
      refine ax_goto (tgt := 15) M d_G_isWithin_11 (by decide) ?_
      obtain rfl := Option.some.inj E
      exact ax_zret M hR rfl (by decide) (by decide) d_G_isWithin_15 ⟨rfl, hG⟩
def C_actor (σ : ST) (x1 : Int32) (x2 : Int32) (x3 : Int32) : Option (Int32 × ST) :=
  (C_isWithin x1 0 7).bind (fun b1 => 
  (if b1 = 0 then
  (some ((-1, σ))) else
  ((C_isWithin x2 0 3).bind (fun b2 => 
  (if b2 = 0 then
  (some ((-1, σ))) else
  (if inb x1 8 then 
  (some ((0, su (su (su (su σ 1 (ix x1) 0 1) 1 (ix x1) 1 x2) 1 (ix x1) 2 x3) 0 0 8 0))) else none))))))
abbrev rm_C_actor : Room := { frames := 1, cells := 0, slots := 0, locals := 22 }
set_option maxRecDepth 100000 in
set_option maxHeartbeats 4000000 in
theorem ac_C_actor {l : Launch} {D : va_G} {cc : Nat → ClassId} {al : Nat → Nat → Nat} {σ : ST} {h0 h : AH} {x1 : Int32} {x2 : Int32} {x3 : Int32} {res : Int32 × ST}  (hG : SW dmC (cfC cc) al σ h0 h) (E : C_actor σ x1 x2 x3 = some res) : AC l D vwCl (tysOf cc) NN y_G_actor (Cond.code y_G_actor b_G_actor 5 (some .int) :: TT) rm_C_actor [.ref (al 0 0), .int x1, .int x2, .int x3] h (fun rv h' => rv = some (.int res.1) ∧ SW dmC (cfC cc) al res.2 h0 h') := by
  refine AC.of (by decide) rfl (Nat.le_of_ble_eq_true rfl) (fun X M hR hI => ?_)
  unfold C_actor at E
  refine ax_lv (lv' := [(0, .ref (al 0 0)), (1, .int x1), (2, .int x2), (3, .int x3)]) [0, 1, 2, 3] rfl ?_
  refine ax_iload_n M d_G_actor_0 1 rfl ?_
  refine ax_iconst (v := 0) M d_G_actor_1 (by decide) ?_
  refine ax_bipush (v := 7) M d_G_actor_2 (by decide) ?_
  obtain ⟨b1, e1, E⟩ := ob_b E
  refine ax_callS (n := 3) M TT_good (ac_C_isWithin hG e1) lm_G_35 (by decide) (by decide) rfl rfl (Nat.le_of_ble_eq_true rfl) d_G_actor_4 (by decide) (c1 := 0) (s1 := 0) (by decide) (ax_ret_i (fun h hG => ?_))
  refine ax_if_eq (tgt := 19) M d_G_actor_7 (by decide) (fun c1 => ?_) (fun c1 => ?_)
  · have E := ob_t E c1
    refine ax_iconst (v := (-1)) M d_G_actor_19 (by decide) ?_
    obtain rfl := Option.some.inj E
    exact ax_iret M hR (by decide) (by decide) d_G_actor_20 ⟨rfl, hG⟩
  · have E := ob_f E c1
    refine ax_iload_n M d_G_actor_10 2 rfl ?_
    refine ax_iconst (v := 0) M d_G_actor_11 (by decide) ?_
    refine ax_iconst (v := 3) M d_G_actor_12 (by decide) ?_
    obtain ⟨b2, e2, E⟩ := ob_b E
    refine ax_callS (n := 3) M TT_good (ac_C_isWithin hG e2) lm_G_35 (by decide) (by decide) rfl rfl (Nat.le_of_ble_eq_true rfl) d_G_actor_13 (by decide) (c1 := 0) (s1 := 0) (by decide) (ax_ret_i (fun h hG => ?_))
    refine ax_if_ne (tgt := 21) M d_G_actor_16 (by decide) (fun c2 => ?_) (fun c2 => ?_)
    · have E := ob_f E c2
      refine ax_aload_n M d_G_actor_21 0 rfl ?_
      refine sw_get M hG 0 0 (by decide) in_G rfl rfl 0 (by decide) wd_152 rfl d_G_actor_22 ?_
      refine ax_iload_n M d_G_actor_25 1 rfl ?_
      obtain ⟨k1, E⟩ := ob_c E
      refine sw_aldq (g := fun e => e) M hG 4 0 (by decide) rfl 1 rfl rfl k1 d_G_actor_26 ?_
      refine ax_astore (lv' := [(0, .ref (al 0 0)), (2, .int x2), (3, .int x3), (4, .ref (al 1 (ix x1)))]) M d_G_actor_27 (by decide) [1, 3, 4, 0] rfl ?_
      refine ax_aload M d_G_actor_29 3 rfl ?_
      refine ax_iconst (v := 1) M d_G_actor_31 (by decide) ?_
      refine sw_putN M hG 1 (ix x1) (in_lt k1) in_A t_A tok_A nok_A rfl rfl 0 (by decide) wd_75 rfl rfl rfl (Nat.le_of_ble_eq_true rfl) rfl d_G_actor_32 (fun h hG => ?_)
      refine ax_aload M d_G_actor_35 3 rfl ?_
      refine ax_iload_n M d_G_actor_37 1 rfl ?_
      refine sw_putN M hG 1 (ix x1) (in_lt k1) in_A t_A tok_A nok_A rfl rfl 1 (by decide) wd_77 rfl rfl rfl (Nat.le_of_ble_eq_true rfl) rfl d_G_actor_38 (fun h hG => ?_)
      refine ax_aload M d_G_actor_41 3 rfl ?_
      refine ax_iload_n M d_G_actor_43 2 rfl ?_
      refine sw_putN M hG 1 (ix x1) (in_lt k1) in_A t_A tok_A nok_A rfl rfl 2 (by decide) wd_79 rfl rfl rfl (Nat.le_of_ble_eq_true rfl) rfl d_G_actor_44 (fun h hG => ?_)
      refine ax_aload_n M d_G_actor_47 0 rfl ?_
      refine ax_iconst (v := 0) M d_G_actor_48 (by decide) ?_
      refine sw_put M hG 0 0 (by decide) in_G t_G tok_G nok_G rfl rfl 8 (by decide) wd_160 rfl rfl rfl (Nat.le_of_ble_eq_true rfl) rfl d_G_actor_49 (fun h hG => ?_)
      refine ax_iconst (v := 0) M d_G_actor_52 (by decide) ?_
      obtain rfl := Option.some.inj E
      exact ax_iret M hR (by decide) (by decide) d_G_actor_53 ⟨rfl, hG⟩
    · have E := ob_t E c2
      refine ax_iconst (v := (-1)) M d_G_actor_19 (by decide) ?_
      obtain rfl := Option.some.inj E
      exact ax_iret M hR (by decide) (by decide) d_G_actor_20 ⟨rfl, hG⟩
def C_isActor (σ : ST) (x1 : Int32) : Option (Int32) :=
  (C_isWithin x1 0 7).bind (fun b1 => 
  (if b1 = 0 then
  (some 0) else
  (if inb x1 8 then 
  (if (gi σ 1 (ix x1) 0) = 0 then
  (some 0) else
  (some 1)) else none)))
abbrev rm_C_isActor : Room := { frames := 1, cells := 0, slots := 0, locals := 22 }
set_option maxRecDepth 100000 in
set_option maxHeartbeats 4000000 in
theorem ac_C_isActor {l : Launch} {D : va_G} {cc : Nat → ClassId} {al : Nat → Nat → Nat} {σ : ST} {h0 h : AH} {x1 : Int32} {res : Int32}  (hG : SW dmC (cfC cc) al σ h0 h) (E : C_isActor σ x1 = some res) : AC l D vwCl (tysOf cc) NN y_G_isActor (Cond.code y_G_isActor b_G_isActor 2 (some .boolean) :: TT) rm_C_isActor [.ref (al 0 0), .int x1] h (fun rv h' => rv = some (.int res) ∧ SW dmC (cfC cc) al σ h0 h') := by
  refine AC.of (by decide) rfl (Nat.le_of_ble_eq_true rfl) (fun X M hR hI => ?_)
  unfold C_isActor at E
  refine ax_lv (lv' := [(0, .ref (al 0 0)), (1, .int x1)]) [0, 1] rfl ?_
  refine ax_iload_n M d_G_isActor_0 1 rfl ?_
  refine ax_iconst (v := 0) M d_G_isActor_1 (by decide) ?_
  refine ax_bipush (v := 7) M d_G_isActor_2 (by decide) ?_
  obtain ⟨b1, e1, E⟩ := ob_b E
  refine ax_callS (n := 3) M TT_good (ac_C_isWithin hG e1) lm_G_35 (by decide) (by decide) rfl rfl (Nat.le_of_ble_eq_true rfl) d_G_isActor_4 (by decide) (c1 := 0) (s1 := 0) (by decide) (ax_ret_i (fun h hG => ?_))
  refine ax_if_eq (tgt := 26) M d_G_isActor_7 (by decide) (fun c1 => ?_) (fun c1 => ?_)
  · have E := ob_t E c1
    refine ax_iconst (v := 0) M d_G_isActor_26 (by decide) ?_
    obtain rfl := Option.some.inj E
    exact ax_zret M hR rfl (by decide) (by decide) d_G_isActor_27 ⟨rfl, hG⟩
  · have E := ob_f E c1
    refine ax_aload_n M d_G_isActor_10 0 rfl ?_
    refine sw_get M hG 0 0 (by decide) in_G rfl rfl 0 (by decide) wd_152 rfl d_G_isActor_11 ?_
    refine ax_iload_n M d_G_isActor_14 1 rfl ?_
    obtain ⟨k1, E⟩ := ob_c E
    refine sw_aldq (g := fun e => e) M hG 4 0 (by decide) rfl 1 rfl rfl k1 d_G_isActor_15 ?_
    refine sw_getN M hG 1 (ix x1) (in_lt k1) in_A rfl rfl 0 (by decide) wd_75 rfl d_G_isActor_16 ?_
    refine ax_if_eq (tgt := 26) M d_G_isActor_19 (by decide) (fun c2 => ?_) (fun c2 => ?_)
    · have E := ob_t E c2
      refine ax_iconst (v := 0) M d_G_isActor_26 (by decide) ?_
      obtain rfl := Option.some.inj E
      exact ax_zret M hR rfl (by decide) (by decide) d_G_isActor_27 ⟨rfl, hG⟩
    · have E := ob_f E c2
      refine ax_iconst (v := 1) M d_G_isActor_22 (by decide) ?_
      refine ax_goto (tgt := 27) M d_G_isActor_23 (by decide) ?_
      obtain rfl := Option.some.inj E
      exact ax_zret M hR rfl (by decide) (by decide) d_G_isActor_27 ⟨rfl, hG⟩
def C_edge (σ : ST) (x1 : Int32) (x2 : Int32) (x3 : Int32) (x4 : Int32) (x5 : Int32) : Option (Int32 × ST) :=
  (C_isActor σ x1).bind (fun b1 => 
  (if b1 = 0 then
  (some ((-1, σ))) else
  ((C_isActor σ x2).bind (fun b2 => 
  (if b2 = 0 then
  (some ((-1, σ))) else
  ((C_isWithin x3 1 6).bind (fun b3 => 
  (if b3 = 0 then
  (some ((-1, σ))) else
  ((C_isWithin x4 1 6).bind (fun b4 => 
  (if b4 = 0 then
  (some ((-1, σ))) else
  ((C_isWithin x5 0 12).bind (fun b5 => 
  (if b5 = 0 then
  (some ((-1, σ))) else
  (if (gi σ 0 0 5) < 12 then
  (if inb (gi σ 0 0 5) 12 then 
  (if ix (gi σ 5 0 (ix (gi σ 0 0 5))) < 12 then 
  (some ((((gi σ 0 0 5) + 1) - 1, su (su (su (su (su (su (su σ 2 (ix (gi σ 5 0 (ix (gi σ 0 0 5)))) 1 x1) 2 (ix (gi σ 5 0 (ix (gi σ 0 0 5)))) 2 x2) 2 (ix (gi σ 5 0 (ix (gi σ 0 0 5)))) 3 x3) 2 (ix (gi σ 5 0 (ix (gi σ 0 0 5)))) 4 x4) 2 (ix (gi σ 5 0 (ix (gi σ 0 0 5)))) 5 x5) 0 0 8 0) 0 0 5 ((gi σ 0 0 5) + 1)))) else none) else none) else
  (some ((-2, σ))))))))))))))))))
abbrev rm_C_edge : Room := { frames := 2, cells := 0, slots := 0, locals := 43 }
set_option maxRecDepth 100000 in
set_option maxHeartbeats 4000000 in
theorem ac_C_edge {l : Launch} {D : va_G} {cc : Nat → ClassId} {al : Nat → Nat → Nat} {σ : ST} {h0 h : AH} {x1 : Int32} {x2 : Int32} {x3 : Int32} {x4 : Int32} {x5 : Int32} {res : Int32 × ST}  (hG : SW dmC (cfC cc) al σ h0 h) (E : C_edge σ x1 x2 x3 x4 x5 = some res) : AC l D vwCl (tysOf cc) NN y_G_edge (Cond.code y_G_edge b_G_edge 7 (some .int) :: TT) rm_C_edge [.ref (al 0 0), .int x1, .int x2, .int x3, .int x4, .int x5] h (fun rv h' => rv = some (.int res.1) ∧ SW dmC (cfC cc) al res.2 h0 h') := by
  refine AC.of (by decide) rfl (Nat.le_of_ble_eq_true rfl) (fun X M hR hI => ?_)
  unfold C_edge at E
  refine ax_lv (lv' := [(0, .ref (al 0 0)), (1, .int x1), (2, .int x2), (3, .int x3), (4, .int x4), (5, .int x5)]) [0, 1, 2, 3, 4, 5] rfl ?_
  refine ax_aload_n M d_G_edge_0 0 rfl ?_
  refine ax_iload_n M d_G_edge_1 1 rfl ?_
  obtain ⟨b1, e1, E⟩ := ob_b E
  refine ax_callV (n := 1) (C := R_G) (q := (R_G, F_G, 9)) M TT_good rfl rfl (SW.at hG 0 0 (by decide)) (ac_C_isActor hG e1) lm_G_53 (by decide) (by decide) rfl rfl (Nat.le_of_ble_eq_true rfl) d_G_edge_2 (by decide) (c1 := 0) (s1 := 0) (by decide) (ax_ret_i (fun h hG => ?_))
  refine ax_if_eq (tgt := 16) M d_G_edge_5 (by decide) (fun c1 => ?_) (fun c1 => ?_)
  · have E := ob_t E c1
    refine ax_iconst (v := (-1)) M d_G_edge_16 (by decide) ?_
    obtain rfl := Option.some.inj E
    exact ax_iret M hR (by decide) (by decide) d_G_edge_17 ⟨rfl, hG⟩
  · have E := ob_f E c1
    refine ax_aload_n M d_G_edge_8 0 rfl ?_
    refine ax_iload_n M d_G_edge_9 2 rfl ?_
    obtain ⟨b2, e2, E⟩ := ob_b E
    refine ax_callV (n := 1) (C := R_G) (q := (R_G, F_G, 9)) M TT_good rfl rfl (SW.at hG 0 0 (by decide)) (ac_C_isActor hG e2) lm_G_53 (by decide) (by decide) rfl rfl (Nat.le_of_ble_eq_true rfl) d_G_edge_10 (by decide) (c1 := 0) (s1 := 0) (by decide) (ax_ret_i (fun h hG => ?_))
    refine ax_if_ne (tgt := 18) M d_G_edge_13 (by decide) (fun c2 => ?_) (fun c2 => ?_)
    · have E := ob_f E c2
      refine ax_iload_n M d_G_edge_18 3 rfl ?_
      refine ax_iconst (v := 1) M d_G_edge_19 (by decide) ?_
      refine ax_bipush (v := 6) M d_G_edge_20 (by decide) ?_
      obtain ⟨b3, e3, E⟩ := ob_b E
      refine ax_callS (n := 3) M TT_good (ac_C_isWithin hG e3) lm_G_35 (by decide) (by decide) rfl rfl (Nat.le_of_ble_eq_true rfl) d_G_edge_22 (by decide) (c1 := 0) (s1 := 0) (by decide) (ax_ret_i (fun h hG => ?_))
      refine ax_if_eq (tgt := 50) M d_G_edge_25 (by decide) (fun c3 => ?_) (fun c3 => ?_)
      · have E := ob_t E c3
        refine ax_iconst (v := (-1)) M d_G_edge_50 (by decide) ?_
        obtain rfl := Option.some.inj E
        exact ax_iret M hR (by decide) (by decide) d_G_edge_51 ⟨rfl, hG⟩
      · have E := ob_f E c3
        refine ax_iload M d_G_edge_28 4 rfl ?_
        refine ax_iconst (v := 1) M d_G_edge_30 (by decide) ?_
        refine ax_bipush (v := 6) M d_G_edge_31 (by decide) ?_
        obtain ⟨b4, e4, E⟩ := ob_b E
        refine ax_callS (n := 3) M TT_good (ac_C_isWithin hG e4) lm_G_35 (by decide) (by decide) rfl rfl (Nat.le_of_ble_eq_true rfl) d_G_edge_33 (by decide) (c1 := 0) (s1 := 0) (by decide) (ax_ret_i (fun h hG => ?_))
        refine ax_if_eq (tgt := 50) M d_G_edge_36 (by decide) (fun c4 => ?_) (fun c4 => ?_)
        · have E := ob_t E c4
          refine ax_iconst (v := (-1)) M d_G_edge_50 (by decide) ?_
          obtain rfl := Option.some.inj E
          exact ax_iret M hR (by decide) (by decide) d_G_edge_51 ⟨rfl, hG⟩
        · have E := ob_f E c4
          refine ax_iload M d_G_edge_39 5 rfl ?_
          refine ax_iconst (v := 0) M d_G_edge_41 (by decide) ?_
          refine ax_bipush (v := 12) M d_G_edge_42 (by decide) ?_
          obtain ⟨b5, e5, E⟩ := ob_b E
          refine ax_callS (n := 3) M TT_good (ac_C_isWithin hG e5) lm_G_35 (by decide) (by decide) rfl rfl (Nat.le_of_ble_eq_true rfl) d_G_edge_44 (by decide) (c1 := 0) (s1 := 0) (by decide) (ax_ret_i (fun h hG => ?_))
          refine ax_if_ne (tgt := 52) M d_G_edge_47 (by decide) (fun c5 => ?_) (fun c5 => ?_)
          · have E := ob_f E c5
            refine ax_aload_n M d_G_edge_52 0 rfl ?_
            refine sw_get M hG 0 0 (by decide) in_G rfl rfl 5 (by decide) wd_157 rfl d_G_edge_53 ?_
            refine ax_bipush (v := 12) M d_G_edge_56 (by decide) ?_
            refine ax_icmp_lt (tgt := 64) M d_G_edge_58 (by decide) (fun c6 => ?_) (fun c6 => ?_)
            · have E := ob_t E c6
              refine ax_aload_n M d_G_edge_64 0 rfl ?_
              refine sw_get M hG 0 0 (by decide) in_G rfl rfl 1 (by decide) wd_153 rfl d_G_edge_65 ?_
              refine ax_aload_n M d_G_edge_68 0 rfl ?_
              refine sw_get M hG 0 0 (by decide) in_G rfl rfl 5 (by decide) wd_157 rfl d_G_edge_69 ?_
              obtain ⟨k1, E⟩ := ob_c E
              refine sw_aldq (g := fun e => ix (gi σ 5 0 e)) M hG 5 0 (by decide) rfl 2 rfl rfl k1 d_G_edge_72 ?_
              obtain ⟨k2, E⟩ := ob_c E
              refine ax_astore (lv' := [(0, .ref (al 0 0)), (1, .int x1), (2, .int x2), (3, .int x3), (4, .int x4), (5, .int x5), (6, .ref (al 2 (ix (gi σ 5 0 (ix (gi σ 0 0 5))))))]) M d_G_edge_73 (by decide) [1, 2, 3, 4, 5, 6, 0] rfl ?_
              refine ax_aload M d_G_edge_75 6 rfl ?_
              refine ax_iload_n M d_G_edge_77 1 rfl ?_
              refine sw_putN M hG 2 (ix (gi σ 5 0 (ix (gi σ 0 0 5)))) k2 in_E t_E tok_E nok_E rfl rfl 1 (by decide) wd_120 rfl rfl rfl (Nat.le_of_ble_eq_true rfl) rfl d_G_edge_78 (fun h hG => ?_)
              refine ax_aload M d_G_edge_81 6 rfl ?_
              refine ax_iload_n M d_G_edge_83 2 rfl ?_
              refine sw_putN M hG 2 (ix (gi σ 5 0 (ix (gi σ 0 0 5)))) k2 in_E t_E tok_E nok_E rfl rfl 2 (by decide) wd_122 rfl rfl rfl (Nat.le_of_ble_eq_true rfl) rfl d_G_edge_84 (fun h hG => ?_)
              refine ax_aload M d_G_edge_87 6 rfl ?_
              refine ax_iload_n M d_G_edge_89 3 rfl ?_
              refine sw_putN M hG 2 (ix (gi σ 5 0 (ix (gi σ 0 0 5)))) k2 in_E t_E tok_E nok_E rfl rfl 3 (by decide) wd_123 rfl rfl rfl (Nat.le_of_ble_eq_true rfl) rfl d_G_edge_90 (fun h hG => ?_)
              refine ax_aload M d_G_edge_93 6 rfl ?_
              refine ax_iload M d_G_edge_95 4 rfl ?_
              refine sw_putN M hG 2 (ix (gi σ 5 0 (ix (gi σ 0 0 5)))) k2 in_E t_E tok_E nok_E rfl rfl 4 (by decide) wd_125 rfl rfl rfl (Nat.le_of_ble_eq_true rfl) rfl d_G_edge_97 (fun h hG => ?_)
              refine ax_aload M d_G_edge_100 6 rfl ?_
              refine ax_iload M d_G_edge_102 5 rfl ?_
              refine sw_putN M hG 2 (ix (gi σ 5 0 (ix (gi σ 0 0 5)))) k2 in_E t_E tok_E nok_E rfl rfl 5 (by decide) wd_128 rfl rfl rfl (Nat.le_of_ble_eq_true rfl) rfl d_G_edge_104 (fun h hG => ?_)
              refine ax_aload_n M d_G_edge_107 0 rfl ?_
              refine ax_iconst (v := 0) M d_G_edge_108 (by decide) ?_
              refine sw_put M hG 0 0 (by decide) in_G t_G tok_G nok_G rfl rfl 8 (by decide) wd_160 rfl rfl rfl (Nat.le_of_ble_eq_true rfl) rfl d_G_edge_109 (fun h hG => ?_)
              refine ax_aload_n M d_G_edge_112 0 rfl ?_
              refine ax_dup M d_G_edge_113 rfl ?_
              refine sw_get M hG 0 0 (by decide) in_G rfl rfl 5 (by decide) wd_157 rfl d_G_edge_114 ?_
              refine ax_topi (gi σ 0 0 5) ((gi_k (by decide)).trans ((gi_K (by decide)).trans ((gi_K (by decide)).trans ((gi_K (by decide)).trans ((gi_K (by decide)).trans (gi_K (by decide))))))) ?_
              refine ax_iconst (v := 1) M d_G_edge_117 (by decide) ?_
              refine ax_iadd M d_G_edge_118 ?_
              refine sw_put M hG 0 0 (by decide) in_G t_G tok_G nok_G rfl rfl 5 (by decide) wd_157 rfl rfl rfl (Nat.le_of_ble_eq_true rfl) rfl d_G_edge_119 (fun h hG => ?_)
              refine ax_aload_n M d_G_edge_122 0 rfl ?_
              refine sw_get M hG 0 0 (by decide) in_G rfl rfl 5 (by decide) wd_157 rfl d_G_edge_123 ?_
              refine ax_topi ((gi σ 0 0 5) + 1) gi_same ?_
              refine ax_iconst (v := 1) M d_G_edge_126 (by decide) ?_
              refine ax_isub M d_G_edge_127 ?_
              obtain rfl := Option.some.inj E
              exact ax_iret M hR (by decide) (by decide) d_G_edge_128 ⟨rfl, hG⟩
            · have E := ob_f E c6
              refine ax_bipush (v := -2) M d_G_edge_61 (by decide) ?_
              obtain rfl := Option.some.inj E
              exact ax_iret M hR (by decide) (by decide) d_G_edge_63 ⟨rfl, hG⟩
          · have E := ob_t E c5
            refine ax_iconst (v := (-1)) M d_G_edge_50 (by decide) ?_
            obtain rfl := Option.some.inj E
            exact ax_iret M hR (by decide) (by decide) d_G_edge_51 ⟨rfl, hG⟩
    · have E := ob_t E c2
      refine ax_iconst (v := (-1)) M d_G_edge_16 (by decide) ?_
      obtain rfl := Option.some.inj E
      exact ax_iret M hR (by decide) (by decide) d_G_edge_17 ⟨rfl, hG⟩
def C_isEdge (σ : ST) (x1 : Int32) : Option (Int32) :=
  (C_isWithin x1 0 ((gi σ 0 0 5) - 1)).bind (fun b1 => 
  (if isb b1 then 
  (some b1) else none))
abbrev rm_C_isEdge : Room := { frames := 1, cells := 0, slots := 0, locals := 22 }
set_option maxRecDepth 100000 in
set_option maxHeartbeats 4000000 in
theorem ac_C_isEdge {l : Launch} {D : va_G} {cc : Nat → ClassId} {al : Nat → Nat → Nat} {σ : ST} {h0 h : AH} {x1 : Int32} {res : Int32}  (hG : SW dmC (cfC cc) al σ h0 h) (E : C_isEdge σ x1 = some res) : AC l D vwCl (tysOf cc) NN y_G_isEdge (Cond.code y_G_isEdge b_G_isEdge 2 (some .boolean) :: TT) rm_C_isEdge [.ref (al 0 0), .int x1] h (fun rv h' => rv = some (.int res) ∧ SW dmC (cfC cc) al σ h0 h') := by
  refine AC.of (by decide) rfl (Nat.le_of_ble_eq_true rfl) (fun X M hR hI => ?_)
  unfold C_isEdge at E
  refine ax_lv (lv' := [(0, .ref (al 0 0)), (1, .int x1)]) [0, 1] rfl ?_
  refine ax_iload_n M d_G_isEdge_0 1 rfl ?_
  refine ax_iconst (v := 0) M d_G_isEdge_1 (by decide) ?_
  refine ax_aload_n M d_G_isEdge_2 0 rfl ?_
  refine sw_get M hG 0 0 (by decide) in_G rfl rfl 5 (by decide) wd_157 rfl d_G_isEdge_3 ?_
  refine ax_iconst (v := 1) M d_G_isEdge_6 (by decide) ?_
  refine ax_isub M d_G_isEdge_7 ?_
  obtain ⟨b1, e1, E⟩ := ob_b E
  refine ax_callS (n := 3) M TT_good (ac_C_isWithin hG e1) lm_G_35 (by decide) (by decide) rfl rfl (Nat.le_of_ble_eq_true rfl) d_G_isEdge_8 (by decide) (c1 := 0) (s1 := 0) (by decide) (ax_ret_i (fun h hG => ?_))
  obtain ⟨k1, E⟩ := ob_c E
  obtain rfl := Option.some.inj E
  exact ax_zret M hR (isb_narrow k1) (by decide) (by decide) d_G_isEdge_11 ⟨rfl, hG⟩
def C_unedge (σ : ST) (x1 : Int32) : Option (Int32 × ST) :=
  (C_isEdge σ x1).bind (fun b1 => 
  (if b1 = 0 then
  (some ((-1, σ))) else
  (if inb x1 12 then 
  (if ix (gi σ 5 0 (ix x1)) < 12 then 
  ((lp (fun s1 : ST × Int32 =>
  if ((gi s1.1 0 0 5) - 1) ≤ s1.2 then
  (some (.inr ((s1.1, s1.2)))) else
  (if inb (s1.2 + 1) 12 then 
  (if ix (gi s1.1 5 0 (ix (s1.2 + 1))) < 12 then 
  (if inb s1.2 12 then 
  (some (.inl ((su s1.1 5 0 (ix s1.2) (nI (ix (gi s1.1 5 0 (ix (s1.2 + 1))))), s1.2 + 1)))) else none) else none) else none)) 100 ((σ, x1))).bind (fun r1 : ST × Int32 =>
  if inb ((gi r1.1 0 0 5) - 1) 12 then 
  (some (((gi r1.1 0 0 5) - 1, su (su (su r1.1 5 0 (ix ((gi r1.1 0 0 5) - 1)) (nI (ix (gi σ 5 0 (ix x1))))) 0 0 5 ((gi r1.1 0 0 5) - 1)) 0 0 8 0))) else none)) else none) else none)))
abbrev rm_C_unedge : Room := { frames := 2, cells := 0, slots := 0, locals := 43 }
set_option maxRecDepth 100000 in
set_option maxHeartbeats 4000000 in
theorem ac_C_unedge {l : Launch} {D : va_G} {cc : Nat → ClassId} {al : Nat → Nat → Nat} {σ : ST} {h0 h : AH} {x1 : Int32} {res : Int32 × ST}  (hG : SW dmC (cfC cc) al σ h0 h) (E : C_unedge σ x1 = some res) : AC l D vwCl (tysOf cc) NN y_G_unedge (Cond.code y_G_unedge b_G_unedge 4 (some .int) :: TT) rm_C_unedge [.ref (al 0 0), .int x1] h (fun rv h' => rv = some (.int res.1) ∧ SW dmC (cfC cc) al res.2 h0 h') := by
  refine AC.of (by decide) rfl (Nat.le_of_ble_eq_true rfl) (fun X M hR hI => ?_)
  unfold C_unedge at E
  refine ax_lv (lv' := [(0, .ref (al 0 0)), (1, .int x1)]) [0, 1] rfl ?_
  refine ax_aload_n M d_G_unedge_0 0 rfl ?_
  refine ax_iload_n M d_G_unedge_1 1 rfl ?_
  obtain ⟨b1, e1, E⟩ := ob_b E
  refine ax_callV (n := 1) (C := R_G) (q := (R_G, F_G, 9)) M TT_good rfl rfl (SW.at hG 0 0 (by decide)) (ac_C_isEdge hG e1) lm_G_75 (by decide) (by decide) rfl rfl (Nat.le_of_ble_eq_true rfl) d_G_unedge_2 (by decide) (c1 := 0) (s1 := 0) (by decide) (ax_ret_i (fun h hG => ?_))
  refine ax_if_ne (tgt := 10) M d_G_unedge_5 (by decide) (fun c1 => ?_) (fun c1 => ?_)
  · have E := ob_f E c1
    refine ax_aload_n M d_G_unedge_10 0 rfl ?_
    refine sw_get M hG 0 0 (by decide) in_G rfl rfl 1 (by decide) wd_153 rfl d_G_unedge_11 ?_
    refine ax_iload_n M d_G_unedge_14 1 rfl ?_
    obtain ⟨k1, E⟩ := ob_c E
    refine sw_aldq (g := fun e => ix (gi σ 5 0 e)) M hG 5 0 (by decide) rfl 2 rfl rfl k1 d_G_unedge_15 ?_
    obtain ⟨k2, E⟩ := ob_c E
    refine ax_astore_n (lv' := [(0, .ref (al 0 0)), (1, .int x1), (2, .ref (al 2 (ix (gi σ 5 0 (ix x1)))))]) M d_G_unedge_16 (by decide) [1, 2, 0] rfl ?_
    refine ax_iload_n M d_G_unedge_17 1 rfl ?_
    refine ax_istore_n (lv' := [(0, .ref (al 0 0)), (2, .ref (al 2 (ix (gi σ 5 0 (ix x1))))), (3, .int x1)]) M d_G_unedge_18 (by decide) [1, 3, 0] rfl ?_
    refine ax_lv (lv' := [(0, .ref (al 0 0)), (2, .ref (al 2 (ix (gi σ 5 0 (ix x1))))), (3, .int x1)]) [0, 1, 2] rfl ?_
    obtain ⟨r1, l1, E⟩ := ob_b E
    refine lp_walk (fun (s1 : ST × Int32) => ∀ h : AH, SW dmC (cfC cc) al s1.1 h0 h → AW l D vwCl rm_C_unedge 4 X 0 0 h 19 [(0, .ref (al 0 0)), (2, .ref (al 2 (ix (gi σ 5 0 (ix x1))))), (3, .int s1.2)] []) (fun (r1 : ST × Int32) => ∀ h : AH, SW dmC (cfC cc) al r1.1 h0 h → AW l D vwCl rm_C_unedge 4 X 0 0 h 49 [(0, .ref (al 0 0)), (2, .ref (al 2 (ix (gi σ 5 0 (ix x1))))), (3, .int r1.2)] []) ?_ _ _ _ l1 ?_ h hG
    · intro s1 y1 E K1 K2 h hG
      refine ax_iload_n M d_G_unedge_19 2 rfl ?_
      refine ax_aload_n M d_G_unedge_20 0 rfl ?_
      refine sw_get M hG 0 0 (by decide) in_G rfl rfl 5 (by decide) wd_157 rfl d_G_unedge_21 ?_
      refine ax_iconst (v := 1) M d_G_unedge_24 (by decide) ?_
      refine ax_isub M d_G_unedge_25 ?_
      refine ax_icmp_ge (tgt := 49) M d_G_unedge_26 (by decide) (fun c2 => ?_) (fun c2 => ?_)
      · have E := ob_t E c2
        obtain rfl := Option.some.inj E
        refine ax_lv (lv' := [(0, .ref (al 0 0)), (2, .ref (al 2 (ix (gi σ 5 0 (ix x1))))), (3, .int s1.2)]) [0, 1, 2] rfl ?_
        exact (K2 _ rfl) h hG
      · have E := ob_f E c2
        refine ax_aload_n M d_G_unedge_29 0 rfl ?_
        refine sw_get M hG 0 0 (by decide) in_G rfl rfl 1 (by decide) wd_153 rfl d_G_unedge_30 ?_
        refine ax_iload_n M d_G_unedge_33 2 rfl ?_
        refine ax_aload_n M d_G_unedge_34 0 rfl ?_
        refine sw_get M hG 0 0 (by decide) in_G rfl rfl 1 (by decide) wd_153 rfl d_G_unedge_35 ?_
        refine ax_iload_n M d_G_unedge_38 2 rfl ?_
        refine ax_iconst (v := 1) M d_G_unedge_39 (by decide) ?_
        refine ax_iadd M d_G_unedge_40 ?_
        obtain ⟨k3, E⟩ := ob_c E
        refine sw_aldq (g := fun e => ix (gi s1.1 5 0 e)) M hG 5 0 (by decide) rfl 2 rfl rfl k3 d_G_unedge_41 ?_
        obtain ⟨k4, E⟩ := ob_c E
        obtain ⟨k5, E⟩ := ob_c E
        refine sw_astq M hG 5 0 (by decide) k4 (Nat.lt_trans k4 (by decide)) rfl 2 rfl rfl rfl k5 rfl d_G_unedge_42 (fun h hG => ?_)
        refine ax_iinc (v := s1.2 + 1) (lv' := [(0, .ref (al 0 0)), (2, .ref (al 2 (ix (gi σ 5 0 (ix x1))))), (3, .int (s1.2 + 1))]) M d_G_unedge_43 2 rfl rfl (by decide) [1, 2, 0] rfl ?_
        refine ax_goto (tgt := 19) M d_G_unedge_46 (by decide) ?_
        obtain rfl := Option.some.inj E
        refine ax_lv (lv' := [(0, .ref (al 0 0)), (2, .ref (al 2 (ix (gi σ 5 0 (ix x1))))), (3, .int (s1.2 + 1))]) [0, 1, 2] rfl ?_
        exact K1 _ rfl h hG
    · intro h hG
      refine ax_aload_n M d_G_unedge_49 0 rfl ?_
      refine sw_get M hG 0 0 (by decide) in_G rfl rfl 1 (by decide) wd_153 rfl d_G_unedge_50 ?_
      refine ax_aload_n M d_G_unedge_53 0 rfl ?_
      refine sw_get M hG 0 0 (by decide) in_G rfl rfl 5 (by decide) wd_157 rfl d_G_unedge_54 ?_
      refine ax_iconst (v := 1) M d_G_unedge_57 (by decide) ?_
      refine ax_isub M d_G_unedge_58 ?_
      refine ax_aload_n M d_G_unedge_59 1 rfl ?_
      obtain ⟨k6, E⟩ := ob_c E
      refine sw_astq M hG 5 0 (by decide) k2 (Nat.lt_trans k2 (by decide)) rfl 2 rfl rfl rfl k6 rfl d_G_unedge_60 (fun h hG => ?_)
      refine ax_aload_n M d_G_unedge_61 0 rfl ?_
      refine ax_dup M d_G_unedge_62 rfl ?_
      refine sw_get M hG 0 0 (by decide) in_G rfl rfl 5 (by decide) wd_157 rfl d_G_unedge_63 ?_
      refine ax_topi (gi r1.1 0 0 5) (gi_K (by decide)) ?_
      refine ax_iconst (v := 1) M d_G_unedge_66 (by decide) ?_
      refine ax_isub M d_G_unedge_67 ?_
      refine sw_put M hG 0 0 (by decide) in_G t_G tok_G nok_G rfl rfl 5 (by decide) wd_157 rfl rfl rfl (Nat.le_of_ble_eq_true rfl) rfl d_G_unedge_68 (fun h hG => ?_)
      refine ax_aload_n M d_G_unedge_71 0 rfl ?_
      refine ax_iconst (v := 0) M d_G_unedge_72 (by decide) ?_
      refine sw_put M hG 0 0 (by decide) in_G t_G tok_G nok_G rfl rfl 8 (by decide) wd_160 rfl rfl rfl (Nat.le_of_ble_eq_true rfl) rfl d_G_unedge_73 (fun h hG => ?_)
      refine ax_aload_n M d_G_unedge_76 0 rfl ?_
      refine sw_get M hG 0 0 (by decide) in_G rfl rfl 5 (by decide) wd_157 rfl d_G_unedge_77 ?_
      refine ax_topi ((gi r1.1 0 0 5) - 1) ((gi_k (by decide)).trans gi_same) ?_
      obtain rfl := Option.some.inj E
      exact ax_iret M hR (by decide) (by decide) d_G_unedge_80 ⟨rfl, hG⟩
  · have E := ob_t E c1
    refine ax_iconst (v := (-1)) M d_G_unedge_8 (by decide) ?_
    obtain rfl := Option.some.inj E
    exact ax_iret M hR (by decide) (by decide) d_G_unedge_9 ⟨rfl, hG⟩
end
section
def C_countActors (σ : ST) : Option (Int32) :=
  (lp (fun s1 : Int32 × Int32 =>
  if 8 ≤ s1.2 then
  (some (.inr ((s1.1, s1.2)))) else
  (if inb s1.2 8 then 
  (if (gi σ 1 (ix s1.2) 0) = 0 then
  (some (.inl ((s1.1, s1.2 + 1)))) else
  (some (.inl ((s1.1 + 1, s1.2 + 1))))) else none)) 100 ((0, 0))).bind (fun r1 : Int32 × Int32 =>
  some r1.1)
abbrev rm_C_countActors : Room := { frames := 0, cells := 0, slots := 0, locals := 0 }
set_option maxRecDepth 100000 in
set_option maxHeartbeats 4000000 in
theorem ac_C_countActors {l : Launch} {D : va_G} {cc : Nat → ClassId} {al : Nat → Nat → Nat} {σ : ST} {h0 h : AH}  {res : Int32}  (hG : SW dmC (cfC cc) al σ h0 h) (E : C_countActors σ = some res) : AC l D vwCl (tysOf cc) NN y_G_countActors (Cond.code y_G_countActors b_G_countActors 3 (some .int) :: TT) rm_C_countActors [.ref (al 0 0)] h (fun rv h' => rv = some (.int res) ∧ SW dmC (cfC cc) al σ h0 h') := by
  refine AC.of (by decide) rfl (Nat.le_of_ble_eq_true rfl) (fun X M hR hI => ?_)
  unfold C_countActors at E
  refine ax_lv (lv' := [(0, .ref (al 0 0))]) [0] rfl ?_
  refine ax_iconst (v := 0) M d_G_countActors_0 (by decide) ?_
  refine ax_istore_n (lv' := [(0, .ref (al 0 0)), (1, .int 0)]) M d_G_countActors_1 (by decide) [1, 0] rfl ?_
  refine ax_iconst (v := 0) M d_G_countActors_2 (by decide) ?_
  refine ax_istore_n (lv' := [(0, .ref (al 0 0)), (1, .int 0), (2, .int 0)]) M d_G_countActors_3 (by decide) [1, 2, 0] rfl ?_
  refine ax_lv (lv' := [(0, .ref (al 0 0)), (1, .int 0), (2, .int 0)]) [0, 1, 2] rfl ?_
  obtain ⟨r1, l1, E⟩ := ob_b E
  refine lp_walk (fun (s1 : Int32 × Int32) => ∀ h : AH, SW dmC (cfC cc) al σ h0 h → AW l D vwCl rm_C_countActors 3 X 0 0 h 4 [(0, .ref (al 0 0)), (1, .int s1.1), (2, .int s1.2)] []) (fun (r1 : Int32 × Int32) => ∀ h : AH, SW dmC (cfC cc) al σ h0 h → AW l D vwCl rm_C_countActors 3 X 0 0 h 31 [(0, .ref (al 0 0)), (1, .int r1.1), (2, .int r1.2)] []) ?_ _ _ _ l1 ?_ h hG
  · intro s1 y1 E K1 K2 h hG
    refine ax_iload_n M d_G_countActors_4 2 rfl ?_
    refine ax_bipush (v := 8) M d_G_countActors_5 (by decide) ?_
    refine ax_icmp_ge (tgt := 31) M d_G_countActors_7 (by decide) (fun c1 => ?_) (fun c1 => ?_)
    · have E := ob_t E c1
      obtain rfl := Option.some.inj E
      refine ax_lv (lv' := [(0, .ref (al 0 0)), (1, .int s1.1), (2, .int s1.2)]) [0, 1, 2] rfl ?_
      exact (K2 _ rfl) h hG
    · have E := ob_f E c1
      refine ax_aload_n M d_G_countActors_10 0 rfl ?_
      refine sw_get M hG 0 0 (by decide) in_G rfl rfl 0 (by decide) wd_152 rfl d_G_countActors_11 ?_
      refine ax_iload_n M d_G_countActors_14 2 rfl ?_
      obtain ⟨k1, E⟩ := ob_c E
      refine sw_aldq (g := fun e => e) M hG 4 0 (by decide) rfl 1 rfl rfl k1 d_G_countActors_15 ?_
      refine sw_getN M hG 1 (ix s1.2) (in_lt k1) in_A rfl rfl 0 (by decide) wd_75 rfl d_G_countActors_16 ?_
      refine ax_if_eq (tgt := 25) M d_G_countActors_19 (by decide) (fun c2 => ?_) (fun c2 => ?_)
      · have E := ob_t E c2
        refine ax_iinc (v := s1.2 + 1) (lv' := [(0, .ref (al 0 0)), (1, .int s1.1), (2, .int (s1.2 + 1))]) M d_G_countActors_25 2 rfl rfl (by decide) [1, 2, 0] rfl ?_
        refine ax_goto (tgt := 4) M d_G_countActors_28 (by decide) ?_
        obtain rfl := Option.some.inj E
        refine ax_lv (lv' := [(0, .ref (al 0 0)), (1, .int s1.1), (2, .int (s1.2 + 1))]) [0, 1, 2] rfl ?_
        exact K1 _ rfl h hG
      · have E := ob_f E c2
        refine ax_iinc (v := s1.1 + 1) (lv' := [(0, .ref (al 0 0)), (1, .int (s1.1 + 1)), (2, .int s1.2)]) M d_G_countActors_22 1 rfl rfl (by decide) [1, 0, 2] rfl ?_
        refine ax_iinc (v := s1.2 + 1) (lv' := [(0, .ref (al 0 0)), (1, .int (s1.1 + 1)), (2, .int (s1.2 + 1))]) M d_G_countActors_25 2 rfl rfl (by decide) [1, 2, 0] rfl ?_
        refine ax_goto (tgt := 4) M d_G_countActors_28 (by decide) ?_
        obtain rfl := Option.some.inj E
        refine ax_lv (lv' := [(0, .ref (al 0 0)), (1, .int (s1.1 + 1)), (2, .int (s1.2 + 1))]) [0, 1, 2] rfl ?_
        exact K1 _ rfl h hG
  · intro h hG
    refine ax_iload_n M d_G_countActors_31 1 rfl ?_
    obtain rfl := Option.some.inj E
    exact ax_iret M hR (by decide) (by decide) d_G_countActors_32 ⟨rfl, hG⟩
def C_makePartsOfOne (σ : ST) : Option (ST) :=
  (lp (fun s1 : ST × Int32 =>
  if 8 ≤ s1.2 then
  (some (.inr ((s1.1, s1.2)))) else
  (if inb s1.2 8 then 
  (some (.inl ((su (su s1.1 1 (ix s1.2) 3 s1.2) 1 (ix s1.2) 4 1, s1.2 + 1)))) else none)) 100 ((σ, 0))).bind (fun r1 : ST × Int32 =>
  some r1.1)
abbrev rm_C_makePartsOfOne : Room := { frames := 0, cells := 0, slots := 0, locals := 0 }
set_option maxRecDepth 100000 in
set_option maxHeartbeats 4000000 in
theorem ac_C_makePartsOfOne {l : Launch} {D : va_G} {cc : Nat → ClassId} {al : Nat → Nat → Nat} {σ : ST} {h0 h : AH}  {res : ST}  (hG : SW dmC (cfC cc) al σ h0 h) (E : C_makePartsOfOne σ = some res) : AC l D vwCl (tysOf cc) NN y_G_makePartsOfOne (Cond.code y_G_makePartsOfOne b_G_makePartsOfOne 2 none :: TT) rm_C_makePartsOfOne [.ref (al 0 0)] h (fun rv h' => rv = none ∧ SW dmC (cfC cc) al res h0 h') := by
  refine AC.of (by decide) rfl (Nat.le_of_ble_eq_true rfl) (fun X M hR hI => ?_)
  unfold C_makePartsOfOne at E
  refine ax_lv (lv' := [(0, .ref (al 0 0))]) [0] rfl ?_
  refine ax_iconst (v := 0) M d_G_makePartsOfOne_0 (by decide) ?_
  refine ax_istore_n (lv' := [(0, .ref (al 0 0)), (1, .int 0)]) M d_G_makePartsOfOne_1 (by decide) [1, 0] rfl ?_
  refine ax_lv (lv' := [(0, .ref (al 0 0)), (1, .int 0)]) [0, 1] rfl ?_
  obtain ⟨r1, l1, E⟩ := ob_b E
  refine lp_walk (fun (s1 : ST × Int32) => ∀ h : AH, SW dmC (cfC cc) al s1.1 h0 h → AW l D vwCl rm_C_makePartsOfOne 2 X 0 0 h 2 [(0, .ref (al 0 0)), (1, .int s1.2)] []) (fun (r1 : ST × Int32) => ∀ h : AH, SW dmC (cfC cc) al r1.1 h0 h → AW l D vwCl rm_C_makePartsOfOne 2 X 0 0 h 34 [(0, .ref (al 0 0)), (1, .int r1.2)] []) ?_ _ _ _ l1 ?_ h hG
  · intro s1 y1 E K1 K2 h hG
    refine ax_iload_n M d_G_makePartsOfOne_2 1 rfl ?_
    refine ax_bipush (v := 8) M d_G_makePartsOfOne_3 (by decide) ?_
    refine ax_icmp_ge (tgt := 34) M d_G_makePartsOfOne_5 (by decide) (fun c1 => ?_) (fun c1 => ?_)
    · have E := ob_t E c1
      obtain rfl := Option.some.inj E
      refine ax_lv (lv' := [(0, .ref (al 0 0)), (1, .int s1.2)]) [0, 1] rfl ?_
      exact (K2 _ rfl) h hG
    · have E := ob_f E c1
      refine ax_aload_n M d_G_makePartsOfOne_8 0 rfl ?_
      refine sw_get M hG 0 0 (by decide) in_G rfl rfl 0 (by decide) wd_152 rfl d_G_makePartsOfOne_9 ?_
      refine ax_iload_n M d_G_makePartsOfOne_12 1 rfl ?_
      obtain ⟨k1, E⟩ := ob_c E
      refine sw_aldq (g := fun e => e) M hG 4 0 (by decide) rfl 1 rfl rfl k1 d_G_makePartsOfOne_13 ?_
      refine ax_iload_n M d_G_makePartsOfOne_14 1 rfl ?_
      refine sw_putN M hG 1 (ix s1.2) (in_lt k1) in_A t_A tok_A nok_A rfl rfl 3 (by decide) wd_81 rfl rfl rfl (Nat.le_of_ble_eq_true rfl) rfl d_G_makePartsOfOne_15 (fun h hG => ?_)
      refine ax_aload_n M d_G_makePartsOfOne_18 0 rfl ?_
      refine sw_get M hG 0 0 (by decide) in_G rfl rfl 0 (by decide) wd_152 rfl d_G_makePartsOfOne_19 ?_
      refine ax_iload_n M d_G_makePartsOfOne_22 1 rfl ?_
      refine sw_aldq (g := fun e => e) M hG 4 0 (by decide) rfl 1 rfl rfl k1 d_G_makePartsOfOne_23 ?_
      refine ax_iconst (v := 1) M d_G_makePartsOfOne_24 (by decide) ?_
      refine sw_putN M hG 1 (ix s1.2) (in_lt k1) in_A t_A tok_A nok_A rfl rfl 4 (by decide) wd_82 rfl rfl rfl (Nat.le_of_ble_eq_true rfl) rfl d_G_makePartsOfOne_25 (fun h hG => ?_)
      refine ax_iinc (v := s1.2 + 1) (lv' := [(0, .ref (al 0 0)), (1, .int (s1.2 + 1))]) M d_G_makePartsOfOne_28 1 rfl rfl (by decide) [1, 0] rfl ?_
      refine ax_goto (tgt := 2) M d_G_makePartsOfOne_31 (by decide) ?_
      obtain rfl := Option.some.inj E
      refine ax_lv (lv' := [(0, .ref (al 0 0)), (1, .int (s1.2 + 1))]) [0, 1] rfl ?_
      exact K1 _ rfl h hG
  · intro h hG
    obtain rfl := Option.some.inj E
    exact ax_vret M hR (by decide) (by decide) d_G_makePartsOfOne_34 ⟨rfl, hG⟩
def C_greatestDivisor (x0 : Int32) (x1 : Int32) : Option (Int32) :=
  (lp (fun s1 : Int32 × Int32 × Int32 =>
  if 64 ≤ s1.2.2 then
  (some (.inr ((s1.1, s1.2.1, s1.2.2)))) else
  (if s1.2.1 = 0 then
  (some (.inr ((s1.1, s1.2.1, s1.2.2)))) else
  (some (.inl ((s1.2.1, s1.1 - s1.1 / s1.2.1 * s1.2.1, s1.2.2 + 1)))))) 100 ((x0, x1, 0))).bind (fun r1 : Int32 × Int32 × Int32 =>
  some (if r1.1 < 1 then 1 else r1.1))
abbrev rm_C_greatestDivisor : Room := { frames := 1, cells := 0, slots := 0, locals := 21 }
set_option maxRecDepth 100000 in
set_option maxHeartbeats 4000000 in
theorem ac_C_greatestDivisor {l : Launch} {D : va_G} {cc : Nat → ClassId} {al : Nat → Nat → Nat} {σ : ST} {h0 h : AH} {x0 : Int32} {x1 : Int32} {res : Int32}  (hG : SW dmC (cfC cc) al σ h0 h) (E : C_greatestDivisor x0 x1 = some res) : AC l D vwCl (tysOf cc) NN y_G_greatestDivisor (Cond.code y_G_greatestDivisor b_G_greatestDivisor 6 (some .int) :: TT) rm_C_greatestDivisor [.int x0, .int x1] h (fun rv h' => rv = some (.int res) ∧ SW dmC (cfC cc) al σ h0 h') := by
  refine AC.of (by decide) rfl (Nat.le_of_ble_eq_true rfl) (fun X M hR hI => ?_)
  unfold C_greatestDivisor at E
  refine ax_lv (lv' := [(0, .int x0), (1, .int x1)]) [0, 1] rfl ?_
  refine ax_iload_n M d_G_greatestDivisor_0 0 rfl ?_
  refine ax_istore_n (lv' := [(1, .int x1), (2, .int x0)]) M d_G_greatestDivisor_1 (by decide) [2, 0] rfl ?_
  refine ax_iload_n M d_G_greatestDivisor_2 0 rfl ?_
  refine ax_istore_n (lv' := [(2, .int x0), (3, .int x1)]) M d_G_greatestDivisor_3 (by decide) [2, 0] rfl ?_
  refine ax_iconst (v := 0) M d_G_greatestDivisor_4 (by decide) ?_
  refine ax_istore (lv' := [(2, .int x0), (3, .int x1), (4, .int 0)]) M d_G_greatestDivisor_5 (by decide) [1, 2, 0] rfl ?_
  refine ax_lv (lv' := [(2, .int x0), (3, .int x1), (4, .int 0)]) [0, 1, 2] rfl ?_
  obtain ⟨r1, l1, E⟩ := ob_b E
  refine lp_walk (fun (s1 : Int32 × Int32 × Int32) => ∀ h : AH, SW dmC (cfC cc) al σ h0 h → AW l D vwCl rm_C_greatestDivisor 6 X 0 0 h 7 [(2, .int s1.1), (3, .int s1.2.1), (4, .int s1.2.2)] []) (fun (r1 : Int32 × Int32 × Int32) => ∀ h : AH, SW dmC (cfC cc) al σ h0 h → AW l D vwCl rm_C_greatestDivisor 6 X 0 0 h 34 [(2, .int r1.1), (3, .int r1.2.1), (4, .int r1.2.2)] []) ?_ _ _ _ l1 ?_ h hG
  · intro s1 y1 E K1 K2 h hG
    refine ax_iload M d_G_greatestDivisor_7 2 rfl ?_
    refine ax_bipush (v := 64) M d_G_greatestDivisor_9 (by decide) ?_
    refine ax_icmp_ge (tgt := 34) M d_G_greatestDivisor_11 (by decide) (fun c1 => ?_) (fun c1 => ?_)
    · have E := ob_t E c1
      obtain rfl := Option.some.inj E
      refine ax_lv (lv' := [(2, .int s1.1), (3, .int s1.2.1), (4, .int s1.2.2)]) [0, 1, 2] rfl ?_
      exact (K2 _ rfl) h hG
    · have E := ob_f E c1
      refine ax_iload_n M d_G_greatestDivisor_14 1 rfl ?_
      refine ax_if_eq (tgt := 34) M d_G_greatestDivisor_15 (by decide) (fun c2 => ?_) (fun c2 => ?_)
      · have E := ob_t E c2
        obtain rfl := Option.some.inj E
        refine ax_lv (lv' := [(2, .int s1.1), (3, .int s1.2.1), (4, .int s1.2.2)]) [0, 1, 2] rfl ?_
        exact (K2 _ rfl) h hG
      · have E := ob_f E c2
        refine ax_iload_n M d_G_greatestDivisor_18 0 rfl ?_
        refine ax_iload_n M d_G_greatestDivisor_19 1 rfl ?_
        refine ax_irem M d_G_greatestDivisor_20 c2 ?_
        refine ax_istore (lv' := [(3, .int s1.2.1), (4, .int s1.2.2), (5, .int (s1.1 - s1.1 / s1.2.1 * s1.2.1))]) M d_G_greatestDivisor_21 (by decide) [2, 3, 0] rfl ?_
        refine ax_iload_n M d_G_greatestDivisor_23 0 rfl ?_
        refine ax_istore_n (lv' := [(2, .int s1.2.1), (4, .int s1.2.2), (5, .int (s1.1 - s1.1 / s1.2.1 * s1.2.1))]) M d_G_greatestDivisor_24 (by decide) [0, 2, 3] rfl ?_
        refine ax_iload M d_G_greatestDivisor_25 2 rfl ?_
        refine ax_istore_n (lv' := [(2, .int s1.2.1), (3, .int (s1.1 - s1.1 / s1.2.1 * s1.2.1)), (4, .int s1.2.2)]) M d_G_greatestDivisor_27 (by decide) [1, 0, 2] rfl ?_
        refine ax_iinc (v := s1.2.2 + 1) (lv' := [(2, .int s1.2.1), (3, .int (s1.1 - s1.1 / s1.2.1 * s1.2.1)), (4, .int (s1.2.2 + 1))]) M d_G_greatestDivisor_28 2 rfl rfl (by decide) [1, 2, 0] rfl ?_
        refine ax_goto (tgt := 7) M d_G_greatestDivisor_31 (by decide) ?_
        obtain rfl := Option.some.inj E
        refine ax_lv (lv' := [(2, .int s1.2.1), (3, .int (s1.1 - s1.1 / s1.2.1 * s1.2.1)), (4, .int (s1.2.2 + 1))]) [0, 1, 2] rfl ?_
        exact K1 _ rfl h hG
  · intro h hG
    refine ax_iload_n M d_G_greatestDivisor_34 0 rfl ?_
    refine ax_iconst (v := 1) M d_G_greatestDivisor_35 (by decide) ?_
    refine ax_mmax M lm_G_141 (by decide) (Nat.le_of_ble_eq_true rfl) (by decide) (by decide) d_G_greatestDivisor_36 ?_
    obtain rfl := Option.some.inj E
    exact ax_iret M hR (by decide) (by decide) d_G_greatestDivisor_39 ⟨rfl, hG⟩
def C_scalePart (σ : ST) (x1 : Int32) (x2 : Int32) : Option (ST) :=
  (lp (fun s1 : ST × Int32 =>
  if 8 ≤ s1.2 then
  (some (.inr ((s1.1, s1.2)))) else
  (if inb s1.2 8 then 
  (if (gi s1.1 1 (ix s1.2) 3) = x1 then
  (some (.inl ((su s1.1 1 (ix s1.2) 4 ((gi s1.1 1 (ix s1.2) 4) * x2), s1.2 + 1)))) else
  (some (.inl ((s1.1, s1.2 + 1))))) else none)) 100 ((σ, 0))).bind (fun r1 : ST × Int32 =>
  some r1.1)
abbrev rm_C_scalePart : Room := { frames := 0, cells := 0, slots := 0, locals := 0 }
set_option maxRecDepth 100000 in
set_option maxHeartbeats 4000000 in
theorem ac_C_scalePart {l : Launch} {D : va_G} {cc : Nat → ClassId} {al : Nat → Nat → Nat} {σ : ST} {h0 h : AH} {x1 : Int32} {x2 : Int32} {res : ST}  (hG : SW dmC (cfC cc) al σ h0 h) (E : C_scalePart σ x1 x2 = some res) : AC l D vwCl (tysOf cc) NN y_G_scalePart (Cond.code y_G_scalePart b_G_scalePart 4 none :: TT) rm_C_scalePart [.ref (al 0 0), .int x1, .int x2] h (fun rv h' => rv = none ∧ SW dmC (cfC cc) al res h0 h') := by
  refine AC.of (by decide) rfl (Nat.le_of_ble_eq_true rfl) (fun X M hR hI => ?_)
  unfold C_scalePart at E
  refine ax_lv (lv' := [(0, .ref (al 0 0)), (1, .int x1), (2, .int x2)]) [0, 1, 2] rfl ?_
  refine ax_iconst (v := 0) M d_G_scalePart_0 (by decide) ?_
  refine ax_istore_n (lv' := [(0, .ref (al 0 0)), (1, .int x1), (2, .int x2), (3, .int 0)]) M d_G_scalePart_1 (by decide) [1, 2, 3, 0] rfl ?_
  refine ax_lv (lv' := [(0, .ref (al 0 0)), (1, .int x1), (2, .int x2), (3, .int 0)]) [0, 1, 2, 3] rfl ?_
  obtain ⟨r1, l1, E⟩ := ob_b E
  refine lp_walk (fun (s1 : ST × Int32) => ∀ h : AH, SW dmC (cfC cc) al s1.1 h0 h → AW l D vwCl rm_C_scalePart 4 X 0 0 h 2 [(0, .ref (al 0 0)), (1, .int x1), (2, .int x2), (3, .int s1.2)] []) (fun (r1 : ST × Int32) => ∀ h : AH, SW dmC (cfC cc) al r1.1 h0 h → AW l D vwCl rm_C_scalePart 4 X 0 0 h 42 [(0, .ref (al 0 0)), (1, .int x1), (2, .int x2), (3, .int r1.2)] []) ?_ _ _ _ l1 ?_ h hG
  · intro s1 y1 E K1 K2 h hG
    refine ax_iload_n M d_G_scalePart_2 3 rfl ?_
    refine ax_bipush (v := 8) M d_G_scalePart_3 (by decide) ?_
    refine ax_icmp_ge (tgt := 42) M d_G_scalePart_5 (by decide) (fun c1 => ?_) (fun c1 => ?_)
    · have E := ob_t E c1
      obtain rfl := Option.some.inj E
      refine ax_lv (lv' := [(0, .ref (al 0 0)), (1, .int x1), (2, .int x2), (3, .int s1.2)]) [0, 1, 2, 3] rfl ?_
      exact (K2 _ rfl) h hG
    · have E := ob_f E c1
      refine ax_aload_n M d_G_scalePart_8 0 rfl ?_
      refine sw_get M hG 0 0 (by decide) in_G rfl rfl 0 (by decide) wd_152 rfl d_G_scalePart_9 ?_
      refine ax_iload_n M d_G_scalePart_12 3 rfl ?_
      obtain ⟨k1, E⟩ := ob_c E
      refine sw_aldq (g := fun e => e) M hG 4 0 (by decide) rfl 1 rfl rfl k1 d_G_scalePart_13 ?_
      refine sw_getN M hG 1 (ix s1.2) (in_lt k1) in_A rfl rfl 3 (by decide) wd_81 rfl d_G_scalePart_14 ?_
      refine ax_iload_n M d_G_scalePart_17 1 rfl ?_
      refine ax_icmp_ne (tgt := 36) M d_G_scalePart_18 (by decide) (fun c2 => ?_) (fun c2 => ?_)
      · have E := ob_f E c2
        refine ax_iinc (v := s1.2 + 1) (lv' := [(0, .ref (al 0 0)), (1, .int x1), (2, .int x2), (3, .int (s1.2 + 1))]) M d_G_scalePart_36 3 rfl rfl (by decide) [1, 2, 3, 0] rfl ?_
        refine ax_goto (tgt := 2) M d_G_scalePart_39 (by decide) ?_
        obtain rfl := Option.some.inj E
        refine ax_lv (lv' := [(0, .ref (al 0 0)), (1, .int x1), (2, .int x2), (3, .int (s1.2 + 1))]) [0, 1, 2, 3] rfl ?_
        exact K1 _ rfl h hG
      · have E := ob_t E c2
        refine ax_aload_n M d_G_scalePart_21 0 rfl ?_
        refine sw_get M hG 0 0 (by decide) in_G rfl rfl 0 (by decide) wd_152 rfl d_G_scalePart_22 ?_
        refine ax_iload_n M d_G_scalePart_25 3 rfl ?_
        refine sw_aldq (g := fun e => e) M hG 4 0 (by decide) rfl 1 rfl rfl k1 d_G_scalePart_26 ?_
        refine ax_dup M d_G_scalePart_27 rfl ?_
        refine sw_getN M hG 1 (ix s1.2) (in_lt k1) in_A rfl rfl 4 (by decide) wd_82 rfl d_G_scalePart_28 ?_
        refine ax_iload_n M d_G_scalePart_31 2 rfl ?_
        refine ax_imul M d_G_scalePart_32 ?_
        refine sw_putN M hG 1 (ix s1.2) (in_lt k1) in_A t_A tok_A nok_A rfl rfl 4 (by decide) wd_82 rfl rfl rfl (Nat.le_of_ble_eq_true rfl) rfl d_G_scalePart_33 (fun h hG => ?_)
        refine ax_iinc (v := s1.2 + 1) (lv' := [(0, .ref (al 0 0)), (1, .int x1), (2, .int x2), (3, .int (s1.2 + 1))]) M d_G_scalePart_36 3 rfl rfl (by decide) [1, 2, 3, 0] rfl ?_
        refine ax_goto (tgt := 2) M d_G_scalePart_39 (by decide) ?_
        obtain rfl := Option.some.inj E
        refine ax_lv (lv' := [(0, .ref (al 0 0)), (1, .int x1), (2, .int x2), (3, .int (s1.2 + 1))]) [0, 1, 2, 3] rfl ?_
        exact K1 _ rfl h hG
  · intro h hG
    obtain rfl := Option.some.inj E
    exact ax_vret M hR (by decide) (by decide) d_G_scalePart_42 ⟨rfl, hG⟩
def C_joinParts (σ : ST) (x1 : Int32) (x2 : Int32) : Option (ST) :=
  (lp (fun s1 : ST × Int32 =>
  if 8 ≤ s1.2 then
  (some (.inr ((s1.1, s1.2)))) else
  (if inb s1.2 8 then 
  (if (gi s1.1 1 (ix s1.2) 3) = x2 then
  (some (.inl ((su s1.1 1 (ix s1.2) 3 x1, s1.2 + 1)))) else
  (some (.inl ((s1.1, s1.2 + 1))))) else none)) 100 ((σ, 0))).bind (fun r1 : ST × Int32 =>
  some r1.1)
abbrev rm_C_joinParts : Room := { frames := 0, cells := 0, slots := 0, locals := 0 }
set_option maxRecDepth 100000 in
set_option maxHeartbeats 4000000 in
theorem ac_C_joinParts {l : Launch} {D : va_G} {cc : Nat → ClassId} {al : Nat → Nat → Nat} {σ : ST} {h0 h : AH} {x1 : Int32} {x2 : Int32} {res : ST}  (hG : SW dmC (cfC cc) al σ h0 h) (E : C_joinParts σ x1 x2 = some res) : AC l D vwCl (tysOf cc) NN y_G_joinParts (Cond.code y_G_joinParts b_G_joinParts 4 none :: TT) rm_C_joinParts [.ref (al 0 0), .int x1, .int x2] h (fun rv h' => rv = none ∧ SW dmC (cfC cc) al res h0 h') := by
  refine AC.of (by decide) rfl (Nat.le_of_ble_eq_true rfl) (fun X M hR hI => ?_)
  unfold C_joinParts at E
  refine ax_lv (lv' := [(0, .ref (al 0 0)), (1, .int x1), (2, .int x2)]) [0, 1, 2] rfl ?_
  refine ax_iconst (v := 0) M d_G_joinParts_0 (by decide) ?_
  refine ax_istore_n (lv' := [(0, .ref (al 0 0)), (1, .int x1), (2, .int x2), (3, .int 0)]) M d_G_joinParts_1 (by decide) [1, 2, 3, 0] rfl ?_
  refine ax_lv (lv' := [(0, .ref (al 0 0)), (1, .int x1), (2, .int x2), (3, .int 0)]) [0, 1, 2, 3] rfl ?_
  obtain ⟨r1, l1, E⟩ := ob_b E
  refine lp_walk (fun (s1 : ST × Int32) => ∀ h : AH, SW dmC (cfC cc) al s1.1 h0 h → AW l D vwCl rm_C_joinParts 4 X 0 0 h 2 [(0, .ref (al 0 0)), (1, .int x1), (2, .int x2), (3, .int s1.2)] []) (fun (r1 : ST × Int32) => ∀ h : AH, SW dmC (cfC cc) al r1.1 h0 h → AW l D vwCl rm_C_joinParts 4 X 0 0 h 37 [(0, .ref (al 0 0)), (1, .int x1), (2, .int x2), (3, .int r1.2)] []) ?_ _ _ _ l1 ?_ h hG
  · intro s1 y1 E K1 K2 h hG
    refine ax_iload_n M d_G_joinParts_2 3 rfl ?_
    refine ax_bipush (v := 8) M d_G_joinParts_3 (by decide) ?_
    refine ax_icmp_ge (tgt := 37) M d_G_joinParts_5 (by decide) (fun c1 => ?_) (fun c1 => ?_)
    · have E := ob_t E c1
      obtain rfl := Option.some.inj E
      refine ax_lv (lv' := [(0, .ref (al 0 0)), (1, .int x1), (2, .int x2), (3, .int s1.2)]) [0, 1, 2, 3] rfl ?_
      exact (K2 _ rfl) h hG
    · have E := ob_f E c1
      refine ax_aload_n M d_G_joinParts_8 0 rfl ?_
      refine sw_get M hG 0 0 (by decide) in_G rfl rfl 0 (by decide) wd_152 rfl d_G_joinParts_9 ?_
      refine ax_iload_n M d_G_joinParts_12 3 rfl ?_
      obtain ⟨k1, E⟩ := ob_c E
      refine sw_aldq (g := fun e => e) M hG 4 0 (by decide) rfl 1 rfl rfl k1 d_G_joinParts_13 ?_
      refine sw_getN M hG 1 (ix s1.2) (in_lt k1) in_A rfl rfl 3 (by decide) wd_81 rfl d_G_joinParts_14 ?_
      refine ax_iload_n M d_G_joinParts_17 2 rfl ?_
      refine ax_icmp_ne (tgt := 31) M d_G_joinParts_18 (by decide) (fun c2 => ?_) (fun c2 => ?_)
      · have E := ob_f E c2
        refine ax_iinc (v := s1.2 + 1) (lv' := [(0, .ref (al 0 0)), (1, .int x1), (2, .int x2), (3, .int (s1.2 + 1))]) M d_G_joinParts_31 3 rfl rfl (by decide) [1, 2, 3, 0] rfl ?_
        refine ax_goto (tgt := 2) M d_G_joinParts_34 (by decide) ?_
        obtain rfl := Option.some.inj E
        refine ax_lv (lv' := [(0, .ref (al 0 0)), (1, .int x1), (2, .int x2), (3, .int (s1.2 + 1))]) [0, 1, 2, 3] rfl ?_
        exact K1 _ rfl h hG
      · have E := ob_t E c2
        refine ax_aload_n M d_G_joinParts_21 0 rfl ?_
        refine sw_get M hG 0 0 (by decide) in_G rfl rfl 0 (by decide) wd_152 rfl d_G_joinParts_22 ?_
        refine ax_iload_n M d_G_joinParts_25 3 rfl ?_
        refine sw_aldq (g := fun e => e) M hG 4 0 (by decide) rfl 1 rfl rfl k1 d_G_joinParts_26 ?_
        refine ax_iload_n M d_G_joinParts_27 1 rfl ?_
        refine sw_putN M hG 1 (ix s1.2) (in_lt k1) in_A t_A tok_A nok_A rfl rfl 3 (by decide) wd_81 rfl rfl rfl (Nat.le_of_ble_eq_true rfl) rfl d_G_joinParts_28 (fun h hG => ?_)
        refine ax_iinc (v := s1.2 + 1) (lv' := [(0, .ref (al 0 0)), (1, .int x1), (2, .int x2), (3, .int (s1.2 + 1))]) M d_G_joinParts_31 3 rfl rfl (by decide) [1, 2, 3, 0] rfl ?_
        refine ax_goto (tgt := 2) M d_G_joinParts_34 (by decide) ?_
        obtain rfl := Option.some.inj E
        refine ax_lv (lv' := [(0, .ref (al 0 0)), (1, .int x1), (2, .int x2), (3, .int (s1.2 + 1))]) [0, 1, 2, 3] rfl ?_
        exact K1 _ rfl h hG
  · intro h hG
    obtain rfl := Option.some.inj E
    exact ax_vret M hR (by decide) (by decide) d_G_joinParts_37 ⟨rfl, hG⟩
def C_balance (σ : ST) (x1 : Nat) : Option (Int32 × ST) :=
  if inb (gi σ 2 x1 1) 8 then 
  (if inb (gi σ 2 x1 2) 8 then 
  (if (gi σ 1 (ix (gi σ 2 x1 1)) 3) = (gi σ 1 (ix (gi σ 2 x1 2)) 3) then
  (if ((gi σ 2 x1 3) * (gi σ 1 (ix (gi σ 2 x1 1)) 4)) = ((gi σ 2 x1 4) * (gi σ 1 (ix (gi σ 2 x1 2)) 4)) then
  (some ((1, σ))) else
  (some ((0, σ)))) else
  ((C_greatestDivisor ((gi σ 2 x1 3) * (gi σ 1 (ix (gi σ 2 x1 1)) 4)) ((gi σ 2 x1 4) * (gi σ 1 (ix (gi σ 2 x1 2)) 4))).bind (fun b1 => 
  (if ¬ b1 = 0 then 
  ((C_scalePart σ (gi σ 1 (ix (gi σ 2 x1 1)) 3) (((gi σ 2 x1 4) * (gi σ 1 (ix (gi σ 2 x1 2)) 4)) / b1)).bind (fun b2 => 
  ((C_scalePart b2 (gi b2 1 (ix (gi σ 2 x1 2)) 3) (((gi σ 2 x1 3) * (gi σ 1 (ix (gi σ 2 x1 1)) 4)) / b1)).bind (fun b3 => 
  ((C_joinParts b3 (gi b3 1 (ix (gi σ 2 x1 1)) 3) (gi b3 1 (ix (gi σ 2 x1 2)) 3)).bind (fun b4 => 
  (some ((1, b4))))))))) else none)))) else none) else none
abbrev rm_C_balance : Room := { frames := 2, cells := 0, slots := 0, locals := 46 }
set_option maxRecDepth 100000 in
set_option maxHeartbeats 4000000 in
theorem ac_C_balance {l : Launch} {D : va_G} {cc : Nat → ClassId} {al : Nat → Nat → Nat} {σ : ST} {h0 h : AH} {x1 : Nat} {res : Int32 × ST} (hx1 : x1 < 12) (hG : SW dmC (cfC cc) al σ h0 h) (E : C_balance σ x1 = some res) : AC l D vwCl (tysOf cc) NN y_G_balance (Cond.code y_G_balance b_G_balance 7 (some .boolean) :: TT) rm_C_balance [.ref (al 0 0), .ref (al 2 x1)] h (fun rv h' => rv = some (.int res.1) ∧ SW dmC (cfC cc) al res.2 h0 h') := by
  refine AC.of (by decide) rfl (Nat.le_of_ble_eq_true rfl) (fun X M hR hI => ?_)
  unfold C_balance at E
  refine ax_lv (lv' := [(0, .ref (al 0 0)), (1, .ref (al 2 x1))]) [0, 1] rfl ?_
  refine ax_aload_n M d_G_balance_0 0 rfl ?_
  refine sw_get M hG 0 0 (by decide) in_G rfl rfl 0 (by decide) wd_152 rfl d_G_balance_1 ?_
  refine ax_aload_n M d_G_balance_4 1 rfl ?_
  refine sw_getN M hG 2 x1 hx1 in_E rfl rfl 1 (by decide) wd_120 rfl d_G_balance_5 ?_
  obtain ⟨k1, E⟩ := ob_c E
  refine sw_aldq (g := fun e => e) M hG 4 0 (by decide) rfl 1 rfl rfl k1 d_G_balance_8 ?_
  refine ax_astore_n (lv' := [(0, .ref (al 0 0)), (1, .ref (al 2 x1)), (2, .ref (al 1 (ix (gi σ 2 x1 1))))]) M d_G_balance_9 (by decide) [1, 2, 0] rfl ?_
  refine ax_aload_n M d_G_balance_10 0 rfl ?_
  refine sw_get M hG 0 0 (by decide) in_G rfl rfl 0 (by decide) wd_152 rfl d_G_balance_11 ?_
  refine ax_aload_n M d_G_balance_14 1 rfl ?_
  refine sw_getN M hG 2 x1 hx1 in_E rfl rfl 2 (by decide) wd_122 rfl d_G_balance_15 ?_
  obtain ⟨k2, E⟩ := ob_c E
  refine sw_aldq (g := fun e => e) M hG 4 0 (by decide) rfl 1 rfl rfl k2 d_G_balance_18 ?_
  refine ax_astore_n (lv' := [(0, .ref (al 0 0)), (1, .ref (al 2 x1)), (2, .ref (al 1 (ix (gi σ 2 x1 1)))), (3, .ref (al 1 (ix (gi σ 2 x1 2))))]) M d_G_balance_19 (by decide) [1, 2, 3, 0] rfl ?_
  refine ax_aload_n M d_G_balance_20 1 rfl ?_
  refine sw_getN M hG 2 x1 hx1 in_E rfl rfl 3 (by decide) wd_123 rfl d_G_balance_21 ?_
  refine ax_aload_n M d_G_balance_24 2 rfl ?_
  refine sw_getN M hG 1 (ix (gi σ 2 x1 1)) (in_lt k1) in_A rfl rfl 4 (by decide) wd_82 rfl d_G_balance_25 ?_
  refine ax_imul M d_G_balance_28 ?_
  refine ax_istore (lv' := [(0, .ref (al 0 0)), (1, .ref (al 2 x1)), (2, .ref (al 1 (ix (gi σ 2 x1 1)))), (3, .ref (al 1 (ix (gi σ 2 x1 2)))), (4, .int ((gi σ 2 x1 3) * (gi σ 1 (ix (gi σ 2 x1 1)) 4)))]) M d_G_balance_29 (by decide) [1, 2, 3, 4, 0] rfl ?_
  refine ax_aload_n M d_G_balance_31 1 rfl ?_
  refine sw_getN M hG 2 x1 hx1 in_E rfl rfl 4 (by decide) wd_125 rfl d_G_balance_32 ?_
  refine ax_aload_n M d_G_balance_35 3 rfl ?_
  refine sw_getN M hG 1 (ix (gi σ 2 x1 2)) (in_lt k2) in_A rfl rfl 4 (by decide) wd_82 rfl d_G_balance_36 ?_
  refine ax_imul M d_G_balance_39 ?_
  refine ax_istore (lv' := [(0, .ref (al 0 0)), (2, .ref (al 1 (ix (gi σ 2 x1 1)))), (3, .ref (al 1 (ix (gi σ 2 x1 2)))), (4, .int ((gi σ 2 x1 3) * (gi σ 1 (ix (gi σ 2 x1 1)) 4))), (5, .int ((gi σ 2 x1 4) * (gi σ 1 (ix (gi σ 2 x1 2)) 4)))]) M d_G_balance_40 (by decide) [1, 3, 4, 5, 0] rfl ?_
  refine ax_aload_n M d_G_balance_42 1 rfl ?_
  refine sw_getN M hG 1 (ix (gi σ 2 x1 1)) (in_lt k1) in_A rfl rfl 3 (by decide) wd_81 rfl d_G_balance_43 ?_
  refine ax_aload_n M d_G_balance_46 2 rfl ?_
  refine sw_getN M hG 1 (ix (gi σ 2 x1 2)) (in_lt k2) in_A rfl rfl 3 (by decide) wd_81 rfl d_G_balance_47 ?_
  refine ax_icmp_ne (tgt := 66) M d_G_balance_50 (by decide) (fun c1 => ?_) (fun c1 => ?_)
  · have E := ob_f E c1
    refine ax_iload M d_G_balance_66 3 rfl ?_
    refine ax_iload M d_G_balance_68 4 rfl ?_
    obtain ⟨b1, e1, E⟩ := ob_b E
    refine ax_callS (n := 2) M TT_good (ac_C_greatestDivisor hG e1) lm_G_164 (by decide) (by decide) rfl rfl (Nat.le_of_ble_eq_true rfl) d_G_balance_70 (by decide) (c1 := 0) (s1 := 0) (by decide) (ax_ret_i (fun h hG => ?_))
    refine ax_istore (lv' := [(0, .ref (al 0 0)), (2, .ref (al 1 (ix (gi σ 2 x1 1)))), (3, .ref (al 1 (ix (gi σ 2 x1 2)))), (4, .int ((gi σ 2 x1 3) * (gi σ 1 (ix (gi σ 2 x1 1)) 4))), (5, .int ((gi σ 2 x1 4) * (gi σ 1 (ix (gi σ 2 x1 2)) 4))), (6, .int b1)]) M d_G_balance_73 (by decide) [1, 2, 3, 4, 5, 0] rfl ?_
    refine ax_aload_n M d_G_balance_75 0 rfl ?_
    refine ax_aload_n M d_G_balance_76 1 rfl ?_
    refine sw_getN M hG 1 (ix (gi σ 2 x1 1)) (in_lt k1) in_A rfl rfl 3 (by decide) wd_81 rfl d_G_balance_77 ?_
    refine ax_iload M d_G_balance_80 4 rfl ?_
    refine ax_iload M d_G_balance_82 5 rfl ?_
    obtain ⟨k3, E⟩ := ob_c E
    refine ax_idiv M d_G_balance_84 k3 ?_
    obtain ⟨b2, e2, E⟩ := ob_b E
    refine ax_callV (n := 2) (C := R_G) (q := (R_G, F_G, 9)) M TT_good rfl rfl (SW.at hG 0 0 (by decide)) (ac_C_scalePart hG e2) lm_G_167 (by decide) (by decide) rfl rfl (Nat.le_of_ble_eq_true rfl) d_G_balance_85 (by decide) (c1 := 0) (s1 := 0) (by decide) (ax_ret_v (fun h hG => ?_))
    refine ax_aload_n M d_G_balance_88 0 rfl ?_
    refine ax_aload_n M d_G_balance_89 2 rfl ?_
    refine sw_getN M hG 1 (ix (gi σ 2 x1 2)) (in_lt k2) in_A rfl rfl 3 (by decide) wd_81 rfl d_G_balance_90 ?_
    refine ax_iload M d_G_balance_93 3 rfl ?_
    refine ax_iload M d_G_balance_95 5 rfl ?_
    refine ax_idiv M d_G_balance_97 k3 ?_
    obtain ⟨b3, e3, E⟩ := ob_b E
    refine ax_callV (n := 2) (C := R_G) (q := (R_G, F_G, 9)) M TT_good rfl rfl (SW.at hG 0 0 (by decide)) (ac_C_scalePart hG e3) lm_G_167 (by decide) (by decide) rfl rfl (Nat.le_of_ble_eq_true rfl) d_G_balance_98 (by decide) (c1 := 0) (s1 := 0) (by decide) (ax_ret_v (fun h hG => ?_))
    refine ax_aload_n M d_G_balance_101 0 rfl ?_
    refine ax_aload_n M d_G_balance_102 1 rfl ?_
    refine sw_getN M hG 1 (ix (gi σ 2 x1 1)) (in_lt k1) in_A rfl rfl 3 (by decide) wd_81 rfl d_G_balance_103 ?_
    refine ax_aload_n M d_G_balance_106 2 rfl ?_
    refine sw_getN M hG 1 (ix (gi σ 2 x1 2)) (in_lt k2) in_A rfl rfl 3 (by decide) wd_81 rfl d_G_balance_107 ?_
    obtain ⟨b4, e4, E⟩ := ob_b E
    refine ax_callV (n := 2) (C := R_G) (q := (R_G, F_G, 9)) M TT_good rfl rfl (SW.at hG 0 0 (by decide)) (ac_C_joinParts hG e4) lm_G_153 (by decide) (by decide) rfl rfl (Nat.le_of_ble_eq_true rfl) d_G_balance_110 (by decide) (c1 := 0) (s1 := 0) (by decide) (ax_ret_v (fun h hG => ?_))
    refine ax_iconst (v := 1) M d_G_balance_113 (by decide) ?_
    obtain rfl := Option.some.inj E
    exact ax_zret M hR rfl (by decide) (by decide) d_G_balance_114 ⟨rfl, hG⟩
  · have E := ob_t E c1
    refine ax_iload M d_G_balance_53 3 rfl ?_
    refine ax_iload M d_G_balance_55 4 rfl ?_
    refine ax_icmp_ne (tgt := 64) M d_G_balance_57 (by decide) (fun c2 => ?_) (fun c2 => ?_)
    · have E := ob_f E c2
      refine ax_iconst (v := 0) M d_G_balance_64 (by decide) ?_
      obtain rfl := Option.some.inj E
      exact ax_zret M hR rfl (by decide) (by decide) d_G_balance_65 ⟨rfl, hG⟩
    · have E := ob_t E c2
      refine ax_iconst (v := 1) M d_G_balance_60 (by decide) ?_
      refine ax_goto (tgt := 65) M d_G_balance_61 (by decide) ?_
      obtain rfl := Option.some.inj E
      exact ax_zret M hR rfl (by decide) (by decide) d_G_balance_65 ⟨rfl, hG⟩
end
section
def C_findCulprit (σ : ST) : Option (Int32 × ST) :=
  (C_makePartsOfOne σ).bind (fun b1 => 
  ((lp (fun s1 : ST × Int32 =>
  if (gi s1.1 0 0 5) ≤ s1.2 then
  (some (.inr (.inl ((s1.1, s1.2))))) else
  (if inb s1.2 12 then 
  (if ix (gi s1.1 5 0 (ix s1.2)) < 12 then 
  ((C_balance s1.1 (ix (gi s1.1 5 0 (ix s1.2)))).bind (fun b2 => 
  (if b2.1 = 0 then
  (some (.inr (.inr ((s1.2, b2.2))))) else
  (some (.inl ((b2.2, s1.2 + 1))))))) else none) else none)) 100 ((b1, 0))).bind (fun r1 : (ST × Int32) ⊕ (Int32 × ST) => Sum.elim (fun o1 : ST × Int32 =>
  (some ((-1, o1.1)))) (fun v1 : Int32 × ST => some v1) r1)))
abbrev rm_C_findCulprit : Room := { frames := 3, cells := 0, slots := 0, locals := 72 }
set_option maxRecDepth 100000 in
set_option maxHeartbeats 4000000 in
theorem ac_C_findCulprit {l : Launch} {D : va_G} {cc : Nat → ClassId} {al : Nat → Nat → Nat} {σ : ST} {h0 h : AH}  {res : Int32 × ST}  (hG : SW dmC (cfC cc) al σ h0 h) (E : C_findCulprit σ = some res) : AC l D vwCl (tysOf cc) NN y_G_findCulprit (Cond.code y_G_findCulprit b_G_findCulprit 2 (some .int) :: TT) rm_C_findCulprit [.ref (al 0 0)] h (fun rv h' => rv = some (.int res.1) ∧ SW dmC (cfC cc) al res.2 h0 h') := by
  refine AC.of (by decide) rfl (Nat.le_of_ble_eq_true rfl) (fun X M hR hI => ?_)
  unfold C_findCulprit at E
  refine ax_lv (lv' := [(0, .ref (al 0 0))]) [0] rfl ?_
  refine ax_aload_n M d_G_findCulprit_0 0 rfl ?_
  obtain ⟨b1, e1, E⟩ := ob_b E
  refine ax_callV (n := 0) (C := R_G) (q := (R_G, F_G, 9)) M TT_good rfl rfl (SW.at hG 0 0 (by decide)) (ac_C_makePartsOfOne hG e1) lm_G_147 (by decide) (by decide) rfl rfl (Nat.le_of_ble_eq_true rfl) d_G_findCulprit_1 (by decide) (c1 := 0) (s1 := 0) (by decide) (ax_ret_v (fun h hG => ?_))
  refine ax_iconst (v := 0) M d_G_findCulprit_4 (by decide) ?_
  refine ax_istore_n (lv' := [(0, .ref (al 0 0)), (1, .int 0)]) M d_G_findCulprit_5 (by decide) [1, 0] rfl ?_
  refine ax_lv (lv' := [(0, .ref (al 0 0)), (1, .int 0)]) [0, 1] rfl ?_
  obtain ⟨r1, l1, E⟩ := ob_b E
  refine lp_walk (fun (s1 : ST × Int32) => ∀ h : AH, SW dmC (cfC cc) al s1.1 h0 h → AW l D vwCl rm_C_findCulprit 2 X 0 0 h 6 [(0, .ref (al 0 0)), (1, .int s1.2)] []) (fun (r1 : (ST × Int32) ⊕ (Int32 × ST)) => Sum.elim (fun o1 : ST × Int32 => ∀ h : AH, SW dmC (cfC cc) al o1.1 h0 h → AW l D vwCl rm_C_findCulprit 2 X 0 0 h 35 [(0, .ref (al 0 0)), (1, .int o1.2)] []) (fun v1 : Int32 × ST => ∀ h : AH, SW dmC (cfC cc) al v1.2 h0 h → some (Value.int v1.1) = some (.int res.1) ∧ SW dmC (cfC cc) al res.2 h0 h) r1) ?_ _ _ _ l1 ?_ h hG
  · intro s1 y1 E K1 K2 h hG
    refine ax_iload_n M d_G_findCulprit_6 1 rfl ?_
    refine ax_aload_n M d_G_findCulprit_7 0 rfl ?_
    refine sw_get M hG 0 0 (by decide) in_G rfl rfl 5 (by decide) wd_157 rfl d_G_findCulprit_8 ?_
    refine ax_icmp_ge (tgt := 35) M d_G_findCulprit_11 (by decide) (fun c1 => ?_) (fun c1 => ?_)
    · have E := ob_t E c1
      obtain rfl := Option.some.inj E
      refine ax_lv (lv' := [(0, .ref (al 0 0)), (1, .int s1.2)]) [0, 1] rfl ?_
      exact (qe_l (K2 _ rfl)) h hG
    · have E := ob_f E c1
      refine ax_aload_n M d_G_findCulprit_14 0 rfl ?_
      refine ax_aload_n M d_G_findCulprit_15 0 rfl ?_
      refine sw_get M hG 0 0 (by decide) in_G rfl rfl 1 (by decide) wd_153 rfl d_G_findCulprit_16 ?_
      refine ax_iload_n M d_G_findCulprit_19 1 rfl ?_
      obtain ⟨k1, E⟩ := ob_c E
      refine sw_aldq (g := fun e => ix (gi s1.1 5 0 e)) M hG 5 0 (by decide) rfl 2 rfl rfl k1 d_G_findCulprit_20 ?_
      obtain ⟨k2, E⟩ := ob_c E
      obtain ⟨b2, e2, E⟩ := ob_b E
      refine ax_callV (n := 1) (C := R_G) (q := (R_G, F_G, 9)) M TT_good rfl rfl (SW.at hG 0 0 (by decide)) (ac_C_balance k2 hG e2) lm_G_160 (by decide) (by decide) rfl rfl (Nat.le_of_ble_eq_true rfl) d_G_findCulprit_21 (by decide) (c1 := 0) (s1 := 0) (by decide) (ax_ret_i (fun h hG => ?_))
      refine ax_if_ne (tgt := 29) M d_G_findCulprit_24 (by decide) (fun c2 => ?_) (fun c2 => ?_)
      · have E := ob_f E c2
        refine ax_iinc (v := s1.2 + 1) (lv' := [(0, .ref (al 0 0)), (1, .int (s1.2 + 1))]) M d_G_findCulprit_29 1 rfl rfl (by decide) [1, 0] rfl ?_
        refine ax_goto (tgt := 6) M d_G_findCulprit_32 (by decide) ?_
        obtain rfl := Option.some.inj E
        refine ax_lv (lv' := [(0, .ref (al 0 0)), (1, .int (s1.2 + 1))]) [0, 1] rfl ?_
        exact K1 _ rfl h hG
      · have E := ob_t E c2
        refine ax_iload_n M d_G_findCulprit_27 1 rfl ?_
        obtain rfl := Option.some.inj E
        exact ax_iret M hR (by decide) (by decide) d_G_findCulprit_28 ((qe_r (K2 _ rfl)) h hG)
  · rcases r1 with o1 | v1
    · have E := se_l E
      refine qi_l ?_
      intro h hG
      refine ax_iconst (v := (-1)) M d_G_findCulprit_35 (by decide) ?_
      obtain rfl := Option.some.inj E
      exact ax_iret M hR (by decide) (by decide) d_G_findCulprit_36 ⟨rfl, hG⟩
    · have E := se_r E
      refine qi_r ?_
      obtain rfl := Option.some.inj E
      exact fun h hG => ⟨rfl, hG⟩
def C_keepRepetitions (σ : ST) : Option (Int32 × ST) :=
  (lp (fun s1 : ST × Int32 × Int32 =>
  if 8 ≤ s1.2.2 then
  (some (.inr ((s1.1, s1.2.1, s1.2.2)))) else
  (if inb s1.2.2 8 then 
  (if (gi s1.1 1 (ix s1.2.2) 0) = 0 then
  (some (.inl ((su s1.1 1 (ix s1.2.2) 5 0, s1.2.1 + 0, s1.2.2 + 1)))) else
  (some (.inl ((su s1.1 1 (ix s1.2.2) 5 (gi s1.1 1 (ix s1.2.2) 4), s1.2.1 + (gi s1.1 1 (ix s1.2.2) 4), s1.2.2 + 1))))) else none)) 100 ((σ, 0, 0))).bind (fun r1 : ST × Int32 × Int32 =>
  some ((r1.2.1, r1.1)))
abbrev rm_C_keepRepetitions : Room := { frames := 0, cells := 0, slots := 0, locals := 0 }
set_option maxRecDepth 100000 in
set_option maxHeartbeats 4000000 in
theorem ac_C_keepRepetitions {l : Launch} {D : va_G} {cc : Nat → ClassId} {al : Nat → Nat → Nat} {σ : ST} {h0 h : AH}  {res : Int32 × ST}  (hG : SW dmC (cfC cc) al σ h0 h) (E : C_keepRepetitions σ = some res) : AC l D vwCl (tysOf cc) NN y_G_keepRepetitions (Cond.code y_G_keepRepetitions b_G_keepRepetitions 4 (some .int) :: TT) rm_C_keepRepetitions [.ref (al 0 0)] h (fun rv h' => rv = some (.int res.1) ∧ SW dmC (cfC cc) al res.2 h0 h') := by
  refine AC.of (by decide) rfl (Nat.le_of_ble_eq_true rfl) (fun X M hR hI => ?_)
  unfold C_keepRepetitions at E
  refine ax_lv (lv' := [(0, .ref (al 0 0))]) [0] rfl ?_
  refine ax_iconst (v := 0) M d_G_keepRepetitions_0 (by decide) ?_
  refine ax_istore_n (lv' := [(0, .ref (al 0 0)), (1, .int 0)]) M d_G_keepRepetitions_1 (by decide) [1, 0] rfl ?_
  refine ax_iconst (v := 0) M d_G_keepRepetitions_2 (by decide) ?_
  refine ax_istore_n (lv' := [(0, .ref (al 0 0)), (1, .int 0), (2, .int 0)]) M d_G_keepRepetitions_3 (by decide) [1, 2, 0] rfl ?_
  refine ax_lv (lv' := [(0, .ref (al 0 0)), (1, .int 0), (2, .int 0)]) [0, 1, 2] rfl ?_
  obtain ⟨r1, l1, E⟩ := ob_b E
  refine lp_walk (fun (s1 : ST × Int32 × Int32) => ∀ h : AH, SW dmC (cfC cc) al s1.1 h0 h → AW l D vwCl rm_C_keepRepetitions 4 X 0 0 h 4 [(0, .ref (al 0 0)), (1, .int s1.2.1), (2, .int s1.2.2)] []) (fun (r1 : ST × Int32 × Int32) => ∀ h : AH, SW dmC (cfC cc) al r1.1 h0 h → AW l D vwCl rm_C_keepRepetitions 4 X 0 0 h 49 [(0, .ref (al 0 0)), (1, .int r1.2.1), (2, .int r1.2.2)] []) ?_ _ _ _ l1 ?_ h hG
  · intro s1 y1 E K1 K2 h hG
    refine ax_iload_n M d_G_keepRepetitions_4 2 rfl ?_
    refine ax_bipush (v := 8) M d_G_keepRepetitions_5 (by decide) ?_
    refine ax_icmp_ge (tgt := 49) M d_G_keepRepetitions_7 (by decide) (fun c1 => ?_) (fun c1 => ?_)
    · have E := ob_t E c1
      obtain rfl := Option.some.inj E
      refine ax_lv (lv' := [(0, .ref (al 0 0)), (1, .int s1.2.1), (2, .int s1.2.2)]) [0, 1, 2] rfl ?_
      exact (K2 _ rfl) h hG
    · have E := ob_f E c1
      refine ax_aload_n M d_G_keepRepetitions_10 0 rfl ?_
      refine sw_get M hG 0 0 (by decide) in_G rfl rfl 0 (by decide) wd_152 rfl d_G_keepRepetitions_11 ?_
      refine ax_iload_n M d_G_keepRepetitions_14 2 rfl ?_
      obtain ⟨k1, E⟩ := ob_c E
      refine sw_aldq (g := fun e => e) M hG 4 0 (by decide) rfl 1 rfl rfl k1 d_G_keepRepetitions_15 ?_
      refine ax_astore_n (lv' := [(0, .ref (al 0 0)), (1, .int s1.2.1), (2, .int s1.2.2), (3, .ref (al 1 (ix s1.2.2)))]) M d_G_keepRepetitions_16 (by decide) [1, 2, 3, 0] rfl ?_
      refine ax_aload_n M d_G_keepRepetitions_17 3 rfl ?_
      refine ax_aload_n M d_G_keepRepetitions_18 3 rfl ?_
      refine sw_getN M hG 1 (ix s1.2.2) (in_lt k1) in_A rfl rfl 0 (by decide) wd_75 rfl d_G_keepRepetitions_19 ?_
      refine ax_if_eq (tgt := 32) M d_G_keepRepetitions_22 (by decide) (fun c2 => ?_) (fun c2 => ?_)
      · have E := ob_t E c2
        refine ax_iconst (v := 0) M d_G_keepRepetitions_32 (by decide) ?_
        refine sw_putN M hG 1 (ix s1.2.2) (in_lt k1) in_A t_A tok_A nok_A rfl rfl 5 (by decide) wd_84 rfl rfl rfl (Nat.le_of_ble_eq_true rfl) rfl d_G_keepRepetitions_33 (fun h hG => ?_)
        refine ax_iload_n M d_G_keepRepetitions_36 1 rfl ?_
        refine ax_aload_n M d_G_keepRepetitions_37 3 rfl ?_
        refine sw_getN M hG 1 (ix s1.2.2) (in_lt k1) in_A rfl rfl 5 (by decide) wd_84 rfl d_G_keepRepetitions_38 ?_
        refine ax_topi 0 gi_same ?_
        refine ax_iadd M d_G_keepRepetitions_41 ?_
        refine ax_istore_n (lv' := [(0, .ref (al 0 0)), (1, .int (s1.2.1 + 0)), (2, .int s1.2.2)]) M d_G_keepRepetitions_42 (by decide) [1, 0, 2] rfl ?_
        refine ax_iinc (v := s1.2.2 + 1) (lv' := [(0, .ref (al 0 0)), (1, .int (s1.2.1 + 0)), (2, .int (s1.2.2 + 1))]) M d_G_keepRepetitions_43 2 rfl rfl (by decide) [1, 2, 0] rfl ?_
        refine ax_goto (tgt := 4) M d_G_keepRepetitions_46 (by decide) ?_
        obtain rfl := Option.some.inj E
        refine ax_lv (lv' := [(0, .ref (al 0 0)), (1, .int (s1.2.1 + 0)), (2, .int (s1.2.2 + 1))]) [0, 1, 2] rfl ?_
        exact K1 _ rfl h hG
      · have E := ob_f E c2
        refine ax_aload_n M d_G_keepRepetitions_25 3 rfl ?_
        refine sw_getN M hG 1 (ix s1.2.2) (in_lt k1) in_A rfl rfl 4 (by decide) wd_82 rfl d_G_keepRepetitions_26 ?_
        refine ax_goto (tgt := 33) M d_G_keepRepetitions_29 (by decide) ?_
        refine sw_putN M hG 1 (ix s1.2.2) (in_lt k1) in_A t_A tok_A nok_A rfl rfl 5 (by decide) wd_84 rfl rfl rfl (Nat.le_of_ble_eq_true rfl) rfl d_G_keepRepetitions_33 (fun h hG => ?_)
        refine ax_iload_n M d_G_keepRepetitions_36 1 rfl ?_
        refine ax_aload_n M d_G_keepRepetitions_37 3 rfl ?_
        refine sw_getN M hG 1 (ix s1.2.2) (in_lt k1) in_A rfl rfl 5 (by decide) wd_84 rfl d_G_keepRepetitions_38 ?_
        refine ax_topi (gi s1.1 1 (ix s1.2.2) 4) gi_same ?_
        refine ax_iadd M d_G_keepRepetitions_41 ?_
        refine ax_istore_n (lv' := [(0, .ref (al 0 0)), (1, .int (s1.2.1 + (gi s1.1 1 (ix s1.2.2) 4))), (2, .int s1.2.2)]) M d_G_keepRepetitions_42 (by decide) [1, 0, 2] rfl ?_
        refine ax_iinc (v := s1.2.2 + 1) (lv' := [(0, .ref (al 0 0)), (1, .int (s1.2.1 + (gi s1.1 1 (ix s1.2.2) 4))), (2, .int (s1.2.2 + 1))]) M d_G_keepRepetitions_43 2 rfl rfl (by decide) [1, 2, 0] rfl ?_
        refine ax_goto (tgt := 4) M d_G_keepRepetitions_46 (by decide) ?_
        obtain rfl := Option.some.inj E
        refine ax_lv (lv' := [(0, .ref (al 0 0)), (1, .int (s1.2.1 + (gi s1.1 1 (ix s1.2.2) 4))), (2, .int (s1.2.2 + 1))]) [0, 1, 2] rfl ?_
        exact K1 _ rfl h hG
  · intro h hG
    refine ax_iload_n M d_G_keepRepetitions_49 1 rfl ?_
    obtain rfl := Option.some.inj E
    exact ax_iret M hR (by decide) (by decide) d_G_keepRepetitions_50 ⟨rfl, hG⟩
def C_Actor_isDue (σ : ST) (i0 : Nat) : Option (Int32) :=
  if (gi σ 1 i0 0) = 0 then
  (some 0) else
  (if (gi σ 1 i0 5) ≤ (gi σ 1 i0 6) then
  (some 0) else
  (some 1))
abbrev rm_C_Actor_isDue : Room := { frames := 0, cells := 0, slots := 0, locals := 0 }
set_option maxRecDepth 100000 in
set_option maxHeartbeats 4000000 in
theorem ac_C_Actor_isDue {l : Launch} {D : va_G} {cc : Nat → ClassId} {al : Nat → Nat → Nat} {σ : ST} {h0 h : AH} {i0 : Nat} {res : Int32} (hi0 : i0 < 8) (hG : SW dmC (cfC cc) al σ h0 h) (E : C_Actor_isDue σ i0 = some res) : AC l D vwCl (tysOf cc) NN y_A_isDue (Cond.code y_A_isDue b_A_isDue 1 (some .boolean) :: TT) rm_C_Actor_isDue [.ref (al 1 i0)] h (fun rv h' => rv = some (.int res) ∧ SW dmC (cfC cc) al σ h0 h') := by
  refine AC.of (by decide) rfl (Nat.le_of_ble_eq_true rfl) (fun X M hR hI => ?_)
  unfold C_Actor_isDue at E
  refine ax_lv (lv' := [(0, .ref (al 1 i0))]) [0] rfl ?_
  refine ax_aload_n M d_A_isDue_0 0 rfl ?_
  refine sw_get M hG 1 i0 hi0 in_A rfl rfl 0 (by decide) wd_76 rfl d_A_isDue_1 ?_
  refine ax_if_eq (tgt := 22) M d_A_isDue_4 (by decide) (fun c1 => ?_) (fun c1 => ?_)
  · have E := ob_t E c1
    refine ax_iconst (v := 0) M d_A_isDue_22 (by decide) ?_
    obtain rfl := Option.some.inj E
    exact ax_zret M hR rfl (by decide) (by decide) d_A_isDue_23 ⟨rfl, hG⟩
  · have E := ob_f E c1
    refine ax_aload_n M d_A_isDue_7 0 rfl ?_
    refine sw_get M hG 1 i0 hi0 in_A rfl rfl 6 (by decide) wd_85 rfl d_A_isDue_8 ?_
    refine ax_aload_n M d_A_isDue_11 0 rfl ?_
    refine sw_get M hG 1 i0 hi0 in_A rfl rfl 5 (by decide) wd_83 rfl d_A_isDue_12 ?_
    refine ax_icmp_ge (tgt := 22) M d_A_isDue_15 (by decide) (fun c2 => ?_) (fun c2 => ?_)
    · have E := ob_t E c2
      refine ax_iconst (v := 0) M d_A_isDue_22 (by decide) ?_
      obtain rfl := Option.some.inj E
      exact ax_zret M hR rfl (by decide) (by decide) d_A_isDue_23 ⟨rfl, hG⟩
    · have E := ob_f E c2
      refine ax_iconst (v := 1) M d_A_isDue_18 (by decide) ?_
      refine ax_goto (tgt := 23) M d_A_isDue_19 (by decide) ?_
      obtain rfl := Option.some.inj E
      exact ax_zret M hR rfl (by decide) (by decide) d_A_isDue_23 ⟨rfl, hG⟩
def C_isReady (σ : ST) (x1 : Int32) : Option (Int32) :=
  (lp (fun s1 : Int32 =>
  if (gi σ 0 0 5) ≤ s1 then
  (some (.inr (.inl s1))) else
  (if inb s1 12 then 
  (if ix (gi σ 5 0 (ix s1)) < 12 then 
  (if (gi σ 2 (ix (gi σ 5 0 (ix s1))) 2) = x1 then
  (if (gi σ 2 (ix (gi σ 5 0 (ix s1))) 4) ≤ (gi σ 2 (ix (gi σ 5 0 (ix s1))) 7) then
  (some (.inl (s1 + 1))) else
  (some (.inr (.inr 0)))) else
  (some (.inl (s1 + 1)))) else none) else none)) 100 0).bind (fun r1 : (Int32) ⊕ (Int32) => Sum.elim (fun o1 : Int32 =>
  (some 1)) (fun v1 : Int32 => some v1) r1)
abbrev rm_C_isReady : Room := { frames := 0, cells := 0, slots := 0, locals := 0 }
set_option maxRecDepth 100000 in
set_option maxHeartbeats 4000000 in
theorem ac_C_isReady {l : Launch} {D : va_G} {cc : Nat → ClassId} {al : Nat → Nat → Nat} {σ : ST} {h0 h : AH} {x1 : Int32} {res : Int32}  (hG : SW dmC (cfC cc) al σ h0 h) (E : C_isReady σ x1 = some res) : AC l D vwCl (tysOf cc) NN y_G_isReady (Cond.code y_G_isReady b_G_isReady 4 (some .boolean) :: TT) rm_C_isReady [.ref (al 0 0), .int x1] h (fun rv h' => rv = some (.int res) ∧ SW dmC (cfC cc) al σ h0 h') := by
  refine AC.of (by decide) rfl (Nat.le_of_ble_eq_true rfl) (fun X M hR hI => ?_)
  unfold C_isReady at E
  refine ax_lv (lv' := [(0, .ref (al 0 0)), (1, .int x1)]) [0, 1] rfl ?_
  refine ax_iconst (v := 0) M d_G_isReady_0 (by decide) ?_
  refine ax_istore_n (lv' := [(0, .ref (al 0 0)), (1, .int x1), (2, .int 0)]) M d_G_isReady_1 (by decide) [1, 2, 0] rfl ?_
  refine ax_lv (lv' := [(0, .ref (al 0 0)), (1, .int x1), (2, .int 0)]) [0, 1, 2] rfl ?_
  obtain ⟨r1, l1, E⟩ := ob_b E
  refine lp_walk (fun (s1 : Int32) => ∀ h : AH, SW dmC (cfC cc) al σ h0 h → AW l D vwCl rm_C_isReady 4 X 0 0 h 2 [(0, .ref (al 0 0)), (1, .int x1), (2, .int s1)] []) (fun (r1 : (Int32) ⊕ (Int32)) => Sum.elim (fun o1 : Int32 => ∀ h : AH, SW dmC (cfC cc) al σ h0 h → AW l D vwCl rm_C_isReady 4 X 0 0 h 44 [(0, .ref (al 0 0)), (1, .int x1), (2, .int o1)] []) (fun v1 : Int32 => ∀ h : AH, SW dmC (cfC cc) al σ h0 h → some (Value.int v1) = some (.int res) ∧ SW dmC (cfC cc) al σ h0 h) r1) ?_ _ _ _ l1 ?_ h hG
  · intro s1 y1 E K1 K2 h hG
    refine ax_iload_n M d_G_isReady_2 2 rfl ?_
    refine ax_aload_n M d_G_isReady_3 0 rfl ?_
    refine sw_get M hG 0 0 (by decide) in_G rfl rfl 5 (by decide) wd_157 rfl d_G_isReady_4 ?_
    refine ax_icmp_ge (tgt := 44) M d_G_isReady_7 (by decide) (fun c1 => ?_) (fun c1 => ?_)
    · have E := ob_t E c1
      obtain rfl := Option.some.inj E
      refine ax_lv (lv' := [(0, .ref (al 0 0)), (1, .int x1), (2, .int s1)]) [0, 1, 2] rfl ?_
      exact (qe_l (K2 _ rfl)) h hG
    · have E := ob_f E c1
      refine ax_aload_n M d_G_isReady_10 0 rfl ?_
      refine sw_get M hG 0 0 (by decide) in_G rfl rfl 1 (by decide) wd_153 rfl d_G_isReady_11 ?_
      refine ax_iload_n M d_G_isReady_14 2 rfl ?_
      obtain ⟨k1, E⟩ := ob_c E
      refine sw_aldq (g := fun e => ix (gi σ 5 0 e)) M hG 5 0 (by decide) rfl 2 rfl rfl k1 d_G_isReady_15 ?_
      obtain ⟨k2, E⟩ := ob_c E
      refine ax_astore_n (lv' := [(0, .ref (al 0 0)), (1, .int x1), (2, .int s1), (3, .ref (al 2 (ix (gi σ 5 0 (ix s1)))))]) M d_G_isReady_16 (by decide) [1, 2, 3, 0] rfl ?_
      refine ax_aload_n M d_G_isReady_17 3 rfl ?_
      refine sw_getN M hG 2 (ix (gi σ 5 0 (ix s1))) k2 in_E rfl rfl 2 (by decide) wd_122 rfl d_G_isReady_18 ?_
      refine ax_iload_n M d_G_isReady_21 1 rfl ?_
      refine ax_icmp_ne (tgt := 38) M d_G_isReady_22 (by decide) (fun c2 => ?_) (fun c2 => ?_)
      · have E := ob_f E c2
        refine ax_iinc (v := s1 + 1) (lv' := [(0, .ref (al 0 0)), (1, .int x1), (2, .int (s1 + 1)), (3, .ref (al 2 (ix (gi σ 5 0 (ix s1)))))]) M d_G_isReady_38 2 rfl rfl (by decide) [1, 2, 0, 3] rfl ?_
        refine ax_goto (tgt := 2) M d_G_isReady_41 (by decide) ?_
        obtain rfl := Option.some.inj E
        refine ax_lv (lv' := [(0, .ref (al 0 0)), (1, .int x1), (2, .int (s1 + 1))]) [0, 1, 2] rfl ?_
        exact K1 _ rfl h hG
      · have E := ob_t E c2
        refine ax_aload_n M d_G_isReady_25 3 rfl ?_
        refine sw_getN M hG 2 (ix (gi σ 5 0 (ix s1))) k2 in_E rfl rfl 7 (by decide) wd_131 rfl d_G_isReady_26 ?_
        refine ax_aload_n M d_G_isReady_29 3 rfl ?_
        refine sw_getN M hG 2 (ix (gi σ 5 0 (ix s1))) k2 in_E rfl rfl 4 (by decide) wd_125 rfl d_G_isReady_30 ?_
        refine ax_icmp_ge (tgt := 38) M d_G_isReady_33 (by decide) (fun c3 => ?_) (fun c3 => ?_)
        · have E := ob_t E c3
          refine ax_iinc (v := s1 + 1) (lv' := [(0, .ref (al 0 0)), (1, .int x1), (2, .int (s1 + 1)), (3, .ref (al 2 (ix (gi σ 5 0 (ix s1)))))]) M d_G_isReady_38 2 rfl rfl (by decide) [1, 2, 0, 3] rfl ?_
          refine ax_goto (tgt := 2) M d_G_isReady_41 (by decide) ?_
          obtain rfl := Option.some.inj E
          refine ax_lv (lv' := [(0, .ref (al 0 0)), (1, .int x1), (2, .int (s1 + 1))]) [0, 1, 2] rfl ?_
          exact K1 _ rfl h hG
        · have E := ob_f E c3
          refine ax_iconst (v := 0) M d_G_isReady_36 (by decide) ?_
          obtain rfl := Option.some.inj E
          exact ax_zret M hR rfl (by decide) (by decide) d_G_isReady_37 ((qe_r (K2 _ rfl)) h hG)
  · rcases r1 with o1 | v1
    · have E := se_l E
      refine qi_l ?_
      intro h hG
      refine ax_iconst (v := 1) M d_G_isReady_44 (by decide) ?_
      obtain rfl := Option.some.inj E
      exact ax_zret M hR rfl (by decide) (by decide) d_G_isReady_45 ⟨rfl, hG⟩
    · have E := se_r E
      refine qi_r ?_
      obtain rfl := Option.some.inj E
      exact fun h hG => ⟨rfl, hG⟩
def C_canFire (σ : ST) (x1 : Int32) : Option (Int32) :=
  if inb x1 8 then 
  ((C_Actor_isDue σ (ix x1)).bind (fun b1 => 
  (if b1 = 0 then
  (some 0) else
  ((C_isReady σ x1).bind (fun b2 => 
  (if b2 = 0 then
  (some 0) else
  (some 1))))))) else none
abbrev rm_C_canFire : Room := { frames := 1, cells := 0, slots := 0, locals := 23 }
set_option maxRecDepth 100000 in
set_option maxHeartbeats 4000000 in
theorem ac_C_canFire {l : Launch} {D : va_G} {cc : Nat → ClassId} {al : Nat → Nat → Nat} {σ : ST} {h0 h : AH} {x1 : Int32} {res : Int32}  (hG : SW dmC (cfC cc) al σ h0 h) (E : C_canFire σ x1 = some res) : AC l D vwCl (tysOf cc) NN y_G_canFire (Cond.code y_G_canFire b_G_canFire 2 (some .boolean) :: TT) rm_C_canFire [.ref (al 0 0), .int x1] h (fun rv h' => rv = some (.int res) ∧ SW dmC (cfC cc) al σ h0 h') := by
  refine AC.of (by decide) rfl (Nat.le_of_ble_eq_true rfl) (fun X M hR hI => ?_)
  unfold C_canFire at E
  refine ax_lv (lv' := [(0, .ref (al 0 0)), (1, .int x1)]) [0, 1] rfl ?_
  refine ax_aload_n M d_G_canFire_0 0 rfl ?_
  refine sw_get M hG 0 0 (by decide) in_G rfl rfl 0 (by decide) wd_152 rfl d_G_canFire_1 ?_
  refine ax_iload_n M d_G_canFire_4 1 rfl ?_
  obtain ⟨k1, E⟩ := ob_c E
  refine sw_aldq (g := fun e => e) M hG 4 0 (by decide) rfl 1 rfl rfl k1 d_G_canFire_5 ?_
  obtain ⟨b1, e1, E⟩ := ob_b E
  refine ax_callVN (n := 0) (q := (R_A, F_A, 10)) M TT_good rfl (SW.at hG 1 (ix x1) (in_lt k1)) (ac_C_Actor_isDue (in_lt k1) hG e1) wd_257 lm_G_194 (by decide) (by decide) rfl rfl (Nat.le_of_ble_eq_true rfl) d_G_canFire_6 (by decide) (c1 := 0) (s1 := 0) (by decide) (ax_ret_i (fun h hG => ?_))
  refine ax_if_eq (tgt := 24) M d_G_canFire_9 (by decide) (fun c1 => ?_) (fun c1 => ?_)
  · have E := ob_t E c1
    refine ax_iconst (v := 0) M d_G_canFire_24 (by decide) ?_
    obtain rfl := Option.some.inj E
    exact ax_zret M hR rfl (by decide) (by decide) d_G_canFire_25 ⟨rfl, hG⟩
  · have E := ob_f E c1
    refine ax_aload_n M d_G_canFire_12 0 rfl ?_
    refine ax_iload_n M d_G_canFire_13 1 rfl ?_
    obtain ⟨b2, e2, E⟩ := ob_b E
    refine ax_callV (n := 1) (C := R_G) (q := (R_G, F_G, 9)) M TT_good rfl rfl (SW.at hG 0 0 (by decide)) (ac_C_isReady hG e2) lm_G_197 (by decide) (by decide) rfl rfl (Nat.le_of_ble_eq_true rfl) d_G_canFire_14 (by decide) (c1 := 0) (s1 := 0) (by decide) (ax_ret_i (fun h hG => ?_))
    refine ax_if_eq (tgt := 24) M d_G_canFire_17 (by decide) (fun c2 => ?_) (fun c2 => ?_)
    · have E := ob_t E c2
      refine ax_iconst (v := 0) M d_G_canFire_24 (by decide) ?_
      obtain rfl := Option.some.inj E
      exact ax_zret M hR rfl (by decide) (by decide) d_G_canFire_25 ⟨rfl, hG⟩
    · have E := ob_f E c2
      refine ax_iconst (v := 1) M d_G_canFire_20 (by decide) ?_
      refine ax_goto (tgt := 25) M d_G_canFire_21 (by decide) ?_
      obtain rfl := Option.some.inj E
      exact ax_zret M hR rfl (by decide) (by decide) d_G_canFire_25 ⟨rfl, hG⟩
def C_tokensWonBy (σ : ST) (x1 : Int32) : Option (Int32) :=
  (lp (fun s1 : Int32 × Int32 =>
  if (gi σ 0 0 5) ≤ s1.2 then
  (some (.inr ((s1.1, s1.2)))) else
  (if inb s1.2 12 then 
  (if ix (gi σ 5 0 (ix s1.2)) < 12 then 
  (if (gi σ 2 (ix (gi σ 5 0 (ix s1.2))) 1) = x1 then
  (if (gi σ 2 (ix (gi σ 5 0 (ix s1.2))) 2) = x1 then
  (some (.inl (((s1.1 + (gi σ 2 (ix (gi σ 5 0 (ix s1.2))) 3)) - (gi σ 2 (ix (gi σ 5 0 (ix s1.2))) 4), s1.2 + 1)))) else
  (some (.inl ((s1.1 + (gi σ 2 (ix (gi σ 5 0 (ix s1.2))) 3), s1.2 + 1))))) else
  (if (gi σ 2 (ix (gi σ 5 0 (ix s1.2))) 2) = x1 then
  (some (.inl ((s1.1 - (gi σ 2 (ix (gi σ 5 0 (ix s1.2))) 4), s1.2 + 1)))) else
  (some (.inl ((s1.1, s1.2 + 1)))))) else none) else none)) 100 ((0, 0))).bind (fun r1 : Int32 × Int32 =>
  some r1.1)
abbrev rm_C_tokensWonBy : Room := { frames := 0, cells := 0, slots := 0, locals := 0 }
set_option maxRecDepth 100000 in
set_option maxHeartbeats 4000000 in
theorem ac_C_tokensWonBy {l : Launch} {D : va_G} {cc : Nat → ClassId} {al : Nat → Nat → Nat} {σ : ST} {h0 h : AH} {x1 : Int32} {res : Int32}  (hG : SW dmC (cfC cc) al σ h0 h) (E : C_tokensWonBy σ x1 = some res) : AC l D vwCl (tysOf cc) NN y_G_tokensWonBy (Cond.code y_G_tokensWonBy b_G_tokensWonBy 5 (some .int) :: TT) rm_C_tokensWonBy [.ref (al 0 0), .int x1] h (fun rv h' => rv = some (.int res) ∧ SW dmC (cfC cc) al σ h0 h') := by
  refine AC.of (by decide) rfl (Nat.le_of_ble_eq_true rfl) (fun X M hR hI => ?_)
  unfold C_tokensWonBy at E
  refine ax_lv (lv' := [(0, .ref (al 0 0)), (1, .int x1)]) [0, 1] rfl ?_
  refine ax_iconst (v := 0) M d_G_tokensWonBy_0 (by decide) ?_
  refine ax_istore_n (lv' := [(0, .ref (al 0 0)), (1, .int x1), (2, .int 0)]) M d_G_tokensWonBy_1 (by decide) [1, 2, 0] rfl ?_
  refine ax_iconst (v := 0) M d_G_tokensWonBy_2 (by decide) ?_
  refine ax_istore_n (lv' := [(0, .ref (al 0 0)), (1, .int x1), (2, .int 0), (3, .int 0)]) M d_G_tokensWonBy_3 (by decide) [1, 2, 3, 0] rfl ?_
  refine ax_lv (lv' := [(0, .ref (al 0 0)), (1, .int x1), (2, .int 0), (3, .int 0)]) [0, 1, 2, 3] rfl ?_
  obtain ⟨r1, l1, E⟩ := ob_b E
  refine lp_walk (fun (s1 : Int32 × Int32) => ∀ h : AH, SW dmC (cfC cc) al σ h0 h → AW l D vwCl rm_C_tokensWonBy 5 X 0 0 h 4 [(0, .ref (al 0 0)), (1, .int x1), (2, .int s1.1), (3, .int s1.2)] []) (fun (r1 : Int32 × Int32) => ∀ h : AH, SW dmC (cfC cc) al σ h0 h → AW l D vwCl rm_C_tokensWonBy 5 X 0 0 h 60 [(0, .ref (al 0 0)), (1, .int x1), (2, .int r1.1), (3, .int r1.2)] []) ?_ _ _ _ l1 ?_ h hG
  · intro s1 y1 E K1 K2 h hG
    refine ax_iload_n M d_G_tokensWonBy_4 3 rfl ?_
    refine ax_aload_n M d_G_tokensWonBy_5 0 rfl ?_
    refine sw_get M hG 0 0 (by decide) in_G rfl rfl 5 (by decide) wd_157 rfl d_G_tokensWonBy_6 ?_
    refine ax_icmp_ge (tgt := 60) M d_G_tokensWonBy_9 (by decide) (fun c1 => ?_) (fun c1 => ?_)
    · have E := ob_t E c1
      obtain rfl := Option.some.inj E
      refine ax_lv (lv' := [(0, .ref (al 0 0)), (1, .int x1), (2, .int s1.1), (3, .int s1.2)]) [0, 1, 2, 3] rfl ?_
      exact (K2 _ rfl) h hG
    · have E := ob_f E c1
      refine ax_aload_n M d_G_tokensWonBy_12 0 rfl ?_
      refine sw_get M hG 0 0 (by decide) in_G rfl rfl 1 (by decide) wd_153 rfl d_G_tokensWonBy_13 ?_
      refine ax_iload_n M d_G_tokensWonBy_16 3 rfl ?_
      obtain ⟨k1, E⟩ := ob_c E
      refine sw_aldq (g := fun e => ix (gi σ 5 0 e)) M hG 5 0 (by decide) rfl 2 rfl rfl k1 d_G_tokensWonBy_17 ?_
      obtain ⟨k2, E⟩ := ob_c E
      refine ax_astore (lv' := [(0, .ref (al 0 0)), (1, .int x1), (2, .int s1.1), (3, .int s1.2), (4, .ref (al 2 (ix (gi σ 5 0 (ix s1.2)))))]) M d_G_tokensWonBy_18 (by decide) [1, 2, 3, 4, 0] rfl ?_
      refine ax_aload M d_G_tokensWonBy_20 4 rfl ?_
      refine sw_getN M hG 2 (ix (gi σ 5 0 (ix s1.2))) k2 in_E rfl rfl 1 (by decide) wd_120 rfl d_G_tokensWonBy_22 ?_
      refine ax_iload_n M d_G_tokensWonBy_25 1 rfl ?_
      refine ax_icmp_ne (tgt := 37) M d_G_tokensWonBy_26 (by decide) (fun c2 => ?_) (fun c2 => ?_)
      · have E := ob_f E c2
        refine ax_aload M d_G_tokensWonBy_37 4 rfl ?_
        refine sw_getN M hG 2 (ix (gi σ 5 0 (ix s1.2))) k2 in_E rfl rfl 2 (by decide) wd_122 rfl d_G_tokensWonBy_39 ?_
        refine ax_iload_n M d_G_tokensWonBy_42 1 rfl ?_
        refine ax_icmp_ne (tgt := 54) M d_G_tokensWonBy_43 (by decide) (fun c3 => ?_) (fun c3 => ?_)
        · have E := ob_f E c3
          refine ax_iinc (v := s1.2 + 1) (lv' := [(0, .ref (al 0 0)), (1, .int x1), (2, .int s1.1), (3, .int (s1.2 + 1)), (4, .ref (al 2 (ix (gi σ 5 0 (ix s1.2)))))]) M d_G_tokensWonBy_54 3 rfl rfl (by decide) [1, 2, 3, 0, 4] rfl ?_
          refine ax_goto (tgt := 4) M d_G_tokensWonBy_57 (by decide) ?_
          obtain rfl := Option.some.inj E
          refine ax_lv (lv' := [(0, .ref (al 0 0)), (1, .int x1), (2, .int s1.1), (3, .int (s1.2 + 1))]) [0, 1, 2, 3] rfl ?_
          exact K1 _ rfl h hG
        · have E := ob_t E c3
          refine ax_iload_n M d_G_tokensWonBy_46 2 rfl ?_
          refine ax_aload M d_G_tokensWonBy_47 4 rfl ?_
          refine sw_getN M hG 2 (ix (gi σ 5 0 (ix s1.2))) k2 in_E rfl rfl 4 (by decide) wd_125 rfl d_G_tokensWonBy_49 ?_
          refine ax_isub M d_G_tokensWonBy_52 ?_
          refine ax_istore_n (lv' := [(0, .ref (al 0 0)), (1, .int x1), (2, .int (s1.1 - (gi σ 2 (ix (gi σ 5 0 (ix s1.2))) 4))), (3, .int s1.2)]) M d_G_tokensWonBy_53 (by decide) [1, 2, 0, 3] rfl ?_
          refine ax_iinc (v := s1.2 + 1) (lv' := [(0, .ref (al 0 0)), (1, .int x1), (2, .int (s1.1 - (gi σ 2 (ix (gi σ 5 0 (ix s1.2))) 4))), (3, .int (s1.2 + 1))]) M d_G_tokensWonBy_54 3 rfl rfl (by decide) [1, 2, 3, 0] rfl ?_
          refine ax_goto (tgt := 4) M d_G_tokensWonBy_57 (by decide) ?_
          obtain rfl := Option.some.inj E
          refine ax_lv (lv' := [(0, .ref (al 0 0)), (1, .int x1), (2, .int (s1.1 - (gi σ 2 (ix (gi σ 5 0 (ix s1.2))) 4))), (3, .int (s1.2 + 1))]) [0, 1, 2, 3] rfl ?_
          exact K1 _ rfl h hG
      · have E := ob_t E c2
        refine ax_iload_n M d_G_tokensWonBy_29 2 rfl ?_
        refine ax_aload M d_G_tokensWonBy_30 4 rfl ?_
        refine sw_getN M hG 2 (ix (gi σ 5 0 (ix s1.2))) k2 in_E rfl rfl 3 (by decide) wd_123 rfl d_G_tokensWonBy_32 ?_
        refine ax_iadd M d_G_tokensWonBy_35 ?_
        refine ax_istore_n (lv' := [(0, .ref (al 0 0)), (1, .int x1), (2, .int (s1.1 + (gi σ 2 (ix (gi σ 5 0 (ix s1.2))) 3))), (3, .int s1.2), (4, .ref (al 2 (ix (gi σ 5 0 (ix s1.2)))))]) M d_G_tokensWonBy_36 (by decide) [1, 2, 0, 3, 4] rfl ?_
        refine ax_aload M d_G_tokensWonBy_37 4 rfl ?_
        refine sw_getN M hG 2 (ix (gi σ 5 0 (ix s1.2))) k2 in_E rfl rfl 2 (by decide) wd_122 rfl d_G_tokensWonBy_39 ?_
        refine ax_iload_n M d_G_tokensWonBy_42 1 rfl ?_
        refine ax_icmp_ne (tgt := 54) M d_G_tokensWonBy_43 (by decide) (fun c4 => ?_) (fun c4 => ?_)
        · have E := ob_f E c4
          refine ax_iinc (v := s1.2 + 1) (lv' := [(0, .ref (al 0 0)), (1, .int x1), (2, .int (s1.1 + (gi σ 2 (ix (gi σ 5 0 (ix s1.2))) 3))), (3, .int (s1.2 + 1)), (4, .ref (al 2 (ix (gi σ 5 0 (ix s1.2)))))]) M d_G_tokensWonBy_54 3 rfl rfl (by decide) [1, 2, 3, 0, 4] rfl ?_
          refine ax_goto (tgt := 4) M d_G_tokensWonBy_57 (by decide) ?_
          obtain rfl := Option.some.inj E
          refine ax_lv (lv' := [(0, .ref (al 0 0)), (1, .int x1), (2, .int (s1.1 + (gi σ 2 (ix (gi σ 5 0 (ix s1.2))) 3))), (3, .int (s1.2 + 1))]) [0, 1, 2, 3] rfl ?_
          exact K1 _ rfl h hG
        · have E := ob_t E c4
          refine ax_iload_n M d_G_tokensWonBy_46 2 rfl ?_
          refine ax_aload M d_G_tokensWonBy_47 4 rfl ?_
          refine sw_getN M hG 2 (ix (gi σ 5 0 (ix s1.2))) k2 in_E rfl rfl 4 (by decide) wd_125 rfl d_G_tokensWonBy_49 ?_
          refine ax_isub M d_G_tokensWonBy_52 ?_
          refine ax_istore_n (lv' := [(0, .ref (al 0 0)), (1, .int x1), (2, .int ((s1.1 + (gi σ 2 (ix (gi σ 5 0 (ix s1.2))) 3)) - (gi σ 2 (ix (gi σ 5 0 (ix s1.2))) 4))), (3, .int s1.2)]) M d_G_tokensWonBy_53 (by decide) [1, 2, 0, 3] rfl ?_
          refine ax_iinc (v := s1.2 + 1) (lv' := [(0, .ref (al 0 0)), (1, .int x1), (2, .int ((s1.1 + (gi σ 2 (ix (gi σ 5 0 (ix s1.2))) 3)) - (gi σ 2 (ix (gi σ 5 0 (ix s1.2))) 4))), (3, .int (s1.2 + 1))]) M d_G_tokensWonBy_54 3 rfl rfl (by decide) [1, 2, 3, 0] rfl ?_
          refine ax_goto (tgt := 4) M d_G_tokensWonBy_57 (by decide) ?_
          obtain rfl := Option.some.inj E
          refine ax_lv (lv' := [(0, .ref (al 0 0)), (1, .int x1), (2, .int ((s1.1 + (gi σ 2 (ix (gi σ 5 0 (ix s1.2))) 3)) - (gi σ 2 (ix (gi σ 5 0 (ix s1.2))) 4))), (3, .int (s1.2 + 1))]) [0, 1, 2, 3] rfl ?_
          exact K1 _ rfl h hG
  · intro h hG
    refine ax_iload_n M d_G_tokensWonBy_60 2 rfl ?_
    obtain rfl := Option.some.inj E
    exact ax_iret M hR (by decide) (by decide) d_G_tokensWonBy_61 ⟨rfl, hG⟩
end
section
def C_chooseFewestTokens (σ : ST) : Option (Int32) :=
  (lp (fun s1 : Int32 × Int32 × Int32 =>
  if 8 ≤ s1.2.2 then
  (some (.inr ((s1.1, s1.2.1, s1.2.2)))) else
  ((C_canFire σ s1.2.2).bind (fun b1 => 
  (if b1 = 0 then
  (some (.inl ((s1.1, s1.2.1, s1.2.2 + 1)))) else
  ((C_tokensWonBy σ s1.2.2).bind (fun b2 => 
  (if s1.1 = (-1) then
  (some (.inl ((s1.2.2, b2, s1.2.2 + 1)))) else
  (if s1.2.1 ≤ b2 then
  (some (.inl ((s1.1, s1.2.1, s1.2.2 + 1)))) else
  (some (.inl ((s1.2.2, b2, s1.2.2 + 1)))))))))))) 100 ((-1, 0, 0))).bind (fun r1 : Int32 × Int32 × Int32 =>
  some r1.1)
abbrev rm_C_chooseFewestTokens : Room := { frames := 2, cells := 0, slots := 0, locals := 44 }
set_option maxRecDepth 100000 in
set_option maxHeartbeats 4000000 in
theorem ac_C_chooseFewestTokens {l : Launch} {D : va_G} {cc : Nat → ClassId} {al : Nat → Nat → Nat} {σ : ST} {h0 h : AH}  {res : Int32}  (hG : SW dmC (cfC cc) al σ h0 h) (E : C_chooseFewestTokens σ = some res) : AC l D vwCl (tysOf cc) NN y_G_chooseFewestTokens (Cond.code y_G_chooseFewestTokens b_G_chooseFewestTokens 5 (some .int) :: TT) rm_C_chooseFewestTokens [.ref (al 0 0)] h (fun rv h' => rv = some (.int res) ∧ SW dmC (cfC cc) al σ h0 h') := by
  refine AC.of (by decide) rfl (Nat.le_of_ble_eq_true rfl) (fun X M hR hI => ?_)
  unfold C_chooseFewestTokens at E
  refine ax_lv (lv' := [(0, .ref (al 0 0))]) [0] rfl ?_
  refine ax_iconst (v := (-1)) M d_G_chooseFewestTokens_0 (by decide) ?_
  refine ax_istore_n (lv' := [(0, .ref (al 0 0)), (1, .int (-1))]) M d_G_chooseFewestTokens_1 (by decide) [1, 0] rfl ?_
  refine ax_iconst (v := 0) M d_G_chooseFewestTokens_2 (by decide) ?_
  refine ax_istore_n (lv' := [(0, .ref (al 0 0)), (1, .int (-1)), (2, .int 0)]) M d_G_chooseFewestTokens_3 (by decide) [1, 2, 0] rfl ?_
  refine ax_iconst (v := 0) M d_G_chooseFewestTokens_4 (by decide) ?_
  refine ax_istore_n (lv' := [(0, .ref (al 0 0)), (1, .int (-1)), (2, .int 0), (3, .int 0)]) M d_G_chooseFewestTokens_5 (by decide) [1, 2, 3, 0] rfl ?_
  refine ax_lv (lv' := [(0, .ref (al 0 0)), (1, .int (-1)), (2, .int 0), (3, .int 0)]) [0, 1, 2, 3] rfl ?_
  obtain ⟨r1, l1, E⟩ := ob_b E
  refine lp_walk (fun (s1 : Int32 × Int32 × Int32) => ∀ h : AH, SW dmC (cfC cc) al σ h0 h → AW l D vwCl rm_C_chooseFewestTokens 5 X 0 0 h 6 [(0, .ref (al 0 0)), (1, .int s1.1), (2, .int s1.2.1), (3, .int s1.2.2)] []) (fun (r1 : Int32 × Int32 × Int32) => ∀ h : AH, SW dmC (cfC cc) al σ h0 h → AW l D vwCl rm_C_chooseFewestTokens 5 X 0 0 h 49 [(0, .ref (al 0 0)), (1, .int r1.1), (2, .int r1.2.1), (3, .int r1.2.2)] []) ?_ _ _ _ l1 ?_ h hG
  · intro s1 y1 E K1 K2 h hG
    refine ax_iload_n M d_G_chooseFewestTokens_6 3 rfl ?_
    refine ax_bipush (v := 8) M d_G_chooseFewestTokens_7 (by decide) ?_
    refine ax_icmp_ge (tgt := 49) M d_G_chooseFewestTokens_9 (by decide) (fun c1 => ?_) (fun c1 => ?_)
    · have E := ob_t E c1
      obtain rfl := Option.some.inj E
      refine ax_lv (lv' := [(0, .ref (al 0 0)), (1, .int s1.1), (2, .int s1.2.1), (3, .int s1.2.2)]) [0, 1, 2, 3] rfl ?_
      exact (K2 _ rfl) h hG
    · have E := ob_f E c1
      refine ax_aload_n M d_G_chooseFewestTokens_12 0 rfl ?_
      refine ax_iload_n M d_G_chooseFewestTokens_13 3 rfl ?_
      obtain ⟨b1, e1, E⟩ := ob_b E
      refine ax_callV (n := 1) (C := R_G) (q := (R_G, F_G, 9)) M TT_good rfl rfl (SW.at hG 0 0 (by decide)) (ac_C_canFire hG e1) lm_G_188 (by decide) (by decide) rfl rfl (Nat.le_of_ble_eq_true rfl) d_G_chooseFewestTokens_14 (by decide) (c1 := 0) (s1 := 0) (by decide) (ax_ret_i (fun h hG => ?_))
      refine ax_if_eq (tgt := 43) M d_G_chooseFewestTokens_17 (by decide) (fun c2 => ?_) (fun c2 => ?_)
      · have E := ob_t E c2
        refine ax_iinc (v := s1.2.2 + 1) (lv' := [(0, .ref (al 0 0)), (1, .int s1.1), (2, .int s1.2.1), (3, .int (s1.2.2 + 1))]) M d_G_chooseFewestTokens_43 3 rfl rfl (by decide) [1, 2, 3, 0] rfl ?_
        refine ax_goto (tgt := 6) M d_G_chooseFewestTokens_46 (by decide) ?_
        obtain rfl := Option.some.inj E
        refine ax_lv (lv' := [(0, .ref (al 0 0)), (1, .int s1.1), (2, .int s1.2.1), (3, .int (s1.2.2 + 1))]) [0, 1, 2, 3] rfl ?_
        exact K1 _ rfl h hG
      · have E := ob_f E c2
        refine ax_aload_n M d_G_chooseFewestTokens_20 0 rfl ?_
        refine ax_iload_n M d_G_chooseFewestTokens_21 3 rfl ?_
        obtain ⟨b2, e2, E⟩ := ob_b E
        refine ax_callV (n := 1) (C := R_G) (q := (R_G, F_G, 9)) M TT_good rfl rfl (SW.at hG 0 0 (by decide)) (ac_C_tokensWonBy hG e2) lm_G_191 (by decide) (by decide) rfl rfl (Nat.le_of_ble_eq_true rfl) d_G_chooseFewestTokens_22 (by decide) (c1 := 0) (s1 := 0) (by decide) (ax_ret_i (fun h hG => ?_))
        refine ax_istore (lv' := [(0, .ref (al 0 0)), (1, .int s1.1), (2, .int s1.2.1), (3, .int s1.2.2), (4, .int b2)]) M d_G_chooseFewestTokens_25 (by decide) [1, 2, 3, 4, 0] rfl ?_
        refine ax_iload_n M d_G_chooseFewestTokens_27 1 rfl ?_
        refine ax_iconst (v := (-1)) M d_G_chooseFewestTokens_28 (by decide) ?_
        refine ax_icmp_eq (tgt := 38) M d_G_chooseFewestTokens_29 (by decide) (fun c3 => ?_) (fun c3 => ?_)
        · have E := ob_t E c3
          refine ax_iload_n M d_G_chooseFewestTokens_38 3 rfl ?_
          refine ax_istore_n (lv' := [(0, .ref (al 0 0)), (1, .int s1.2.2), (3, .int s1.2.2), (4, .int b2)]) M d_G_chooseFewestTokens_39 (by decide) [1, 0, 3, 4] rfl ?_
          refine ax_iload M d_G_chooseFewestTokens_40 3 rfl ?_
          refine ax_istore_n (lv' := [(0, .ref (al 0 0)), (1, .int s1.2.2), (2, .int b2), (3, .int s1.2.2)]) M d_G_chooseFewestTokens_42 (by decide) [1, 2, 0, 3] rfl ?_
          refine ax_iinc (v := s1.2.2 + 1) (lv' := [(0, .ref (al 0 0)), (1, .int s1.2.2), (2, .int b2), (3, .int (s1.2.2 + 1))]) M d_G_chooseFewestTokens_43 3 rfl rfl (by decide) [1, 2, 3, 0] rfl ?_
          refine ax_goto (tgt := 6) M d_G_chooseFewestTokens_46 (by decide) ?_
          obtain rfl := Option.some.inj E
          refine ax_lv (lv' := [(0, .ref (al 0 0)), (1, .int s1.2.2), (2, .int b2), (3, .int (s1.2.2 + 1))]) [0, 1, 2, 3] rfl ?_
          exact K1 _ rfl h hG
        · have E := ob_f E c3
          refine ax_iload M d_G_chooseFewestTokens_32 4 rfl ?_
          refine ax_iload_n M d_G_chooseFewestTokens_34 2 rfl ?_
          refine ax_icmp_ge (tgt := 43) M d_G_chooseFewestTokens_35 (by decide) (fun c4 => ?_) (fun c4 => ?_)
          · have E := ob_t E c4
            refine ax_iinc (v := s1.2.2 + 1) (lv' := [(0, .ref (al 0 0)), (1, .int s1.1), (2, .int s1.2.1), (3, .int (s1.2.2 + 1)), (4, .int b2)]) M d_G_chooseFewestTokens_43 3 rfl rfl (by decide) [1, 2, 3, 0, 4] rfl ?_
            refine ax_goto (tgt := 6) M d_G_chooseFewestTokens_46 (by decide) ?_
            obtain rfl := Option.some.inj E
            refine ax_lv (lv' := [(0, .ref (al 0 0)), (1, .int s1.1), (2, .int s1.2.1), (3, .int (s1.2.2 + 1))]) [0, 1, 2, 3] rfl ?_
            exact K1 _ rfl h hG
          · have E := ob_f E c4
            refine ax_iload_n M d_G_chooseFewestTokens_38 3 rfl ?_
            refine ax_istore_n (lv' := [(0, .ref (al 0 0)), (1, .int s1.2.2), (3, .int s1.2.2), (4, .int b2)]) M d_G_chooseFewestTokens_39 (by decide) [1, 0, 3, 4] rfl ?_
            refine ax_iload M d_G_chooseFewestTokens_40 3 rfl ?_
            refine ax_istore_n (lv' := [(0, .ref (al 0 0)), (1, .int s1.2.2), (2, .int b2), (3, .int s1.2.2)]) M d_G_chooseFewestTokens_42 (by decide) [1, 2, 0, 3] rfl ?_
            refine ax_iinc (v := s1.2.2 + 1) (lv' := [(0, .ref (al 0 0)), (1, .int s1.2.2), (2, .int b2), (3, .int (s1.2.2 + 1))]) M d_G_chooseFewestTokens_43 3 rfl rfl (by decide) [1, 2, 3, 0] rfl ?_
            refine ax_goto (tgt := 6) M d_G_chooseFewestTokens_46 (by decide) ?_
            obtain rfl := Option.some.inj E
            refine ax_lv (lv' := [(0, .ref (al 0 0)), (1, .int s1.2.2), (2, .int b2), (3, .int (s1.2.2 + 1))]) [0, 1, 2, 3] rfl ?_
            exact K1 _ rfl h hG
  · intro h hG
    refine ax_iload_n M d_G_chooseFewestTokens_49 1 rfl ?_
    obtain rfl := Option.some.inj E
    exact ax_iret M hR (by decide) (by decide) d_G_chooseFewestTokens_50 ⟨rfl, hG⟩
def C_chooseFrom (σ : ST) (x1 : Int32) : Option (Int32) :=
  (lp (fun s1 : Int32 =>
  if 8 ≤ s1 then
  (some (.inr (.inl s1))) else
  ((C_canFire σ ((x1 + s1) - (x1 + s1) / 8 * 8)).bind (fun b1 => 
  (if b1 = 0 then
  (some (.inl (s1 + 1))) else
  (some (.inr (.inr ((x1 + s1) - (x1 + s1) / 8 * 8)))))))) 100 0).bind (fun r1 : (Int32) ⊕ (Int32) => Sum.elim (fun o1 : Int32 =>
  (some (-1))) (fun v1 : Int32 => some v1) r1)
abbrev rm_C_chooseFrom : Room := { frames := 2, cells := 0, slots := 0, locals := 44 }
set_option maxRecDepth 100000 in
set_option maxHeartbeats 4000000 in
theorem ac_C_chooseFrom {l : Launch} {D : va_G} {cc : Nat → ClassId} {al : Nat → Nat → Nat} {σ : ST} {h0 h : AH} {x1 : Int32} {res : Int32}  (hG : SW dmC (cfC cc) al σ h0 h) (E : C_chooseFrom σ x1 = some res) : AC l D vwCl (tysOf cc) NN y_G_chooseFrom (Cond.code y_G_chooseFrom b_G_chooseFrom 4 (some .int) :: TT) rm_C_chooseFrom [.ref (al 0 0), .int x1] h (fun rv h' => rv = some (.int res) ∧ SW dmC (cfC cc) al σ h0 h') := by
  refine AC.of (by decide) rfl (Nat.le_of_ble_eq_true rfl) (fun X M hR hI => ?_)
  unfold C_chooseFrom at E
  refine ax_lv (lv' := [(0, .ref (al 0 0)), (1, .int x1)]) [0, 1] rfl ?_
  refine ax_iconst (v := 0) M d_G_chooseFrom_0 (by decide) ?_
  refine ax_istore_n (lv' := [(0, .ref (al 0 0)), (1, .int x1), (2, .int 0)]) M d_G_chooseFrom_1 (by decide) [1, 2, 0] rfl ?_
  refine ax_lv (lv' := [(0, .ref (al 0 0)), (1, .int x1), (2, .int 0)]) [0, 1, 2] rfl ?_
  obtain ⟨r1, l1, E⟩ := ob_b E
  refine lp_walk (fun (s1 : Int32) => ∀ h : AH, SW dmC (cfC cc) al σ h0 h → AW l D vwCl rm_C_chooseFrom 4 X 0 0 h 2 [(0, .ref (al 0 0)), (1, .int x1), (2, .int s1)] []) (fun (r1 : (Int32) ⊕ (Int32)) => Sum.elim (fun o1 : Int32 => ∀ h : AH, SW dmC (cfC cc) al σ h0 h → AW l D vwCl rm_C_chooseFrom 4 X 0 0 h 31 [(0, .ref (al 0 0)), (1, .int x1), (2, .int o1)] []) (fun v1 : Int32 => ∀ h : AH, SW dmC (cfC cc) al σ h0 h → some (Value.int v1) = some (.int res) ∧ SW dmC (cfC cc) al σ h0 h) r1) ?_ _ _ _ l1 ?_ h hG
  · intro s1 y1 E K1 K2 h hG
    refine ax_iload_n M d_G_chooseFrom_2 2 rfl ?_
    refine ax_bipush (v := 8) M d_G_chooseFrom_3 (by decide) ?_
    refine ax_icmp_ge (tgt := 31) M d_G_chooseFrom_5 (by decide) (fun c1 => ?_) (fun c1 => ?_)
    · have E := ob_t E c1
      obtain rfl := Option.some.inj E
      refine ax_lv (lv' := [(0, .ref (al 0 0)), (1, .int x1), (2, .int s1)]) [0, 1, 2] rfl ?_
      exact (qe_l (K2 _ rfl)) h hG
    · have E := ob_f E c1
      refine ax_iload_n M d_G_chooseFrom_8 1 rfl ?_
      refine ax_iload_n M d_G_chooseFrom_9 2 rfl ?_
      refine ax_iadd M d_G_chooseFrom_10 ?_
      refine ax_bipush (v := 8) M d_G_chooseFrom_11 (by decide) ?_
      refine ax_irem M d_G_chooseFrom_13 (by decide) ?_
      refine ax_istore_n (lv' := [(0, .ref (al 0 0)), (1, .int x1), (2, .int s1), (3, .int ((x1 + s1) - (x1 + s1) / 8 * 8))]) M d_G_chooseFrom_14 (by decide) [1, 2, 3, 0] rfl ?_
      refine ax_aload_n M d_G_chooseFrom_15 0 rfl ?_
      refine ax_iload_n M d_G_chooseFrom_16 3 rfl ?_
      obtain ⟨b1, e1, E⟩ := ob_b E
      refine ax_callV (n := 1) (C := R_G) (q := (R_G, F_G, 9)) M TT_good rfl rfl (SW.at hG 0 0 (by decide)) (ac_C_canFire hG e1) lm_G_188 (by decide) (by decide) rfl rfl (Nat.le_of_ble_eq_true rfl) d_G_chooseFrom_17 (by decide) (c1 := 0) (s1 := 0) (by decide) (ax_ret_i (fun h hG => ?_))
      refine ax_if_eq (tgt := 25) M d_G_chooseFrom_20 (by decide) (fun c2 => ?_) (fun c2 => ?_)
      · have E := ob_t E c2
        refine ax_iinc (v := s1 + 1) (lv' := [(0, .ref (al 0 0)), (1, .int x1), (2, .int (s1 + 1)), (3, .int ((x1 + s1) - (x1 + s1) / 8 * 8))]) M d_G_chooseFrom_25 2 rfl rfl (by decide) [1, 2, 0, 3] rfl ?_
        refine ax_goto (tgt := 2) M d_G_chooseFrom_28 (by decide) ?_
        obtain rfl := Option.some.inj E
        refine ax_lv (lv' := [(0, .ref (al 0 0)), (1, .int x1), (2, .int (s1 + 1))]) [0, 1, 2] rfl ?_
        exact K1 _ rfl h hG
      · have E := ob_f E c2
        refine ax_iload_n M d_G_chooseFrom_23 3 rfl ?_
        obtain rfl := Option.some.inj E
        exact ax_iret M hR (by decide) (by decide) d_G_chooseFrom_24 ((qe_r (K2 _ rfl)) h hG)
  · rcases r1 with o1 | v1
    · have E := se_l E
      refine qi_l ?_
      intro h hG
      refine ax_iconst (v := (-1)) M d_G_chooseFrom_31 (by decide) ?_
      obtain rfl := Option.some.inj E
      exact ax_iret M hR (by decide) (by decide) d_G_chooseFrom_32 ⟨rfl, hG⟩
    · have E := se_r E
      refine qi_r ?_
      obtain rfl := Option.some.inj E
      exact fun h hG => ⟨rfl, hG⟩
def C_choose (σ : ST) (x1 : Int32) (x2 : Int32) : Option (Int32) :=
  if x1 = 1 then
  ((C_chooseFewestTokens σ).bind (fun b3 => 
  (some b3))) else
  (if x1 = 2 then
  ((C_chooseFrom σ x2).bind (fun b2 => 
  (some b2))) else
  ((C_chooseFrom σ 0).bind (fun b1 => 
  (some b1))))
abbrev rm_C_choose : Room := { frames := 3, cells := 0, slots := 0, locals := 68 }
set_option maxRecDepth 100000 in
set_option maxHeartbeats 4000000 in
theorem ac_C_choose {l : Launch} {D : va_G} {cc : Nat → ClassId} {al : Nat → Nat → Nat} {σ : ST} {h0 h : AH} {x1 : Int32} {x2 : Int32} {res : Int32}  (hG : SW dmC (cfC cc) al σ h0 h) (E : C_choose σ x1 x2 = some res) : AC l D vwCl (tysOf cc) NN y_G_choose (Cond.code y_G_choose b_G_choose 3 (some .int) :: TT) rm_C_choose [.ref (al 0 0), .int x1, .int x2] h (fun rv h' => rv = some (.int res) ∧ SW dmC (cfC cc) al σ h0 h') := by
  refine AC.of (by decide) rfl (Nat.le_of_ble_eq_true rfl) (fun X M hR hI => ?_)
  unfold C_choose at E
  refine ax_lv (lv' := [(0, .ref (al 0 0)), (1, .int x1), (2, .int x2)]) [0, 1, 2] rfl ?_
  refine ax_iload_n M d_G_choose_0 1 rfl ?_
  refine ax_iconst (v := 1) M d_G_choose_1 (by decide) ?_
  refine ax_icmp_ne (tgt := 10) M d_G_choose_2 (by decide) (fun c1 => ?_) (fun c1 => ?_)
  · have E := ob_f E c1
    refine ax_aload_n M d_G_choose_10 0 rfl ?_
    refine ax_iload_n M d_G_choose_11 1 rfl ?_
    refine ax_iconst (v := 2) M d_G_choose_12 (by decide) ?_
    refine ax_icmp_ne (tgt := 20) M d_G_choose_13 (by decide) (fun c2 => ?_) (fun c2 => ?_)
    · have E := ob_f E c2
      refine ax_iconst (v := 0) M d_G_choose_20 (by decide) ?_
      obtain ⟨b1, e1, E⟩ := ob_b E
      refine ax_callV (n := 1) (C := R_G) (q := (R_G, F_G, 9)) M TT_good rfl rfl (SW.at hG 0 0 (by decide)) (ac_C_chooseFrom hG e1) lm_G_185 (by decide) (by decide) rfl rfl (Nat.le_of_ble_eq_true rfl) d_G_choose_21 (by decide) (c1 := 0) (s1 := 0) (by decide) (ax_ret_i (fun h hG => ?_))
      obtain rfl := Option.some.inj E
      exact ax_iret M hR (by decide) (by decide) d_G_choose_24 ⟨rfl, hG⟩
    · have E := ob_t E c2
      refine ax_iload_n M d_G_choose_16 2 rfl ?_
      refine ax_goto (tgt := 21) M d_G_choose_17 (by decide) ?_
      obtain ⟨b2, e2, E⟩ := ob_b E
      refine ax_callV (n := 1) (C := R_G) (q := (R_G, F_G, 9)) M TT_good rfl rfl (SW.at hG 0 0 (by decide)) (ac_C_chooseFrom hG e2) lm_G_185 (by decide) (by decide) rfl rfl (Nat.le_of_ble_eq_true rfl) d_G_choose_21 (by decide) (c1 := 0) (s1 := 0) (by decide) (ax_ret_i (fun h hG => ?_))
      obtain rfl := Option.some.inj E
      exact ax_iret M hR (by decide) (by decide) d_G_choose_24 ⟨rfl, hG⟩
  · have E := ob_t E c1
    refine ax_aload_n M d_G_choose_5 0 rfl ?_
    obtain ⟨b3, e3, E⟩ := ob_b E
    refine ax_callV (n := 0) (C := R_G) (q := (R_G, F_G, 9)) M TT_good rfl rfl (SW.at hG 0 0 (by decide)) (ac_C_chooseFewestTokens hG e3) lm_G_182 (by decide) (by decide) rfl rfl (Nat.le_of_ble_eq_true rfl) d_G_choose_6 (by decide) (c1 := 0) (s1 := 0) (by decide) (ax_ret_i (fun h hG => ?_))
    obtain rfl := Option.some.inj E
    exact ax_iret M hR (by decide) (by decide) d_G_choose_9 ⟨rfl, hG⟩
def C_leastDue (σ : ST) : Option (Int32) :=
  (lp (fun s1 : Int32 =>
  if 8 ≤ s1 then
  (some (.inr (.inl s1))) else
  (if inb s1 8 then 
  ((C_Actor_isDue σ (ix s1)).bind (fun b1 => 
  (if b1 = 0 then
  (some (.inl (s1 + 1))) else
  (some (.inr (.inr s1)))))) else none)) 100 0).bind (fun r1 : (Int32) ⊕ (Int32) => Sum.elim (fun o1 : Int32 =>
  (some (-1))) (fun v1 : Int32 => some v1) r1)
abbrev rm_C_leastDue : Room := { frames := 1, cells := 0, slots := 0, locals := 20 }
set_option maxRecDepth 100000 in
set_option maxHeartbeats 4000000 in
theorem ac_C_leastDue {l : Launch} {D : va_G} {cc : Nat → ClassId} {al : Nat → Nat → Nat} {σ : ST} {h0 h : AH}  {res : Int32}  (hG : SW dmC (cfC cc) al σ h0 h) (E : C_leastDue σ = some res) : AC l D vwCl (tysOf cc) NN y_G_leastDue (Cond.code y_G_leastDue b_G_leastDue 2 (some .int) :: TT) rm_C_leastDue [.ref (al 0 0)] h (fun rv h' => rv = some (.int res) ∧ SW dmC (cfC cc) al σ h0 h') := by
  refine AC.of (by decide) rfl (Nat.le_of_ble_eq_true rfl) (fun X M hR hI => ?_)
  unfold C_leastDue at E
  refine ax_lv (lv' := [(0, .ref (al 0 0))]) [0] rfl ?_
  refine ax_iconst (v := 0) M d_G_leastDue_0 (by decide) ?_
  refine ax_istore_n (lv' := [(0, .ref (al 0 0)), (1, .int 0)]) M d_G_leastDue_1 (by decide) [1, 0] rfl ?_
  refine ax_lv (lv' := [(0, .ref (al 0 0)), (1, .int 0)]) [0, 1] rfl ?_
  obtain ⟨r1, l1, E⟩ := ob_b E
  refine lp_walk (fun (s1 : Int32) => ∀ h : AH, SW dmC (cfC cc) al σ h0 h → AW l D vwCl rm_C_leastDue 2 X 0 0 h 2 [(0, .ref (al 0 0)), (1, .int s1)] []) (fun (r1 : (Int32) ⊕ (Int32)) => Sum.elim (fun o1 : Int32 => ∀ h : AH, SW dmC (cfC cc) al σ h0 h → AW l D vwCl rm_C_leastDue 2 X 0 0 h 28 [(0, .ref (al 0 0)), (1, .int o1)] []) (fun v1 : Int32 => ∀ h : AH, SW dmC (cfC cc) al σ h0 h → some (Value.int v1) = some (.int res) ∧ SW dmC (cfC cc) al σ h0 h) r1) ?_ _ _ _ l1 ?_ h hG
  · intro s1 y1 E K1 K2 h hG
    refine ax_iload_n M d_G_leastDue_2 1 rfl ?_
    refine ax_bipush (v := 8) M d_G_leastDue_3 (by decide) ?_
    refine ax_icmp_ge (tgt := 28) M d_G_leastDue_5 (by decide) (fun c1 => ?_) (fun c1 => ?_)
    · have E := ob_t E c1
      obtain rfl := Option.some.inj E
      refine ax_lv (lv' := [(0, .ref (al 0 0)), (1, .int s1)]) [0, 1] rfl ?_
      exact (qe_l (K2 _ rfl)) h hG
    · have E := ob_f E c1
      refine ax_aload_n M d_G_leastDue_8 0 rfl ?_
      refine sw_get M hG 0 0 (by decide) in_G rfl rfl 0 (by decide) wd_152 rfl d_G_leastDue_9 ?_
      refine ax_iload_n M d_G_leastDue_12 1 rfl ?_
      obtain ⟨k1, E⟩ := ob_c E
      refine sw_aldq (g := fun e => e) M hG 4 0 (by decide) rfl 1 rfl rfl k1 d_G_leastDue_13 ?_
      obtain ⟨b1, e1, E⟩ := ob_b E
      refine ax_callVN (n := 0) (q := (R_A, F_A, 10)) M TT_good rfl (SW.at hG 1 (ix s1) (in_lt k1)) (ac_C_Actor_isDue (in_lt k1) hG e1) wd_257 lm_G_194 (by decide) (by decide) rfl rfl (Nat.le_of_ble_eq_true rfl) d_G_leastDue_14 (by decide) (c1 := 0) (s1 := 0) (by decide) (ax_ret_i (fun h hG => ?_))
      refine ax_if_eq (tgt := 22) M d_G_leastDue_17 (by decide) (fun c2 => ?_) (fun c2 => ?_)
      · have E := ob_t E c2
        refine ax_iinc (v := s1 + 1) (lv' := [(0, .ref (al 0 0)), (1, .int (s1 + 1))]) M d_G_leastDue_22 1 rfl rfl (by decide) [1, 0] rfl ?_
        refine ax_goto (tgt := 2) M d_G_leastDue_25 (by decide) ?_
        obtain rfl := Option.some.inj E
        refine ax_lv (lv' := [(0, .ref (al 0 0)), (1, .int (s1 + 1))]) [0, 1] rfl ?_
        exact K1 _ rfl h hG
      · have E := ob_f E c2
        refine ax_iload_n M d_G_leastDue_20 1 rfl ?_
        obtain rfl := Option.some.inj E
        exact ax_iret M hR (by decide) (by decide) d_G_leastDue_21 ((qe_r (K2 _ rfl)) h hG)
  · rcases r1 with o1 | v1
    · have E := se_l E
      refine qi_l ?_
      intro h hG
      refine ax_iconst (v := (-1)) M d_G_leastDue_28 (by decide) ?_
      obtain rfl := Option.some.inj E
      exact ax_iret M hR (by decide) (by decide) d_G_leastDue_29 ⟨rfl, hG⟩
    · have E := se_r E
      refine qi_r ?_
      obtain rfl := Option.some.inj E
      exact fun h hG => ⟨rfl, hG⟩
def C_fireCounting (σ : ST) (x1 : Int32) : Option (ST) :=
  (lp (fun s1 : ST × Int32 =>
  if (gi s1.1 0 0 5) ≤ s1.2 then
  (some (.inr ((s1.1, s1.2)))) else
  (if inb s1.2 12 then 
  (if ix (gi s1.1 5 0 (ix s1.2)) < 12 then 
  (if (gi s1.1 2 (ix (gi s1.1 5 0 (ix s1.2))) 2) = x1 then
  (if (gi s1.1 2 (ix (gi s1.1 5 0 (ix s1.2))) 1) = x1 then
  (some (.inl ((su (su (su s1.1 2 (ix (gi s1.1 5 0 (ix s1.2))) 7 ((gi s1.1 2 (ix (gi s1.1 5 0 (ix s1.2))) 7) - (gi s1.1 2 (ix (gi s1.1 5 0 (ix s1.2))) 4))) 2 (ix (gi s1.1 5 0 (ix s1.2))) 7 (((gi s1.1 2 (ix (gi s1.1 5 0 (ix s1.2))) 7) - (gi s1.1 2 (ix (gi s1.1 5 0 (ix s1.2))) 4)) + (gi s1.1 2 (ix (gi s1.1 5 0 (ix s1.2))) 3))) 2 (ix (gi s1.1 5 0 (ix s1.2))) 8 (if (gi s1.1 2 (ix (gi s1.1 5 0 (ix s1.2))) 8) < (((gi s1.1 2 (ix (gi s1.1 5 0 (ix s1.2))) 7) - (gi s1.1 2 (ix (gi s1.1 5 0 (ix s1.2))) 4)) + (gi s1.1 2 (ix (gi s1.1 5 0 (ix s1.2))) 3)) then ((gi s1.1 2 (ix (gi s1.1 5 0 (ix s1.2))) 7) - (gi s1.1 2 (ix (gi s1.1 5 0 (ix s1.2))) 4)) + (gi s1.1 2 (ix (gi s1.1 5 0 (ix s1.2))) 3) else gi s1.1 2 (ix (gi s1.1 5 0 (ix s1.2))) 8), s1.2 + 1)))) else
  (some (.inl ((su (su s1.1 2 (ix (gi s1.1 5 0 (ix s1.2))) 7 ((gi s1.1 2 (ix (gi s1.1 5 0 (ix s1.2))) 7) - (gi s1.1 2 (ix (gi s1.1 5 0 (ix s1.2))) 4))) 2 (ix (gi s1.1 5 0 (ix s1.2))) 8 (if (gi s1.1 2 (ix (gi s1.1 5 0 (ix s1.2))) 8) < ((gi s1.1 2 (ix (gi s1.1 5 0 (ix s1.2))) 7) - (gi s1.1 2 (ix (gi s1.1 5 0 (ix s1.2))) 4)) then (gi s1.1 2 (ix (gi s1.1 5 0 (ix s1.2))) 7) - (gi s1.1 2 (ix (gi s1.1 5 0 (ix s1.2))) 4) else gi s1.1 2 (ix (gi s1.1 5 0 (ix s1.2))) 8), s1.2 + 1))))) else
  (if (gi s1.1 2 (ix (gi s1.1 5 0 (ix s1.2))) 1) = x1 then
  (some (.inl ((su (su s1.1 2 (ix (gi s1.1 5 0 (ix s1.2))) 7 ((gi s1.1 2 (ix (gi s1.1 5 0 (ix s1.2))) 7) + (gi s1.1 2 (ix (gi s1.1 5 0 (ix s1.2))) 3))) 2 (ix (gi s1.1 5 0 (ix s1.2))) 8 (if (gi s1.1 2 (ix (gi s1.1 5 0 (ix s1.2))) 8) < ((gi s1.1 2 (ix (gi s1.1 5 0 (ix s1.2))) 7) + (gi s1.1 2 (ix (gi s1.1 5 0 (ix s1.2))) 3)) then (gi s1.1 2 (ix (gi s1.1 5 0 (ix s1.2))) 7) + (gi s1.1 2 (ix (gi s1.1 5 0 (ix s1.2))) 3) else gi s1.1 2 (ix (gi s1.1 5 0 (ix s1.2))) 8), s1.2 + 1)))) else
  (some (.inl ((su s1.1 2 (ix (gi s1.1 5 0 (ix s1.2))) 8 (if (gi s1.1 2 (ix (gi s1.1 5 0 (ix s1.2))) 8) < (gi s1.1 2 (ix (gi s1.1 5 0 (ix s1.2))) 7) then gi s1.1 2 (ix (gi s1.1 5 0 (ix s1.2))) 7 else gi s1.1 2 (ix (gi s1.1 5 0 (ix s1.2))) 8), s1.2 + 1)))))) else none) else none)) 100 ((σ, 0))).bind (fun r1 : ST × Int32 =>
  if inb x1 8 then 
  (some (su r1.1 1 (ix x1) 6 ((gi r1.1 1 (ix x1) 6) + 1))) else none)
abbrev rm_C_fireCounting : Room := { frames := 1, cells := 0, slots := 0, locals := 21 }
set_option maxRecDepth 100000 in
set_option maxHeartbeats 4000000 in
theorem ac_C_fireCounting {l : Launch} {D : va_G} {cc : Nat → ClassId} {al : Nat → Nat → Nat} {σ : ST} {h0 h : AH} {x1 : Int32} {res : ST}  (hG : SW dmC (cfC cc) al σ h0 h) (E : C_fireCounting σ x1 = some res) : AC l D vwCl (tysOf cc) NN y_G_fireCounting (Cond.code y_G_fireCounting b_G_fireCounting 4 none :: TT) rm_C_fireCounting [.ref (al 0 0), .int x1] h (fun rv h' => rv = none ∧ SW dmC (cfC cc) al res h0 h') := by
  refine AC.of (by decide) rfl (Nat.le_of_ble_eq_true rfl) (fun X M hR hI => ?_)
  unfold C_fireCounting at E
  refine ax_lv (lv' := [(0, .ref (al 0 0)), (1, .int x1)]) [0, 1] rfl ?_
  refine ax_iconst (v := 0) M d_G_fireCounting_0 (by decide) ?_
  refine ax_istore_n (lv' := [(0, .ref (al 0 0)), (1, .int x1), (2, .int 0)]) M d_G_fireCounting_1 (by decide) [1, 2, 0] rfl ?_
  refine ax_lv (lv' := [(0, .ref (al 0 0)), (1, .int x1), (2, .int 0)]) [0, 1, 2] rfl ?_
  obtain ⟨r1, l1, E⟩ := ob_b E
  refine lp_walk (fun (s1 : ST × Int32) => ∀ h : AH, SW dmC (cfC cc) al s1.1 h0 h → AW l D vwCl rm_C_fireCounting 4 X 0 0 h 2 [(0, .ref (al 0 0)), (1, .int x1), (2, .int s1.2)] []) (fun (r1 : ST × Int32) => ∀ h : AH, SW dmC (cfC cc) al r1.1 h0 h → AW l D vwCl rm_C_fireCounting 4 X 0 0 h 80 [(0, .ref (al 0 0)), (1, .int x1), (2, .int r1.2)] []) ?_ _ _ _ l1 ?_ h hG
  · intro s1 y1 E K1 K2 h hG
    refine ax_iload_n M d_G_fireCounting_2 2 rfl ?_
    refine ax_aload_n M d_G_fireCounting_3 0 rfl ?_
    refine sw_get M hG 0 0 (by decide) in_G rfl rfl 5 (by decide) wd_157 rfl d_G_fireCounting_4 ?_
    refine ax_icmp_ge (tgt := 80) M d_G_fireCounting_7 (by decide) (fun c1 => ?_) (fun c1 => ?_)
    · have E := ob_t E c1
      obtain rfl := Option.some.inj E
      refine ax_lv (lv' := [(0, .ref (al 0 0)), (1, .int x1), (2, .int s1.2)]) [0, 1, 2] rfl ?_
      exact (K2 _ rfl) h hG
    · have E := ob_f E c1
      refine ax_aload_n M d_G_fireCounting_10 0 rfl ?_
      refine sw_get M hG 0 0 (by decide) in_G rfl rfl 1 (by decide) wd_153 rfl d_G_fireCounting_11 ?_
      refine ax_iload_n M d_G_fireCounting_14 2 rfl ?_
      obtain ⟨k1, E⟩ := ob_c E
      refine sw_aldq (g := fun e => ix (gi s1.1 5 0 e)) M hG 5 0 (by decide) rfl 2 rfl rfl k1 d_G_fireCounting_15 ?_
      obtain ⟨k2, E⟩ := ob_c E
      refine ax_astore_n (lv' := [(0, .ref (al 0 0)), (1, .int x1), (2, .int s1.2), (3, .ref (al 2 (ix (gi s1.1 5 0 (ix s1.2)))))]) M d_G_fireCounting_16 (by decide) [1, 2, 3, 0] rfl ?_
      refine ax_aload_n M d_G_fireCounting_17 3 rfl ?_
      refine sw_getN M hG 2 (ix (gi s1.1 5 0 (ix s1.2))) k2 in_E rfl rfl 2 (by decide) wd_122 rfl d_G_fireCounting_18 ?_
      refine ax_iload_n M d_G_fireCounting_21 1 rfl ?_
      refine ax_icmp_ne (tgt := 38) M d_G_fireCounting_22 (by decide) (fun c2 => ?_) (fun c2 => ?_)
      · have E := ob_f E c2
        refine ax_aload_n M d_G_fireCounting_38 3 rfl ?_
        refine sw_getN M hG 2 (ix (gi s1.1 5 0 (ix s1.2))) k2 in_E rfl rfl 1 (by decide) wd_120 rfl d_G_fireCounting_39 ?_
        refine ax_iload_n M d_G_fireCounting_42 1 rfl ?_
        refine ax_icmp_ne (tgt := 59) M d_G_fireCounting_43 (by decide) (fun c3 => ?_) (fun c3 => ?_)
        · have E := ob_f E c3
          refine ax_aload_n M d_G_fireCounting_59 3 rfl ?_
          refine ax_aload_n M d_G_fireCounting_60 3 rfl ?_
          refine sw_getN M hG 2 (ix (gi s1.1 5 0 (ix s1.2))) k2 in_E rfl rfl 8 (by decide) wd_132 rfl d_G_fireCounting_61 ?_
          refine ax_aload_n M d_G_fireCounting_64 3 rfl ?_
          refine sw_getN M hG 2 (ix (gi s1.1 5 0 (ix s1.2))) k2 in_E rfl rfl 7 (by decide) wd_131 rfl d_G_fireCounting_65 ?_
          refine ax_mmax M lm_G_141 (by decide) (Nat.le_of_ble_eq_true rfl) (by decide) (by decide) d_G_fireCounting_68 ?_
          refine sw_putN M hG 2 (ix (gi s1.1 5 0 (ix s1.2))) k2 in_E t_E tok_E nok_E rfl rfl 8 (by decide) wd_132 rfl rfl rfl (Nat.le_of_ble_eq_true rfl) rfl d_G_fireCounting_71 (fun h hG => ?_)
          refine ax_iinc (v := s1.2 + 1) (lv' := [(0, .ref (al 0 0)), (1, .int x1), (2, .int (s1.2 + 1)), (3, .ref (al 2 (ix (gi s1.1 5 0 (ix s1.2)))))]) M d_G_fireCounting_74 2 rfl rfl (by decide) [1, 2, 0, 3] rfl ?_
          refine ax_goto (tgt := 2) M d_G_fireCounting_77 (by decide) ?_
          obtain rfl := Option.some.inj E
          refine ax_lv (lv' := [(0, .ref (al 0 0)), (1, .int x1), (2, .int (s1.2 + 1))]) [0, 1, 2] rfl ?_
          exact K1 _ rfl h hG
        · have E := ob_t E c3
          refine ax_aload_n M d_G_fireCounting_46 3 rfl ?_
          refine ax_dup M d_G_fireCounting_47 rfl ?_
          refine sw_getN M hG 2 (ix (gi s1.1 5 0 (ix s1.2))) k2 in_E rfl rfl 7 (by decide) wd_131 rfl d_G_fireCounting_48 ?_
          refine ax_aload_n M d_G_fireCounting_51 3 rfl ?_
          refine sw_getN M hG 2 (ix (gi s1.1 5 0 (ix s1.2))) k2 in_E rfl rfl 3 (by decide) wd_123 rfl d_G_fireCounting_52 ?_
          refine ax_iadd M d_G_fireCounting_55 ?_
          refine sw_putN M hG 2 (ix (gi s1.1 5 0 (ix s1.2))) k2 in_E t_E tok_E nok_E rfl rfl 7 (by decide) wd_131 rfl rfl rfl (Nat.le_of_ble_eq_true rfl) rfl d_G_fireCounting_56 (fun h hG => ?_)
          refine ax_aload_n M d_G_fireCounting_59 3 rfl ?_
          refine ax_aload_n M d_G_fireCounting_60 3 rfl ?_
          refine sw_getN M hG 2 (ix (gi s1.1 5 0 (ix s1.2))) k2 in_E rfl rfl 8 (by decide) wd_132 rfl d_G_fireCounting_61 ?_
          refine ax_topi (gi s1.1 2 (ix (gi s1.1 5 0 (ix s1.2))) 8) (gi_k (by decide)) ?_
          refine ax_aload_n M d_G_fireCounting_64 3 rfl ?_
          refine sw_getN M hG 2 (ix (gi s1.1 5 0 (ix s1.2))) k2 in_E rfl rfl 7 (by decide) wd_131 rfl d_G_fireCounting_65 ?_
          refine ax_topi ((gi s1.1 2 (ix (gi s1.1 5 0 (ix s1.2))) 7) + (gi s1.1 2 (ix (gi s1.1 5 0 (ix s1.2))) 3)) gi_same ?_
          refine ax_mmax M lm_G_141 (by decide) (Nat.le_of_ble_eq_true rfl) (by decide) (by decide) d_G_fireCounting_68 ?_
          refine sw_putN M hG 2 (ix (gi s1.1 5 0 (ix s1.2))) k2 in_E t_E tok_E nok_E rfl rfl 8 (by decide) wd_132 rfl rfl rfl (Nat.le_of_ble_eq_true rfl) rfl d_G_fireCounting_71 (fun h hG => ?_)
          refine ax_iinc (v := s1.2 + 1) (lv' := [(0, .ref (al 0 0)), (1, .int x1), (2, .int (s1.2 + 1)), (3, .ref (al 2 (ix (gi s1.1 5 0 (ix s1.2)))))]) M d_G_fireCounting_74 2 rfl rfl (by decide) [1, 2, 0, 3] rfl ?_
          refine ax_goto (tgt := 2) M d_G_fireCounting_77 (by decide) ?_
          obtain rfl := Option.some.inj E
          refine ax_lv (lv' := [(0, .ref (al 0 0)), (1, .int x1), (2, .int (s1.2 + 1))]) [0, 1, 2] rfl ?_
          exact K1 _ rfl h hG
      · have E := ob_t E c2
        refine ax_aload_n M d_G_fireCounting_25 3 rfl ?_
        refine ax_dup M d_G_fireCounting_26 rfl ?_
        refine sw_getN M hG 2 (ix (gi s1.1 5 0 (ix s1.2))) k2 in_E rfl rfl 7 (by decide) wd_131 rfl d_G_fireCounting_27 ?_
        refine ax_aload_n M d_G_fireCounting_30 3 rfl ?_
        refine sw_getN M hG 2 (ix (gi s1.1 5 0 (ix s1.2))) k2 in_E rfl rfl 4 (by decide) wd_125 rfl d_G_fireCounting_31 ?_
        refine ax_isub M d_G_fireCounting_34 ?_
        refine sw_putN M hG 2 (ix (gi s1.1 5 0 (ix s1.2))) k2 in_E t_E tok_E nok_E rfl rfl 7 (by decide) wd_131 rfl rfl rfl (Nat.le_of_ble_eq_true rfl) rfl d_G_fireCounting_35 (fun h hG => ?_)
        refine ax_aload_n M d_G_fireCounting_38 3 rfl ?_
        refine sw_getN M hG 2 (ix (gi s1.1 5 0 (ix s1.2))) k2 in_E rfl rfl 1 (by decide) wd_120 rfl d_G_fireCounting_39 ?_
        refine ax_topi (gi s1.1 2 (ix (gi s1.1 5 0 (ix s1.2))) 1) (gi_k (by decide)) ?_
        refine ax_iload_n M d_G_fireCounting_42 1 rfl ?_
        refine ax_icmp_ne (tgt := 59) M d_G_fireCounting_43 (by decide) (fun c4 => ?_) (fun c4 => ?_)
        · have E := ob_f E c4
          refine ax_aload_n M d_G_fireCounting_59 3 rfl ?_
          refine ax_aload_n M d_G_fireCounting_60 3 rfl ?_
          refine sw_getN M hG 2 (ix (gi s1.1 5 0 (ix s1.2))) k2 in_E rfl rfl 8 (by decide) wd_132 rfl d_G_fireCounting_61 ?_
          refine ax_topi (gi s1.1 2 (ix (gi s1.1 5 0 (ix s1.2))) 8) (gi_k (by decide)) ?_
          refine ax_aload_n M d_G_fireCounting_64 3 rfl ?_
          refine sw_getN M hG 2 (ix (gi s1.1 5 0 (ix s1.2))) k2 in_E rfl rfl 7 (by decide) wd_131 rfl d_G_fireCounting_65 ?_
          refine ax_topi ((gi s1.1 2 (ix (gi s1.1 5 0 (ix s1.2))) 7) - (gi s1.1 2 (ix (gi s1.1 5 0 (ix s1.2))) 4)) gi_same ?_
          refine ax_mmax M lm_G_141 (by decide) (Nat.le_of_ble_eq_true rfl) (by decide) (by decide) d_G_fireCounting_68 ?_
          refine sw_putN M hG 2 (ix (gi s1.1 5 0 (ix s1.2))) k2 in_E t_E tok_E nok_E rfl rfl 8 (by decide) wd_132 rfl rfl rfl (Nat.le_of_ble_eq_true rfl) rfl d_G_fireCounting_71 (fun h hG => ?_)
          refine ax_iinc (v := s1.2 + 1) (lv' := [(0, .ref (al 0 0)), (1, .int x1), (2, .int (s1.2 + 1)), (3, .ref (al 2 (ix (gi s1.1 5 0 (ix s1.2)))))]) M d_G_fireCounting_74 2 rfl rfl (by decide) [1, 2, 0, 3] rfl ?_
          refine ax_goto (tgt := 2) M d_G_fireCounting_77 (by decide) ?_
          obtain rfl := Option.some.inj E
          refine ax_lv (lv' := [(0, .ref (al 0 0)), (1, .int x1), (2, .int (s1.2 + 1))]) [0, 1, 2] rfl ?_
          exact K1 _ rfl h hG
        · have E := ob_t E c4
          refine ax_aload_n M d_G_fireCounting_46 3 rfl ?_
          refine ax_dup M d_G_fireCounting_47 rfl ?_
          refine sw_getN M hG 2 (ix (gi s1.1 5 0 (ix s1.2))) k2 in_E rfl rfl 7 (by decide) wd_131 rfl d_G_fireCounting_48 ?_
          refine ax_topi ((gi s1.1 2 (ix (gi s1.1 5 0 (ix s1.2))) 7) - (gi s1.1 2 (ix (gi s1.1 5 0 (ix s1.2))) 4)) gi_same ?_
          refine ax_aload_n M d_G_fireCounting_51 3 rfl ?_
          refine sw_getN M hG 2 (ix (gi s1.1 5 0 (ix s1.2))) k2 in_E rfl rfl 3 (by decide) wd_123 rfl d_G_fireCounting_52 ?_
          refine ax_topi (gi s1.1 2 (ix (gi s1.1 5 0 (ix s1.2))) 3) (gi_k (by decide)) ?_
          refine ax_iadd M d_G_fireCounting_55 ?_
          refine sw_putN M hG 2 (ix (gi s1.1 5 0 (ix s1.2))) k2 in_E t_E tok_E nok_E rfl rfl 7 (by decide) wd_131 rfl rfl rfl (Nat.le_of_ble_eq_true rfl) rfl d_G_fireCounting_56 (fun h hG => ?_)
          refine ax_aload_n M d_G_fireCounting_59 3 rfl ?_
          refine ax_aload_n M d_G_fireCounting_60 3 rfl ?_
          refine sw_getN M hG 2 (ix (gi s1.1 5 0 (ix s1.2))) k2 in_E rfl rfl 8 (by decide) wd_132 rfl d_G_fireCounting_61 ?_
          refine ax_topi (gi s1.1 2 (ix (gi s1.1 5 0 (ix s1.2))) 8) ((gi_k (by decide)).trans (gi_k (by decide))) ?_
          refine ax_aload_n M d_G_fireCounting_64 3 rfl ?_
          refine sw_getN M hG 2 (ix (gi s1.1 5 0 (ix s1.2))) k2 in_E rfl rfl 7 (by decide) wd_131 rfl d_G_fireCounting_65 ?_
          refine ax_topi (((gi s1.1 2 (ix (gi s1.1 5 0 (ix s1.2))) 7) - (gi s1.1 2 (ix (gi s1.1 5 0 (ix s1.2))) 4)) + (gi s1.1 2 (ix (gi s1.1 5 0 (ix s1.2))) 3)) gi_same ?_
          refine ax_mmax M lm_G_141 (by decide) (Nat.le_of_ble_eq_true rfl) (by decide) (by decide) d_G_fireCounting_68 ?_
          refine sw_putN M hG 2 (ix (gi s1.1 5 0 (ix s1.2))) k2 in_E t_E tok_E nok_E rfl rfl 8 (by decide) wd_132 rfl rfl rfl (Nat.le_of_ble_eq_true rfl) rfl d_G_fireCounting_71 (fun h hG => ?_)
          refine ax_iinc (v := s1.2 + 1) (lv' := [(0, .ref (al 0 0)), (1, .int x1), (2, .int (s1.2 + 1)), (3, .ref (al 2 (ix (gi s1.1 5 0 (ix s1.2)))))]) M d_G_fireCounting_74 2 rfl rfl (by decide) [1, 2, 0, 3] rfl ?_
          refine ax_goto (tgt := 2) M d_G_fireCounting_77 (by decide) ?_
          obtain rfl := Option.some.inj E
          refine ax_lv (lv' := [(0, .ref (al 0 0)), (1, .int x1), (2, .int (s1.2 + 1))]) [0, 1, 2] rfl ?_
          exact K1 _ rfl h hG
  · intro h hG
    refine ax_aload_n M d_G_fireCounting_80 0 rfl ?_
    refine sw_get M hG 0 0 (by decide) in_G rfl rfl 0 (by decide) wd_152 rfl d_G_fireCounting_81 ?_
    refine ax_iload_n M d_G_fireCounting_84 1 rfl ?_
    obtain ⟨k3, E⟩ := ob_c E
    refine sw_aldq (g := fun e => e) M hG 4 0 (by decide) rfl 1 rfl rfl k3 d_G_fireCounting_85 ?_
    refine ax_dup M d_G_fireCounting_86 rfl ?_
    refine sw_getN M hG 1 (ix x1) (in_lt k3) in_A rfl rfl 6 (by decide) wd_86 rfl d_G_fireCounting_87 ?_
    refine ax_iconst (v := 1) M d_G_fireCounting_90 (by decide) ?_
    refine ax_iadd M d_G_fireCounting_91 ?_
    refine sw_putN M hG 1 (ix x1) (in_lt k3) in_A t_A tok_A nok_A rfl rfl 6 (by decide) wd_86 rfl rfl rfl (Nat.le_of_ble_eq_true rfl) rfl d_G_fireCounting_92 (fun h hG => ?_)
    obtain rfl := Option.some.inj E
    exact ax_vret M hR (by decide) (by decide) d_G_fireCounting_95 ⟨rfl, hG⟩
def C_makeSchedule (σ : ST) (x1 : Int32) : Option (Int32 × ST) :=
  (lp (fun s1 : ST × Int32 =>
  if 8 ≤ s1.2 then
  (some (.inr ((s1.1, s1.2)))) else
  (if inb s1.2 8 then 
  (some (.inl ((su s1.1 1 (ix s1.2) 6 0, s1.2 + 1)))) else none)) 100 ((σ, 0))).bind (fun r1 : ST × Int32 =>
  (lp (fun s2 : ST × Int32 =>
  if (gi s2.1 0 0 5) ≤ s2.2 then
  (some (.inr ((s2.1, s2.2)))) else
  (if inb s2.2 12 then 
  (if ix (gi s2.1 5 0 (ix s2.2)) < 12 then 
  (some (.inl ((su (su s2.1 2 (ix (gi s2.1 5 0 (ix s2.2))) 7 (gi s2.1 2 (ix (gi s2.1 5 0 (ix s2.2))) 5)) 2 (ix (gi s2.1 5 0 (ix s2.2))) 8 (gi s2.1 2 (ix (gi s2.1 5 0 (ix s2.2))) 5), s2.2 + 1)))) else none) else none)) 100 ((r1.1, 0))).bind (fun r2 : ST × Int32 =>
  (lp (fun s3 : ST × Int32 × Int32 =>
  if (gi s3.1 0 0 6) ≤ s3.2.2 then
  (some (.inr (.inl ((s3.1, s3.2.1, s3.2.2))))) else
  ((C_choose s3.1 x1 s3.2.1).bind (fun b1 => 
  (if b1 = (-1) then
  ((C_leastDue s3.1).bind (fun b3 => 
  (some (.inr (.inr ((b3, s3.1))))))) else
  ((C_fireCounting s3.1 b1).bind (fun b2 => 
  (if inb s3.2.2 64 then 
  (some (.inl ((su b2 8 0 (ix s3.2.2) b1, b1, s3.2.2 + 1)))) else none))))))) 100 ((r2.1, 0, 0))).bind (fun r3 : (ST × Int32 × Int32) ⊕ (Int32 × ST) => Sum.elim (fun o1 : ST × Int32 × Int32 =>
  (some ((-1, o1.1)))) (fun v1 : Int32 × ST => some v1) r3)))
abbrev rm_C_makeSchedule : Room := { frames := 4, cells := 0, slots := 0, locals := 90 }
set_option maxRecDepth 100000 in
set_option maxHeartbeats 4000000 in
theorem ac_C_makeSchedule {l : Launch} {D : va_G} {cc : Nat → ClassId} {al : Nat → Nat → Nat} {σ : ST} {h0 h : AH} {x1 : Int32} {res : Int32 × ST}  (hG : SW dmC (cfC cc) al σ h0 h) (E : C_makeSchedule σ x1 = some res) : AC l D vwCl (tysOf cc) NN y_G_makeSchedule (Cond.code y_G_makeSchedule b_G_makeSchedule 5 (some .int) :: TT) rm_C_makeSchedule [.ref (al 0 0), .int x1] h (fun rv h' => rv = some (.int res.1) ∧ SW dmC (cfC cc) al res.2 h0 h') := by
  refine AC.of (by decide) rfl (Nat.le_of_ble_eq_true rfl) (fun X M hR hI => ?_)
  unfold C_makeSchedule at E
  refine ax_lv (lv' := [(0, .ref (al 0 0)), (1, .int x1)]) [0, 1] rfl ?_
  refine ax_iconst (v := 0) M d_G_makeSchedule_0 (by decide) ?_
  refine ax_istore_n (lv' := [(0, .ref (al 0 0)), (1, .int x1), (2, .int 0)]) M d_G_makeSchedule_1 (by decide) [1, 2, 0] rfl ?_
  refine ax_lv (lv' := [(0, .ref (al 0 0)), (1, .int x1), (2, .int 0)]) [0, 1, 2] rfl ?_
  obtain ⟨r1, l1, E⟩ := ob_b E
  refine lp_walk (fun (s1 : ST × Int32) => ∀ h : AH, SW dmC (cfC cc) al s1.1 h0 h → AW l D vwCl rm_C_makeSchedule 5 X 0 0 h 2 [(0, .ref (al 0 0)), (1, .int x1), (2, .int s1.2)] []) (fun (r1 : ST × Int32) => ∀ h : AH, SW dmC (cfC cc) al r1.1 h0 h → AW l D vwCl rm_C_makeSchedule 5 X 0 0 h 24 [(0, .ref (al 0 0)), (1, .int x1), (2, .int r1.2)] []) ?_ _ _ _ l1 ?_ h hG
  · intro s1 y1 E K1 K2 h hG
    refine ax_iload_n M d_G_makeSchedule_2 2 rfl ?_
    refine ax_bipush (v := 8) M d_G_makeSchedule_3 (by decide) ?_
    refine ax_icmp_ge (tgt := 24) M d_G_makeSchedule_5 (by decide) (fun c1 => ?_) (fun c1 => ?_)
    · have E := ob_t E c1
      obtain rfl := Option.some.inj E
      refine ax_lv (lv' := [(0, .ref (al 0 0)), (1, .int x1), (2, .int s1.2)]) [0, 1, 2] rfl ?_
      exact (K2 _ rfl) h hG
    · have E := ob_f E c1
      refine ax_aload_n M d_G_makeSchedule_8 0 rfl ?_
      refine sw_get M hG 0 0 (by decide) in_G rfl rfl 0 (by decide) wd_152 rfl d_G_makeSchedule_9 ?_
      refine ax_iload_n M d_G_makeSchedule_12 2 rfl ?_
      obtain ⟨k1, E⟩ := ob_c E
      refine sw_aldq (g := fun e => e) M hG 4 0 (by decide) rfl 1 rfl rfl k1 d_G_makeSchedule_13 ?_
      refine ax_iconst (v := 0) M d_G_makeSchedule_14 (by decide) ?_
      refine sw_putN M hG 1 (ix s1.2) (in_lt k1) in_A t_A tok_A nok_A rfl rfl 6 (by decide) wd_86 rfl rfl rfl (Nat.le_of_ble_eq_true rfl) rfl d_G_makeSchedule_15 (fun h hG => ?_)
      refine ax_iinc (v := s1.2 + 1) (lv' := [(0, .ref (al 0 0)), (1, .int x1), (2, .int (s1.2 + 1))]) M d_G_makeSchedule_18 2 rfl rfl (by decide) [1, 2, 0] rfl ?_
      refine ax_goto (tgt := 2) M d_G_makeSchedule_21 (by decide) ?_
      obtain rfl := Option.some.inj E
      refine ax_lv (lv' := [(0, .ref (al 0 0)), (1, .int x1), (2, .int (s1.2 + 1))]) [0, 1, 2] rfl ?_
      exact K1 _ rfl h hG
  · intro h hG
    refine ax_iconst (v := 0) M d_G_makeSchedule_24 (by decide) ?_
    refine ax_istore_n (lv' := [(0, .ref (al 0 0)), (1, .int x1), (2, .int 0)]) M d_G_makeSchedule_25 (by decide) [1, 2, 0] rfl ?_
    refine ax_lv (lv' := [(0, .ref (al 0 0)), (1, .int x1), (2, .int 0)]) [0, 1, 2] rfl ?_
    obtain ⟨r2, l2, E⟩ := ob_b E
    refine lp_walk (fun (s2 : ST × Int32) => ∀ h : AH, SW dmC (cfC cc) al s2.1 h0 h → AW l D vwCl rm_C_makeSchedule 5 X 0 0 h 26 [(0, .ref (al 0 0)), (1, .int x1), (2, .int s2.2)] []) (fun (r2 : ST × Int32) => ∀ h : AH, SW dmC (cfC cc) al r2.1 h0 h → AW l D vwCl rm_C_makeSchedule 5 X 0 0 h 76 [(0, .ref (al 0 0)), (1, .int x1), (2, .int r2.2)] []) ?_ _ _ _ l2 ?_ h hG
    · intro s2 y2 E K3 K4 h hG
      refine ax_iload_n M d_G_makeSchedule_26 2 rfl ?_
      refine ax_aload_n M d_G_makeSchedule_27 0 rfl ?_
      refine sw_get M hG 0 0 (by decide) in_G rfl rfl 5 (by decide) wd_157 rfl d_G_makeSchedule_28 ?_
      refine ax_icmp_ge (tgt := 76) M d_G_makeSchedule_31 (by decide) (fun c2 => ?_) (fun c2 => ?_)
      · have E := ob_t E c2
        obtain rfl := Option.some.inj E
        refine ax_lv (lv' := [(0, .ref (al 0 0)), (1, .int x1), (2, .int s2.2)]) [0, 1, 2] rfl ?_
        exact (K4 _ rfl) h hG
      · have E := ob_f E c2
        refine ax_aload_n M d_G_makeSchedule_34 0 rfl ?_
        refine sw_get M hG 0 0 (by decide) in_G rfl rfl 1 (by decide) wd_153 rfl d_G_makeSchedule_35 ?_
        refine ax_iload_n M d_G_makeSchedule_38 2 rfl ?_
        obtain ⟨k2, E⟩ := ob_c E
        refine sw_aldq (g := fun e => ix (gi s2.1 5 0 e)) M hG 5 0 (by decide) rfl 2 rfl rfl k2 d_G_makeSchedule_39 ?_
        obtain ⟨k3, E⟩ := ob_c E
        refine ax_aload_n M d_G_makeSchedule_40 0 rfl ?_
        refine sw_get M hG 0 0 (by decide) in_G rfl rfl 1 (by decide) wd_153 rfl d_G_makeSchedule_41 ?_
        refine ax_iload_n M d_G_makeSchedule_44 2 rfl ?_
        refine sw_aldq (g := fun e => ix (gi s2.1 5 0 e)) M hG 5 0 (by decide) rfl 2 rfl rfl k2 d_G_makeSchedule_45 ?_
        refine sw_getN M hG 2 (ix (gi s2.1 5 0 (ix s2.2))) k3 in_E rfl rfl 5 (by decide) wd_128 rfl d_G_makeSchedule_46 ?_
        refine sw_putN M hG 2 (ix (gi s2.1 5 0 (ix s2.2))) k3 in_E t_E tok_E nok_E rfl rfl 7 (by decide) wd_131 rfl rfl rfl (Nat.le_of_ble_eq_true rfl) rfl d_G_makeSchedule_49 (fun h hG => ?_)
        refine ax_aload_n M d_G_makeSchedule_52 0 rfl ?_
        refine sw_get M hG 0 0 (by decide) in_G rfl rfl 1 (by decide) wd_153 rfl d_G_makeSchedule_53 ?_
        refine ax_iload_n M d_G_makeSchedule_56 2 rfl ?_
        refine sw_aldq (g := fun e => ix (gi (su s2.1 2 (ix (gi s2.1 5 0 (ix s2.2))) 7 (gi s2.1 2 (ix (gi s2.1 5 0 (ix s2.2))) 5)) 5 0 e)) M hG 5 0 (by decide) rfl 2 rfl rfl k2 d_G_makeSchedule_57 ?_
        refine ax_topr (congrArg (fun z => al 2 (ix z)) (gi_K (by decide))) ?_
        refine ax_aload_n M d_G_makeSchedule_58 0 rfl ?_
        refine sw_get M hG 0 0 (by decide) in_G rfl rfl 1 (by decide) wd_153 rfl d_G_makeSchedule_59 ?_
        refine ax_iload_n M d_G_makeSchedule_62 2 rfl ?_
        refine sw_aldq (g := fun e => ix (gi (su s2.1 2 (ix (gi s2.1 5 0 (ix s2.2))) 7 (gi s2.1 2 (ix (gi s2.1 5 0 (ix s2.2))) 5)) 5 0 e)) M hG 5 0 (by decide) rfl 2 rfl rfl k2 d_G_makeSchedule_63 ?_
        refine ax_topr (congrArg (fun z => al 2 (ix z)) (gi_K (by decide))) ?_
        refine sw_getN M hG 2 (ix (gi s2.1 5 0 (ix s2.2))) k3 in_E rfl rfl 5 (by decide) wd_128 rfl d_G_makeSchedule_64 ?_
        refine ax_topi (gi s2.1 2 (ix (gi s2.1 5 0 (ix s2.2))) 5) (gi_k (by decide)) ?_
        refine sw_putN M hG 2 (ix (gi s2.1 5 0 (ix s2.2))) k3 in_E t_E tok_E nok_E rfl rfl 8 (by decide) wd_132 rfl rfl rfl (Nat.le_of_ble_eq_true rfl) rfl d_G_makeSchedule_67 (fun h hG => ?_)
        refine ax_iinc (v := s2.2 + 1) (lv' := [(0, .ref (al 0 0)), (1, .int x1), (2, .int (s2.2 + 1))]) M d_G_makeSchedule_70 2 rfl rfl (by decide) [1, 2, 0] rfl ?_
        refine ax_goto (tgt := 26) M d_G_makeSchedule_73 (by decide) ?_
        obtain rfl := Option.some.inj E
        refine ax_lv (lv' := [(0, .ref (al 0 0)), (1, .int x1), (2, .int (s2.2 + 1))]) [0, 1, 2] rfl ?_
        exact K3 _ rfl h hG
    · intro h hG
      refine ax_iconst (v := 0) M d_G_makeSchedule_76 (by decide) ?_
      refine ax_istore_n (lv' := [(0, .ref (al 0 0)), (1, .int x1), (2, .int 0)]) M d_G_makeSchedule_77 (by decide) [1, 2, 0] rfl ?_
      refine ax_iconst (v := 0) M d_G_makeSchedule_78 (by decide) ?_
      refine ax_istore_n (lv' := [(0, .ref (al 0 0)), (1, .int x1), (2, .int 0), (3, .int 0)]) M d_G_makeSchedule_79 (by decide) [1, 2, 3, 0] rfl ?_
      refine ax_lv (lv' := [(0, .ref (al 0 0)), (1, .int x1), (2, .int 0), (3, .int 0)]) [0, 1, 2, 3] rfl ?_
      obtain ⟨r3, l3, E⟩ := ob_b E
      refine lp_walk (fun (s3 : ST × Int32 × Int32) => ∀ h : AH, SW dmC (cfC cc) al s3.1 h0 h → AW l D vwCl rm_C_makeSchedule 5 X 0 0 h 80 [(0, .ref (al 0 0)), (1, .int x1), (2, .int s3.2.1), (3, .int s3.2.2)] []) (fun (r3 : (ST × Int32 × Int32) ⊕ (Int32 × ST)) => Sum.elim (fun o1 : ST × Int32 × Int32 => ∀ h : AH, SW dmC (cfC cc) al o1.1 h0 h → AW l D vwCl rm_C_makeSchedule 5 X 0 0 h 130 [(0, .ref (al 0 0)), (1, .int x1), (2, .int o1.2.1), (3, .int o1.2.2)] []) (fun v1 : Int32 × ST => ∀ h : AH, SW dmC (cfC cc) al v1.2 h0 h → some (Value.int v1.1) = some (.int res.1) ∧ SW dmC (cfC cc) al res.2 h0 h) r3) ?_ _ _ _ l3 ?_ h hG
      · intro s3 y3 E K5 K6 h hG
        refine ax_iload_n M d_G_makeSchedule_80 3 rfl ?_
        refine ax_aload_n M d_G_makeSchedule_81 0 rfl ?_
        refine sw_get M hG 0 0 (by decide) in_G rfl rfl 6 (by decide) wd_158 rfl d_G_makeSchedule_82 ?_
        refine ax_icmp_ge (tgt := 130) M d_G_makeSchedule_85 (by decide) (fun c3 => ?_) (fun c3 => ?_)
        · have E := ob_t E c3
          obtain rfl := Option.some.inj E
          refine ax_lv (lv' := [(0, .ref (al 0 0)), (1, .int x1), (2, .int s3.2.1), (3, .int s3.2.2)]) [0, 1, 2, 3] rfl ?_
          exact (qe_l (K6 _ rfl)) h hG
        · have E := ob_f E c3
          refine ax_aload_n M d_G_makeSchedule_88 0 rfl ?_
          refine ax_iload_n M d_G_makeSchedule_89 1 rfl ?_
          refine ax_iload_n M d_G_makeSchedule_90 2 rfl ?_
          obtain ⟨b1, e1, E⟩ := ob_b E
          refine ax_callV (n := 2) (C := R_G) (q := (R_G, F_G, 9)) M TT_good rfl rfl (SW.at hG 0 0 (by decide)) (ac_C_choose hG e1) lm_G_173 (by decide) (by decide) rfl rfl (Nat.le_of_ble_eq_true rfl) d_G_makeSchedule_91 (by decide) (c1 := 0) (s1 := 0) (by decide) (ax_ret_i (fun h hG => ?_))
          refine ax_istore (lv' := [(0, .ref (al 0 0)), (1, .int x1), (3, .int s3.2.2), (4, .int b1)]) M d_G_makeSchedule_94 (by decide) [1, 2, 4, 0] rfl ?_
          refine ax_iload M d_G_makeSchedule_96 3 rfl ?_
          refine ax_iconst (v := (-1)) M d_G_makeSchedule_98 (by decide) ?_
          refine ax_icmp_ne (tgt := 107) M d_G_makeSchedule_99 (by decide) (fun c4 => ?_) (fun c4 => ?_)
          · have E := ob_f E c4
            refine ax_aload_n M d_G_makeSchedule_107 0 rfl ?_
            refine ax_iload M d_G_makeSchedule_108 3 rfl ?_
            obtain ⟨b2, e2, E⟩ := ob_b E
            refine ax_callV (n := 1) (C := R_G) (q := (R_G, F_G, 9)) M TT_good rfl rfl (SW.at hG 0 0 (by decide)) (ac_C_fireCounting hG e2) lm_G_179 (by decide) (by decide) rfl rfl (Nat.le_of_ble_eq_true rfl) d_G_makeSchedule_110 (by decide) (c1 := 0) (s1 := 0) (by decide) (ax_ret_v (fun h hG => ?_))
            refine ax_aload_n M d_G_makeSchedule_113 0 rfl ?_
            refine sw_get M hG 0 0 (by decide) in_G rfl rfl 4 (by decide) wd_156 rfl d_G_makeSchedule_114 ?_
            refine ax_iload_n M d_G_makeSchedule_117 2 rfl ?_
            refine ax_iload M d_G_makeSchedule_118 3 rfl ?_
            obtain ⟨k4, E⟩ := ob_c E
            refine sw_iast M hG 8 0 (by decide) rfl 0 rfl k4 rfl d_G_makeSchedule_120 (fun h hG => ?_)
            refine ax_iload M d_G_makeSchedule_121 3 rfl ?_
            refine ax_istore_n (lv' := [(0, .ref (al 0 0)), (1, .int x1), (2, .int b1), (3, .int s3.2.2)]) M d_G_makeSchedule_123 (by decide) [1, 2, 0, 3] rfl ?_
            refine ax_iinc (v := s3.2.2 + 1) (lv' := [(0, .ref (al 0 0)), (1, .int x1), (2, .int b1), (3, .int (s3.2.2 + 1))]) M d_G_makeSchedule_124 3 rfl rfl (by decide) [1, 2, 3, 0] rfl ?_
            refine ax_goto (tgt := 80) M d_G_makeSchedule_127 (by decide) ?_
            obtain rfl := Option.some.inj E
            refine ax_lv (lv' := [(0, .ref (al 0 0)), (1, .int x1), (2, .int b1), (3, .int (s3.2.2 + 1))]) [0, 1, 2, 3] rfl ?_
            exact K5 _ rfl h hG
          · have E := ob_t E c4
            refine ax_aload_n M d_G_makeSchedule_102 0 rfl ?_
            obtain ⟨b3, e3, E⟩ := ob_b E
            refine ax_callV (n := 0) (C := R_G) (q := (R_G, F_G, 9)) M TT_good rfl rfl (SW.at hG 0 0 (by decide)) (ac_C_leastDue hG e3) lm_G_176 (by decide) (by decide) rfl rfl (Nat.le_of_ble_eq_true rfl) d_G_makeSchedule_103 (by decide) (c1 := 0) (s1 := 0) (by decide) (ax_ret_i (fun h hG => ?_))
            obtain rfl := Option.some.inj E
            exact ax_iret M hR (by decide) (by decide) d_G_makeSchedule_106 ((qe_r (K6 _ rfl)) h hG)
      · rcases r3 with o1 | v1
        · have E := se_l E
          refine qi_l ?_
          intro h hG
          refine ax_iconst (v := (-1)) M d_G_makeSchedule_130 (by decide) ?_
          obtain rfl := Option.some.inj E
          exact ax_iret M hR (by decide) (by decide) d_G_makeSchedule_131 ⟨rfl, hG⟩
        · have E := se_r E
          refine qi_r ?_
          obtain rfl := Option.some.inj E
          exact fun h hG => ⟨rfl, hG⟩
end
section
def C_Actor_forgetRun (σ : ST) (i0 : Nat) : Option (ST) :=
  some (su (su (su σ 1 i0 7 0) 1 i0 8 0) 1 i0 9 0)
abbrev rm_C_Actor_forgetRun : Room := { frames := 0, cells := 0, slots := 0, locals := 0 }
set_option maxRecDepth 100000 in
set_option maxHeartbeats 4000000 in
theorem ac_C_Actor_forgetRun {l : Launch} {D : va_G} {cc : Nat → ClassId} {al : Nat → Nat → Nat} {σ : ST} {h0 h : AH} {i0 : Nat} {res : ST} (hi0 : i0 < 8) (hG : SW dmC (cfC cc) al σ h0 h) (E : C_Actor_forgetRun σ i0 = some res) : AC l D vwCl (tysOf cc) NN y_A_forgetRun (Cond.code y_A_forgetRun b_A_forgetRun 1 none :: TT) rm_C_Actor_forgetRun [.ref (al 1 i0)] h (fun rv h' => rv = none ∧ SW dmC (cfC cc) al res h0 h') := by
  refine AC.of (by decide) rfl (Nat.le_of_ble_eq_true rfl) (fun X M hR hI => ?_)
  unfold C_Actor_forgetRun at E
  refine ax_lv (lv' := [(0, .ref (al 1 i0))]) [0] rfl ?_
  refine ax_aload_n M d_A_forgetRun_0 0 rfl ?_
  refine ax_iconst (v := 0) M d_A_forgetRun_1 (by decide) ?_
  refine sw_put M hG 1 i0 hi0 in_A t_A tok_A nok_A rfl rfl 7 (by decide) wd_87 rfl rfl rfl (Nat.le_of_ble_eq_true rfl) rfl d_A_forgetRun_2 (fun h hG => ?_)
  refine ax_aload_n M d_A_forgetRun_5 0 rfl ?_
  refine ax_iconst (v := 0) M d_A_forgetRun_6 (by decide) ?_
  refine sw_put M hG 1 i0 hi0 in_A t_A tok_A nok_A rfl rfl 8 (by decide) wd_88 rfl rfl rfl (Nat.le_of_ble_eq_true rfl) rfl d_A_forgetRun_7 (fun h hG => ?_)
  refine ax_aload_n M d_A_forgetRun_10 0 rfl ?_
  refine ax_iconst (v := 0) M d_A_forgetRun_11 (by decide) ?_
  refine sw_put M hG 1 i0 hi0 in_A t_A tok_A nok_A rfl rfl 9 (by decide) wd_89 rfl rfl rfl (Nat.le_of_ble_eq_true rfl) rfl d_A_forgetRun_12 (fun h hG => ?_)
  obtain rfl := Option.some.inj E
  exact ax_vret M hR (by decide) (by decide) d_A_forgetRun_15 ⟨rfl, hG⟩
def C_Edge_setAsAtFirst (σ : ST) (i0 : Nat) : Option (ST) :=
  (lp (fun s1 : ST × Int32 =>
  if (gi s1.1 2 i0 5) ≤ s1.2 then
  (some (.inr ((s1.1, s1.2)))) else
  (if inb (s1.2 &&& 255) 256 then 
  (some (.inl ((su s1.1 3 i0 (ix (s1.2 &&& 255)) 0, s1.2 + 1)))) else none)) 100 ((σ, 0))).bind (fun r1 : ST × Int32 =>
  some (su (su r1.1 2 i0 6 0) 2 i0 7 (gi r1.1 2 i0 5)))
abbrev rm_C_Edge_setAsAtFirst : Room := { frames := 0, cells := 0, slots := 0, locals := 0 }
set_option maxRecDepth 100000 in
set_option maxHeartbeats 4000000 in
theorem ac_C_Edge_setAsAtFirst {l : Launch} {D : va_G} {cc : Nat → ClassId} {al : Nat → Nat → Nat} {σ : ST} {h0 h : AH} {i0 : Nat} {res : ST} (hi0 : i0 < 12) (hG : SW dmC (cfC cc) al σ h0 h) (E : C_Edge_setAsAtFirst σ i0 = some res) : AC l D vwCl (tysOf cc) NN y_E_setAsAtFirst (Cond.code y_E_setAsAtFirst b_E_setAsAtFirst 2 none :: TT) rm_C_Edge_setAsAtFirst [.ref (al 2 i0)] h (fun rv h' => rv = none ∧ SW dmC (cfC cc) al res h0 h') := by
  refine AC.of (by decide) rfl (Nat.le_of_ble_eq_true rfl) (fun X M hR hI => ?_)
  unfold C_Edge_setAsAtFirst at E
  refine ax_lv (lv' := [(0, .ref (al 2 i0))]) [0] rfl ?_
  refine ax_iconst (v := 0) M d_E_setAsAtFirst_0 (by decide) ?_
  refine ax_istore_n (lv' := [(0, .ref (al 2 i0)), (1, .int 0)]) M d_E_setAsAtFirst_1 (by decide) [1, 0] rfl ?_
  refine ax_lv (lv' := [(0, .ref (al 2 i0)), (1, .int 0)]) [0, 1] rfl ?_
  obtain ⟨r1, l1, E⟩ := ob_b E
  refine lp_walk (fun (s1 : ST × Int32) => ∀ h : AH, SW dmC (cfC cc) al s1.1 h0 h → AW l D vwCl rm_C_Edge_setAsAtFirst 2 X 0 0 h 2 [(0, .ref (al 2 i0)), (1, .int s1.2)] []) (fun (r1 : ST × Int32) => ∀ h : AH, SW dmC (cfC cc) al r1.1 h0 h → AW l D vwCl rm_C_Edge_setAsAtFirst 2 X 0 0 h 27 [(0, .ref (al 2 i0)), (1, .int r1.2)] []) ?_ _ _ _ l1 ?_ h hG
  · intro s1 y1 E K1 K2 h hG
    refine ax_iload_n M d_E_setAsAtFirst_2 1 rfl ?_
    refine ax_aload_n M d_E_setAsAtFirst_3 0 rfl ?_
    refine sw_get M hG 2 i0 hi0 in_E rfl rfl 5 (by decide) wd_127 rfl d_E_setAsAtFirst_4 ?_
    refine ax_icmp_ge (tgt := 27) M d_E_setAsAtFirst_7 (by decide) (fun c1 => ?_) (fun c1 => ?_)
    · have E := ob_t E c1
      obtain rfl := Option.some.inj E
      refine ax_lv (lv' := [(0, .ref (al 2 i0)), (1, .int s1.2)]) [0, 1] rfl ?_
      exact (K2 _ rfl) h hG
    · have E := ob_f E c1
      refine ax_aload_n M d_E_setAsAtFirst_10 0 rfl ?_
      refine sw_get M hG 2 i0 hi0 in_E rfl rfl 0 (by decide) wd_118 rfl d_E_setAsAtFirst_11 ?_
      refine ax_iload_n M d_E_setAsAtFirst_14 1 rfl ?_
      refine ax_sipush (v := 255) M d_E_setAsAtFirst_15 (by decide) ?_
      refine ax_iand M d_E_setAsAtFirst_18 ?_
      refine ax_iconst (v := 0) M d_E_setAsAtFirst_19 (by decide) ?_
      obtain ⟨k1, E⟩ := ob_c E
      refine sw_iast M hG 3 i0 hi0 rfl 0 rfl k1 rfl d_E_setAsAtFirst_20 (fun h hG => ?_)
      refine ax_iinc (v := s1.2 + 1) (lv' := [(0, .ref (al 2 i0)), (1, .int (s1.2 + 1))]) M d_E_setAsAtFirst_21 1 rfl rfl (by decide) [1, 0] rfl ?_
      refine ax_goto (tgt := 2) M d_E_setAsAtFirst_24 (by decide) ?_
      obtain rfl := Option.some.inj E
      refine ax_lv (lv' := [(0, .ref (al 2 i0)), (1, .int (s1.2 + 1))]) [0, 1] rfl ?_
      exact K1 _ rfl h hG
  · intro h hG
    refine ax_aload_n M d_E_setAsAtFirst_27 0 rfl ?_
    refine ax_iconst (v := 0) M d_E_setAsAtFirst_28 (by decide) ?_
    refine sw_put M hG 2 i0 hi0 in_E t_E tok_E nok_E rfl rfl 6 (by decide) wd_129 rfl rfl rfl (Nat.le_of_ble_eq_true rfl) rfl d_E_setAsAtFirst_29 (fun h hG => ?_)
    refine ax_aload_n M d_E_setAsAtFirst_32 0 rfl ?_
    refine ax_aload_n M d_E_setAsAtFirst_33 0 rfl ?_
    refine sw_get M hG 2 i0 hi0 in_E rfl rfl 5 (by decide) wd_127 rfl d_E_setAsAtFirst_34 ?_
    refine ax_topi (gi r1.1 2 i0 5) (gi_k (by decide)) ?_
    refine sw_put M hG 2 i0 hi0 in_E t_E tok_E nok_E rfl rfl 7 (by decide) wd_130 rfl rfl rfl (Nat.le_of_ble_eq_true rfl) rfl d_E_setAsAtFirst_37 (fun h hG => ?_)
    obtain rfl := Option.some.inj E
    exact ax_vret M hR (by decide) (by decide) d_E_setAsAtFirst_40 ⟨rfl, hG⟩
def C_setRunAsAtFirst (σ : ST) : Option (ST) :=
  (lp (fun s1 : ST × Int32 =>
  if 8 ≤ s1.2 then
  (some (.inr ((s1.1, s1.2)))) else
  (if inb s1.2 8 then 
  ((C_Actor_forgetRun s1.1 (ix s1.2)).bind (fun b1 => 
  (some (.inl ((b1, s1.2 + 1)))))) else none)) 100 ((σ, 0))).bind (fun r1 : ST × Int32 =>
  (lp (fun s2 : ST × Int32 =>
  if (gi s2.1 0 0 5) ≤ s2.2 then
  (some (.inr ((s2.1, s2.2)))) else
  (if inb s2.2 12 then 
  (if ix (gi s2.1 5 0 (ix s2.2)) < 12 then 
  ((C_Edge_setAsAtFirst s2.1 (ix (gi s2.1 5 0 (ix s2.2)))).bind (fun b2 => 
  (some (.inl ((b2, s2.2 + 1)))))) else none) else none)) 100 ((r1.1, 0))).bind (fun r2 : ST × Int32 =>
  some (su r2.1 0 0 7 0)))
abbrev rm_C_setRunAsAtFirst : Room := { frames := 1, cells := 0, slots := 0, locals := 21 }
set_option maxRecDepth 100000 in
set_option maxHeartbeats 4000000 in
theorem ac_C_setRunAsAtFirst {l : Launch} {D : va_G} {cc : Nat → ClassId} {al : Nat → Nat → Nat} {σ : ST} {h0 h : AH}  {res : ST}  (hG : SW dmC (cfC cc) al σ h0 h) (E : C_setRunAsAtFirst σ = some res) : AC l D vwCl (tysOf cc) NN y_G_setRunAsAtFirst (Cond.code y_G_setRunAsAtFirst b_G_setRunAsAtFirst 2 none :: TT) rm_C_setRunAsAtFirst [.ref (al 0 0)] h (fun rv h' => rv = none ∧ SW dmC (cfC cc) al res h0 h') := by
  refine AC.of (by decide) rfl (Nat.le_of_ble_eq_true rfl) (fun X M hR hI => ?_)
  unfold C_setRunAsAtFirst at E
  refine ax_lv (lv' := [(0, .ref (al 0 0))]) [0] rfl ?_
  refine ax_iconst (v := 0) M d_G_setRunAsAtFirst_0 (by decide) ?_
  refine ax_istore_n (lv' := [(0, .ref (al 0 0)), (1, .int 0)]) M d_G_setRunAsAtFirst_1 (by decide) [1, 0] rfl ?_
  refine ax_lv (lv' := [(0, .ref (al 0 0)), (1, .int 0)]) [0, 1] rfl ?_
  obtain ⟨r1, l1, E⟩ := ob_b E
  refine lp_walk (fun (s1 : ST × Int32) => ∀ h : AH, SW dmC (cfC cc) al s1.1 h0 h → AW l D vwCl rm_C_setRunAsAtFirst 2 X 0 0 h 2 [(0, .ref (al 0 0)), (1, .int s1.2)] []) (fun (r1 : ST × Int32) => ∀ h : AH, SW dmC (cfC cc) al r1.1 h0 h → AW l D vwCl rm_C_setRunAsAtFirst 2 X 0 0 h 23 [(0, .ref (al 0 0)), (1, .int r1.2)] []) ?_ _ _ _ l1 ?_ h hG
  · intro s1 y1 E K1 K2 h hG
    refine ax_iload_n M d_G_setRunAsAtFirst_2 1 rfl ?_
    refine ax_bipush (v := 8) M d_G_setRunAsAtFirst_3 (by decide) ?_
    refine ax_icmp_ge (tgt := 23) M d_G_setRunAsAtFirst_5 (by decide) (fun c1 => ?_) (fun c1 => ?_)
    · have E := ob_t E c1
      obtain rfl := Option.some.inj E
      refine ax_lv (lv' := [(0, .ref (al 0 0)), (1, .int s1.2)]) [0, 1] rfl ?_
      exact (K2 _ rfl) h hG
    · have E := ob_f E c1
      refine ax_aload_n M d_G_setRunAsAtFirst_8 0 rfl ?_
      refine sw_get M hG 0 0 (by decide) in_G rfl rfl 0 (by decide) wd_152 rfl d_G_setRunAsAtFirst_9 ?_
      refine ax_iload_n M d_G_setRunAsAtFirst_12 1 rfl ?_
      obtain ⟨k1, E⟩ := ob_c E
      refine sw_aldq (g := fun e => e) M hG 4 0 (by decide) rfl 1 rfl rfl k1 d_G_setRunAsAtFirst_13 ?_
      obtain ⟨b1, e1, E⟩ := ob_b E
      refine ax_callVN (n := 0) (q := (R_A, F_A, 10)) M TT_good rfl (SW.at hG 1 (ix s1.2) (in_lt k1)) (ac_C_Actor_forgetRun (in_lt k1) hG e1) wd_285 lm_G_200 (by decide) (by decide) rfl rfl (Nat.le_of_ble_eq_true rfl) d_G_setRunAsAtFirst_14 (by decide) (c1 := 0) (s1 := 0) (by decide) (ax_ret_v (fun h hG => ?_))
      refine ax_iinc (v := s1.2 + 1) (lv' := [(0, .ref (al 0 0)), (1, .int (s1.2 + 1))]) M d_G_setRunAsAtFirst_17 1 rfl rfl (by decide) [1, 0] rfl ?_
      refine ax_goto (tgt := 2) M d_G_setRunAsAtFirst_20 (by decide) ?_
      obtain rfl := Option.some.inj E
      refine ax_lv (lv' := [(0, .ref (al 0 0)), (1, .int (s1.2 + 1))]) [0, 1] rfl ?_
      exact K1 _ rfl h hG
  · intro h hG
    refine ax_iconst (v := 0) M d_G_setRunAsAtFirst_23 (by decide) ?_
    refine ax_istore_n (lv' := [(0, .ref (al 0 0)), (1, .int 0)]) M d_G_setRunAsAtFirst_24 (by decide) [1, 0] rfl ?_
    refine ax_lv (lv' := [(0, .ref (al 0 0)), (1, .int 0)]) [0, 1] rfl ?_
    obtain ⟨r2, l2, E⟩ := ob_b E
    refine lp_walk (fun (s2 : ST × Int32) => ∀ h : AH, SW dmC (cfC cc) al s2.1 h0 h → AW l D vwCl rm_C_setRunAsAtFirst 2 X 0 0 h 25 [(0, .ref (al 0 0)), (1, .int s2.2)] []) (fun (r2 : ST × Int32) => ∀ h : AH, SW dmC (cfC cc) al r2.1 h0 h → AW l D vwCl rm_C_setRunAsAtFirst 2 X 0 0 h 48 [(0, .ref (al 0 0)), (1, .int r2.2)] []) ?_ _ _ _ l2 ?_ h hG
    · intro s2 y2 E K3 K4 h hG
      refine ax_iload_n M d_G_setRunAsAtFirst_25 1 rfl ?_
      refine ax_aload_n M d_G_setRunAsAtFirst_26 0 rfl ?_
      refine sw_get M hG 0 0 (by decide) in_G rfl rfl 5 (by decide) wd_157 rfl d_G_setRunAsAtFirst_27 ?_
      refine ax_icmp_ge (tgt := 48) M d_G_setRunAsAtFirst_30 (by decide) (fun c2 => ?_) (fun c2 => ?_)
      · have E := ob_t E c2
        obtain rfl := Option.some.inj E
        refine ax_lv (lv' := [(0, .ref (al 0 0)), (1, .int s2.2)]) [0, 1] rfl ?_
        exact (K4 _ rfl) h hG
      · have E := ob_f E c2
        refine ax_aload_n M d_G_setRunAsAtFirst_33 0 rfl ?_
        refine sw_get M hG 0 0 (by decide) in_G rfl rfl 1 (by decide) wd_153 rfl d_G_setRunAsAtFirst_34 ?_
        refine ax_iload_n M d_G_setRunAsAtFirst_37 1 rfl ?_
        obtain ⟨k2, E⟩ := ob_c E
        refine sw_aldq (g := fun e => ix (gi s2.1 5 0 e)) M hG 5 0 (by decide) rfl 2 rfl rfl k2 d_G_setRunAsAtFirst_38 ?_
        obtain ⟨k3, E⟩ := ob_c E
        obtain ⟨b2, e2, E⟩ := ob_b E
        refine ax_callVN (n := 0) (q := (R_E, F_E, 9)) M TT_good rfl (SW.at hG 2 (ix (gi s2.1 5 0 (ix s2.2))) k3) (ac_C_Edge_setAsAtFirst k3 hG e2) wd_289 lm_G_203 (by decide) (by decide) rfl rfl (Nat.le_of_ble_eq_true rfl) d_G_setRunAsAtFirst_39 (by decide) (c1 := 0) (s1 := 0) (by decide) (ax_ret_v (fun h hG => ?_))
        refine ax_iinc (v := s2.2 + 1) (lv' := [(0, .ref (al 0 0)), (1, .int (s2.2 + 1))]) M d_G_setRunAsAtFirst_42 1 rfl rfl (by decide) [1, 0] rfl ?_
        refine ax_goto (tgt := 25) M d_G_setRunAsAtFirst_45 (by decide) ?_
        obtain rfl := Option.some.inj E
        refine ax_lv (lv' := [(0, .ref (al 0 0)), (1, .int (s2.2 + 1))]) [0, 1] rfl ?_
        exact K3 _ rfl h hG
    · intro h hG
      refine ax_aload_n M d_G_setRunAsAtFirst_48 0 rfl ?_
      refine ax_iconst (v := 0) M d_G_setRunAsAtFirst_49 (by decide) ?_
      refine sw_put M hG 0 0 (by decide) in_G t_G tok_G nok_G rfl rfl 7 (by decide) wd_159 rfl rfl rfl (Nat.le_of_ble_eq_true rfl) rfl d_G_setRunAsAtFirst_50 (fun h hG => ?_)
      obtain rfl := Option.some.inj E
      exact ax_vret M hR (by decide) (by decide) d_G_setRunAsAtFirst_53 ⟨rfl, hG⟩
def C_solve (σ : ST) (x1 : Int32) : Option (Int32 × ST) :=
  (C_isWithin x1 0 2).bind (fun b1 => 
  (if b1 = 0 then
  (some ((-1, σ))) else
  ((C_countActors σ).bind (fun b2 => 
  (if b2 = 0 then
  (some ((-4, σ))) else
  ((C_findCulprit (su σ 0 0 8 0)).bind (fun b3 => 
  (if b3.1 = (-1) then
  ((C_keepRepetitions b3.2).bind (fun b4 => 
  (if b4.1 ≤ 64 then
  ((C_makeSchedule (su b4.2 0 0 6 b4.1) x1).bind (fun b5 => 
  (if b5.1 = (-1) then
  ((C_setRunAsAtFirst b5.2).bind (fun b6 => 
  (some ((gi b6 0 0 6, su b6 0 0 8 1))))) else
  (some (((-200) - b5.1, b5.2)))))) else
  (some ((-3, b4.2)))))) else
  (some (((-100) - b3.1, b3.2)))))))))))
abbrev rm_C_solve : Room := { frames := 5, cells := 0, slots := 0, locals := 114 }
set_option maxRecDepth 100000 in
set_option maxHeartbeats 4000000 in
theorem ac_C_solve {l : Launch} {D : va_G} {cc : Nat → ClassId} {al : Nat → Nat → Nat} {σ : ST} {h0 h : AH} {x1 : Int32} {res : Int32 × ST}  (hG : SW dmC (cfC cc) al σ h0 h) (E : C_solve σ x1 = some res) : AC l D vwCl (tysOf cc) NN y_G_solve (Cond.code y_G_solve b_G_solve 5 (some .int) :: TT) rm_C_solve [.ref (al 0 0), .int x1] h (fun rv h' => rv = some (.int res.1) ∧ SW dmC (cfC cc) al res.2 h0 h') := by
  refine AC.of (by decide) rfl (Nat.le_of_ble_eq_true rfl) (fun X M hR hI => ?_)
  unfold C_solve at E
  refine ax_lv (lv' := [(0, .ref (al 0 0)), (1, .int x1)]) [0, 1] rfl ?_
  refine ax_iload_n M d_G_solve_0 1 rfl ?_
  refine ax_iconst (v := 0) M d_G_solve_1 (by decide) ?_
  refine ax_iconst (v := 2) M d_G_solve_2 (by decide) ?_
  obtain ⟨b1, e1, E⟩ := ob_b E
  refine ax_callS (n := 3) M TT_good (ac_C_isWithin hG e1) lm_G_35 (by decide) (by decide) rfl rfl (Nat.le_of_ble_eq_true rfl) d_G_solve_3 (by decide) (c1 := 0) (s1 := 0) (by decide) (ax_ret_i (fun h hG => ?_))
  refine ax_if_ne (tgt := 11) M d_G_solve_6 (by decide) (fun c1 => ?_) (fun c1 => ?_)
  · have E := ob_f E c1
    refine ax_aload_n M d_G_solve_11 0 rfl ?_
    obtain ⟨b2, e2, E⟩ := ob_b E
    refine ax_callV (n := 0) (C := R_G) (q := (R_G, F_G, 9)) M TT_good rfl rfl (SW.at hG 0 0 (by decide)) (ac_C_countActors hG e2) lm_G_78 (by decide) (by decide) rfl rfl (Nat.le_of_ble_eq_true rfl) d_G_solve_12 (by decide) (c1 := 0) (s1 := 0) (by decide) (ax_ret_i (fun h hG => ?_))
    refine ax_if_ne (tgt := 21) M d_G_solve_15 (by decide) (fun c2 => ?_) (fun c2 => ?_)
    · have E := ob_f E c2
      refine ax_aload_n M d_G_solve_21 0 rfl ?_
      refine ax_iconst (v := 0) M d_G_solve_22 (by decide) ?_
      refine sw_put M hG 0 0 (by decide) in_G t_G tok_G nok_G rfl rfl 8 (by decide) wd_160 rfl rfl rfl (Nat.le_of_ble_eq_true rfl) rfl d_G_solve_23 (fun h hG => ?_)
      refine ax_aload_n M d_G_solve_26 0 rfl ?_
      obtain ⟨b3, e3, E⟩ := ob_b E
      refine ax_callV (n := 0) (C := R_G) (q := (R_G, F_G, 9)) M TT_good rfl rfl (SW.at hG 0 0 (by decide)) (ac_C_findCulprit hG e3) lm_G_82 (by decide) (by decide) rfl rfl (Nat.le_of_ble_eq_true rfl) d_G_solve_27 (by decide) (c1 := 0) (s1 := 0) (by decide) (ax_ret_i (fun h hG => ?_))
      refine ax_istore_n (lv' := [(0, .ref (al 0 0)), (1, .int x1), (2, .int b3.1)]) M d_G_solve_30 (by decide) [1, 2, 0] rfl ?_
      refine ax_iload_n M d_G_solve_31 2 rfl ?_
      refine ax_iconst (v := (-1)) M d_G_solve_32 (by decide) ?_
      refine ax_icmp_eq (tgt := 41) M d_G_solve_33 (by decide) (fun c3 => ?_) (fun c3 => ?_)
      · have E := ob_t E c3
        refine ax_aload_n M d_G_solve_41 0 rfl ?_
        obtain ⟨b4, e4, E⟩ := ob_b E
        refine ax_callV (n := 0) (C := R_G) (q := (R_G, F_G, 9)) M TT_good rfl rfl (SW.at hG 0 0 (by decide)) (ac_C_keepRepetitions hG e4) lm_G_85 (by decide) (by decide) rfl rfl (Nat.le_of_ble_eq_true rfl) d_G_solve_42 (by decide) (c1 := 0) (s1 := 0) (by decide) (ax_ret_i (fun h hG => ?_))
        refine ax_istore_n (lv' := [(0, .ref (al 0 0)), (1, .int x1), (3, .int b4.1)]) M d_G_solve_45 (by decide) [1, 2, 0] rfl ?_
        refine ax_iload_n M d_G_solve_46 2 rfl ?_
        refine ax_bipush (v := 64) M d_G_solve_47 (by decide) ?_
        refine ax_icmp_le (tgt := 55) M d_G_solve_49 (by decide) (fun c4 => ?_) (fun c4 => ?_)
        · have E := ob_t E c4
          refine ax_aload_n M d_G_solve_55 0 rfl ?_
          refine ax_iload_n M d_G_solve_56 2 rfl ?_
          refine sw_put M hG 0 0 (by decide) in_G t_G tok_G nok_G rfl rfl 6 (by decide) wd_158 rfl rfl rfl (Nat.le_of_ble_eq_true rfl) rfl d_G_solve_57 (fun h hG => ?_)
          refine ax_aload_n M d_G_solve_60 0 rfl ?_
          refine ax_iload_n M d_G_solve_61 1 rfl ?_
          obtain ⟨b5, e5, E⟩ := ob_b E
          refine ax_callV (n := 1) (C := R_G) (q := (R_G, F_G, 9)) M TT_good rfl rfl (SW.at hG 0 0 (by decide)) (ac_C_makeSchedule hG e5) lm_G_91 (by decide) (by decide) rfl rfl (Nat.le_of_ble_eq_true rfl) d_G_solve_62 (by decide) (c1 := 0) (s1 := 0) (by decide) (ax_ret_i (fun h hG => ?_))
          refine ax_istore (lv' := [(0, .ref (al 0 0)), (4, .int b5.1)]) M d_G_solve_65 (by decide) [1, 0] rfl ?_
          refine ax_iload M d_G_solve_67 1 rfl ?_
          refine ax_iconst (v := (-1)) M d_G_solve_69 (by decide) ?_
          refine ax_icmp_eq (tgt := 80) M d_G_solve_70 (by decide) (fun c5 => ?_) (fun c5 => ?_)
          · have E := ob_t E c5
            refine ax_aload_n M d_G_solve_80 0 rfl ?_
            obtain ⟨b6, e6, E⟩ := ob_b E
            refine ax_callV (n := 0) (C := R_G) (q := (R_G, F_G, 9)) M TT_good rfl rfl (SW.at hG 0 0 (by decide)) (ac_C_setRunAsAtFirst hG e6) lm_G_95 (by decide) (by decide) rfl rfl (Nat.le_of_ble_eq_true rfl) d_G_solve_81 (by decide) (c1 := 0) (s1 := 0) (by decide) (ax_ret_v (fun h hG => ?_))
            refine ax_aload_n M d_G_solve_84 0 rfl ?_
            refine ax_iconst (v := 1) M d_G_solve_85 (by decide) ?_
            refine sw_put M hG 0 0 (by decide) in_G t_G tok_G nok_G rfl rfl 8 (by decide) wd_160 rfl rfl rfl (Nat.le_of_ble_eq_true rfl) rfl d_G_solve_86 (fun h hG => ?_)
            refine ax_aload_n M d_G_solve_89 0 rfl ?_
            refine sw_get M hG 0 0 (by decide) in_G rfl rfl 6 (by decide) wd_158 rfl d_G_solve_90 ?_
            refine ax_topi (gi b6 0 0 6) (gi_k (by decide)) ?_
            obtain rfl := Option.some.inj E
            exact ax_iret M hR (by decide) (by decide) d_G_solve_93 ⟨rfl, hG⟩
          · have E := ob_f E c5
            refine ax_sipush (v := -200) M d_G_solve_73 (by decide) ?_
            refine ax_iload M d_G_solve_76 1 rfl ?_
            refine ax_isub M d_G_solve_78 ?_
            obtain rfl := Option.some.inj E
            exact ax_iret M hR (by decide) (by decide) d_G_solve_79 ⟨rfl, hG⟩
        · have E := ob_f E c4
          refine ax_bipush (v := -3) M d_G_solve_52 (by decide) ?_
          obtain rfl := Option.some.inj E
          exact ax_iret M hR (by decide) (by decide) d_G_solve_54 ⟨rfl, hG⟩
      · have E := ob_f E c3
        refine ax_bipush (v := -100) M d_G_solve_36 (by decide) ?_
        refine ax_iload_n M d_G_solve_38 2 rfl ?_
        refine ax_isub M d_G_solve_39 ?_
        obtain rfl := Option.some.inj E
        exact ax_iret M hR (by decide) (by decide) d_G_solve_40 ⟨rfl, hG⟩
    · have E := ob_t E c2
      refine ax_bipush (v := -4) M d_G_solve_18 (by decide) ?_
      obtain rfl := Option.some.inj E
      exact ax_iret M hR (by decide) (by decide) d_G_solve_20 ⟨rfl, hG⟩
  · have E := ob_t E c1
    refine ax_iconst (v := (-1)) M d_G_solve_9 (by decide) ?_
    obtain rfl := Option.some.inj E
    exact ax_iret M hR (by decide) (by decide) d_G_solve_10 ⟨rfl, hG⟩
def C_Edge_at (σ : ST) (i0 : Nat) (x1 : Int32) : Option (Int32) :=
  if inb (((gi σ 2 i0 6) + x1) &&& 255) 256 then 
  (some (gi σ 3 i0 (ix (((gi σ 2 i0 6) + x1) &&& 255)))) else none
abbrev rm_C_Edge_at : Room := { frames := 0, cells := 0, slots := 0, locals := 0 }
set_option maxRecDepth 100000 in
set_option maxHeartbeats 4000000 in
theorem ac_C_Edge_at {l : Launch} {D : va_G} {cc : Nat → ClassId} {al : Nat → Nat → Nat} {σ : ST} {h0 h : AH} {i0 : Nat} {x1 : Int32} {res : Int32} (hi0 : i0 < 12) (hG : SW dmC (cfC cc) al σ h0 h) (E : C_Edge_at σ i0 x1 = some res) : AC l D vwCl (tysOf cc) NN y_E_at (Cond.code y_E_at b_E_at 2 (some .int) :: TT) rm_C_Edge_at [.ref (al 2 i0), .int x1] h (fun rv h' => rv = some (.int res) ∧ SW dmC (cfC cc) al σ h0 h') := by
  refine AC.of (by decide) rfl (Nat.le_of_ble_eq_true rfl) (fun X M hR hI => ?_)
  unfold C_Edge_at at E
  refine ax_lv (lv' := [(0, .ref (al 2 i0)), (1, .int x1)]) [0, 1] rfl ?_
  refine ax_aload_n M d_E_at_0 0 rfl ?_
  refine sw_get M hG 2 i0 hi0 in_E rfl rfl 0 (by decide) wd_118 rfl d_E_at_1 ?_
  refine ax_aload_n M d_E_at_4 0 rfl ?_
  refine sw_get M hG 2 i0 hi0 in_E rfl rfl 6 (by decide) wd_129 rfl d_E_at_5 ?_
  refine ax_iload_n M d_E_at_8 1 rfl ?_
  refine ax_iadd M d_E_at_9 ?_
  refine ax_sipush (v := 255) M d_E_at_10 (by decide) ?_
  refine ax_iand M d_E_at_13 ?_
  obtain ⟨k1, E⟩ := ob_c E
  refine sw_iald M hG 3 i0 hi0 rfl 0 rfl k1 d_E_at_14 ?_
  obtain rfl := Option.some.inj E
  exact ax_iret M hR (by decide) (by decide) d_E_at_15 ⟨rfl, hG⟩
def C_Edge_takeWeighed (σ : ST) (i0 : Nat) : Option (Int32 × ST) :=
  (lp (fun s1 : Int32 × Int32 =>
  if (gi σ 2 i0 4) ≤ s1.2 then
  (some (.inr ((s1.1, s1.2)))) else
  ((C_Edge_at σ i0 s1.2).bind (fun b1 => 
  (some (.inl ((s1.1 + (b1 * (s1.2 + 1)), s1.2 + 1))))))) 100 ((0, 0))).bind (fun r1 : Int32 × Int32 =>
  some ((r1.1, su (su σ 2 i0 6 (((gi σ 2 i0 6) + (gi σ 2 i0 4)) &&& 255)) 2 i0 7 ((gi σ 2 i0 7) - (gi σ 2 i0 4)))))
abbrev rm_C_Edge_takeWeighed : Room := { frames := 1, cells := 0, slots := 0, locals := 21 }
set_option maxRecDepth 100000 in
set_option maxHeartbeats 4000000 in
theorem ac_C_Edge_takeWeighed {l : Launch} {D : va_G} {cc : Nat → ClassId} {al : Nat → Nat → Nat} {σ : ST} {h0 h : AH} {i0 : Nat} {res : Int32 × ST} (hi0 : i0 < 12) (hG : SW dmC (cfC cc) al σ h0 h) (E : C_Edge_takeWeighed σ i0 = some res) : AC l D vwCl (tysOf cc) NN y_E_takeWeighed (Cond.code y_E_takeWeighed b_E_takeWeighed 3 (some .int) :: TT) rm_C_Edge_takeWeighed [.ref (al 2 i0)] h (fun rv h' => rv = some (.int res.1) ∧ SW dmC (cfC cc) al res.2 h0 h') := by
  refine AC.of (by decide) rfl (Nat.le_of_ble_eq_true rfl) (fun X M hR hI => ?_)
  unfold C_Edge_takeWeighed at E
  refine ax_lv (lv' := [(0, .ref (al 2 i0))]) [0] rfl ?_
  refine ax_iconst (v := 0) M d_E_takeWeighed_0 (by decide) ?_
  refine ax_istore_n (lv' := [(0, .ref (al 2 i0)), (1, .int 0)]) M d_E_takeWeighed_1 (by decide) [1, 0] rfl ?_
  refine ax_iconst (v := 0) M d_E_takeWeighed_2 (by decide) ?_
  refine ax_istore_n (lv' := [(0, .ref (al 2 i0)), (1, .int 0), (2, .int 0)]) M d_E_takeWeighed_3 (by decide) [1, 2, 0] rfl ?_
  refine ax_lv (lv' := [(0, .ref (al 2 i0)), (1, .int 0), (2, .int 0)]) [0, 1, 2] rfl ?_
  obtain ⟨r1, l1, E⟩ := ob_b E
  refine lp_walk (fun (s1 : Int32 × Int32) => ∀ h : AH, SW dmC (cfC cc) al σ h0 h → AW l D vwCl rm_C_Edge_takeWeighed 3 X 0 0 h 4 [(0, .ref (al 2 i0)), (1, .int s1.1), (2, .int s1.2)] []) (fun (r1 : Int32 × Int32) => ∀ h : AH, SW dmC (cfC cc) al σ h0 h → AW l D vwCl rm_C_Edge_takeWeighed 3 X 0 0 h 30 [(0, .ref (al 2 i0)), (1, .int r1.1), (2, .int r1.2)] []) ?_ _ _ _ l1 ?_ h hG
  · intro s1 y1 E K1 K2 h hG
    refine ax_iload_n M d_E_takeWeighed_4 2 rfl ?_
    refine ax_aload_n M d_E_takeWeighed_5 0 rfl ?_
    refine sw_get M hG 2 i0 hi0 in_E rfl rfl 4 (by decide) wd_126 rfl d_E_takeWeighed_6 ?_
    refine ax_icmp_ge (tgt := 30) M d_E_takeWeighed_9 (by decide) (fun c1 => ?_) (fun c1 => ?_)
    · have E := ob_t E c1
      obtain rfl := Option.some.inj E
      refine ax_lv (lv' := [(0, .ref (al 2 i0)), (1, .int s1.1), (2, .int s1.2)]) [0, 1, 2] rfl ?_
      exact (K2 _ rfl) h hG
    · have E := ob_f E c1
      refine ax_iload_n M d_E_takeWeighed_12 1 rfl ?_
      refine ax_aload_n M d_E_takeWeighed_13 0 rfl ?_
      refine ax_iload_n M d_E_takeWeighed_14 2 rfl ?_
      obtain ⟨b1, e1, E⟩ := ob_b E
      refine ax_callV (n := 1) (C := R_E) (q := (R_E, F_E, 9)) M TT_good rfl rfl (SW.at hG 2 i0 hi0) (ac_C_Edge_at hi0 hG e1) lm_E_32 (by decide) (by decide) rfl rfl (Nat.le_of_ble_eq_true rfl) d_E_takeWeighed_15 (by decide) (c1 := 0) (s1 := 0) (by decide) (ax_ret_i (fun h hG => ?_))
      refine ax_iload_n M d_E_takeWeighed_18 2 rfl ?_
      refine ax_iconst (v := 1) M d_E_takeWeighed_19 (by decide) ?_
      refine ax_iadd M d_E_takeWeighed_20 ?_
      refine ax_imul M d_E_takeWeighed_21 ?_
      refine ax_iadd M d_E_takeWeighed_22 ?_
      refine ax_istore_n (lv' := [(0, .ref (al 2 i0)), (1, .int (s1.1 + (b1 * (s1.2 + 1)))), (2, .int s1.2)]) M d_E_takeWeighed_23 (by decide) [1, 0, 2] rfl ?_
      refine ax_iinc (v := s1.2 + 1) (lv' := [(0, .ref (al 2 i0)), (1, .int (s1.1 + (b1 * (s1.2 + 1)))), (2, .int (s1.2 + 1))]) M d_E_takeWeighed_24 2 rfl rfl (by decide) [1, 2, 0] rfl ?_
      refine ax_goto (tgt := 4) M d_E_takeWeighed_27 (by decide) ?_
      obtain rfl := Option.some.inj E
      refine ax_lv (lv' := [(0, .ref (al 2 i0)), (1, .int (s1.1 + (b1 * (s1.2 + 1)))), (2, .int (s1.2 + 1))]) [0, 1, 2] rfl ?_
      exact K1 _ rfl h hG
  · intro h hG
    refine ax_aload_n M d_E_takeWeighed_30 0 rfl ?_
    refine ax_aload_n M d_E_takeWeighed_31 0 rfl ?_
    refine sw_get M hG 2 i0 hi0 in_E rfl rfl 6 (by decide) wd_129 rfl d_E_takeWeighed_32 ?_
    refine ax_aload_n M d_E_takeWeighed_35 0 rfl ?_
    refine sw_get M hG 2 i0 hi0 in_E rfl rfl 4 (by decide) wd_126 rfl d_E_takeWeighed_36 ?_
    refine ax_iadd M d_E_takeWeighed_39 ?_
    refine ax_sipush (v := 255) M d_E_takeWeighed_40 (by decide) ?_
    refine ax_iand M d_E_takeWeighed_43 ?_
    refine sw_put M hG 2 i0 hi0 in_E t_E tok_E nok_E rfl rfl 6 (by decide) wd_129 rfl rfl rfl (Nat.le_of_ble_eq_true rfl) rfl d_E_takeWeighed_44 (fun h hG => ?_)
    refine ax_aload_n M d_E_takeWeighed_47 0 rfl ?_
    refine ax_dup M d_E_takeWeighed_48 rfl ?_
    refine sw_get M hG 2 i0 hi0 in_E rfl rfl 7 (by decide) wd_130 rfl d_E_takeWeighed_49 ?_
    refine ax_topi (gi σ 2 i0 7) (gi_k (by decide)) ?_
    refine ax_aload_n M d_E_takeWeighed_52 0 rfl ?_
    refine sw_get M hG 2 i0 hi0 in_E rfl rfl 4 (by decide) wd_126 rfl d_E_takeWeighed_53 ?_
    refine ax_topi (gi σ 2 i0 4) (gi_k (by decide)) ?_
    refine ax_isub M d_E_takeWeighed_56 ?_
    refine sw_put M hG 2 i0 hi0 in_E t_E tok_E nok_E rfl rfl 7 (by decide) wd_130 rfl rfl rfl (Nat.le_of_ble_eq_true rfl) rfl d_E_takeWeighed_57 (fun h hG => ?_)
    refine ax_iload_n M d_E_takeWeighed_60 1 rfl ?_
    obtain rfl := Option.some.inj E
    exact ax_iret M hR (by decide) (by decide) d_E_takeWeighed_61 ⟨rfl, hG⟩
end
section
def C_Actor_answerTo (σ : ST) (i0 : Nat) (x1 : Int32) : Option (Int32 × ST) :=
  if (gi σ 1 i0 1) = 0 then
  (some (((gi σ 1 i0 2) + x1, su (su σ 1 i0 8 ((gi σ 1 i0 8) + x1)) 1 i0 7 x1))) else
  (if (gi σ 1 i0 1) = 1 then
  (some (((gi σ 1 i0 2) * x1, su (su σ 1 i0 8 ((gi σ 1 i0 8) + x1)) 1 i0 7 x1))) else
  (if (gi σ 1 i0 1) = 2 then
  (some (((gi σ 1 i0 8) + x1, su (su σ 1 i0 8 ((gi σ 1 i0 8) + x1)) 1 i0 7 x1))) else
  (some ((x1 - (gi σ 1 i0 7), su (su σ 1 i0 8 ((gi σ 1 i0 8) + x1)) 1 i0 7 x1)))))
abbrev rm_C_Actor_answerTo : Room := { frames := 0, cells := 0, slots := 0, locals := 0 }
set_option maxRecDepth 100000 in
set_option maxHeartbeats 4000000 in
theorem ac_C_Actor_answerTo {l : Launch} {D : va_G} {cc : Nat → ClassId} {al : Nat → Nat → Nat} {σ : ST} {h0 h : AH} {i0 : Nat} {x1 : Int32} {res : Int32 × ST} (hi0 : i0 < 8) (hG : SW dmC (cfC cc) al σ h0 h) (E : C_Actor_answerTo σ i0 x1 = some res) : AC l D vwCl (tysOf cc) NN y_A_answerTo (Cond.code y_A_answerTo b_A_answerTo 3 (some .int) :: TT) rm_C_Actor_answerTo [.ref (al 1 i0), .int x1] h (fun rv h' => rv = some (.int res.1) ∧ SW dmC (cfC cc) al res.2 h0 h') := by
  refine AC.of (by decide) rfl (Nat.le_of_ble_eq_true rfl) (fun X M hR hI => ?_)
  unfold C_Actor_answerTo at E
  refine ax_lv (lv' := [(0, .ref (al 1 i0)), (1, .int x1)]) [0, 1] rfl ?_
  refine ax_aload_n M d_A_answerTo_0 0 rfl ?_
  refine ax_dup M d_A_answerTo_1 rfl ?_
  refine sw_get M hG 1 i0 hi0 in_A rfl rfl 8 (by decide) wd_88 rfl d_A_answerTo_2 ?_
  refine ax_iload_n M d_A_answerTo_5 1 rfl ?_
  refine ax_iadd M d_A_answerTo_6 ?_
  refine sw_put M hG 1 i0 hi0 in_A t_A tok_A nok_A rfl rfl 8 (by decide) wd_88 rfl rfl rfl (Nat.le_of_ble_eq_true rfl) rfl d_A_answerTo_7 (fun h hG => ?_)
  refine ax_iload_n M d_A_answerTo_10 1 rfl ?_
  refine ax_aload_n M d_A_answerTo_11 0 rfl ?_
  refine sw_get M hG 1 i0 hi0 in_A rfl rfl 7 (by decide) wd_87 rfl d_A_answerTo_12 ?_
  refine ax_topi (gi σ 1 i0 7) (gi_k (by decide)) ?_
  refine ax_isub M d_A_answerTo_15 ?_
  refine ax_istore_n (lv' := [(0, .ref (al 1 i0)), (1, .int x1), (2, .int (x1 - (gi σ 1 i0 7)))]) M d_A_answerTo_16 (by decide) [1, 2, 0] rfl ?_
  refine ax_aload_n M d_A_answerTo_17 0 rfl ?_
  refine ax_iload_n M d_A_answerTo_18 1 rfl ?_
  refine sw_put M hG 1 i0 hi0 in_A t_A tok_A nok_A rfl rfl 7 (by decide) wd_87 rfl rfl rfl (Nat.le_of_ble_eq_true rfl) rfl d_A_answerTo_19 (fun h hG => ?_)
  refine ax_aload_n M d_A_answerTo_22 0 rfl ?_
  refine sw_get M hG 1 i0 hi0 in_A rfl rfl 1 (by decide) wd_78 rfl d_A_answerTo_23 ?_
  refine ax_topi (gi σ 1 i0 1) ((gi_k (by decide)).trans (gi_k (by decide))) ?_
  by_cases c1_0 : (gi σ 1 i0 1) = 0
  · have E := ob_t E c1_0
    refine ax_tableIn (tgt := 52) M d_A_answerTo_26 (by rw [c1_0]; decide) (by rw [c1_0]; decide) (by rw [c1_0]; rfl) (by decide) ?_
    refine ax_aload_n M d_A_answerTo_52 0 rfl ?_
    refine sw_get M hG 1 i0 hi0 in_A rfl rfl 2 (by decide) wd_80 rfl d_A_answerTo_53 ?_
    refine ax_topi (gi σ 1 i0 2) ((gi_k (by decide)).trans (gi_k (by decide))) ?_
    refine ax_iload_n M d_A_answerTo_56 1 rfl ?_
    refine ax_iadd M d_A_answerTo_57 ?_
    obtain rfl := Option.some.inj E
    exact ax_iret M hR (by decide) (by decide) d_A_answerTo_58 ⟨rfl, hG⟩
  · have E := ob_f E c1_0
    by_cases c1_1 : (gi σ 1 i0 1) = 1
    · have E := ob_t E c1_1
      refine ax_tableIn (tgt := 59) M d_A_answerTo_26 (by rw [c1_1]; decide) (by rw [c1_1]; decide) (by rw [c1_1]; rfl) (by decide) ?_
      refine ax_aload_n M d_A_answerTo_59 0 rfl ?_
      refine sw_get M hG 1 i0 hi0 in_A rfl rfl 2 (by decide) wd_80 rfl d_A_answerTo_60 ?_
      refine ax_topi (gi σ 1 i0 2) ((gi_k (by decide)).trans (gi_k (by decide))) ?_
      refine ax_iload_n M d_A_answerTo_63 1 rfl ?_
      refine ax_imul M d_A_answerTo_64 ?_
      obtain rfl := Option.some.inj E
      exact ax_iret M hR (by decide) (by decide) d_A_answerTo_65 ⟨rfl, hG⟩
    · have E := ob_f E c1_1
      by_cases c1_2 : (gi σ 1 i0 1) = 2
      · have E := ob_t E c1_2
        refine ax_tableIn (tgt := 66) M d_A_answerTo_26 (by rw [c1_2]; decide) (by rw [c1_2]; decide) (by rw [c1_2]; rfl) (by decide) ?_
        refine ax_aload_n M d_A_answerTo_66 0 rfl ?_
        refine sw_get M hG 1 i0 hi0 in_A rfl rfl 8 (by decide) wd_88 rfl d_A_answerTo_67 ?_
        refine ax_topi ((gi σ 1 i0 8) + x1) ((gi_k (by decide)).trans gi_same) ?_
        obtain rfl := Option.some.inj E
        exact ax_iret M hR (by decide) (by decide) d_A_answerTo_70 ⟨rfl, hG⟩
      · have E := ob_f E c1_2
        refine ax_tableOut (tgt := 71) M d_A_answerTo_26 (so_0_2 c1_0 c1_1 c1_2) (by decide) ?_
        refine ax_iload_n M d_A_answerTo_71 2 rfl ?_
        obtain rfl := Option.some.inj E
        exact ax_iret M hR (by decide) (by decide) d_A_answerTo_72 ⟨rfl, hG⟩
def C_Edge_putFrom (σ : ST) (i0 : Nat) (x1 : Int32) : Option (ST) :=
  (lp (fun s1 : ST × Int32 =>
  if (gi s1.1 2 i0 3) ≤ s1.2 then
  (some (.inr ((s1.1, s1.2)))) else
  (if inb ((((gi s1.1 2 i0 6) + (gi s1.1 2 i0 7)) + s1.2) &&& 255) 256 then 
  (some (.inl ((su s1.1 3 i0 (ix ((((gi s1.1 2 i0 6) + (gi s1.1 2 i0 7)) + s1.2) &&& 255)) (x1 + s1.2), s1.2 + 1)))) else none)) 100 ((σ, 0))).bind (fun r1 : ST × Int32 =>
  some (su r1.1 2 i0 7 ((gi r1.1 2 i0 7) + (gi r1.1 2 i0 3))))
abbrev rm_C_Edge_putFrom : Room := { frames := 0, cells := 0, slots := 0, locals := 0 }
set_option maxRecDepth 100000 in
set_option maxHeartbeats 4000000 in
theorem ac_C_Edge_putFrom {l : Launch} {D : va_G} {cc : Nat → ClassId} {al : Nat → Nat → Nat} {σ : ST} {h0 h : AH} {i0 : Nat} {x1 : Int32} {res : ST} (hi0 : i0 < 12) (hG : SW dmC (cfC cc) al σ h0 h) (E : C_Edge_putFrom σ i0 x1 = some res) : AC l D vwCl (tysOf cc) NN y_E_putFrom (Cond.code y_E_putFrom b_E_putFrom 3 none :: TT) rm_C_Edge_putFrom [.ref (al 2 i0), .int x1] h (fun rv h' => rv = none ∧ SW dmC (cfC cc) al res h0 h') := by
  refine AC.of (by decide) rfl (Nat.le_of_ble_eq_true rfl) (fun X M hR hI => ?_)
  unfold C_Edge_putFrom at E
  refine ax_lv (lv' := [(0, .ref (al 2 i0)), (1, .int x1)]) [0, 1] rfl ?_
  refine ax_iconst (v := 0) M d_E_putFrom_0 (by decide) ?_
  refine ax_istore_n (lv' := [(0, .ref (al 2 i0)), (1, .int x1), (2, .int 0)]) M d_E_putFrom_1 (by decide) [1, 2, 0] rfl ?_
  refine ax_lv (lv' := [(0, .ref (al 2 i0)), (1, .int x1), (2, .int 0)]) [0, 1, 2] rfl ?_
  obtain ⟨r1, l1, E⟩ := ob_b E
  refine lp_walk (fun (s1 : ST × Int32) => ∀ h : AH, SW dmC (cfC cc) al s1.1 h0 h → AW l D vwCl rm_C_Edge_putFrom 3 X 0 0 h 2 [(0, .ref (al 2 i0)), (1, .int x1), (2, .int s1.2)] []) (fun (r1 : ST × Int32) => ∀ h : AH, SW dmC (cfC cc) al r1.1 h0 h → AW l D vwCl rm_C_Edge_putFrom 3 X 0 0 h 39 [(0, .ref (al 2 i0)), (1, .int x1), (2, .int r1.2)] []) ?_ _ _ _ l1 ?_ h hG
  · intro s1 y1 E K1 K2 h hG
    refine ax_iload_n M d_E_putFrom_2 2 rfl ?_
    refine ax_aload_n M d_E_putFrom_3 0 rfl ?_
    refine sw_get M hG 2 i0 hi0 in_E rfl rfl 3 (by decide) wd_124 rfl d_E_putFrom_4 ?_
    refine ax_icmp_ge (tgt := 39) M d_E_putFrom_7 (by decide) (fun c1 => ?_) (fun c1 => ?_)
    · have E := ob_t E c1
      obtain rfl := Option.some.inj E
      refine ax_lv (lv' := [(0, .ref (al 2 i0)), (1, .int x1), (2, .int s1.2)]) [0, 1, 2] rfl ?_
      exact (K2 _ rfl) h hG
    · have E := ob_f E c1
      refine ax_aload_n M d_E_putFrom_10 0 rfl ?_
      refine sw_get M hG 2 i0 hi0 in_E rfl rfl 0 (by decide) wd_118 rfl d_E_putFrom_11 ?_
      refine ax_aload_n M d_E_putFrom_14 0 rfl ?_
      refine sw_get M hG 2 i0 hi0 in_E rfl rfl 6 (by decide) wd_129 rfl d_E_putFrom_15 ?_
      refine ax_aload_n M d_E_putFrom_18 0 rfl ?_
      refine sw_get M hG 2 i0 hi0 in_E rfl rfl 7 (by decide) wd_130 rfl d_E_putFrom_19 ?_
      refine ax_iadd M d_E_putFrom_22 ?_
      refine ax_iload_n M d_E_putFrom_23 2 rfl ?_
      refine ax_iadd M d_E_putFrom_24 ?_
      refine ax_sipush (v := 255) M d_E_putFrom_25 (by decide) ?_
      refine ax_iand M d_E_putFrom_28 ?_
      refine ax_iload_n M d_E_putFrom_29 1 rfl ?_
      refine ax_iload_n M d_E_putFrom_30 2 rfl ?_
      refine ax_iadd M d_E_putFrom_31 ?_
      obtain ⟨k1, E⟩ := ob_c E
      refine sw_iast M hG 3 i0 hi0 rfl 0 rfl k1 rfl d_E_putFrom_32 (fun h hG => ?_)
      refine ax_iinc (v := s1.2 + 1) (lv' := [(0, .ref (al 2 i0)), (1, .int x1), (2, .int (s1.2 + 1))]) M d_E_putFrom_33 2 rfl rfl (by decide) [1, 2, 0] rfl ?_
      refine ax_goto (tgt := 2) M d_E_putFrom_36 (by decide) ?_
      obtain rfl := Option.some.inj E
      refine ax_lv (lv' := [(0, .ref (al 2 i0)), (1, .int x1), (2, .int (s1.2 + 1))]) [0, 1, 2] rfl ?_
      exact K1 _ rfl h hG
  · intro h hG
    refine ax_aload_n M d_E_putFrom_39 0 rfl ?_
    refine ax_dup M d_E_putFrom_40 rfl ?_
    refine sw_get M hG 2 i0 hi0 in_E rfl rfl 7 (by decide) wd_130 rfl d_E_putFrom_41 ?_
    refine ax_aload_n M d_E_putFrom_44 0 rfl ?_
    refine sw_get M hG 2 i0 hi0 in_E rfl rfl 3 (by decide) wd_124 rfl d_E_putFrom_45 ?_
    refine ax_iadd M d_E_putFrom_48 ?_
    refine sw_put M hG 2 i0 hi0 in_E t_E tok_E nok_E rfl rfl 7 (by decide) wd_130 rfl rfl rfl (Nat.le_of_ble_eq_true rfl) rfl d_E_putFrom_49 (fun h hG => ?_)
    obtain rfl := Option.some.inj E
    exact ax_vret M hR (by decide) (by decide) d_E_putFrom_52 ⟨rfl, hG⟩
def C_fire (σ : ST) (x1 : Int32) : Option (ST) :=
  (lp (fun s1 : ST × Int32 × Int32 =>
  if (gi s1.1 0 0 5) ≤ s1.2.2 then
  (some (.inr ((s1.1, s1.2.1, s1.2.2)))) else
  (if inb s1.2.2 12 then 
  (if ix (gi s1.1 5 0 (ix s1.2.2)) < 12 then 
  (if (gi s1.1 2 (ix (gi s1.1 5 0 (ix s1.2.2))) 2) = x1 then
  ((C_Edge_takeWeighed s1.1 (ix (gi s1.1 5 0 (ix s1.2.2)))).bind (fun b1 => 
  (some (.inl ((b1.2, s1.2.1 + b1.1, s1.2.2 + 1)))))) else
  (some (.inl ((s1.1, s1.2.1, s1.2.2 + 1))))) else none) else none)) 100 ((σ, 0, 0))).bind (fun r1 : ST × Int32 × Int32 =>
  if inb x1 8 then 
  ((C_Actor_answerTo r1.1 (ix x1) r1.2.1).bind (fun b2 => 
  ((lp (fun s2 : ST × Int32 =>
  if (gi s2.1 0 0 5) ≤ s2.2 then
  (some (.inr ((s2.1, s2.2)))) else
  (if inb s2.2 12 then 
  (if ix (gi s2.1 5 0 (ix s2.2)) < 12 then 
  (if (gi s2.1 2 (ix (gi s2.1 5 0 (ix s2.2))) 1) = x1 then
  ((C_Edge_putFrom s2.1 (ix (gi s2.1 5 0 (ix s2.2))) b2.1).bind (fun b3 => 
  (some (.inl ((b3, s2.2 + 1)))))) else
  (some (.inl ((s2.1, s2.2 + 1))))) else none) else none)) 100 ((su b2.2 1 (ix x1) 9 b2.1, 0))).bind (fun r2 : ST × Int32 =>
  some r2.1)))) else none)
abbrev rm_C_fire : Room := { frames := 2, cells := 0, slots := 0, locals := 43 }
set_option maxRecDepth 100000 in
set_option maxHeartbeats 4000000 in
theorem ac_C_fire {l : Launch} {D : va_G} {cc : Nat → ClassId} {al : Nat → Nat → Nat} {σ : ST} {h0 h : AH} {x1 : Int32} {res : ST}  (hG : SW dmC (cfC cc) al σ h0 h) (E : C_fire σ x1 = some res) : AC l D vwCl (tysOf cc) NN y_G_fire (Cond.code y_G_fire b_G_fire 5 none :: TT) rm_C_fire [.ref (al 0 0), .int x1] h (fun rv h' => rv = none ∧ SW dmC (cfC cc) al res h0 h') := by
  refine AC.of (by decide) rfl (Nat.le_of_ble_eq_true rfl) (fun X M hR hI => ?_)
  unfold C_fire at E
  refine ax_lv (lv' := [(0, .ref (al 0 0)), (1, .int x1)]) [0, 1] rfl ?_
  refine ax_iconst (v := 0) M d_G_fire_0 (by decide) ?_
  refine ax_istore_n (lv' := [(0, .ref (al 0 0)), (1, .int x1), (2, .int 0)]) M d_G_fire_1 (by decide) [1, 2, 0] rfl ?_
  refine ax_iconst (v := 0) M d_G_fire_2 (by decide) ?_
  refine ax_istore_n (lv' := [(0, .ref (al 0 0)), (1, .int x1), (2, .int 0), (3, .int 0)]) M d_G_fire_3 (by decide) [1, 2, 3, 0] rfl ?_
  refine ax_lv (lv' := [(0, .ref (al 0 0)), (1, .int x1), (2, .int 0), (3, .int 0)]) [0, 1, 2, 3] rfl ?_
  obtain ⟨r1, l1, E⟩ := ob_b E
  refine lp_walk (fun (s1 : ST × Int32 × Int32) => ∀ h : AH, SW dmC (cfC cc) al s1.1 h0 h → AW l D vwCl rm_C_fire 5 X 0 0 h 4 [(0, .ref (al 0 0)), (1, .int x1), (2, .int s1.2.1), (3, .int s1.2.2)] []) (fun (r1 : ST × Int32 × Int32) => ∀ h : AH, SW dmC (cfC cc) al r1.1 h0 h → AW l D vwCl rm_C_fire 5 X 0 0 h 43 [(0, .ref (al 0 0)), (1, .int x1), (2, .int r1.2.1), (3, .int r1.2.2)] []) ?_ _ _ _ l1 ?_ h hG
  · intro s1 y1 E K1 K2 h hG
    refine ax_iload_n M d_G_fire_4 3 rfl ?_
    refine ax_aload_n M d_G_fire_5 0 rfl ?_
    refine sw_get M hG 0 0 (by decide) in_G rfl rfl 5 (by decide) wd_157 rfl d_G_fire_6 ?_
    refine ax_icmp_ge (tgt := 43) M d_G_fire_9 (by decide) (fun c1 => ?_) (fun c1 => ?_)
    · have E := ob_t E c1
      obtain rfl := Option.some.inj E
      refine ax_lv (lv' := [(0, .ref (al 0 0)), (1, .int x1), (2, .int s1.2.1), (3, .int s1.2.2)]) [0, 1, 2, 3] rfl ?_
      exact (K2 _ rfl) h hG
    · have E := ob_f E c1
      refine ax_aload_n M d_G_fire_12 0 rfl ?_
      refine sw_get M hG 0 0 (by decide) in_G rfl rfl 1 (by decide) wd_153 rfl d_G_fire_13 ?_
      refine ax_iload_n M d_G_fire_16 3 rfl ?_
      obtain ⟨k1, E⟩ := ob_c E
      refine sw_aldq (g := fun e => ix (gi s1.1 5 0 e)) M hG 5 0 (by decide) rfl 2 rfl rfl k1 d_G_fire_17 ?_
      obtain ⟨k2, E⟩ := ob_c E
      refine sw_getN M hG 2 (ix (gi s1.1 5 0 (ix s1.2.2))) k2 in_E rfl rfl 2 (by decide) wd_122 rfl d_G_fire_18 ?_
      refine ax_iload_n M d_G_fire_21 1 rfl ?_
      refine ax_icmp_ne (tgt := 37) M d_G_fire_22 (by decide) (fun c2 => ?_) (fun c2 => ?_)
      · have E := ob_f E c2
        refine ax_iinc (v := s1.2.2 + 1) (lv' := [(0, .ref (al 0 0)), (1, .int x1), (2, .int s1.2.1), (3, .int (s1.2.2 + 1))]) M d_G_fire_37 3 rfl rfl (by decide) [1, 2, 3, 0] rfl ?_
        refine ax_goto (tgt := 4) M d_G_fire_40 (by decide) ?_
        obtain rfl := Option.some.inj E
        refine ax_lv (lv' := [(0, .ref (al 0 0)), (1, .int x1), (2, .int s1.2.1), (3, .int (s1.2.2 + 1))]) [0, 1, 2, 3] rfl ?_
        exact K1 _ rfl h hG
      · have E := ob_t E c2
        refine ax_iload_n M d_G_fire_25 2 rfl ?_
        refine ax_aload_n M d_G_fire_26 0 rfl ?_
        refine sw_get M hG 0 0 (by decide) in_G rfl rfl 1 (by decide) wd_153 rfl d_G_fire_27 ?_
        refine ax_iload_n M d_G_fire_30 3 rfl ?_
        refine sw_aldq (g := fun e => ix (gi s1.1 5 0 e)) M hG 5 0 (by decide) rfl 2 rfl rfl k1 d_G_fire_31 ?_
        obtain ⟨b1, e1, E⟩ := ob_b E
        refine ax_callVN (n := 0) (q := (R_E, F_E, 9)) M TT_good rfl (SW.at hG 2 (ix (gi s1.1 5 0 (ix s1.2.2))) k2) (ac_C_Edge_takeWeighed k2 hG e1) wd_301 lm_G_206 (by decide) (by decide) rfl rfl (Nat.le_of_ble_eq_true rfl) d_G_fire_32 (by decide) (c1 := 0) (s1 := 0) (by decide) (ax_ret_i (fun h hG => ?_))
        refine ax_iadd M d_G_fire_35 ?_
        refine ax_istore_n (lv' := [(0, .ref (al 0 0)), (1, .int x1), (2, .int (s1.2.1 + b1.1)), (3, .int s1.2.2)]) M d_G_fire_36 (by decide) [1, 2, 0, 3] rfl ?_
        refine ax_iinc (v := s1.2.2 + 1) (lv' := [(0, .ref (al 0 0)), (1, .int x1), (2, .int (s1.2.1 + b1.1)), (3, .int (s1.2.2 + 1))]) M d_G_fire_37 3 rfl rfl (by decide) [1, 2, 3, 0] rfl ?_
        refine ax_goto (tgt := 4) M d_G_fire_40 (by decide) ?_
        obtain rfl := Option.some.inj E
        refine ax_lv (lv' := [(0, .ref (al 0 0)), (1, .int x1), (2, .int (s1.2.1 + b1.1)), (3, .int (s1.2.2 + 1))]) [0, 1, 2, 3] rfl ?_
        exact K1 _ rfl h hG
  · intro h hG
    refine ax_aload_n M d_G_fire_43 0 rfl ?_
    refine sw_get M hG 0 0 (by decide) in_G rfl rfl 0 (by decide) wd_152 rfl d_G_fire_44 ?_
    refine ax_iload_n M d_G_fire_47 1 rfl ?_
    obtain ⟨k3, E⟩ := ob_c E
    refine sw_aldq (g := fun e => e) M hG 4 0 (by decide) rfl 1 rfl rfl k3 d_G_fire_48 ?_
    refine ax_iload_n M d_G_fire_49 2 rfl ?_
    obtain ⟨b2, e2, E⟩ := ob_b E
    refine ax_callVN (n := 1) (q := (R_A, F_A, 10)) M TT_good rfl (SW.at hG 1 (ix x1) (in_lt k3)) (ac_C_Actor_answerTo (in_lt k3) hG e2) wd_309 lm_G_209 (by decide) (by decide) rfl rfl (Nat.le_of_ble_eq_true rfl) d_G_fire_50 (by decide) (c1 := 0) (s1 := 0) (by decide) (ax_ret_i (fun h hG => ?_))
    refine ax_istore_n (lv' := [(0, .ref (al 0 0)), (1, .int x1), (3, .int b2.1)]) M d_G_fire_53 (by decide) [1, 2, 0] rfl ?_
    refine ax_aload_n M d_G_fire_54 0 rfl ?_
    refine sw_get M hG 0 0 (by decide) in_G rfl rfl 0 (by decide) wd_152 rfl d_G_fire_55 ?_
    refine ax_iload_n M d_G_fire_58 1 rfl ?_
    refine sw_aldq (g := fun e => e) M hG 4 0 (by decide) rfl 1 rfl rfl k3 d_G_fire_59 ?_
    refine ax_iload_n M d_G_fire_60 2 rfl ?_
    refine sw_putN M hG 1 (ix x1) (in_lt k3) in_A t_A tok_A nok_A rfl rfl 9 (by decide) wd_90 rfl rfl rfl (Nat.le_of_ble_eq_true rfl) rfl d_G_fire_61 (fun h hG => ?_)
    refine ax_iconst (v := 0) M d_G_fire_64 (by decide) ?_
    refine ax_istore (lv' := [(0, .ref (al 0 0)), (1, .int x1), (3, .int b2.1), (4, .int 0)]) M d_G_fire_65 (by decide) [1, 2, 3, 0] rfl ?_
    refine ax_lv (lv' := [(0, .ref (al 0 0)), (1, .int x1), (3, .int b2.1), (4, .int 0)]) [0, 1, 2, 3] rfl ?_
    obtain ⟨r2, l2, E⟩ := ob_b E
    refine lp_walk (fun (s2 : ST × Int32) => ∀ h : AH, SW dmC (cfC cc) al s2.1 h0 h → AW l D vwCl rm_C_fire 5 X 0 0 h 67 [(0, .ref (al 0 0)), (1, .int x1), (3, .int b2.1), (4, .int s2.2)] []) (fun (r2 : ST × Int32) => ∀ h : AH, SW dmC (cfC cc) al r2.1 h0 h → AW l D vwCl rm_C_fire 5 X 0 0 h 107 [(0, .ref (al 0 0)), (1, .int x1), (3, .int b2.1), (4, .int r2.2)] []) ?_ _ _ _ l2 ?_ h hG
    · intro s2 y2 E K3 K4 h hG
      refine ax_iload M d_G_fire_67 3 rfl ?_
      refine ax_aload_n M d_G_fire_69 0 rfl ?_
      refine sw_get M hG 0 0 (by decide) in_G rfl rfl 5 (by decide) wd_157 rfl d_G_fire_70 ?_
      refine ax_icmp_ge (tgt := 107) M d_G_fire_73 (by decide) (fun c3 => ?_) (fun c3 => ?_)
      · have E := ob_t E c3
        obtain rfl := Option.some.inj E
        refine ax_lv (lv' := [(0, .ref (al 0 0)), (1, .int x1), (3, .int b2.1), (4, .int s2.2)]) [0, 1, 2, 3] rfl ?_
        exact (K4 _ rfl) h hG
      · have E := ob_f E c3
        refine ax_aload_n M d_G_fire_76 0 rfl ?_
        refine sw_get M hG 0 0 (by decide) in_G rfl rfl 1 (by decide) wd_153 rfl d_G_fire_77 ?_
        refine ax_iload M d_G_fire_80 3 rfl ?_
        obtain ⟨k4, E⟩ := ob_c E
        refine sw_aldq (g := fun e => ix (gi s2.1 5 0 e)) M hG 5 0 (by decide) rfl 2 rfl rfl k4 d_G_fire_82 ?_
        obtain ⟨k5, E⟩ := ob_c E
        refine sw_getN M hG 2 (ix (gi s2.1 5 0 (ix s2.2))) k5 in_E rfl rfl 1 (by decide) wd_120 rfl d_G_fire_83 ?_
        refine ax_iload_n M d_G_fire_86 1 rfl ?_
        refine ax_icmp_ne (tgt := 101) M d_G_fire_87 (by decide) (fun c4 => ?_) (fun c4 => ?_)
        · have E := ob_f E c4
          refine ax_iinc (v := s2.2 + 1) (lv' := [(0, .ref (al 0 0)), (1, .int x1), (3, .int b2.1), (4, .int (s2.2 + 1))]) M d_G_fire_101 3 rfl rfl (by decide) [1, 2, 3, 0] rfl ?_
          refine ax_goto (tgt := 67) M d_G_fire_104 (by decide) ?_
          obtain rfl := Option.some.inj E
          refine ax_lv (lv' := [(0, .ref (al 0 0)), (1, .int x1), (3, .int b2.1), (4, .int (s2.2 + 1))]) [0, 1, 2, 3] rfl ?_
          exact K3 _ rfl h hG
        · have E := ob_t E c4
          refine ax_aload_n M d_G_fire_90 0 rfl ?_
          refine sw_get M hG 0 0 (by decide) in_G rfl rfl 1 (by decide) wd_153 rfl d_G_fire_91 ?_
          refine ax_iload M d_G_fire_94 3 rfl ?_
          refine sw_aldq (g := fun e => ix (gi s2.1 5 0 e)) M hG 5 0 (by decide) rfl 2 rfl rfl k4 d_G_fire_96 ?_
          refine ax_iload_n M d_G_fire_97 2 rfl ?_
          obtain ⟨b3, e3, E⟩ := ob_b E
          refine ax_callVN (n := 1) (q := (R_E, F_E, 9)) M TT_good rfl (SW.at hG 2 (ix (gi s2.1 5 0 (ix s2.2))) k5) (ac_C_Edge_putFrom k5 hG e3) wd_313 lm_G_212 (by decide) (by decide) rfl rfl (Nat.le_of_ble_eq_true rfl) d_G_fire_98 (by decide) (c1 := 0) (s1 := 0) (by decide) (ax_ret_v (fun h hG => ?_))
          refine ax_iinc (v := s2.2 + 1) (lv' := [(0, .ref (al 0 0)), (1, .int x1), (3, .int b2.1), (4, .int (s2.2 + 1))]) M d_G_fire_101 3 rfl rfl (by decide) [1, 2, 3, 0] rfl ?_
          refine ax_goto (tgt := 67) M d_G_fire_104 (by decide) ?_
          obtain rfl := Option.some.inj E
          refine ax_lv (lv' := [(0, .ref (al 0 0)), (1, .int x1), (3, .int b2.1), (4, .int (s2.2 + 1))]) [0, 1, 2, 3] rfl ?_
          exact K3 _ rfl h hG
    · intro h hG
      obtain rfl := Option.some.inj E
      exact ax_vret M hR (by decide) (by decide) d_G_fire_107 ⟨rfl, hG⟩
def C_run (σ : ST) (x1 : Int32) : Option (Int32 × ST) :=
  (C_isWithin x1 1 8).bind (fun b1 => 
  (if b1 = 0 then
  (some ((-1, σ))) else
  (if (gi σ 0 0 8) = 0 then
  (some ((-4, σ))) else
  ((lp (fun s1 : ST × Int32 =>
  if x1 ≤ s1.2 then
  (some (.inr ((s1.1, s1.2)))) else
  ((lp (fun s2 : ST × Int32 =>
  if (gi s2.1 0 0 6) ≤ s2.2 then
  (some (.inr ((s2.1, s2.2)))) else
  (if inb s2.2 64 then 
  ((C_fire s2.1 (gi s2.1 8 0 (ix s2.2))).bind (fun b2 => 
  (some (.inl ((b2, s2.2 + 1)))))) else none)) 100 ((s1.1, 0))).bind (fun r2 : ST × Int32 =>
  some (.inl ((r2.1, s1.2 + 1)))))) 100 ((σ, 0))).bind (fun r1 : ST × Int32 =>
  some ((x1 * (gi r1.1 0 0 6), su r1.1 0 0 7 ((gi r1.1 0 0 7) + (x1 * (gi r1.1 0 0 6))))))))))
abbrev rm_C_run : Room := { frames := 3, cells := 0, slots := 0, locals := 67 }
set_option maxRecDepth 100000 in
set_option maxHeartbeats 4000000 in
theorem ac_C_run {l : Launch} {D : va_G} {cc : Nat → ClassId} {al : Nat → Nat → Nat} {σ : ST} {h0 h : AH} {x1 : Int32} {res : Int32 × ST}  (hG : SW dmC (cfC cc) al σ h0 h) (E : C_run σ x1 = some res) : AC l D vwCl (tysOf cc) NN y_G_run (Cond.code y_G_run b_G_run 4 (some .int) :: TT) rm_C_run [.ref (al 0 0), .int x1] h (fun rv h' => rv = some (.int res.1) ∧ SW dmC (cfC cc) al res.2 h0 h') := by
  refine AC.of (by decide) rfl (Nat.le_of_ble_eq_true rfl) (fun X M hR hI => ?_)
  unfold C_run at E
  refine ax_lv (lv' := [(0, .ref (al 0 0)), (1, .int x1)]) [0, 1] rfl ?_
  refine ax_iload_n M d_G_run_0 1 rfl ?_
  refine ax_iconst (v := 1) M d_G_run_1 (by decide) ?_
  refine ax_bipush (v := 8) M d_G_run_2 (by decide) ?_
  obtain ⟨b1, e1, E⟩ := ob_b E
  refine ax_callS (n := 3) M TT_good (ac_C_isWithin hG e1) lm_G_35 (by decide) (by decide) rfl rfl (Nat.le_of_ble_eq_true rfl) d_G_run_4 (by decide) (c1 := 0) (s1 := 0) (by decide) (ax_ret_i (fun h hG => ?_))
  refine ax_if_ne (tgt := 12) M d_G_run_7 (by decide) (fun c1 => ?_) (fun c1 => ?_)
  · have E := ob_f E c1
    refine ax_aload_n M d_G_run_12 0 rfl ?_
    refine sw_get M hG 0 0 (by decide) in_G rfl rfl 8 (by decide) wd_160 rfl d_G_run_13 ?_
    refine ax_if_ne (tgt := 22) M d_G_run_16 (by decide) (fun c2 => ?_) (fun c2 => ?_)
    · have E := ob_f E c2
      refine ax_iconst (v := 0) M d_G_run_22 (by decide) ?_
      refine ax_istore_n (lv' := [(0, .ref (al 0 0)), (1, .int x1), (2, .int 0)]) M d_G_run_23 (by decide) [1, 2, 0] rfl ?_
      refine ax_lv (lv' := [(0, .ref (al 0 0)), (1, .int x1), (2, .int 0)]) [0, 1, 2] rfl ?_
      obtain ⟨r1, l2, E⟩ := ob_b E
      refine lp_walk (fun (s1 : ST × Int32) => ∀ h : AH, SW dmC (cfC cc) al s1.1 h0 h → AW l D vwCl rm_C_run 4 X 0 0 h 24 [(0, .ref (al 0 0)), (1, .int x1), (2, .int s1.2)] []) (fun (r1 : ST × Int32) => ∀ h : AH, SW dmC (cfC cc) al r1.1 h0 h → AW l D vwCl rm_C_run 4 X 0 0 h 61 [(0, .ref (al 0 0)), (1, .int x1), (2, .int r1.2)] []) ?_ _ _ _ l2 ?_ h hG
      · intro s1 y1 E K1 K2 h hG
        refine ax_iload_n M d_G_run_24 2 rfl ?_
        refine ax_iload_n M d_G_run_25 1 rfl ?_
        refine ax_icmp_ge (tgt := 61) M d_G_run_26 (by decide) (fun c3 => ?_) (fun c3 => ?_)
        · have E := ob_t E c3
          obtain rfl := Option.some.inj E
          refine ax_lv (lv' := [(0, .ref (al 0 0)), (1, .int x1), (2, .int s1.2)]) [0, 1, 2] rfl ?_
          exact (K2 _ rfl) h hG
        · have E := ob_f E c3
          refine ax_iconst (v := 0) M d_G_run_29 (by decide) ?_
          refine ax_istore_n (lv' := [(0, .ref (al 0 0)), (1, .int x1), (2, .int s1.2), (3, .int 0)]) M d_G_run_30 (by decide) [1, 2, 3, 0] rfl ?_
          refine ax_lv (lv' := [(0, .ref (al 0 0)), (1, .int x1), (2, .int s1.2), (3, .int 0)]) [0, 1, 2, 3] rfl ?_
          obtain ⟨r2, l1, E⟩ := ob_b E
          refine lp_walk (fun (s2 : ST × Int32) => ∀ h : AH, SW dmC (cfC cc) al s2.1 h0 h → AW l D vwCl rm_C_run 4 X 0 0 h 31 [(0, .ref (al 0 0)), (1, .int x1), (2, .int s1.2), (3, .int s2.2)] []) (fun (r2 : ST × Int32) => ∀ h : AH, SW dmC (cfC cc) al r2.1 h0 h → AW l D vwCl rm_C_run 4 X 0 0 h 55 [(0, .ref (al 0 0)), (1, .int x1), (2, .int s1.2), (3, .int r2.2)] []) ?_ _ _ _ l1 ?_ h hG
          · intro s2 y2 E K3 K4 h hG
            refine ax_iload_n M d_G_run_31 3 rfl ?_
            refine ax_aload_n M d_G_run_32 0 rfl ?_
            refine sw_get M hG 0 0 (by decide) in_G rfl rfl 6 (by decide) wd_158 rfl d_G_run_33 ?_
            refine ax_icmp_ge (tgt := 55) M d_G_run_36 (by decide) (fun c4 => ?_) (fun c4 => ?_)
            · have E := ob_t E c4
              obtain rfl := Option.some.inj E
              refine ax_lv (lv' := [(0, .ref (al 0 0)), (1, .int x1), (2, .int s1.2), (3, .int s2.2)]) [0, 1, 2, 3] rfl ?_
              exact (K4 _ rfl) h hG
            · have E := ob_f E c4
              refine ax_aload_n M d_G_run_39 0 rfl ?_
              refine ax_aload_n M d_G_run_40 0 rfl ?_
              refine sw_get M hG 0 0 (by decide) in_G rfl rfl 4 (by decide) wd_156 rfl d_G_run_41 ?_
              refine ax_iload_n M d_G_run_44 3 rfl ?_
              obtain ⟨k1, E⟩ := ob_c E
              refine sw_iald M hG 8 0 (by decide) rfl 0 rfl k1 d_G_run_45 ?_
              obtain ⟨b2, e2, E⟩ := ob_b E
              refine ax_callV (n := 1) (C := R_G) (q := (R_G, F_G, 9)) M TT_good rfl rfl (SW.at hG 0 0 (by decide)) (ac_C_fire hG e2) lm_G_98 (by decide) (by decide) rfl rfl (Nat.le_of_ble_eq_true rfl) d_G_run_46 (by decide) (c1 := 0) (s1 := 0) (by decide) (ax_ret_v (fun h hG => ?_))
              refine ax_iinc (v := s2.2 + 1) (lv' := [(0, .ref (al 0 0)), (1, .int x1), (2, .int s1.2), (3, .int (s2.2 + 1))]) M d_G_run_49 3 rfl rfl (by decide) [1, 2, 3, 0] rfl ?_
              refine ax_goto (tgt := 31) M d_G_run_52 (by decide) ?_
              obtain rfl := Option.some.inj E
              refine ax_lv (lv' := [(0, .ref (al 0 0)), (1, .int x1), (2, .int s1.2), (3, .int (s2.2 + 1))]) [0, 1, 2, 3] rfl ?_
              exact K3 _ rfl h hG
          · intro h hG
            refine ax_iinc (v := s1.2 + 1) (lv' := [(0, .ref (al 0 0)), (1, .int x1), (2, .int (s1.2 + 1)), (3, .int r2.2)]) M d_G_run_55 2 rfl rfl (by decide) [1, 2, 0, 3] rfl ?_
            refine ax_goto (tgt := 24) M d_G_run_58 (by decide) ?_
            obtain rfl := Option.some.inj E
            refine ax_lv (lv' := [(0, .ref (al 0 0)), (1, .int x1), (2, .int (s1.2 + 1))]) [0, 1, 2] rfl ?_
            exact K1 _ rfl h hG
      · intro h hG
        refine ax_aload_n M d_G_run_61 0 rfl ?_
        refine ax_dup M d_G_run_62 rfl ?_
        refine sw_get M hG 0 0 (by decide) in_G rfl rfl 7 (by decide) wd_159 rfl d_G_run_63 ?_
        refine ax_iload_n M d_G_run_66 1 rfl ?_
        refine ax_aload_n M d_G_run_67 0 rfl ?_
        refine sw_get M hG 0 0 (by decide) in_G rfl rfl 6 (by decide) wd_158 rfl d_G_run_68 ?_
        refine ax_imul M d_G_run_71 ?_
        refine ax_iadd M d_G_run_72 ?_
        refine sw_put M hG 0 0 (by decide) in_G t_G tok_G nok_G rfl rfl 7 (by decide) wd_159 rfl rfl rfl (Nat.le_of_ble_eq_true rfl) rfl d_G_run_73 (fun h hG => ?_)
        refine ax_iload_n M d_G_run_76 1 rfl ?_
        refine ax_aload_n M d_G_run_77 0 rfl ?_
        refine sw_get M hG 0 0 (by decide) in_G rfl rfl 6 (by decide) wd_158 rfl d_G_run_78 ?_
        refine ax_topi (gi r1.1 0 0 6) (gi_k (by decide)) ?_
        refine ax_imul M d_G_run_81 ?_
        obtain rfl := Option.some.inj E
        exact ax_iret M hR (by decide) (by decide) d_G_run_82 ⟨rfl, hG⟩
    · have E := ob_t E c2
      refine ax_bipush (v := -4) M d_G_run_19 (by decide) ?_
      obtain rfl := Option.some.inj E
      exact ax_iret M hR (by decide) (by decide) d_G_run_21 ⟨rfl, hG⟩
  · have E := ob_t E c1
    refine ax_iconst (v := (-1)) M d_G_run_10 (by decide) ?_
    obtain rfl := Option.some.inj E
    exact ax_iret M hR (by decide) (by decide) d_G_run_11 ⟨rfl, hG⟩
def C_repetitions (σ : ST) (x1 : Int32) : Option (Int32) :=
  (C_isActor σ x1).bind (fun b1 => 
  (if b1 = 0 then
  (some (-1)) else
  (if (gi σ 0 0 8) = 0 then
  (some (-4)) else
  (if inb x1 8 then 
  (some (gi σ 1 (ix x1) 5)) else none))))
abbrev rm_C_repetitions : Room := { frames := 2, cells := 0, slots := 0, locals := 43 }
set_option maxRecDepth 100000 in
set_option maxHeartbeats 4000000 in
theorem ac_C_repetitions {l : Launch} {D : va_G} {cc : Nat → ClassId} {al : Nat → Nat → Nat} {σ : ST} {h0 h : AH} {x1 : Int32} {res : Int32}  (hG : SW dmC (cfC cc) al σ h0 h) (E : C_repetitions σ x1 = some res) : AC l D vwCl (tysOf cc) NN y_G_repetitions (Cond.code y_G_repetitions b_G_repetitions 2 (some .int) :: TT) rm_C_repetitions [.ref (al 0 0), .int x1] h (fun rv h' => rv = some (.int res) ∧ SW dmC (cfC cc) al σ h0 h') := by
  refine AC.of (by decide) rfl (Nat.le_of_ble_eq_true rfl) (fun X M hR hI => ?_)
  unfold C_repetitions at E
  refine ax_lv (lv' := [(0, .ref (al 0 0)), (1, .int x1)]) [0, 1] rfl ?_
  refine ax_aload_n M d_G_repetitions_0 0 rfl ?_
  refine ax_iload_n M d_G_repetitions_1 1 rfl ?_
  obtain ⟨b1, e1, E⟩ := ob_b E
  refine ax_callV (n := 1) (C := R_G) (q := (R_G, F_G, 9)) M TT_good rfl rfl (SW.at hG 0 0 (by decide)) (ac_C_isActor hG e1) lm_G_53 (by decide) (by decide) rfl rfl (Nat.le_of_ble_eq_true rfl) d_G_repetitions_2 (by decide) (c1 := 0) (s1 := 0) (by decide) (ax_ret_i (fun h hG => ?_))
  refine ax_if_ne (tgt := 10) M d_G_repetitions_5 (by decide) (fun c1 => ?_) (fun c1 => ?_)
  · have E := ob_f E c1
    refine ax_aload_n M d_G_repetitions_10 0 rfl ?_
    refine sw_get M hG 0 0 (by decide) in_G rfl rfl 8 (by decide) wd_160 rfl d_G_repetitions_11 ?_
    refine ax_if_eq (tgt := 29) M d_G_repetitions_14 (by decide) (fun c2 => ?_) (fun c2 => ?_)
    · have E := ob_t E c2
      refine ax_bipush (v := -4) M d_G_repetitions_29 (by decide) ?_
      obtain rfl := Option.some.inj E
      exact ax_iret M hR (by decide) (by decide) d_G_repetitions_31 ⟨rfl, hG⟩
    · have E := ob_f E c2
      refine ax_aload_n M d_G_repetitions_17 0 rfl ?_
      refine sw_get M hG 0 0 (by decide) in_G rfl rfl 0 (by decide) wd_152 rfl d_G_repetitions_18 ?_
      refine ax_iload_n M d_G_repetitions_21 1 rfl ?_
      obtain ⟨k1, E⟩ := ob_c E
      refine sw_aldq (g := fun e => e) M hG 4 0 (by decide) rfl 1 rfl rfl k1 d_G_repetitions_22 ?_
      refine sw_getN M hG 1 (ix x1) (in_lt k1) in_A rfl rfl 5 (by decide) wd_84 rfl d_G_repetitions_23 ?_
      refine ax_goto (tgt := 31) M d_G_repetitions_26 (by decide) ?_
      obtain rfl := Option.some.inj E
      exact ax_iret M hR (by decide) (by decide) d_G_repetitions_31 ⟨rfl, hG⟩
  · have E := ob_t E c1
    refine ax_iconst (v := (-1)) M d_G_repetitions_8 (by decide) ?_
    obtain rfl := Option.some.inj E
    exact ax_iret M hR (by decide) (by decide) d_G_repetitions_9 ⟨rfl, hG⟩
def C_schedule (σ : ST) (x1 : Int32) : Option (Int32) :=
  if (gi σ 0 0 8) = 0 then
  (some (-4)) else
  ((C_isWithin x1 0 ((gi σ 0 0 6) - 1)).bind (fun b1 => 
  (if b1 = 0 then
  (some (-1)) else
  (if inb x1 64 then 
  (some (gi σ 8 0 (ix x1))) else none))))
abbrev rm_C_schedule : Room := { frames := 1, cells := 0, slots := 0, locals := 22 }
set_option maxRecDepth 100000 in
set_option maxHeartbeats 4000000 in
theorem ac_C_schedule {l : Launch} {D : va_G} {cc : Nat → ClassId} {al : Nat → Nat → Nat} {σ : ST} {h0 h : AH} {x1 : Int32} {res : Int32}  (hG : SW dmC (cfC cc) al σ h0 h) (E : C_schedule σ x1 = some res) : AC l D vwCl (tysOf cc) NN y_G_schedule (Cond.code y_G_schedule b_G_schedule 2 (some .int) :: TT) rm_C_schedule [.ref (al 0 0), .int x1] h (fun rv h' => rv = some (.int res) ∧ SW dmC (cfC cc) al σ h0 h') := by
  refine AC.of (by decide) rfl (Nat.le_of_ble_eq_true rfl) (fun X M hR hI => ?_)
  unfold C_schedule at E
  refine ax_lv (lv' := [(0, .ref (al 0 0)), (1, .int x1)]) [0, 1] rfl ?_
  refine ax_aload_n M d_G_schedule_0 0 rfl ?_
  refine sw_get M hG 0 0 (by decide) in_G rfl rfl 8 (by decide) wd_160 rfl d_G_schedule_1 ?_
  refine ax_if_ne (tgt := 10) M d_G_schedule_4 (by decide) (fun c1 => ?_) (fun c1 => ?_)
  · have E := ob_f E c1
    refine ax_iload_n M d_G_schedule_10 1 rfl ?_
    refine ax_iconst (v := 0) M d_G_schedule_11 (by decide) ?_
    refine ax_aload_n M d_G_schedule_12 0 rfl ?_
    refine sw_get M hG 0 0 (by decide) in_G rfl rfl 6 (by decide) wd_158 rfl d_G_schedule_13 ?_
    refine ax_iconst (v := 1) M d_G_schedule_16 (by decide) ?_
    refine ax_isub M d_G_schedule_17 ?_
    obtain ⟨b1, e1, E⟩ := ob_b E
    refine ax_callS (n := 3) M TT_good (ac_C_isWithin hG e1) lm_G_35 (by decide) (by decide) rfl rfl (Nat.le_of_ble_eq_true rfl) d_G_schedule_18 (by decide) (c1 := 0) (s1 := 0) (by decide) (ax_ret_i (fun h hG => ?_))
    refine ax_if_eq (tgt := 33) M d_G_schedule_21 (by decide) (fun c2 => ?_) (fun c2 => ?_)
    · have E := ob_t E c2
      refine ax_iconst (v := (-1)) M d_G_schedule_33 (by decide) ?_
      obtain rfl := Option.some.inj E
      exact ax_iret M hR (by decide) (by decide) d_G_schedule_34 ⟨rfl, hG⟩
    · have E := ob_f E c2
      refine ax_aload_n M d_G_schedule_24 0 rfl ?_
      refine sw_get M hG 0 0 (by decide) in_G rfl rfl 4 (by decide) wd_156 rfl d_G_schedule_25 ?_
      refine ax_iload_n M d_G_schedule_28 1 rfl ?_
      obtain ⟨k1, E⟩ := ob_c E
      refine sw_iald M hG 8 0 (by decide) rfl 0 rfl k1 d_G_schedule_29 ?_
      refine ax_goto (tgt := 34) M d_G_schedule_30 (by decide) ?_
      obtain rfl := Option.some.inj E
      exact ax_iret M hR (by decide) (by decide) d_G_schedule_34 ⟨rfl, hG⟩
  · have E := ob_t E c1
    refine ax_bipush (v := -4) M d_G_schedule_7 (by decide) ?_
    obtain rfl := Option.some.inj E
    exact ax_iret M hR (by decide) (by decide) d_G_schedule_9 ⟨rfl, hG⟩
end
section
def C_peak (σ : ST) (x1 : Int32) : Option (Int32) :=
  (C_isEdge σ x1).bind (fun b1 => 
  (if b1 = 0 then
  (some (-1)) else
  (if (gi σ 0 0 8) = 0 then
  (some (-4)) else
  (if inb x1 12 then 
  (if ix (gi σ 5 0 (ix x1)) < 12 then 
  (some (gi σ 2 (ix (gi σ 5 0 (ix x1))) 8)) else none) else none))))
abbrev rm_C_peak : Room := { frames := 2, cells := 0, slots := 0, locals := 43 }
set_option maxRecDepth 100000 in
set_option maxHeartbeats 4000000 in
theorem ac_C_peak {l : Launch} {D : va_G} {cc : Nat → ClassId} {al : Nat → Nat → Nat} {σ : ST} {h0 h : AH} {x1 : Int32} {res : Int32}  (hG : SW dmC (cfC cc) al σ h0 h) (E : C_peak σ x1 = some res) : AC l D vwCl (tysOf cc) NN y_G_peak (Cond.code y_G_peak b_G_peak 2 (some .int) :: TT) rm_C_peak [.ref (al 0 0), .int x1] h (fun rv h' => rv = some (.int res) ∧ SW dmC (cfC cc) al σ h0 h') := by
  refine AC.of (by decide) rfl (Nat.le_of_ble_eq_true rfl) (fun X M hR hI => ?_)
  unfold C_peak at E
  refine ax_lv (lv' := [(0, .ref (al 0 0)), (1, .int x1)]) [0, 1] rfl ?_
  refine ax_aload_n M d_G_peak_0 0 rfl ?_
  refine ax_iload_n M d_G_peak_1 1 rfl ?_
  obtain ⟨b1, e1, E⟩ := ob_b E
  refine ax_callV (n := 1) (C := R_G) (q := (R_G, F_G, 9)) M TT_good rfl rfl (SW.at hG 0 0 (by decide)) (ac_C_isEdge hG e1) lm_G_75 (by decide) (by decide) rfl rfl (Nat.le_of_ble_eq_true rfl) d_G_peak_2 (by decide) (c1 := 0) (s1 := 0) (by decide) (ax_ret_i (fun h hG => ?_))
  refine ax_if_ne (tgt := 10) M d_G_peak_5 (by decide) (fun c1 => ?_) (fun c1 => ?_)
  · have E := ob_f E c1
    refine ax_aload_n M d_G_peak_10 0 rfl ?_
    refine sw_get M hG 0 0 (by decide) in_G rfl rfl 8 (by decide) wd_160 rfl d_G_peak_11 ?_
    refine ax_if_eq (tgt := 29) M d_G_peak_14 (by decide) (fun c2 => ?_) (fun c2 => ?_)
    · have E := ob_t E c2
      refine ax_bipush (v := -4) M d_G_peak_29 (by decide) ?_
      obtain rfl := Option.some.inj E
      exact ax_iret M hR (by decide) (by decide) d_G_peak_31 ⟨rfl, hG⟩
    · have E := ob_f E c2
      refine ax_aload_n M d_G_peak_17 0 rfl ?_
      refine sw_get M hG 0 0 (by decide) in_G rfl rfl 1 (by decide) wd_153 rfl d_G_peak_18 ?_
      refine ax_iload_n M d_G_peak_21 1 rfl ?_
      obtain ⟨k1, E⟩ := ob_c E
      refine sw_aldq (g := fun e => ix (gi σ 5 0 e)) M hG 5 0 (by decide) rfl 2 rfl rfl k1 d_G_peak_22 ?_
      obtain ⟨k2, E⟩ := ob_c E
      refine sw_getN M hG 2 (ix (gi σ 5 0 (ix x1))) k2 in_E rfl rfl 8 (by decide) wd_132 rfl d_G_peak_23 ?_
      refine ax_goto (tgt := 31) M d_G_peak_26 (by decide) ?_
      obtain rfl := Option.some.inj E
      exact ax_iret M hR (by decide) (by decide) d_G_peak_31 ⟨rfl, hG⟩
  · have E := ob_t E c1
    refine ax_iconst (v := (-1)) M d_G_peak_8 (by decide) ?_
    obtain rfl := Option.some.inj E
    exact ax_iret M hR (by decide) (by decide) d_G_peak_9 ⟨rfl, hG⟩
def C_Edge_isLoop (σ : ST) (i0 : Nat) : Option (Int32) :=
  if (gi σ 2 i0 1) = (gi σ 2 i0 2) then
  (some 1) else
  (some 0)
abbrev rm_C_Edge_isLoop : Room := { frames := 0, cells := 0, slots := 0, locals := 0 }
set_option maxRecDepth 100000 in
set_option maxHeartbeats 4000000 in
theorem ac_C_Edge_isLoop {l : Launch} {D : va_G} {cc : Nat → ClassId} {al : Nat → Nat → Nat} {σ : ST} {h0 h : AH} {i0 : Nat} {res : Int32} (hi0 : i0 < 12) (hG : SW dmC (cfC cc) al σ h0 h) (E : C_Edge_isLoop σ i0 = some res) : AC l D vwCl (tysOf cc) NN y_E_isLoop (Cond.code y_E_isLoop b_E_isLoop 1 (some .boolean) :: TT) rm_C_Edge_isLoop [.ref (al 2 i0)] h (fun rv h' => rv = some (.int res) ∧ SW dmC (cfC cc) al σ h0 h') := by
  refine AC.of (by decide) rfl (Nat.le_of_ble_eq_true rfl) (fun X M hR hI => ?_)
  unfold C_Edge_isLoop at E
  refine ax_lv (lv' := [(0, .ref (al 2 i0))]) [0] rfl ?_
  refine ax_aload_n M d_E_isLoop_0 0 rfl ?_
  refine sw_get M hG 2 i0 hi0 in_E rfl rfl 1 (by decide) wd_119 rfl d_E_isLoop_1 ?_
  refine ax_aload_n M d_E_isLoop_4 0 rfl ?_
  refine sw_get M hG 2 i0 hi0 in_E rfl rfl 2 (by decide) wd_121 rfl d_E_isLoop_5 ?_
  refine ax_icmp_ne (tgt := 15) M d_E_isLoop_8 (by decide) (fun c1 => ?_) (fun c1 => ?_)
  · have E := ob_f E c1
    refine ax_iconst (v := 0) M d_E_isLoop_15 (by decide) ?_
    obtain rfl := Option.some.inj E
    exact ax_zret M hR rfl (by decide) (by decide) d_E_isLoop_16 ⟨rfl, hG⟩
  · have E := ob_t E c1
    refine ax_iconst (v := 1) M d_E_isLoop_11 (by decide) ?_
    refine ax_goto (tgt := 16) M d_E_isLoop_12 (by decide) ?_
    obtain rfl := Option.some.inj E
    exact ax_zret M hR rfl (by decide) (by decide) d_E_isLoop_16 ⟨rfl, hG⟩
def C_canNest (σ : ST) : Option (Int32) :=
  (lp (fun s1 : Int32 =>
  if (gi σ 0 0 5) ≤ s1 then
  (some (.inr (.inl s1))) else
  (if inb s1 12 then 
  (if ix (gi σ 5 0 (ix s1)) < 12 then 
  (if (gi σ 2 (ix (gi σ 5 0 (ix s1))) 2) ≤ (gi σ 2 (ix (gi σ 5 0 (ix s1))) 1) then
  (if (0 : Int32) = 0 then
  ((C_Edge_isLoop σ (ix (gi σ 5 0 (ix s1)))).bind (fun b1 => 
  (if b1 = 0 then
  (some (.inr (.inr 0))) else
  (some (.inl (s1 + 1)))))) else
  (some (.inl (s1 + 1)))) else
  (if (gi σ 2 (ix (gi σ 5 0 (ix s1))) 5) = 0 then
  (if (1 : Int32) = 0 then
  ((C_Edge_isLoop σ (ix (gi σ 5 0 (ix s1)))).bind (fun b3 => 
  (if b3 = 0 then
  (some (.inr (.inr 0))) else
  (some (.inl (s1 + 1)))))) else
  (some (.inl (s1 + 1)))) else
  (if (0 : Int32) = 0 then
  ((C_Edge_isLoop σ (ix (gi σ 5 0 (ix s1)))).bind (fun b2 => 
  (if b2 = 0 then
  (some (.inr (.inr 0))) else
  (some (.inl (s1 + 1)))))) else
  (some (.inl (s1 + 1)))))) else none) else none)) 100 0).bind (fun r1 : (Int32) ⊕ (Int32) => Sum.elim (fun o1 : Int32 =>
  (some 1)) (fun v1 : Int32 => some v1) r1)
abbrev rm_C_canNest : Room := { frames := 1, cells := 0, slots := 0, locals := 20 }
set_option maxRecDepth 100000 in
set_option maxHeartbeats 4000000 in
theorem ac_C_canNest {l : Launch} {D : va_G} {cc : Nat → ClassId} {al : Nat → Nat → Nat} {σ : ST} {h0 h : AH}  {res : Int32}  (hG : SW dmC (cfC cc) al σ h0 h) (E : C_canNest σ = some res) : AC l D vwCl (tysOf cc) NN y_G_canNest (Cond.code y_G_canNest b_G_canNest 4 (some .boolean) :: TT) rm_C_canNest [.ref (al 0 0)] h (fun rv h' => rv = some (.int res) ∧ SW dmC (cfC cc) al σ h0 h') := by
  refine AC.of (by decide) rfl (Nat.le_of_ble_eq_true rfl) (fun X M hR hI => ?_)
  unfold C_canNest at E
  refine ax_lv (lv' := [(0, .ref (al 0 0))]) [0] rfl ?_
  refine ax_iconst (v := 0) M d_G_canNest_0 (by decide) ?_
  refine ax_istore_n (lv' := [(0, .ref (al 0 0)), (1, .int 0)]) M d_G_canNest_1 (by decide) [1, 0] rfl ?_
  refine ax_lv (lv' := [(0, .ref (al 0 0)), (1, .int 0)]) [0, 1] rfl ?_
  obtain ⟨r1, l1, E⟩ := ob_b E
  refine lp_walk (fun (s1 : Int32) => ∀ h : AH, SW dmC (cfC cc) al σ h0 h → AW l D vwCl rm_C_canNest 4 X 0 0 h 2 [(0, .ref (al 0 0)), (1, .int s1)] []) (fun (r1 : (Int32) ⊕ (Int32)) => Sum.elim (fun o1 : Int32 => ∀ h : AH, SW dmC (cfC cc) al σ h0 h → AW l D vwCl rm_C_canNest 4 X 0 0 h 60 [(0, .ref (al 0 0)), (1, .int o1)] []) (fun v1 : Int32 => ∀ h : AH, SW dmC (cfC cc) al σ h0 h → some (Value.int v1) = some (.int res) ∧ SW dmC (cfC cc) al σ h0 h) r1) ?_ _ _ _ l1 ?_ h hG
  · intro s1 y1 E K1 K2 h hG
    refine ax_iload_n M d_G_canNest_2 1 rfl ?_
    refine ax_aload_n M d_G_canNest_3 0 rfl ?_
    refine sw_get M hG 0 0 (by decide) in_G rfl rfl 5 (by decide) wd_157 rfl d_G_canNest_4 ?_
    refine ax_icmp_ge (tgt := 60) M d_G_canNest_7 (by decide) (fun c1 => ?_) (fun c1 => ?_)
    · have E := ob_t E c1
      obtain rfl := Option.some.inj E
      refine ax_lv (lv' := [(0, .ref (al 0 0)), (1, .int s1)]) [0, 1] rfl ?_
      exact (qe_l (K2 _ rfl)) h hG
    · have E := ob_f E c1
      refine ax_aload_n M d_G_canNest_10 0 rfl ?_
      refine sw_get M hG 0 0 (by decide) in_G rfl rfl 1 (by decide) wd_153 rfl d_G_canNest_11 ?_
      refine ax_iload_n M d_G_canNest_14 1 rfl ?_
      obtain ⟨k1, E⟩ := ob_c E
      refine sw_aldq (g := fun e => ix (gi σ 5 0 e)) M hG 5 0 (by decide) rfl 2 rfl rfl k1 d_G_canNest_15 ?_
      obtain ⟨k2, E⟩ := ob_c E
      refine ax_astore_n (lv' := [(0, .ref (al 0 0)), (1, .int s1), (2, .ref (al 2 (ix (gi σ 5 0 (ix s1)))))]) M d_G_canNest_16 (by decide) [1, 2, 0] rfl ?_
      refine ax_aload_n M d_G_canNest_17 2 rfl ?_
      refine sw_getN M hG 2 (ix (gi σ 5 0 (ix s1))) k2 in_E rfl rfl 1 (by decide) wd_120 rfl d_G_canNest_18 ?_
      refine ax_aload_n M d_G_canNest_21 2 rfl ?_
      refine sw_getN M hG 2 (ix (gi σ 5 0 (ix s1))) k2 in_E rfl rfl 2 (by decide) wd_122 rfl d_G_canNest_22 ?_
      refine ax_icmp_ge (tgt := 39) M d_G_canNest_25 (by decide) (fun c2 => ?_) (fun c2 => ?_)
      · have E := ob_t E c2
        refine ax_iconst (v := 0) M d_G_canNest_39 (by decide) ?_
        refine ax_istore_n (lv' := [(0, .ref (al 0 0)), (1, .int s1), (2, .ref (al 2 (ix (gi σ 5 0 (ix s1))))), (3, .int 0)]) M d_G_canNest_40 (by decide) [1, 2, 3, 0] rfl ?_
        refine ax_iload_n M d_G_canNest_41 3 rfl ?_
        refine ax_if_ne (tgt := 54) M d_G_canNest_42 (by decide) (fun c3 => ?_) (fun c3 => ?_)
        · have E := ob_f E c3
          refine ax_iinc (v := s1 + 1) (lv' := [(0, .ref (al 0 0)), (1, .int (s1 + 1)), (2, .ref (al 2 (ix (gi σ 5 0 (ix s1))))), (3, .int 0)]) M d_G_canNest_54 1 rfl rfl (by decide) [1, 0, 2, 3] rfl ?_
          refine ax_goto (tgt := 2) M d_G_canNest_57 (by decide) ?_
          obtain rfl := Option.some.inj E
          refine ax_lv (lv' := [(0, .ref (al 0 0)), (1, .int (s1 + 1))]) [0, 1] rfl ?_
          exact K1 _ rfl h hG
        · have E := ob_t E c3
          refine ax_aload_n M d_G_canNest_45 2 rfl ?_
          obtain ⟨b1, e1, E⟩ := ob_b E
          refine ax_callVN (n := 0) (q := (R_E, F_E, 9)) M TT_good rfl (SW.at hG 2 (ix (gi σ 5 0 (ix s1))) k2) (ac_C_Edge_isLoop k2 hG e1) wd_337 lm_G_215 (by decide) (by decide) rfl rfl (Nat.le_of_ble_eq_true rfl) d_G_canNest_46 (by decide) (c1 := 0) (s1 := 0) (by decide) (ax_ret_i (fun h hG => ?_))
          refine ax_if_ne (tgt := 54) M d_G_canNest_49 (by decide) (fun c4 => ?_) (fun c4 => ?_)
          · have E := ob_f E c4
            refine ax_iinc (v := s1 + 1) (lv' := [(0, .ref (al 0 0)), (1, .int (s1 + 1)), (2, .ref (al 2 (ix (gi σ 5 0 (ix s1))))), (3, .int 0)]) M d_G_canNest_54 1 rfl rfl (by decide) [1, 0, 2, 3] rfl ?_
            refine ax_goto (tgt := 2) M d_G_canNest_57 (by decide) ?_
            obtain rfl := Option.some.inj E
            refine ax_lv (lv' := [(0, .ref (al 0 0)), (1, .int (s1 + 1))]) [0, 1] rfl ?_
            exact K1 _ rfl h hG
          · have E := ob_t E c4
            refine ax_iconst (v := 0) M d_G_canNest_52 (by decide) ?_
            obtain rfl := Option.some.inj E
            exact ax_zret M hR rfl (by decide) (by decide) d_G_canNest_53 ((qe_r (K2 _ rfl)) h hG)
      · have E := ob_f E c2
        refine ax_aload_n M d_G_canNest_28 2 rfl ?_
        refine sw_getN M hG 2 (ix (gi σ 5 0 (ix s1))) k2 in_E rfl rfl 5 (by decide) wd_128 rfl d_G_canNest_29 ?_
        refine ax_if_ne (tgt := 39) M d_G_canNest_32 (by decide) (fun c5 => ?_) (fun c5 => ?_)
        · have E := ob_f E c5
          refine ax_iconst (v := 0) M d_G_canNest_39 (by decide) ?_
          refine ax_istore_n (lv' := [(0, .ref (al 0 0)), (1, .int s1), (2, .ref (al 2 (ix (gi σ 5 0 (ix s1))))), (3, .int 0)]) M d_G_canNest_40 (by decide) [1, 2, 3, 0] rfl ?_
          refine ax_iload_n M d_G_canNest_41 3 rfl ?_
          refine ax_if_ne (tgt := 54) M d_G_canNest_42 (by decide) (fun c6 => ?_) (fun c6 => ?_)
          · have E := ob_f E c6
            refine ax_iinc (v := s1 + 1) (lv' := [(0, .ref (al 0 0)), (1, .int (s1 + 1)), (2, .ref (al 2 (ix (gi σ 5 0 (ix s1))))), (3, .int 0)]) M d_G_canNest_54 1 rfl rfl (by decide) [1, 0, 2, 3] rfl ?_
            refine ax_goto (tgt := 2) M d_G_canNest_57 (by decide) ?_
            obtain rfl := Option.some.inj E
            refine ax_lv (lv' := [(0, .ref (al 0 0)), (1, .int (s1 + 1))]) [0, 1] rfl ?_
            exact K1 _ rfl h hG
          · have E := ob_t E c6
            refine ax_aload_n M d_G_canNest_45 2 rfl ?_
            obtain ⟨b2, e2, E⟩ := ob_b E
            refine ax_callVN (n := 0) (q := (R_E, F_E, 9)) M TT_good rfl (SW.at hG 2 (ix (gi σ 5 0 (ix s1))) k2) (ac_C_Edge_isLoop k2 hG e2) wd_337 lm_G_215 (by decide) (by decide) rfl rfl (Nat.le_of_ble_eq_true rfl) d_G_canNest_46 (by decide) (c1 := 0) (s1 := 0) (by decide) (ax_ret_i (fun h hG => ?_))
            refine ax_if_ne (tgt := 54) M d_G_canNest_49 (by decide) (fun c7 => ?_) (fun c7 => ?_)
            · have E := ob_f E c7
              refine ax_iinc (v := s1 + 1) (lv' := [(0, .ref (al 0 0)), (1, .int (s1 + 1)), (2, .ref (al 2 (ix (gi σ 5 0 (ix s1))))), (3, .int 0)]) M d_G_canNest_54 1 rfl rfl (by decide) [1, 0, 2, 3] rfl ?_
              refine ax_goto (tgt := 2) M d_G_canNest_57 (by decide) ?_
              obtain rfl := Option.some.inj E
              refine ax_lv (lv' := [(0, .ref (al 0 0)), (1, .int (s1 + 1))]) [0, 1] rfl ?_
              exact K1 _ rfl h hG
            · have E := ob_t E c7
              refine ax_iconst (v := 0) M d_G_canNest_52 (by decide) ?_
              obtain rfl := Option.some.inj E
              exact ax_zret M hR rfl (by decide) (by decide) d_G_canNest_53 ((qe_r (K2 _ rfl)) h hG)
        · have E := ob_t E c5
          refine ax_iconst (v := 1) M d_G_canNest_35 (by decide) ?_
          refine ax_goto (tgt := 40) M d_G_canNest_36 (by decide) ?_
          refine ax_istore_n (lv' := [(0, .ref (al 0 0)), (1, .int s1), (2, .ref (al 2 (ix (gi σ 5 0 (ix s1))))), (3, .int 1)]) M d_G_canNest_40 (by decide) [1, 2, 3, 0] rfl ?_
          refine ax_iload_n M d_G_canNest_41 3 rfl ?_
          refine ax_if_ne (tgt := 54) M d_G_canNest_42 (by decide) (fun c8 => ?_) (fun c8 => ?_)
          · have E := ob_f E c8
            refine ax_iinc (v := s1 + 1) (lv' := [(0, .ref (al 0 0)), (1, .int (s1 + 1)), (2, .ref (al 2 (ix (gi σ 5 0 (ix s1))))), (3, .int 1)]) M d_G_canNest_54 1 rfl rfl (by decide) [1, 0, 2, 3] rfl ?_
            refine ax_goto (tgt := 2) M d_G_canNest_57 (by decide) ?_
            obtain rfl := Option.some.inj E
            refine ax_lv (lv' := [(0, .ref (al 0 0)), (1, .int (s1 + 1))]) [0, 1] rfl ?_
            exact K1 _ rfl h hG
          · have E := ob_t E c8
            refine ax_aload_n M d_G_canNest_45 2 rfl ?_
            obtain ⟨b3, e3, E⟩ := ob_b E
            refine ax_callVN (n := 0) (q := (R_E, F_E, 9)) M TT_good rfl (SW.at hG 2 (ix (gi σ 5 0 (ix s1))) k2) (ac_C_Edge_isLoop k2 hG e3) wd_337 lm_G_215 (by decide) (by decide) rfl rfl (Nat.le_of_ble_eq_true rfl) d_G_canNest_46 (by decide) (c1 := 0) (s1 := 0) (by decide) (ax_ret_i (fun h hG => ?_))
            refine ax_if_ne (tgt := 54) M d_G_canNest_49 (by decide) (fun c9 => ?_) (fun c9 => ?_)
            · have E := ob_f E c9
              refine ax_iinc (v := s1 + 1) (lv' := [(0, .ref (al 0 0)), (1, .int (s1 + 1)), (2, .ref (al 2 (ix (gi σ 5 0 (ix s1))))), (3, .int 1)]) M d_G_canNest_54 1 rfl rfl (by decide) [1, 0, 2, 3] rfl ?_
              refine ax_goto (tgt := 2) M d_G_canNest_57 (by decide) ?_
              obtain rfl := Option.some.inj E
              refine ax_lv (lv' := [(0, .ref (al 0 0)), (1, .int (s1 + 1))]) [0, 1] rfl ?_
              exact K1 _ rfl h hG
            · have E := ob_t E c9
              refine ax_iconst (v := 0) M d_G_canNest_52 (by decide) ?_
              obtain rfl := Option.some.inj E
              exact ax_zret M hR rfl (by decide) (by decide) d_G_canNest_53 ((qe_r (K2 _ rfl)) h hG)
  · rcases r1 with o1 | v1
    · have E := se_l E
      refine qi_l ?_
      intro h hG
      refine ax_iconst (v := 1) M d_G_canNest_60 (by decide) ?_
      obtain rfl := Option.some.inj E
      exact ax_zret M hR rfl (by decide) (by decide) d_G_canNest_61 ⟨rfl, hG⟩
    · have E := se_r E
      refine qi_r ?_
      obtain rfl := Option.some.inj E
      exact fun h hG => ⟨rfl, hG⟩
def C_listActors (σ : ST) : Option (Int32 × ST) :=
  (lp (fun s1 : ST × Int32 × Int32 =>
  if 8 ≤ s1.2.2 then
  (some (.inr ((s1.1, s1.2.1, s1.2.2)))) else
  (if inb s1.2.2 8 then 
  (if (gi s1.1 1 (ix s1.2.2) 0) = 0 then
  (some (.inl ((s1.1, s1.2.1, s1.2.2 + 1)))) else
  (if inb s1.2.1 8 then 
  (some (.inl ((su s1.1 6 0 (ix s1.2.1) s1.2.2, s1.2.1 + 1, s1.2.2 + 1)))) else none)) else none)) 100 ((σ, 0, 0))).bind (fun r1 : ST × Int32 × Int32 =>
  some ((r1.2.1, r1.1)))
abbrev rm_C_listActors : Room := { frames := 0, cells := 0, slots := 0, locals := 0 }
set_option maxRecDepth 100000 in
set_option maxHeartbeats 4000000 in
theorem ac_C_listActors {l : Launch} {D : va_G} {cc : Nat → ClassId} {al : Nat → Nat → Nat} {σ : ST} {h0 h : AH}  {res : Int32 × ST}  (hG : SW dmC (cfC cc) al σ h0 h) (E : C_listActors σ = some res) : AC l D vwCl (tysOf cc) NN y_G_listActors (Cond.code y_G_listActors b_G_listActors 3 (some .int) :: TT) rm_C_listActors [.ref (al 0 0)] h (fun rv h' => rv = some (.int res.1) ∧ SW dmC (cfC cc) al res.2 h0 h') := by
  refine AC.of (by decide) rfl (Nat.le_of_ble_eq_true rfl) (fun X M hR hI => ?_)
  unfold C_listActors at E
  refine ax_lv (lv' := [(0, .ref (al 0 0))]) [0] rfl ?_
  refine ax_iconst (v := 0) M d_G_listActors_0 (by decide) ?_
  refine ax_istore_n (lv' := [(0, .ref (al 0 0)), (1, .int 0)]) M d_G_listActors_1 (by decide) [1, 0] rfl ?_
  refine ax_iconst (v := 0) M d_G_listActors_2 (by decide) ?_
  refine ax_istore_n (lv' := [(0, .ref (al 0 0)), (1, .int 0), (2, .int 0)]) M d_G_listActors_3 (by decide) [1, 2, 0] rfl ?_
  refine ax_lv (lv' := [(0, .ref (al 0 0)), (1, .int 0), (2, .int 0)]) [0, 1, 2] rfl ?_
  obtain ⟨r1, l1, E⟩ := ob_b E
  refine lp_walk (fun (s1 : ST × Int32 × Int32) => ∀ h : AH, SW dmC (cfC cc) al s1.1 h0 h → AW l D vwCl rm_C_listActors 3 X 0 0 h 4 [(0, .ref (al 0 0)), (1, .int s1.2.1), (2, .int s1.2.2)] []) (fun (r1 : ST × Int32 × Int32) => ∀ h : AH, SW dmC (cfC cc) al r1.1 h0 h → AW l D vwCl rm_C_listActors 3 X 0 0 h 38 [(0, .ref (al 0 0)), (1, .int r1.2.1), (2, .int r1.2.2)] []) ?_ _ _ _ l1 ?_ h hG
  · intro s1 y1 E K1 K2 h hG
    refine ax_iload_n M d_G_listActors_4 2 rfl ?_
    refine ax_bipush (v := 8) M d_G_listActors_5 (by decide) ?_
    refine ax_icmp_ge (tgt := 38) M d_G_listActors_7 (by decide) (fun c1 => ?_) (fun c1 => ?_)
    · have E := ob_t E c1
      obtain rfl := Option.some.inj E
      refine ax_lv (lv' := [(0, .ref (al 0 0)), (1, .int s1.2.1), (2, .int s1.2.2)]) [0, 1, 2] rfl ?_
      exact (K2 _ rfl) h hG
    · have E := ob_f E c1
      refine ax_aload_n M d_G_listActors_10 0 rfl ?_
      refine sw_get M hG 0 0 (by decide) in_G rfl rfl 0 (by decide) wd_152 rfl d_G_listActors_11 ?_
      refine ax_iload_n M d_G_listActors_14 2 rfl ?_
      obtain ⟨k1, E⟩ := ob_c E
      refine sw_aldq (g := fun e => e) M hG 4 0 (by decide) rfl 1 rfl rfl k1 d_G_listActors_15 ?_
      refine sw_getN M hG 1 (ix s1.2.2) (in_lt k1) in_A rfl rfl 0 (by decide) wd_75 rfl d_G_listActors_16 ?_
      refine ax_if_eq (tgt := 32) M d_G_listActors_19 (by decide) (fun c2 => ?_) (fun c2 => ?_)
      · have E := ob_t E c2
        refine ax_iinc (v := s1.2.2 + 1) (lv' := [(0, .ref (al 0 0)), (1, .int s1.2.1), (2, .int (s1.2.2 + 1))]) M d_G_listActors_32 2 rfl rfl (by decide) [1, 2, 0] rfl ?_
        refine ax_goto (tgt := 4) M d_G_listActors_35 (by decide) ?_
        obtain rfl := Option.some.inj E
        refine ax_lv (lv' := [(0, .ref (al 0 0)), (1, .int s1.2.1), (2, .int (s1.2.2 + 1))]) [0, 1, 2] rfl ?_
        exact K1 _ rfl h hG
      · have E := ob_f E c2
        refine ax_aload_n M d_G_listActors_22 0 rfl ?_
        refine sw_get M hG 0 0 (by decide) in_G rfl rfl 2 (by decide) wd_154 rfl d_G_listActors_23 ?_
        refine ax_iload_n M d_G_listActors_26 1 rfl ?_
        refine ax_iload_n M d_G_listActors_27 2 rfl ?_
        obtain ⟨k2, E⟩ := ob_c E
        refine sw_iast M hG 6 0 (by decide) rfl 0 rfl k2 rfl d_G_listActors_28 (fun h hG => ?_)
        refine ax_iinc (v := s1.2.1 + 1) (lv' := [(0, .ref (al 0 0)), (1, .int (s1.2.1 + 1)), (2, .int s1.2.2)]) M d_G_listActors_29 1 rfl rfl (by decide) [1, 0, 2] rfl ?_
        refine ax_iinc (v := s1.2.2 + 1) (lv' := [(0, .ref (al 0 0)), (1, .int (s1.2.1 + 1)), (2, .int (s1.2.2 + 1))]) M d_G_listActors_32 2 rfl rfl (by decide) [1, 2, 0] rfl ?_
        refine ax_goto (tgt := 4) M d_G_listActors_35 (by decide) ?_
        obtain rfl := Option.some.inj E
        refine ax_lv (lv' := [(0, .ref (al 0 0)), (1, .int (s1.2.1 + 1)), (2, .int (s1.2.2 + 1))]) [0, 1, 2] rfl ?_
        exact K1 _ rfl h hG
  · intro h hG
    refine ax_iload_n M d_G_listActors_38 1 rfl ?_
    obtain rfl := Option.some.inj E
    exact ax_iret M hR (by decide) (by decide) d_G_listActors_39 ⟨rfl, hG⟩
def C_divisorOfStretch (σ : ST) (x1 : Int32) (x2 : Int32) : Option (Int32) :=
  (lp (fun s1 : Int32 × Int32 =>
  if x2 < s1.2 then
  (some (.inr ((s1.1, s1.2)))) else
  (if inb s1.2 8 then 
  (if inb (gi σ 6 0 (ix s1.2)) 8 then 
  ((C_greatestDivisor s1.1 (gi σ 1 (ix (gi σ 6 0 (ix s1.2))) 5)).bind (fun b1 => 
  (some (.inl ((b1, s1.2 + 1)))))) else none) else none)) 100 ((0, x1))).bind (fun r1 : Int32 × Int32 =>
  some (if r1.1 < 1 then 1 else r1.1))
abbrev rm_C_divisorOfStretch : Room := { frames := 2, cells := 0, slots := 0, locals := 46 }
set_option maxRecDepth 100000 in
set_option maxHeartbeats 4000000 in
theorem ac_C_divisorOfStretch {l : Launch} {D : va_G} {cc : Nat → ClassId} {al : Nat → Nat → Nat} {σ : ST} {h0 h : AH} {x1 : Int32} {x2 : Int32} {res : Int32}  (hG : SW dmC (cfC cc) al σ h0 h) (E : C_divisorOfStretch σ x1 x2 = some res) : AC l D vwCl (tysOf cc) NN y_G_divisorOfStretch (Cond.code y_G_divisorOfStretch b_G_divisorOfStretch 5 (some .int) :: TT) rm_C_divisorOfStretch [.ref (al 0 0), .int x1, .int x2] h (fun rv h' => rv = some (.int res) ∧ SW dmC (cfC cc) al σ h0 h') := by
  refine AC.of (by decide) rfl (Nat.le_of_ble_eq_true rfl) (fun X M hR hI => ?_)
  unfold C_divisorOfStretch at E
  refine ax_lv (lv' := [(0, .ref (al 0 0)), (1, .int x1), (2, .int x2)]) [0, 1, 2] rfl ?_
  refine ax_iconst (v := 0) M d_G_divisorOfStretch_0 (by decide) ?_
  refine ax_istore_n (lv' := [(0, .ref (al 0 0)), (1, .int x1), (2, .int x2), (3, .int 0)]) M d_G_divisorOfStretch_1 (by decide) [1, 2, 3, 0] rfl ?_
  refine ax_iload_n M d_G_divisorOfStretch_2 1 rfl ?_
  refine ax_istore (lv' := [(0, .ref (al 0 0)), (2, .int x2), (3, .int 0), (4, .int x1)]) M d_G_divisorOfStretch_3 (by decide) [1, 3, 4, 0] rfl ?_
  refine ax_lv (lv' := [(0, .ref (al 0 0)), (2, .int x2), (3, .int 0), (4, .int x1)]) [0, 1, 2, 3] rfl ?_
  obtain ⟨r1, l1, E⟩ := ob_b E
  refine lp_walk (fun (s1 : Int32 × Int32) => ∀ h : AH, SW dmC (cfC cc) al σ h0 h → AW l D vwCl rm_C_divisorOfStretch 5 X 0 0 h 5 [(0, .ref (al 0 0)), (2, .int x2), (3, .int s1.1), (4, .int s1.2)] []) (fun (r1 : Int32 × Int32) => ∀ h : AH, SW dmC (cfC cc) al σ h0 h → AW l D vwCl rm_C_divisorOfStretch 5 X 0 0 h 37 [(0, .ref (al 0 0)), (2, .int x2), (3, .int r1.1), (4, .int r1.2)] []) ?_ _ _ _ l1 ?_ h hG
  · intro s1 y1 E K1 K2 h hG
    refine ax_iload M d_G_divisorOfStretch_5 3 rfl ?_
    refine ax_iload_n M d_G_divisorOfStretch_7 1 rfl ?_
    refine ax_icmp_gt (tgt := 37) M d_G_divisorOfStretch_8 (by decide) (fun c1 => ?_) (fun c1 => ?_)
    · have E := ob_t E c1
      obtain rfl := Option.some.inj E
      refine ax_lv (lv' := [(0, .ref (al 0 0)), (2, .int x2), (3, .int s1.1), (4, .int s1.2)]) [0, 1, 2, 3] rfl ?_
      exact (K2 _ rfl) h hG
    · have E := ob_f E c1
      refine ax_iload_n M d_G_divisorOfStretch_11 2 rfl ?_
      refine ax_aload_n M d_G_divisorOfStretch_12 0 rfl ?_
      refine sw_get M hG 0 0 (by decide) in_G rfl rfl 0 (by decide) wd_152 rfl d_G_divisorOfStretch_13 ?_
      refine ax_aload_n M d_G_divisorOfStretch_16 0 rfl ?_
      refine sw_get M hG 0 0 (by decide) in_G rfl rfl 2 (by decide) wd_154 rfl d_G_divisorOfStretch_17 ?_
      refine ax_iload M d_G_divisorOfStretch_20 3 rfl ?_
      obtain ⟨k1, E⟩ := ob_c E
      refine sw_iald M hG 6 0 (by decide) rfl 0 rfl k1 d_G_divisorOfStretch_22 ?_
      obtain ⟨k2, E⟩ := ob_c E
      refine sw_aldq (g := fun e => e) M hG 4 0 (by decide) rfl 1 rfl rfl k2 d_G_divisorOfStretch_23 ?_
      refine sw_getN M hG 1 (ix (gi σ 6 0 (ix s1.2))) (in_lt k2) in_A rfl rfl 5 (by decide) wd_84 rfl d_G_divisorOfStretch_24 ?_
      obtain ⟨b1, e1, E⟩ := ob_b E
      refine ax_callS (n := 2) M TT_good (ac_C_greatestDivisor hG e1) lm_G_164 (by decide) (by decide) rfl rfl (Nat.le_of_ble_eq_true rfl) d_G_divisorOfStretch_27 (by decide) (c1 := 0) (s1 := 0) (by decide) (ax_ret_i (fun h hG => ?_))
      refine ax_istore_n (lv' := [(0, .ref (al 0 0)), (2, .int x2), (3, .int b1), (4, .int s1.2)]) M d_G_divisorOfStretch_30 (by decide) [1, 2, 0, 3] rfl ?_
      refine ax_iinc (v := s1.2 + 1) (lv' := [(0, .ref (al 0 0)), (2, .int x2), (3, .int b1), (4, .int (s1.2 + 1))]) M d_G_divisorOfStretch_31 3 rfl rfl (by decide) [1, 2, 3, 0] rfl ?_
      refine ax_goto (tgt := 5) M d_G_divisorOfStretch_34 (by decide) ?_
      obtain rfl := Option.some.inj E
      refine ax_lv (lv' := [(0, .ref (al 0 0)), (2, .int x2), (3, .int b1), (4, .int (s1.2 + 1))]) [0, 1, 2, 3] rfl ?_
      exact K1 _ rfl h hG
  · intro h hG
    refine ax_iload_n M d_G_divisorOfStretch_37 2 rfl ?_
    refine ax_iconst (v := 1) M d_G_divisorOfStretch_38 (by decide) ?_
    refine ax_mmax M lm_G_141 (by decide) (Nat.le_of_ble_eq_true rfl) (by decide) (by decide) d_G_divisorOfStretch_39 ?_
    obtain rfl := Option.some.inj E
    exact ax_iret M hR (by decide) (by decide) d_G_divisorOfStretch_42 ⟨rfl, hG⟩
def C_tokensAcross (σ : ST) (x1 : Int32) (x2 : Int32) (x3 : Int32) : Option (Int32) :=
  (lp (fun s1 : Int32 × Int32 =>
  if (gi σ 0 0 5) ≤ s1.2 then
  (some (.inr ((s1.1, s1.2)))) else
  (if inb s1.2 12 then 
  (if ix (gi σ 5 0 (ix s1.2)) < 12 then 
  ((C_isWithin (gi σ 2 (ix (gi σ 5 0 (ix s1.2))) 1) x1 x2).bind (fun b1 => 
  (if b1 = 0 then
  (some (.inl ((s1.1, s1.2 + 1)))) else
  ((C_isWithin (gi σ 2 (ix (gi σ 5 0 (ix s1.2))) 2) (x2 + 1) x3).bind (fun b2 => 
  (if b2 = 0 then
  (some (.inl ((s1.1, s1.2 + 1)))) else
  (if inb (gi σ 2 (ix (gi σ 5 0 (ix s1.2))) 1) 8 then 
  (some (.inl ((s1.1 + ((gi σ 2 (ix (gi σ 5 0 (ix s1.2))) 3) * (gi σ 1 (ix (gi σ 2 (ix (gi σ 5 0 (ix s1.2))) 1)) 5)), s1.2 + 1)))) else none))))))) else none) else none)) 100 ((0, 0))).bind (fun r1 : Int32 × Int32 =>
  some r1.1)
abbrev rm_C_tokensAcross : Room := { frames := 1, cells := 0, slots := 0, locals := 22 }
set_option maxRecDepth 100000 in
set_option maxHeartbeats 4000000 in
theorem ac_C_tokensAcross {l : Launch} {D : va_G} {cc : Nat → ClassId} {al : Nat → Nat → Nat} {σ : ST} {h0 h : AH} {x1 : Int32} {x2 : Int32} {x3 : Int32} {res : Int32}  (hG : SW dmC (cfC cc) al σ h0 h) (E : C_tokensAcross σ x1 x2 x3 = some res) : AC l D vwCl (tysOf cc) NN y_G_tokensAcross (Cond.code y_G_tokensAcross b_G_tokensAcross 7 (some .int) :: TT) rm_C_tokensAcross [.ref (al 0 0), .int x1, .int x2, .int x3] h (fun rv h' => rv = some (.int res) ∧ SW dmC (cfC cc) al σ h0 h') := by
  refine AC.of (by decide) rfl (Nat.le_of_ble_eq_true rfl) (fun X M hR hI => ?_)
  unfold C_tokensAcross at E
  refine ax_lv (lv' := [(0, .ref (al 0 0)), (1, .int x1), (2, .int x2), (3, .int x3)]) [0, 1, 2, 3] rfl ?_
  refine ax_iconst (v := 0) M d_G_tokensAcross_0 (by decide) ?_
  refine ax_istore (lv' := [(0, .ref (al 0 0)), (1, .int x1), (2, .int x2), (3, .int x3), (4, .int 0)]) M d_G_tokensAcross_1 (by decide) [1, 2, 3, 4, 0] rfl ?_
  refine ax_iconst (v := 0) M d_G_tokensAcross_3 (by decide) ?_
  refine ax_istore (lv' := [(0, .ref (al 0 0)), (1, .int x1), (2, .int x2), (3, .int x3), (4, .int 0), (5, .int 0)]) M d_G_tokensAcross_4 (by decide) [1, 2, 3, 4, 5, 0] rfl ?_
  refine ax_lv (lv' := [(0, .ref (al 0 0)), (1, .int x1), (2, .int x2), (3, .int x3), (4, .int 0), (5, .int 0)]) [0, 1, 2, 3, 4, 5] rfl ?_
  obtain ⟨r1, l1, E⟩ := ob_b E
  refine lp_walk (fun (s1 : Int32 × Int32) => ∀ h : AH, SW dmC (cfC cc) al σ h0 h → AW l D vwCl rm_C_tokensAcross 7 X 0 0 h 6 [(0, .ref (al 0 0)), (1, .int x1), (2, .int x2), (3, .int x3), (4, .int s1.1), (5, .int s1.2)] []) (fun (r1 : Int32 × Int32) => ∀ h : AH, SW dmC (cfC cc) al σ h0 h → AW l D vwCl rm_C_tokensAcross 7 X 0 0 h 82 [(0, .ref (al 0 0)), (1, .int x1), (2, .int x2), (3, .int x3), (4, .int r1.1), (5, .int r1.2)] []) ?_ _ _ _ l1 ?_ h hG
  · intro s1 y1 E K1 K2 h hG
    refine ax_iload M d_G_tokensAcross_6 5 rfl ?_
    refine ax_aload_n M d_G_tokensAcross_8 0 rfl ?_
    refine sw_get M hG 0 0 (by decide) in_G rfl rfl 5 (by decide) wd_157 rfl d_G_tokensAcross_9 ?_
    refine ax_icmp_ge (tgt := 82) M d_G_tokensAcross_12 (by decide) (fun c1 => ?_) (fun c1 => ?_)
    · have E := ob_t E c1
      obtain rfl := Option.some.inj E
      refine ax_lv (lv' := [(0, .ref (al 0 0)), (1, .int x1), (2, .int x2), (3, .int x3), (4, .int s1.1), (5, .int s1.2)]) [0, 1, 2, 3, 4, 5] rfl ?_
      exact (K2 _ rfl) h hG
    · have E := ob_f E c1
      refine ax_aload_n M d_G_tokensAcross_15 0 rfl ?_
      refine sw_get M hG 0 0 (by decide) in_G rfl rfl 1 (by decide) wd_153 rfl d_G_tokensAcross_16 ?_
      refine ax_iload M d_G_tokensAcross_19 5 rfl ?_
      obtain ⟨k1, E⟩ := ob_c E
      refine sw_aldq (g := fun e => ix (gi σ 5 0 e)) M hG 5 0 (by decide) rfl 2 rfl rfl k1 d_G_tokensAcross_21 ?_
      obtain ⟨k2, E⟩ := ob_c E
      refine ax_astore (lv' := [(0, .ref (al 0 0)), (1, .int x1), (2, .int x2), (3, .int x3), (4, .int s1.1), (5, .int s1.2), (6, .ref (al 2 (ix (gi σ 5 0 (ix s1.2)))))]) M d_G_tokensAcross_22 (by decide) [1, 2, 3, 4, 5, 6, 0] rfl ?_
      refine ax_aload M d_G_tokensAcross_24 6 rfl ?_
      refine sw_getN M hG 2 (ix (gi σ 5 0 (ix s1.2))) k2 in_E rfl rfl 1 (by decide) wd_120 rfl d_G_tokensAcross_26 ?_
      refine ax_iload_n M d_G_tokensAcross_29 1 rfl ?_
      refine ax_iload_n M d_G_tokensAcross_30 2 rfl ?_
      obtain ⟨b1, e1, E⟩ := ob_b E
      refine ax_callS (n := 3) M TT_good (ac_C_isWithin hG e1) lm_G_35 (by decide) (by decide) rfl rfl (Nat.le_of_ble_eq_true rfl) d_G_tokensAcross_31 (by decide) (c1 := 0) (s1 := 0) (by decide) (ax_ret_i (fun h hG => ?_))
      refine ax_if_eq (tgt := 76) M d_G_tokensAcross_34 (by decide) (fun c2 => ?_) (fun c2 => ?_)
      · have E := ob_t E c2
        refine ax_iinc (v := s1.2 + 1) (lv' := [(0, .ref (al 0 0)), (1, .int x1), (2, .int x2), (3, .int x3), (4, .int s1.1), (5, .int (s1.2 + 1)), (6, .ref (al 2 (ix (gi σ 5 0 (ix s1.2)))))]) M d_G_tokensAcross_76 5 rfl rfl (by decide) [1, 2, 3, 4, 5, 0, 6] rfl ?_
        refine ax_goto (tgt := 6) M d_G_tokensAcross_79 (by decide) ?_
        obtain rfl := Option.some.inj E
        refine ax_lv (lv' := [(0, .ref (al 0 0)), (1, .int x1), (2, .int x2), (3, .int x3), (4, .int s1.1), (5, .int (s1.2 + 1))]) [0, 1, 2, 3, 4, 5] rfl ?_
        exact K1 _ rfl h hG
      · have E := ob_f E c2
        refine ax_aload M d_G_tokensAcross_37 6 rfl ?_
        refine sw_getN M hG 2 (ix (gi σ 5 0 (ix s1.2))) k2 in_E rfl rfl 2 (by decide) wd_122 rfl d_G_tokensAcross_39 ?_
        refine ax_iload_n M d_G_tokensAcross_42 2 rfl ?_
        refine ax_iconst (v := 1) M d_G_tokensAcross_43 (by decide) ?_
        refine ax_iadd M d_G_tokensAcross_44 ?_
        refine ax_iload_n M d_G_tokensAcross_45 3 rfl ?_
        obtain ⟨b2, e2, E⟩ := ob_b E
        refine ax_callS (n := 3) M TT_good (ac_C_isWithin hG e2) lm_G_35 (by decide) (by decide) rfl rfl (Nat.le_of_ble_eq_true rfl) d_G_tokensAcross_46 (by decide) (c1 := 0) (s1 := 0) (by decide) (ax_ret_i (fun h hG => ?_))
        refine ax_if_eq (tgt := 76) M d_G_tokensAcross_49 (by decide) (fun c3 => ?_) (fun c3 => ?_)
        · have E := ob_t E c3
          refine ax_iinc (v := s1.2 + 1) (lv' := [(0, .ref (al 0 0)), (1, .int x1), (2, .int x2), (3, .int x3), (4, .int s1.1), (5, .int (s1.2 + 1)), (6, .ref (al 2 (ix (gi σ 5 0 (ix s1.2)))))]) M d_G_tokensAcross_76 5 rfl rfl (by decide) [1, 2, 3, 4, 5, 0, 6] rfl ?_
          refine ax_goto (tgt := 6) M d_G_tokensAcross_79 (by decide) ?_
          obtain rfl := Option.some.inj E
          refine ax_lv (lv' := [(0, .ref (al 0 0)), (1, .int x1), (2, .int x2), (3, .int x3), (4, .int s1.1), (5, .int (s1.2 + 1))]) [0, 1, 2, 3, 4, 5] rfl ?_
          exact K1 _ rfl h hG
        · have E := ob_f E c3
          refine ax_iload M d_G_tokensAcross_52 4 rfl ?_
          refine ax_aload M d_G_tokensAcross_54 6 rfl ?_
          refine sw_getN M hG 2 (ix (gi σ 5 0 (ix s1.2))) k2 in_E rfl rfl 3 (by decide) wd_123 rfl d_G_tokensAcross_56 ?_
          refine ax_aload_n M d_G_tokensAcross_59 0 rfl ?_
          refine sw_get M hG 0 0 (by decide) in_G rfl rfl 0 (by decide) wd_152 rfl d_G_tokensAcross_60 ?_
          refine ax_aload M d_G_tokensAcross_63 6 rfl ?_
          refine sw_getN M hG 2 (ix (gi σ 5 0 (ix s1.2))) k2 in_E rfl rfl 1 (by decide) wd_120 rfl d_G_tokensAcross_65 ?_
          obtain ⟨k3, E⟩ := ob_c E
          refine sw_aldq (g := fun e => e) M hG 4 0 (by decide) rfl 1 rfl rfl k3 d_G_tokensAcross_68 ?_
          refine sw_getN M hG 1 (ix (gi σ 2 (ix (gi σ 5 0 (ix s1.2))) 1)) (in_lt k3) in_A rfl rfl 5 (by decide) wd_84 rfl d_G_tokensAcross_69 ?_
          refine ax_imul M d_G_tokensAcross_72 ?_
          refine ax_iadd M d_G_tokensAcross_73 ?_
          refine ax_istore (lv' := [(0, .ref (al 0 0)), (1, .int x1), (2, .int x2), (3, .int x3), (4, .int (s1.1 + ((gi σ 2 (ix (gi σ 5 0 (ix s1.2))) 3) * (gi σ 1 (ix (gi σ 2 (ix (gi σ 5 0 (ix s1.2))) 1)) 5)))), (5, .int s1.2)]) M d_G_tokensAcross_74 (by decide) [1, 2, 3, 4, 0, 5] rfl ?_
          refine ax_iinc (v := s1.2 + 1) (lv' := [(0, .ref (al 0 0)), (1, .int x1), (2, .int x2), (3, .int x3), (4, .int (s1.1 + ((gi σ 2 (ix (gi σ 5 0 (ix s1.2))) 3) * (gi σ 1 (ix (gi σ 2 (ix (gi σ 5 0 (ix s1.2))) 1)) 5)))), (5, .int (s1.2 + 1))]) M d_G_tokensAcross_76 5 rfl rfl (by decide) [1, 2, 3, 4, 5, 0] rfl ?_
          refine ax_goto (tgt := 6) M d_G_tokensAcross_79 (by decide) ?_
          obtain rfl := Option.some.inj E
          refine ax_lv (lv' := [(0, .ref (al 0 0)), (1, .int x1), (2, .int x2), (3, .int x3), (4, .int (s1.1 + ((gi σ 2 (ix (gi σ 5 0 (ix s1.2))) 3) * (gi σ 1 (ix (gi σ 2 (ix (gi σ 5 0 (ix s1.2))) 1)) 5)))), (5, .int (s1.2 + 1))]) [0, 1, 2, 3, 4, 5] rfl ?_
          exact K1 _ rfl h hG
  · intro h hG
    refine ax_iload M d_G_tokensAcross_82 4 rfl ?_
    obtain rfl := Option.some.inj E
    exact ax_iret M hR (by decide) (by decide) d_G_tokensAcross_84 ⟨rfl, hG⟩
end
section
def C_costOfStretch (σ : ST) (x1 : Int32) (x2 : Int32) : Option (Int32) :=
  (C_divisorOfStretch σ x1 x2).bind (fun b1 => 
  ((lp (fun s1 : Int32 × Int32 =>
  if x2 ≤ s1.2 then
  (some (.inr ((s1.1, s1.2)))) else
  (if inb x1 8 then 
  (if inb s1.2 8 then 
  (if inb x2 8 then 
  ((C_tokensAcross σ (gi σ 6 0 (ix x1)) (gi σ 6 0 (ix s1.2)) (gi σ 6 0 (ix x2))).bind (fun b2 => 
  (if ¬ b1 = 0 then 
  (if inb (s1.2 + 1) 8 then 
  (some (.inl ((if (((gi σ 9 (ix x1) (ix s1.2)) + (gi σ 9 (ix (s1.2 + 1)) (ix x2))) + (b2 / b1)) < s1.1 then ((gi σ 9 (ix x1) (ix s1.2)) + (gi σ 9 (ix (s1.2 + 1)) (ix x2))) + (b2 / b1) else s1.1, s1.2 + 1)))) else none) else none))) else none) else none) else none)) 100 ((2147483647, x1))).bind (fun r1 : Int32 × Int32 =>
  some r1.1)))
abbrev rm_C_costOfStretch : Room := { frames := 3, cells := 0, slots := 0, locals := 70 }
set_option maxRecDepth 100000 in
set_option maxHeartbeats 4000000 in
theorem ac_C_costOfStretch {l : Launch} {D : va_G} {cc : Nat → ClassId} {al : Nat → Nat → Nat} {σ : ST} {h0 h : AH} {x1 : Int32} {x2 : Int32} {res : Int32}  (hG : SW dmC (cfC cc) al σ h0 h) (E : C_costOfStretch σ x1 x2 = some res) : AC l D vwCl (tysOf cc) NN y_G_costOfStretch (Cond.code y_G_costOfStretch b_G_costOfStretch 7 (some .int) :: TT) rm_C_costOfStretch [.ref (al 0 0), .int x1, .int x2] h (fun rv h' => rv = some (.int res) ∧ SW dmC (cfC cc) al σ h0 h') := by
  refine AC.of (by decide) rfl (Nat.le_of_ble_eq_true rfl) (fun X M hR hI => ?_)
  unfold C_costOfStretch at E
  refine ax_lv (lv' := [(0, .ref (al 0 0)), (1, .int x1), (2, .int x2)]) [0, 1, 2] rfl ?_
  refine ax_aload_n M d_G_costOfStretch_0 0 rfl ?_
  refine ax_iload_n M d_G_costOfStretch_1 1 rfl ?_
  refine ax_iload_n M d_G_costOfStretch_2 2 rfl ?_
  obtain ⟨b1, e1, E⟩ := ob_b E
  refine ax_callV (n := 2) (C := R_G) (q := (R_G, F_G, 9)) M TT_good rfl rfl (SW.at hG 0 0 (by decide)) (ac_C_divisorOfStretch hG e1) lm_G_224 (by decide) (by decide) rfl rfl (Nat.le_of_ble_eq_true rfl) d_G_costOfStretch_3 (by decide) (c1 := 0) (s1 := 0) (by decide) (ax_ret_i (fun h hG => ?_))
  refine ax_istore_n (lv' := [(0, .ref (al 0 0)), (1, .int x1), (2, .int x2), (3, .int b1)]) M d_G_costOfStretch_6 (by decide) [1, 2, 3, 0] rfl ?_
  refine ax_ldc (v := 2147483647) M wd_357 d_G_costOfStretch_7 ?_
  refine ax_istore (lv' := [(0, .ref (al 0 0)), (1, .int x1), (2, .int x2), (3, .int b1), (4, .int 2147483647)]) M d_G_costOfStretch_9 (by decide) [1, 2, 3, 4, 0] rfl ?_
  refine ax_iload_n M d_G_costOfStretch_11 1 rfl ?_
  refine ax_istore (lv' := [(0, .ref (al 0 0)), (1, .int x1), (2, .int x2), (3, .int b1), (4, .int 2147483647), (5, .int x1)]) M d_G_costOfStretch_12 (by decide) [1, 2, 3, 4, 5, 0] rfl ?_
  refine ax_lv (lv' := [(0, .ref (al 0 0)), (1, .int x1), (2, .int x2), (3, .int b1), (4, .int 2147483647), (5, .int x1)]) [0, 1, 2, 3, 4, 5] rfl ?_
  obtain ⟨r1, l1, E⟩ := ob_b E
  refine lp_walk (fun (s1 : Int32 × Int32) => ∀ h : AH, SW dmC (cfC cc) al σ h0 h → AW l D vwCl rm_C_costOfStretch 7 X 0 0 h 14 [(0, .ref (al 0 0)), (1, .int x1), (2, .int x2), (3, .int b1), (4, .int s1.1), (5, .int s1.2)] []) (fun (r1 : Int32 × Int32) => ∀ h : AH, SW dmC (cfC cc) al σ h0 h → AW l D vwCl rm_C_costOfStretch 7 X 0 0 h 84 [(0, .ref (al 0 0)), (1, .int x1), (2, .int x2), (3, .int b1), (4, .int r1.1), (5, .int r1.2)] []) ?_ _ _ _ l1 ?_ h hG
  · intro s1 y1 E K1 K2 h hG
    refine ax_iload M d_G_costOfStretch_14 5 rfl ?_
    refine ax_iload_n M d_G_costOfStretch_16 2 rfl ?_
    refine ax_icmp_ge (tgt := 84) M d_G_costOfStretch_17 (by decide) (fun c1 => ?_) (fun c1 => ?_)
    · have E := ob_t E c1
      obtain rfl := Option.some.inj E
      refine ax_lv (lv' := [(0, .ref (al 0 0)), (1, .int x1), (2, .int x2), (3, .int b1), (4, .int s1.1), (5, .int s1.2)]) [0, 1, 2, 3, 4, 5] rfl ?_
      exact (K2 _ rfl) h hG
    · have E := ob_f E c1
      refine ax_aload_n M d_G_costOfStretch_20 0 rfl ?_
      refine ax_aload_n M d_G_costOfStretch_21 0 rfl ?_
      refine sw_get M hG 0 0 (by decide) in_G rfl rfl 2 (by decide) wd_154 rfl d_G_costOfStretch_22 ?_
      refine ax_iload_n M d_G_costOfStretch_25 1 rfl ?_
      obtain ⟨k1, E⟩ := ob_c E
      refine sw_iald M hG 6 0 (by decide) rfl 0 rfl k1 d_G_costOfStretch_26 ?_
      refine ax_aload_n M d_G_costOfStretch_27 0 rfl ?_
      refine sw_get M hG 0 0 (by decide) in_G rfl rfl 2 (by decide) wd_154 rfl d_G_costOfStretch_28 ?_
      refine ax_iload M d_G_costOfStretch_31 5 rfl ?_
      obtain ⟨k2, E⟩ := ob_c E
      refine sw_iald M hG 6 0 (by decide) rfl 0 rfl k2 d_G_costOfStretch_33 ?_
      refine ax_aload_n M d_G_costOfStretch_34 0 rfl ?_
      refine sw_get M hG 0 0 (by decide) in_G rfl rfl 2 (by decide) wd_154 rfl d_G_costOfStretch_35 ?_
      refine ax_iload_n M d_G_costOfStretch_38 2 rfl ?_
      obtain ⟨k3, E⟩ := ob_c E
      refine sw_iald M hG 6 0 (by decide) rfl 0 rfl k3 d_G_costOfStretch_39 ?_
      obtain ⟨b2, e2, E⟩ := ob_b E
      refine ax_callV (n := 3) (C := R_G) (q := (R_G, F_G, 9)) M TT_good rfl rfl (SW.at hG 0 0 (by decide)) (ac_C_tokensAcross hG e2) lm_G_230 (by decide) (by decide) rfl rfl (Nat.le_of_ble_eq_true rfl) d_G_costOfStretch_40 (by decide) (c1 := 0) (s1 := 0) (by decide) (ax_ret_i (fun h hG => ?_))
      refine ax_iload_n M d_G_costOfStretch_43 3 rfl ?_
      obtain ⟨k4, E⟩ := ob_c E
      refine ax_idiv M d_G_costOfStretch_44 k4 ?_
      refine ax_istore (lv' := [(0, .ref (al 0 0)), (1, .int x1), (2, .int x2), (3, .int b1), (4, .int s1.1), (5, .int s1.2), (6, .int (b2 / b1))]) M d_G_costOfStretch_45 (by decide) [1, 2, 3, 4, 5, 6, 0] rfl ?_
      refine ax_iload M d_G_costOfStretch_47 4 rfl ?_
      refine ax_aload_n M d_G_costOfStretch_49 0 rfl ?_
      refine sw_get M hG 0 0 (by decide) in_G rfl rfl 3 (by decide) wd_155 rfl d_G_costOfStretch_50 ?_
      refine ax_iload_n M d_G_costOfStretch_53 1 rfl ?_
      refine sw_aldq (g := fun e => e) M hG 7 0 (by decide) rfl 3 rfl rfl k1 d_G_costOfStretch_54 ?_
      refine ax_iload M d_G_costOfStretch_55 5 rfl ?_
      refine sw_iald M hG 9 (ix x1) (in_lt k1) rfl 0 rfl k2 d_G_costOfStretch_57 ?_
      refine ax_aload_n M d_G_costOfStretch_58 0 rfl ?_
      refine sw_get M hG 0 0 (by decide) in_G rfl rfl 3 (by decide) wd_155 rfl d_G_costOfStretch_59 ?_
      refine ax_iload M d_G_costOfStretch_62 5 rfl ?_
      refine ax_iconst (v := 1) M d_G_costOfStretch_64 (by decide) ?_
      refine ax_iadd M d_G_costOfStretch_65 ?_
      obtain ⟨k5, E⟩ := ob_c E
      refine sw_aldq (g := fun e => e) M hG 7 0 (by decide) rfl 3 rfl rfl k5 d_G_costOfStretch_66 ?_
      refine ax_iload_n M d_G_costOfStretch_67 2 rfl ?_
      refine sw_iald M hG 9 (ix (s1.2 + 1)) (in_lt k5) rfl 0 rfl k3 d_G_costOfStretch_68 ?_
      refine ax_iadd M d_G_costOfStretch_69 ?_
      refine ax_iload M d_G_costOfStretch_70 6 rfl ?_
      refine ax_iadd M d_G_costOfStretch_72 ?_
      refine ax_mmin M lm_G_234 (by decide) (Nat.le_of_ble_eq_true rfl) (by decide) (by decide) d_G_costOfStretch_73 ?_
      refine ax_istore (lv' := [(0, .ref (al 0 0)), (1, .int x1), (2, .int x2), (3, .int b1), (4, .int (if (((gi σ 9 (ix x1) (ix s1.2)) + (gi σ 9 (ix (s1.2 + 1)) (ix x2))) + (b2 / b1)) < s1.1 then ((gi σ 9 (ix x1) (ix s1.2)) + (gi σ 9 (ix (s1.2 + 1)) (ix x2))) + (b2 / b1) else s1.1)), (5, .int s1.2)]) M d_G_costOfStretch_76 (by decide) [1, 2, 3, 4, 0, 5] rfl ?_
      refine ax_iinc (v := s1.2 + 1) (lv' := [(0, .ref (al 0 0)), (1, .int x1), (2, .int x2), (3, .int b1), (4, .int (if (((gi σ 9 (ix x1) (ix s1.2)) + (gi σ 9 (ix (s1.2 + 1)) (ix x2))) + (b2 / b1)) < s1.1 then ((gi σ 9 (ix x1) (ix s1.2)) + (gi σ 9 (ix (s1.2 + 1)) (ix x2))) + (b2 / b1) else s1.1)), (5, .int (s1.2 + 1))]) M d_G_costOfStretch_78 5 rfl rfl (by decide) [1, 2, 3, 4, 5, 0] rfl ?_
      refine ax_goto (tgt := 14) M d_G_costOfStretch_81 (by decide) ?_
      obtain rfl := Option.some.inj E
      refine ax_lv (lv' := [(0, .ref (al 0 0)), (1, .int x1), (2, .int x2), (3, .int b1), (4, .int (if (((gi σ 9 (ix x1) (ix s1.2)) + (gi σ 9 (ix (s1.2 + 1)) (ix x2))) + (b2 / b1)) < s1.1 then ((gi σ 9 (ix x1) (ix s1.2)) + (gi σ 9 (ix (s1.2 + 1)) (ix x2))) + (b2 / b1) else s1.1)), (5, .int (s1.2 + 1))]) [0, 1, 2, 3, 4, 5] rfl ?_
      exact K1 _ rfl h hG
  · intro h hG
    refine ax_iload M d_G_costOfStretch_84 4 rfl ?_
    obtain rfl := Option.some.inj E
    exact ax_iret M hR (by decide) (by decide) d_G_costOfStretch_86 ⟨rfl, hG⟩
def C_nestedRoom (σ : ST) : Option (Int32 × ST) :=
  (C_listActors σ).bind (fun b1 => 
  ((lp (fun s1 : ST × Int32 =>
  if b1.1 ≤ s1.2 then
  (some (.inr ((s1.1, s1.2)))) else
  (if inb s1.2 8 then 
  (some (.inl ((su s1.1 9 (ix s1.2) (ix s1.2) 0, s1.2 + 1)))) else none)) 100 ((b1.2, 0))).bind (fun r1 : ST × Int32 =>
  (lp (fun s2 : ST × Int32 =>
  if b1.1 < s2.2 then
  (some (.inr ((s2.1, s2.2)))) else
  ((lp (fun s3 : ST × Int32 =>
  if b1.1 < (s3.2 + s2.2) then
  (some (.inr ((s3.1, s3.2)))) else
  (if inb s3.2 8 then 
  ((C_costOfStretch s3.1 s3.2 ((s3.2 + s2.2) - 1)).bind (fun b2 => 
  (if inb ((s3.2 + s2.2) - 1) 8 then 
  (some (.inl ((su s3.1 9 (ix s3.2) (ix ((s3.2 + s2.2) - 1)) b2, s3.2 + 1)))) else none))) else none)) 100 ((s2.1, 0))).bind (fun r3 : ST × Int32 =>
  some (.inl ((r3.1, s2.2 + 1)))))) 100 ((r1.1, 2))).bind (fun r2 : ST × Int32 =>
  if b1.1 = 0 then
  (some ((0, r2.1))) else
  (if inb 0 8 then 
  (if inb (b1.1 - 1) 8 then 
  (some ((gi r2.1 9 (ix 0) (ix (b1.1 - 1)), r2.1))) else none) else none)))))
abbrev rm_C_nestedRoom : Room := { frames := 4, cells := 0, slots := 0, locals := 96 }
set_option maxRecDepth 100000 in
set_option maxHeartbeats 4000000 in
theorem ac_C_nestedRoom {l : Launch} {D : va_G} {cc : Nat → ClassId} {al : Nat → Nat → Nat} {σ : ST} {h0 h : AH}  {res : Int32 × ST}  (hG : SW dmC (cfC cc) al σ h0 h) (E : C_nestedRoom σ = some res) : AC l D vwCl (tysOf cc) NN y_G_nestedRoom (Cond.code y_G_nestedRoom b_G_nestedRoom 4 (some .int) :: TT) rm_C_nestedRoom [.ref (al 0 0)] h (fun rv h' => rv = some (.int res.1) ∧ SW dmC (cfC cc) al res.2 h0 h') := by
  refine AC.of (by decide) rfl (Nat.le_of_ble_eq_true rfl) (fun X M hR hI => ?_)
  unfold C_nestedRoom at E
  refine ax_lv (lv' := [(0, .ref (al 0 0))]) [0] rfl ?_
  refine ax_aload_n M d_G_nestedRoom_0 0 rfl ?_
  obtain ⟨b1, e1, E⟩ := ob_b E
  refine ax_callV (n := 0) (C := R_G) (q := (R_G, F_G, 9)) M TT_good rfl rfl (SW.at hG 0 0 (by decide)) (ac_C_listActors hG e1) lm_G_218 (by decide) (by decide) rfl rfl (Nat.le_of_ble_eq_true rfl) d_G_nestedRoom_1 (by decide) (c1 := 0) (s1 := 0) (by decide) (ax_ret_i (fun h hG => ?_))
  refine ax_istore_n (lv' := [(0, .ref (al 0 0)), (1, .int b1.1)]) M d_G_nestedRoom_4 (by decide) [1, 0] rfl ?_
  refine ax_iconst (v := 0) M d_G_nestedRoom_5 (by decide) ?_
  refine ax_istore_n (lv' := [(0, .ref (al 0 0)), (1, .int b1.1), (2, .int 0)]) M d_G_nestedRoom_6 (by decide) [1, 2, 0] rfl ?_
  refine ax_lv (lv' := [(0, .ref (al 0 0)), (1, .int b1.1), (2, .int 0)]) [0, 1, 2] rfl ?_
  obtain ⟨r1, l1, E⟩ := ob_b E
  refine lp_walk (fun (s1 : ST × Int32) => ∀ h : AH, SW dmC (cfC cc) al s1.1 h0 h → AW l D vwCl rm_C_nestedRoom 4 X 0 0 h 7 [(0, .ref (al 0 0)), (1, .int b1.1), (2, .int s1.2)] []) (fun (r1 : ST × Int32) => ∀ h : AH, SW dmC (cfC cc) al r1.1 h0 h → AW l D vwCl rm_C_nestedRoom 4 X 0 0 h 27 [(0, .ref (al 0 0)), (1, .int b1.1), (2, .int r1.2)] []) ?_ _ _ _ l1 ?_ h hG
  · intro s1 y1 E K1 K2 h hG
    refine ax_iload_n M d_G_nestedRoom_7 2 rfl ?_
    refine ax_iload_n M d_G_nestedRoom_8 1 rfl ?_
    refine ax_icmp_ge (tgt := 27) M d_G_nestedRoom_9 (by decide) (fun c1 => ?_) (fun c1 => ?_)
    · have E := ob_t E c1
      obtain rfl := Option.some.inj E
      refine ax_lv (lv' := [(0, .ref (al 0 0)), (1, .int b1.1), (2, .int s1.2)]) [0, 1, 2] rfl ?_
      exact (K2 _ rfl) h hG
    · have E := ob_f E c1
      refine ax_aload_n M d_G_nestedRoom_12 0 rfl ?_
      refine sw_get M hG 0 0 (by decide) in_G rfl rfl 3 (by decide) wd_155 rfl d_G_nestedRoom_13 ?_
      refine ax_iload_n M d_G_nestedRoom_16 2 rfl ?_
      obtain ⟨k1, E⟩ := ob_c E
      refine sw_aldq (g := fun e => e) M hG 7 0 (by decide) rfl 3 rfl rfl k1 d_G_nestedRoom_17 ?_
      refine ax_iload_n M d_G_nestedRoom_18 2 rfl ?_
      refine ax_iconst (v := 0) M d_G_nestedRoom_19 (by decide) ?_
      refine sw_iast M hG 9 (ix s1.2) (in_lt k1) rfl 0 rfl k1 rfl d_G_nestedRoom_20 (fun h hG => ?_)
      refine ax_iinc (v := s1.2 + 1) (lv' := [(0, .ref (al 0 0)), (1, .int b1.1), (2, .int (s1.2 + 1))]) M d_G_nestedRoom_21 2 rfl rfl (by decide) [1, 2, 0] rfl ?_
      refine ax_goto (tgt := 7) M d_G_nestedRoom_24 (by decide) ?_
      obtain rfl := Option.some.inj E
      refine ax_lv (lv' := [(0, .ref (al 0 0)), (1, .int b1.1), (2, .int (s1.2 + 1))]) [0, 1, 2] rfl ?_
      exact K1 _ rfl h hG
  · intro h hG
    refine ax_iconst (v := 2) M d_G_nestedRoom_27 (by decide) ?_
    refine ax_istore_n (lv' := [(0, .ref (al 0 0)), (1, .int b1.1), (2, .int 2)]) M d_G_nestedRoom_28 (by decide) [1, 2, 0] rfl ?_
    refine ax_lv (lv' := [(0, .ref (al 0 0)), (1, .int b1.1), (2, .int 2)]) [0, 1, 2] rfl ?_
    obtain ⟨r2, l3, E⟩ := ob_b E
    refine lp_walk (fun (s2 : ST × Int32) => ∀ h : AH, SW dmC (cfC cc) al s2.1 h0 h → AW l D vwCl rm_C_nestedRoom 4 X 0 0 h 29 [(0, .ref (al 0 0)), (1, .int b1.1), (2, .int s2.2)] []) (fun (r2 : ST × Int32) => ∀ h : AH, SW dmC (cfC cc) al r2.1 h0 h → AW l D vwCl rm_C_nestedRoom 4 X 0 0 h 77 [(0, .ref (al 0 0)), (1, .int b1.1), (2, .int r2.2)] []) ?_ _ _ _ l3 ?_ h hG
    · intro s2 y2 E K3 K4 h hG
      refine ax_iload_n M d_G_nestedRoom_29 2 rfl ?_
      refine ax_iload_n M d_G_nestedRoom_30 1 rfl ?_
      refine ax_icmp_gt (tgt := 77) M d_G_nestedRoom_31 (by decide) (fun c2 => ?_) (fun c2 => ?_)
      · have E := ob_t E c2
        obtain rfl := Option.some.inj E
        refine ax_lv (lv' := [(0, .ref (al 0 0)), (1, .int b1.1), (2, .int s2.2)]) [0, 1, 2] rfl ?_
        exact (K4 _ rfl) h hG
      · have E := ob_f E c2
        refine ax_iconst (v := 0) M d_G_nestedRoom_34 (by decide) ?_
        refine ax_istore_n (lv' := [(0, .ref (al 0 0)), (1, .int b1.1), (2, .int s2.2), (3, .int 0)]) M d_G_nestedRoom_35 (by decide) [1, 2, 3, 0] rfl ?_
        refine ax_lv (lv' := [(0, .ref (al 0 0)), (1, .int b1.1), (2, .int s2.2), (3, .int 0)]) [0, 1, 2, 3] rfl ?_
        obtain ⟨r3, l2, E⟩ := ob_b E
        refine lp_walk (fun (s3 : ST × Int32) => ∀ h : AH, SW dmC (cfC cc) al s3.1 h0 h → AW l D vwCl rm_C_nestedRoom 4 X 0 0 h 36 [(0, .ref (al 0 0)), (1, .int b1.1), (2, .int s2.2), (3, .int s3.2)] []) (fun (r3 : ST × Int32) => ∀ h : AH, SW dmC (cfC cc) al r3.1 h0 h → AW l D vwCl rm_C_nestedRoom 4 X 0 0 h 71 [(0, .ref (al 0 0)), (1, .int b1.1), (2, .int s2.2), (3, .int r3.2)] []) ?_ _ _ _ l2 ?_ h hG
        · intro s3 y3 E K5 K6 h hG
          refine ax_iload_n M d_G_nestedRoom_36 3 rfl ?_
          refine ax_iload_n M d_G_nestedRoom_37 2 rfl ?_
          refine ax_iadd M d_G_nestedRoom_38 ?_
          refine ax_iload_n M d_G_nestedRoom_39 1 rfl ?_
          refine ax_icmp_gt (tgt := 71) M d_G_nestedRoom_40 (by decide) (fun c3 => ?_) (fun c3 => ?_)
          · have E := ob_t E c3
            obtain rfl := Option.some.inj E
            refine ax_lv (lv' := [(0, .ref (al 0 0)), (1, .int b1.1), (2, .int s2.2), (3, .int s3.2)]) [0, 1, 2, 3] rfl ?_
            exact (K6 _ rfl) h hG
          · have E := ob_f E c3
            refine ax_aload_n M d_G_nestedRoom_43 0 rfl ?_
            refine sw_get M hG 0 0 (by decide) in_G rfl rfl 3 (by decide) wd_155 rfl d_G_nestedRoom_44 ?_
            refine ax_iload_n M d_G_nestedRoom_47 3 rfl ?_
            obtain ⟨k2, E⟩ := ob_c E
            refine sw_aldq (g := fun e => e) M hG 7 0 (by decide) rfl 3 rfl rfl k2 d_G_nestedRoom_48 ?_
            refine ax_iload_n M d_G_nestedRoom_49 3 rfl ?_
            refine ax_iload_n M d_G_nestedRoom_50 2 rfl ?_
            refine ax_iadd M d_G_nestedRoom_51 ?_
            refine ax_iconst (v := 1) M d_G_nestedRoom_52 (by decide) ?_
            refine ax_isub M d_G_nestedRoom_53 ?_
            refine ax_aload_n M d_G_nestedRoom_54 0 rfl ?_
            refine ax_iload_n M d_G_nestedRoom_55 3 rfl ?_
            refine ax_iload_n M d_G_nestedRoom_56 3 rfl ?_
            refine ax_iload_n M d_G_nestedRoom_57 2 rfl ?_
            refine ax_iadd M d_G_nestedRoom_58 ?_
            refine ax_iconst (v := 1) M d_G_nestedRoom_59 (by decide) ?_
            refine ax_isub M d_G_nestedRoom_60 ?_
            obtain ⟨b2, e2, E⟩ := ob_b E
            refine ax_callV (n := 2) (C := R_G) (q := (R_G, F_G, 9)) M TT_good rfl rfl (SW.at hG 0 0 (by decide)) (ac_C_costOfStretch hG e2) lm_G_221 (by decide) (by decide) rfl rfl (Nat.le_of_ble_eq_true rfl) d_G_nestedRoom_61 (by decide) (c1 := 0) (s1 := 0) (by decide) (ax_ret_i (fun h hG => ?_))
            obtain ⟨k3, E⟩ := ob_c E
            refine sw_iast M hG 9 (ix s3.2) (in_lt k2) rfl 0 rfl k3 rfl d_G_nestedRoom_64 (fun h hG => ?_)
            refine ax_iinc (v := s3.2 + 1) (lv' := [(0, .ref (al 0 0)), (1, .int b1.1), (2, .int s2.2), (3, .int (s3.2 + 1))]) M d_G_nestedRoom_65 3 rfl rfl (by decide) [1, 2, 3, 0] rfl ?_
            refine ax_goto (tgt := 36) M d_G_nestedRoom_68 (by decide) ?_
            obtain rfl := Option.some.inj E
            refine ax_lv (lv' := [(0, .ref (al 0 0)), (1, .int b1.1), (2, .int s2.2), (3, .int (s3.2 + 1))]) [0, 1, 2, 3] rfl ?_
            exact K5 _ rfl h hG
        · intro h hG
          refine ax_iinc (v := s2.2 + 1) (lv' := [(0, .ref (al 0 0)), (1, .int b1.1), (2, .int (s2.2 + 1)), (3, .int r3.2)]) M d_G_nestedRoom_71 2 rfl rfl (by decide) [1, 2, 0, 3] rfl ?_
          refine ax_goto (tgt := 29) M d_G_nestedRoom_74 (by decide) ?_
          obtain rfl := Option.some.inj E
          refine ax_lv (lv' := [(0, .ref (al 0 0)), (1, .int b1.1), (2, .int (s2.2 + 1))]) [0, 1, 2] rfl ?_
          exact K3 _ rfl h hG
    · intro h hG
      refine ax_iload_n M d_G_nestedRoom_77 1 rfl ?_
      refine ax_if_ne (tgt := 85) M d_G_nestedRoom_78 (by decide) (fun c4 => ?_) (fun c4 => ?_)
      · have E := ob_f E c4
        refine ax_aload_n M d_G_nestedRoom_85 0 rfl ?_
        refine sw_get M hG 0 0 (by decide) in_G rfl rfl 3 (by decide) wd_155 rfl d_G_nestedRoom_86 ?_
        refine ax_iconst (v := 0) M d_G_nestedRoom_89 (by decide) ?_
        obtain ⟨k4, E⟩ := ob_c E
        refine sw_aldq (g := fun e => e) M hG 7 0 (by decide) rfl 3 rfl rfl k4 d_G_nestedRoom_90 ?_
        refine ax_iload_n M d_G_nestedRoom_91 1 rfl ?_
        refine ax_iconst (v := 1) M d_G_nestedRoom_92 (by decide) ?_
        refine ax_isub M d_G_nestedRoom_93 ?_
        obtain ⟨k5, E⟩ := ob_c E
        refine sw_iald M hG 9 (ix 0) (in_lt k4) rfl 0 rfl k5 d_G_nestedRoom_94 ?_
        obtain rfl := Option.some.inj E
        exact ax_iret M hR (by decide) (by decide) d_G_nestedRoom_95 ⟨rfl, hG⟩
      · have E := ob_t E c4
        refine ax_iconst (v := 0) M d_G_nestedRoom_81 (by decide) ?_
        refine ax_goto (tgt := 95) M d_G_nestedRoom_82 (by decide) ?_
        obtain rfl := Option.some.inj E
        exact ax_iret M hR (by decide) (by decide) d_G_nestedRoom_95 ⟨rfl, hG⟩
def C_nested (σ : ST) : Option (Int32 × ST) :=
  if (gi σ 0 0 8) = 0 then
  (some ((-4, σ))) else
  ((C_canNest σ).bind (fun b1 => 
  (if b1 = 0 then
  (some ((-4, σ))) else
  ((C_nestedRoom σ).bind (fun b2 => 
  (some ((b2.1, b2.2))))))))
abbrev rm_C_nested : Room := { frames := 5, cells := 0, slots := 0, locals := 119 }
set_option maxRecDepth 100000 in
set_option maxHeartbeats 4000000 in
theorem ac_C_nested {l : Launch} {D : va_G} {cc : Nat → ClassId} {al : Nat → Nat → Nat} {σ : ST} {h0 h : AH}  {res : Int32 × ST}  (hG : SW dmC (cfC cc) al σ h0 h) (E : C_nested σ = some res) : AC l D vwCl (tysOf cc) NN y_G_nested (Cond.code y_G_nested b_G_nested 1 (some .int) :: TT) rm_C_nested [.ref (al 0 0)] h (fun rv h' => rv = some (.int res.1) ∧ SW dmC (cfC cc) al res.2 h0 h') := by
  refine AC.of (by decide) rfl (Nat.le_of_ble_eq_true rfl) (fun X M hR hI => ?_)
  unfold C_nested at E
  refine ax_lv (lv' := [(0, .ref (al 0 0))]) [0] rfl ?_
  refine ax_aload_n M d_G_nested_0 0 rfl ?_
  refine sw_get M hG 0 0 (by decide) in_G rfl rfl 8 (by decide) wd_160 rfl d_G_nested_1 ?_
  refine ax_if_eq (tgt := 14) M d_G_nested_4 (by decide) (fun c1 => ?_) (fun c1 => ?_)
  · have E := ob_t E c1
    refine ax_bipush (v := -4) M d_G_nested_14 (by decide) ?_
    obtain rfl := Option.some.inj E
    exact ax_iret M hR (by decide) (by decide) d_G_nested_16 ⟨rfl, hG⟩
  · have E := ob_f E c1
    refine ax_aload_n M d_G_nested_7 0 rfl ?_
    obtain ⟨b1, e1, E⟩ := ob_b E
    refine ax_callV (n := 0) (C := R_G) (q := (R_G, F_G, 9)) M TT_good rfl rfl (SW.at hG 0 0 (by decide)) (ac_C_canNest hG e1) lm_G_111 (by decide) (by decide) rfl rfl (Nat.le_of_ble_eq_true rfl) d_G_nested_8 (by decide) (c1 := 0) (s1 := 0) (by decide) (ax_ret_i (fun h hG => ?_))
    refine ax_if_ne (tgt := 17) M d_G_nested_11 (by decide) (fun c2 => ?_) (fun c2 => ?_)
    · have E := ob_f E c2
      refine ax_aload_n M d_G_nested_17 0 rfl ?_
      obtain ⟨b2, e2, E⟩ := ob_b E
      refine ax_callV (n := 0) (C := R_G) (q := (R_G, F_G, 9)) M TT_good rfl rfl (SW.at hG 0 0 (by decide)) (ac_C_nestedRoom hG e2) lm_G_115 (by decide) (by decide) rfl rfl (Nat.le_of_ble_eq_true rfl) d_G_nested_18 (by decide) (c1 := 0) (s1 := 0) (by decide) (ax_ret_i (fun h hG => ?_))
      obtain rfl := Option.some.inj E
      exact ax_iret M hR (by decide) (by decide) d_G_nested_21 ⟨rfl, hG⟩
    · have E := ob_t E c2
      refine ax_bipush (v := -4) M d_G_nested_14 (by decide) ?_
      obtain rfl := Option.some.inj E
      exact ax_iret M hR (by decide) (by decide) d_G_nested_16 ⟨rfl, hG⟩
def C_latest (σ : ST) (x1 : Int32) : Option (Int64) :=
  if (gi σ 0 0 8) = 0 then
  (some (-1000000000000)) else
  ((C_isActor σ x1).bind (fun b1 => 
  (if b1 = 0 then
  (some (-1000000000000)) else
  (if inb x1 8 then 
  (some ((gi σ 1 (ix x1) 9).toInt64)) else none))))
abbrev rm_C_latest : Room := { frames := 2, cells := 0, slots := 0, locals := 43 }
set_option maxRecDepth 100000 in
set_option maxHeartbeats 4000000 in
theorem ac_C_latest {l : Launch} {D : va_G} {cc : Nat → ClassId} {al : Nat → Nat → Nat} {σ : ST} {h0 h : AH} {x1 : Int32} {res : Int64}  (hG : SW dmC (cfC cc) al σ h0 h) (E : C_latest σ x1 = some res) : AC l D vwCl (tysOf cc) NN y_G_latest (Cond.code y_G_latest b_G_latest 2 (some .long) :: TT) rm_C_latest [.ref (al 0 0), .int x1] h (fun rv h' => rv = some (.long res) ∧ SW dmC (cfC cc) al σ h0 h') := by
  refine AC.of (by decide) rfl (Nat.le_of_ble_eq_true rfl) (fun X M hR hI => ?_)
  unfold C_latest at E
  refine ax_lv (lv' := [(0, .ref (al 0 0)), (1, .int x1)]) [0, 1] rfl ?_
  refine ax_aload_n M d_G_latest_0 0 rfl ?_
  refine sw_get M hG 0 0 (by decide) in_G rfl rfl 8 (by decide) wd_160 rfl d_G_latest_1 ?_
  refine ax_if_eq (tgt := 28) M d_G_latest_4 (by decide) (fun c1 => ?_) (fun c1 => ?_)
  · have E := ob_t E c1
    refine ax_ldc2 (v := -1000000000000) M wd_369 d_G_latest_28 ?_
    obtain rfl := Option.some.inj E
    exact ax_lret M hR (by decide) (by decide) d_G_latest_31 ⟨rfl, hG⟩
  · have E := ob_f E c1
    refine ax_aload_n M d_G_latest_7 0 rfl ?_
    refine ax_iload_n M d_G_latest_8 1 rfl ?_
    obtain ⟨b1, e1, E⟩ := ob_b E
    refine ax_callV (n := 1) (C := R_G) (q := (R_G, F_G, 9)) M TT_good rfl rfl (SW.at hG 0 0 (by decide)) (ac_C_isActor hG e1) lm_G_53 (by decide) (by decide) rfl rfl (Nat.le_of_ble_eq_true rfl) d_G_latest_9 (by decide) (c1 := 0) (s1 := 0) (by decide) (ax_ret_i (fun h hG => ?_))
    refine ax_if_eq (tgt := 28) M d_G_latest_12 (by decide) (fun c2 => ?_) (fun c2 => ?_)
    · have E := ob_t E c2
      refine ax_ldc2 (v := -1000000000000) M wd_369 d_G_latest_28 ?_
      obtain rfl := Option.some.inj E
      exact ax_lret M hR (by decide) (by decide) d_G_latest_31 ⟨rfl, hG⟩
    · have E := ob_f E c2
      refine ax_aload_n M d_G_latest_15 0 rfl ?_
      refine sw_get M hG 0 0 (by decide) in_G rfl rfl 0 (by decide) wd_152 rfl d_G_latest_16 ?_
      refine ax_iload_n M d_G_latest_19 1 rfl ?_
      obtain ⟨k1, E⟩ := ob_c E
      refine sw_aldq (g := fun e => e) M hG 4 0 (by decide) rfl 1 rfl rfl k1 d_G_latest_20 ?_
      refine sw_getN M hG 1 (ix x1) (in_lt k1) in_A rfl rfl 9 (by decide) wd_90 rfl d_G_latest_21 ?_
      refine ax_i2l M d_G_latest_24 rfl ?_
      refine ax_goto (tgt := 31) M d_G_latest_25 (by decide) ?_
      obtain rfl := Option.some.inj E
      exact ax_lret M hR (by decide) (by decide) d_G_latest_31 ⟨rfl, hG⟩
def C_token (σ : ST) (x1 : Int32) (x2 : Int32) : Option (Int64) :=
  if (gi σ 0 0 8) = 0 then
  (some (-1000000000000)) else
  ((C_isEdge σ x1).bind (fun b1 => 
  (if b1 = 0 then
  (some (-1000000000000)) else
  (if inb x1 12 then 
  (if ix (gi σ 5 0 (ix x1)) < 12 then 
  ((C_isWithin x2 0 ((gi σ 2 (ix (gi σ 5 0 (ix x1))) 7) - 1)).bind (fun b2 => 
  (if b2 = 0 then
  (some (-1000000000000)) else
  ((C_Edge_at σ (ix (gi σ 5 0 (ix x1))) x2).bind (fun b3 => 
  (some b3.toInt64)))))) else none) else none))))
abbrev rm_C_token : Room := { frames := 2, cells := 0, slots := 0, locals := 43 }
set_option maxRecDepth 100000 in
set_option maxHeartbeats 4000000 in
theorem ac_C_token {l : Launch} {D : va_G} {cc : Nat → ClassId} {al : Nat → Nat → Nat} {σ : ST} {h0 h : AH} {x1 : Int32} {x2 : Int32} {res : Int64}  (hG : SW dmC (cfC cc) al σ h0 h) (E : C_token σ x1 x2 = some res) : AC l D vwCl (tysOf cc) NN y_G_token (Cond.code y_G_token b_G_token 4 (some .long) :: TT) rm_C_token [.ref (al 0 0), .int x1, .int x2] h (fun rv h' => rv = some (.long res) ∧ SW dmC (cfC cc) al σ h0 h') := by
  refine AC.of (by decide) rfl (Nat.le_of_ble_eq_true rfl) (fun X M hR hI => ?_)
  unfold C_token at E
  refine ax_lv (lv' := [(0, .ref (al 0 0)), (1, .int x1), (2, .int x2)]) [0, 1, 2] rfl ?_
  refine ax_aload_n M d_G_token_0 0 rfl ?_
  refine sw_get M hG 0 0 (by decide) in_G rfl rfl 8 (by decide) wd_160 rfl d_G_token_1 ?_
  refine ax_if_eq (tgt := 15) M d_G_token_4 (by decide) (fun c1 => ?_) (fun c1 => ?_)
  · have E := ob_t E c1
    refine ax_ldc2 (v := -1000000000000) M wd_369 d_G_token_15 ?_
    obtain rfl := Option.some.inj E
    exact ax_lret M hR (by decide) (by decide) d_G_token_18 ⟨rfl, hG⟩
  · have E := ob_f E c1
    refine ax_aload_n M d_G_token_7 0 rfl ?_
    refine ax_iload_n M d_G_token_8 1 rfl ?_
    obtain ⟨b1, e1, E⟩ := ob_b E
    refine ax_callV (n := 1) (C := R_G) (q := (R_G, F_G, 9)) M TT_good rfl rfl (SW.at hG 0 0 (by decide)) (ac_C_isEdge hG e1) lm_G_75 (by decide) (by decide) rfl rfl (Nat.le_of_ble_eq_true rfl) d_G_token_9 (by decide) (c1 := 0) (s1 := 0) (by decide) (ax_ret_i (fun h hG => ?_))
    refine ax_if_ne (tgt := 19) M d_G_token_12 (by decide) (fun c2 => ?_) (fun c2 => ?_)
    · have E := ob_f E c2
      refine ax_aload_n M d_G_token_19 0 rfl ?_
      refine sw_get M hG 0 0 (by decide) in_G rfl rfl 1 (by decide) wd_153 rfl d_G_token_20 ?_
      refine ax_iload_n M d_G_token_23 1 rfl ?_
      obtain ⟨k1, E⟩ := ob_c E
      refine sw_aldq (g := fun e => ix (gi σ 5 0 e)) M hG 5 0 (by decide) rfl 2 rfl rfl k1 d_G_token_24 ?_
      obtain ⟨k2, E⟩ := ob_c E
      refine ax_astore_n (lv' := [(2, .int x2), (3, .ref (al 2 (ix (gi σ 5 0 (ix x1)))))]) M d_G_token_25 (by decide) [3, 0] rfl ?_
      refine ax_iload_n M d_G_token_26 0 rfl ?_
      refine ax_iconst (v := 0) M d_G_token_27 (by decide) ?_
      refine ax_aload_n M d_G_token_28 1 rfl ?_
      refine sw_getN M hG 2 (ix (gi σ 5 0 (ix x1))) k2 in_E rfl rfl 7 (by decide) wd_131 rfl d_G_token_29 ?_
      refine ax_iconst (v := 1) M d_G_token_32 (by decide) ?_
      refine ax_isub M d_G_token_33 ?_
      obtain ⟨b2, e2, E⟩ := ob_b E
      refine ax_callS (n := 3) M TT_good (ac_C_isWithin hG e2) lm_G_35 (by decide) (by decide) rfl rfl (Nat.le_of_ble_eq_true rfl) d_G_token_34 (by decide) (c1 := 0) (s1 := 0) (by decide) (ax_ret_i (fun h hG => ?_))
      refine ax_if_eq (tgt := 49) M d_G_token_37 (by decide) (fun c3 => ?_) (fun c3 => ?_)
      · have E := ob_t E c3
        refine ax_ldc2 (v := -1000000000000) M wd_369 d_G_token_49 ?_
        obtain rfl := Option.some.inj E
        exact ax_lret M hR (by decide) (by decide) d_G_token_52 ⟨rfl, hG⟩
      · have E := ob_f E c3
        refine ax_aload_n M d_G_token_40 1 rfl ?_
        refine ax_iload_n M d_G_token_41 0 rfl ?_
        obtain ⟨b3, e3, E⟩ := ob_b E
        refine ax_callVN (n := 1) (q := (R_E, F_E, 9)) M TT_good rfl (SW.at hG 2 (ix (gi σ 5 0 (ix x1))) k2) (ac_C_Edge_at k2 hG e3) wd_374 lm_G_126 (by decide) (by decide) rfl rfl (Nat.le_of_ble_eq_true rfl) d_G_token_42 (by decide) (c1 := 0) (s1 := 0) (by decide) (ax_ret_i (fun h hG => ?_))
        refine ax_i2l M d_G_token_45 rfl ?_
        refine ax_goto (tgt := 52) M d_G_token_46 (by decide) ?_
        obtain rfl := Option.some.inj E
        exact ax_lret M hR (by decide) (by decide) d_G_token_52 ⟨rfl, hG⟩
    · have E := ob_t E c2
      refine ax_ldc2 (v := -1000000000000) M wd_369 d_G_token_15 ?_
      obtain rfl := Option.some.inj E
      exact ax_lret M hR (by decide) (by decide) d_G_token_18 ⟨rfl, hG⟩
def C_tokens (σ : ST) (x1 : Int32) : Option (Int32) :=
  (C_isEdge σ x1).bind (fun b1 => 
  (if b1 = 0 then
  (some (-1)) else
  (if (gi σ 0 0 8) = 0 then
  (some (-4)) else
  (if inb x1 12 then 
  (if ix (gi σ 5 0 (ix x1)) < 12 then 
  (some (gi σ 2 (ix (gi σ 5 0 (ix x1))) 7)) else none) else none))))
abbrev rm_C_tokens : Room := { frames := 2, cells := 0, slots := 0, locals := 43 }
set_option maxRecDepth 100000 in
set_option maxHeartbeats 4000000 in
theorem ac_C_tokens {l : Launch} {D : va_G} {cc : Nat → ClassId} {al : Nat → Nat → Nat} {σ : ST} {h0 h : AH} {x1 : Int32} {res : Int32}  (hG : SW dmC (cfC cc) al σ h0 h) (E : C_tokens σ x1 = some res) : AC l D vwCl (tysOf cc) NN y_G_tokens (Cond.code y_G_tokens b_G_tokens 2 (some .int) :: TT) rm_C_tokens [.ref (al 0 0), .int x1] h (fun rv h' => rv = some (.int res) ∧ SW dmC (cfC cc) al σ h0 h') := by
  refine AC.of (by decide) rfl (Nat.le_of_ble_eq_true rfl) (fun X M hR hI => ?_)
  unfold C_tokens at E
  refine ax_lv (lv' := [(0, .ref (al 0 0)), (1, .int x1)]) [0, 1] rfl ?_
  refine ax_aload_n M d_G_tokens_0 0 rfl ?_
  refine ax_iload_n M d_G_tokens_1 1 rfl ?_
  obtain ⟨b1, e1, E⟩ := ob_b E
  refine ax_callV (n := 1) (C := R_G) (q := (R_G, F_G, 9)) M TT_good rfl rfl (SW.at hG 0 0 (by decide)) (ac_C_isEdge hG e1) lm_G_75 (by decide) (by decide) rfl rfl (Nat.le_of_ble_eq_true rfl) d_G_tokens_2 (by decide) (c1 := 0) (s1 := 0) (by decide) (ax_ret_i (fun h hG => ?_))
  refine ax_if_ne (tgt := 10) M d_G_tokens_5 (by decide) (fun c1 => ?_) (fun c1 => ?_)
  · have E := ob_f E c1
    refine ax_aload_n M d_G_tokens_10 0 rfl ?_
    refine sw_get M hG 0 0 (by decide) in_G rfl rfl 8 (by decide) wd_160 rfl d_G_tokens_11 ?_
    refine ax_if_eq (tgt := 29) M d_G_tokens_14 (by decide) (fun c2 => ?_) (fun c2 => ?_)
    · have E := ob_t E c2
      refine ax_bipush (v := -4) M d_G_tokens_29 (by decide) ?_
      obtain rfl := Option.some.inj E
      exact ax_iret M hR (by decide) (by decide) d_G_tokens_31 ⟨rfl, hG⟩
    · have E := ob_f E c2
      refine ax_aload_n M d_G_tokens_17 0 rfl ?_
      refine sw_get M hG 0 0 (by decide) in_G rfl rfl 1 (by decide) wd_153 rfl d_G_tokens_18 ?_
      refine ax_iload_n M d_G_tokens_21 1 rfl ?_
      obtain ⟨k1, E⟩ := ob_c E
      refine sw_aldq (g := fun e => ix (gi σ 5 0 e)) M hG 5 0 (by decide) rfl 2 rfl rfl k1 d_G_tokens_22 ?_
      obtain ⟨k2, E⟩ := ob_c E
      refine sw_getN M hG 2 (ix (gi σ 5 0 (ix x1))) k2 in_E rfl rfl 7 (by decide) wd_131 rfl d_G_tokens_23 ?_
      refine ax_goto (tgt := 31) M d_G_tokens_26 (by decide) ?_
      obtain rfl := Option.some.inj E
      exact ax_iret M hR (by decide) (by decide) d_G_tokens_31 ⟨rfl, hG⟩
  · have E := ob_t E c1
    refine ax_iconst (v := (-1)) M d_G_tokens_8 (by decide) ?_
    obtain rfl := Option.some.inj E
    exact ax_iret M hR (by decide) (by decide) d_G_tokens_9 ⟨rfl, hG⟩
end
section
def C_countParts (σ : ST) : Option (Int32 × ST) :=
  (C_makePartsOfOne σ).bind (fun b1 => 
  ((C_countActors b1).bind (fun b2 => 
  ((lp (fun s1 : ST × Int32 × Int32 =>
  if (gi s1.1 0 0 5) ≤ s1.2.2 then
  (some (.inr ((s1.1, s1.2.1, s1.2.2)))) else
  (if inb s1.2.2 12 then 
  (if ix (gi s1.1 5 0 (ix s1.2.2)) < 12 then 
  (if inb (gi s1.1 2 (ix (gi s1.1 5 0 (ix s1.2.2))) 1) 8 then 
  (if inb (gi s1.1 2 (ix (gi s1.1 5 0 (ix s1.2.2))) 2) 8 then 
  (if (gi s1.1 1 (ix (gi s1.1 2 (ix (gi s1.1 5 0 (ix s1.2.2))) 1)) 3) = (gi s1.1 1 (ix (gi s1.1 2 (ix (gi s1.1 5 0 (ix s1.2.2))) 2)) 3) then
  (some (.inl ((s1.1, s1.2.1, s1.2.2 + 1)))) else
  ((C_joinParts s1.1 (gi s1.1 1 (ix (gi s1.1 2 (ix (gi s1.1 5 0 (ix s1.2.2))) 1)) 3) (gi s1.1 1 (ix (gi s1.1 2 (ix (gi s1.1 5 0 (ix s1.2.2))) 2)) 3)).bind (fun b3 => 
  (some (.inl ((b3, s1.2.1 + -1, s1.2.2 + 1))))))) else none) else none) else none) else none)) 100 ((b1, b2, 0))).bind (fun r1 : ST × Int32 × Int32 =>
  some ((r1.2.1, r1.1)))))))
abbrev rm_C_countParts : Room := { frames := 1, cells := 0, slots := 0, locals := 23 }
set_option maxRecDepth 100000 in
set_option maxHeartbeats 4000000 in
theorem ac_C_countParts {l : Launch} {D : va_G} {cc : Nat → ClassId} {al : Nat → Nat → Nat} {σ : ST} {h0 h : AH}  {res : Int32 × ST}  (hG : SW dmC (cfC cc) al σ h0 h) (E : C_countParts σ = some res) : AC l D vwCl (tysOf cc) NN y_G_countParts (Cond.code y_G_countParts b_G_countParts 5 (some .int) :: TT) rm_C_countParts [.ref (al 0 0)] h (fun rv h' => rv = some (.int res.1) ∧ SW dmC (cfC cc) al res.2 h0 h') := by
  refine AC.of (by decide) rfl (Nat.le_of_ble_eq_true rfl) (fun X M hR hI => ?_)
  unfold C_countParts at E
  refine ax_lv (lv' := [(0, .ref (al 0 0))]) [0] rfl ?_
  refine ax_aload_n M d_G_countParts_0 0 rfl ?_
  obtain ⟨b1, e1, E⟩ := ob_b E
  refine ax_callV (n := 0) (C := R_G) (q := (R_G, F_G, 9)) M TT_good rfl rfl (SW.at hG 0 0 (by decide)) (ac_C_makePartsOfOne hG e1) lm_G_147 (by decide) (by decide) rfl rfl (Nat.le_of_ble_eq_true rfl) d_G_countParts_1 (by decide) (c1 := 0) (s1 := 0) (by decide) (ax_ret_v (fun h hG => ?_))
  refine ax_aload_n M d_G_countParts_4 0 rfl ?_
  obtain ⟨b2, e2, E⟩ := ob_b E
  refine ax_callV (n := 0) (C := R_G) (q := (R_G, F_G, 9)) M TT_good rfl rfl (SW.at hG 0 0 (by decide)) (ac_C_countActors hG e2) lm_G_78 (by decide) (by decide) rfl rfl (Nat.le_of_ble_eq_true rfl) d_G_countParts_5 (by decide) (c1 := 0) (s1 := 0) (by decide) (ax_ret_i (fun h hG => ?_))
  refine ax_istore_n (lv' := [(0, .ref (al 0 0)), (1, .int b2)]) M d_G_countParts_8 (by decide) [1, 0] rfl ?_
  refine ax_iconst (v := 0) M d_G_countParts_9 (by decide) ?_
  refine ax_istore_n (lv' := [(0, .ref (al 0 0)), (1, .int b2), (2, .int 0)]) M d_G_countParts_10 (by decide) [1, 2, 0] rfl ?_
  refine ax_lv (lv' := [(0, .ref (al 0 0)), (1, .int b2), (2, .int 0)]) [0, 1, 2] rfl ?_
  obtain ⟨r1, l1, E⟩ := ob_b E
  refine lp_walk (fun (s1 : ST × Int32 × Int32) => ∀ h : AH, SW dmC (cfC cc) al s1.1 h0 h → AW l D vwCl rm_C_countParts 5 X 0 0 h 11 [(0, .ref (al 0 0)), (1, .int s1.2.1), (2, .int s1.2.2)] []) (fun (r1 : ST × Int32 × Int32) => ∀ h : AH, SW dmC (cfC cc) al r1.1 h0 h → AW l D vwCl rm_C_countParts 5 X 0 0 h 78 [(0, .ref (al 0 0)), (1, .int r1.2.1), (2, .int r1.2.2)] []) ?_ _ _ _ l1 ?_ h hG
  · intro s1 y1 E K1 K2 h hG
    refine ax_iload_n M d_G_countParts_11 2 rfl ?_
    refine ax_aload_n M d_G_countParts_12 0 rfl ?_
    refine sw_get M hG 0 0 (by decide) in_G rfl rfl 5 (by decide) wd_157 rfl d_G_countParts_13 ?_
    refine ax_icmp_ge (tgt := 78) M d_G_countParts_16 (by decide) (fun c1 => ?_) (fun c1 => ?_)
    · have E := ob_t E c1
      obtain rfl := Option.some.inj E
      refine ax_lv (lv' := [(0, .ref (al 0 0)), (1, .int s1.2.1), (2, .int s1.2.2)]) [0, 1, 2] rfl ?_
      exact (K2 _ rfl) h hG
    · have E := ob_f E c1
      refine ax_aload_n M d_G_countParts_19 0 rfl ?_
      refine sw_get M hG 0 0 (by decide) in_G rfl rfl 0 (by decide) wd_152 rfl d_G_countParts_20 ?_
      refine ax_aload_n M d_G_countParts_23 0 rfl ?_
      refine sw_get M hG 0 0 (by decide) in_G rfl rfl 1 (by decide) wd_153 rfl d_G_countParts_24 ?_
      refine ax_iload_n M d_G_countParts_27 2 rfl ?_
      obtain ⟨k1, E⟩ := ob_c E
      refine sw_aldq (g := fun e => ix (gi s1.1 5 0 e)) M hG 5 0 (by decide) rfl 2 rfl rfl k1 d_G_countParts_28 ?_
      obtain ⟨k2, E⟩ := ob_c E
      refine sw_getN M hG 2 (ix (gi s1.1 5 0 (ix s1.2.2))) k2 in_E rfl rfl 1 (by decide) wd_120 rfl d_G_countParts_29 ?_
      obtain ⟨k3, E⟩ := ob_c E
      refine sw_aldq (g := fun e => e) M hG 4 0 (by decide) rfl 1 rfl rfl k3 d_G_countParts_32 ?_
      refine sw_getN M hG 1 (ix (gi s1.1 2 (ix (gi s1.1 5 0 (ix s1.2.2))) 1)) (in_lt k3) in_A rfl rfl 3 (by decide) wd_81 rfl d_G_countParts_33 ?_
      refine ax_istore_n (lv' := [(0, .ref (al 0 0)), (1, .int s1.2.1), (2, .int s1.2.2), (3, .int (gi s1.1 1 (ix (gi s1.1 2 (ix (gi s1.1 5 0 (ix s1.2.2))) 1)) 3))]) M d_G_countParts_36 (by decide) [1, 2, 3, 0] rfl ?_
      refine ax_aload_n M d_G_countParts_37 0 rfl ?_
      refine sw_get M hG 0 0 (by decide) in_G rfl rfl 0 (by decide) wd_152 rfl d_G_countParts_38 ?_
      refine ax_aload_n M d_G_countParts_41 0 rfl ?_
      refine sw_get M hG 0 0 (by decide) in_G rfl rfl 1 (by decide) wd_153 rfl d_G_countParts_42 ?_
      refine ax_iload_n M d_G_countParts_45 2 rfl ?_
      refine sw_aldq (g := fun e => ix (gi s1.1 5 0 e)) M hG 5 0 (by decide) rfl 2 rfl rfl k1 d_G_countParts_46 ?_
      refine sw_getN M hG 2 (ix (gi s1.1 5 0 (ix s1.2.2))) k2 in_E rfl rfl 2 (by decide) wd_122 rfl d_G_countParts_47 ?_
      obtain ⟨k4, E⟩ := ob_c E
      refine sw_aldq (g := fun e => e) M hG 4 0 (by decide) rfl 1 rfl rfl k4 d_G_countParts_50 ?_
      refine sw_getN M hG 1 (ix (gi s1.1 2 (ix (gi s1.1 5 0 (ix s1.2.2))) 2)) (in_lt k4) in_A rfl rfl 3 (by decide) wd_81 rfl d_G_countParts_51 ?_
      refine ax_istore (lv' := [(0, .ref (al 0 0)), (1, .int s1.2.1), (2, .int s1.2.2), (3, .int (gi s1.1 1 (ix (gi s1.1 2 (ix (gi s1.1 5 0 (ix s1.2.2))) 1)) 3)), (4, .int (gi s1.1 1 (ix (gi s1.1 2 (ix (gi s1.1 5 0 (ix s1.2.2))) 2)) 3))]) M d_G_countParts_54 (by decide) [1, 2, 3, 4, 0] rfl ?_
      refine ax_iload_n M d_G_countParts_56 3 rfl ?_
      refine ax_iload M d_G_countParts_57 4 rfl ?_
      refine ax_icmp_eq (tgt := 72) M d_G_countParts_59 (by decide) (fun c2 => ?_) (fun c2 => ?_)
      · have E := ob_t E c2
        refine ax_iinc (v := s1.2.2 + 1) (lv' := [(0, .ref (al 0 0)), (1, .int s1.2.1), (2, .int (s1.2.2 + 1)), (3, .int (gi s1.1 1 (ix (gi s1.1 2 (ix (gi s1.1 5 0 (ix s1.2.2))) 1)) 3)), (4, .int (gi s1.1 1 (ix (gi s1.1 2 (ix (gi s1.1 5 0 (ix s1.2.2))) 2)) 3))]) M d_G_countParts_72 2 rfl rfl (by decide) [1, 2, 0, 3, 4] rfl ?_
        refine ax_goto (tgt := 11) M d_G_countParts_75 (by decide) ?_
        obtain rfl := Option.some.inj E
        refine ax_lv (lv' := [(0, .ref (al 0 0)), (1, .int s1.2.1), (2, .int (s1.2.2 + 1))]) [0, 1, 2] rfl ?_
        exact K1 _ rfl h hG
      · have E := ob_f E c2
        refine ax_aload_n M d_G_countParts_62 0 rfl ?_
        refine ax_iload_n M d_G_countParts_63 3 rfl ?_
        refine ax_iload M d_G_countParts_64 4 rfl ?_
        obtain ⟨b3, e3, E⟩ := ob_b E
        refine ax_callV (n := 2) (C := R_G) (q := (R_G, F_G, 9)) M TT_good rfl rfl (SW.at hG 0 0 (by decide)) (ac_C_joinParts hG e3) lm_G_153 (by decide) (by decide) rfl rfl (Nat.le_of_ble_eq_true rfl) d_G_countParts_66 (by decide) (c1 := 0) (s1 := 0) (by decide) (ax_ret_v (fun h hG => ?_))
        refine ax_iinc (v := s1.2.1 + -1) (lv' := [(0, .ref (al 0 0)), (1, .int (s1.2.1 + -1)), (2, .int s1.2.2), (3, .int (gi s1.1 1 (ix (gi s1.1 2 (ix (gi s1.1 5 0 (ix s1.2.2))) 1)) 3)), (4, .int (gi s1.1 1 (ix (gi s1.1 2 (ix (gi s1.1 5 0 (ix s1.2.2))) 2)) 3))]) M d_G_countParts_69 1 rfl rfl (by decide) [1, 0, 2, 3, 4] rfl ?_
        refine ax_iinc (v := s1.2.2 + 1) (lv' := [(0, .ref (al 0 0)), (1, .int (s1.2.1 + -1)), (2, .int (s1.2.2 + 1)), (3, .int (gi s1.1 1 (ix (gi s1.1 2 (ix (gi s1.1 5 0 (ix s1.2.2))) 1)) 3)), (4, .int (gi s1.1 1 (ix (gi s1.1 2 (ix (gi s1.1 5 0 (ix s1.2.2))) 2)) 3))]) M d_G_countParts_72 2 rfl rfl (by decide) [1, 2, 0, 3, 4] rfl ?_
        refine ax_goto (tgt := 11) M d_G_countParts_75 (by decide) ?_
        obtain rfl := Option.some.inj E
        refine ax_lv (lv' := [(0, .ref (al 0 0)), (1, .int (s1.2.1 + -1)), (2, .int (s1.2.2 + 1))]) [0, 1, 2] rfl ?_
        exact K1 _ rfl h hG
  · intro h hG
    refine ax_iload_n M d_G_countParts_78 1 rfl ?_
    obtain rfl := Option.some.inj E
    exact ax_iret M hR (by decide) (by decide) d_G_countParts_79 ⟨rfl, hG⟩
def C_countRuns (σ : ST) : Option (Int32) :=
  (lp (fun s1 : Int32 × Int32 =>
  if (gi σ 0 0 6) ≤ s1.2 then
  (some (.inr ((s1.1, s1.2)))) else
  (if s1.2 = 0 then
  (some (.inl ((s1.1 + 1, s1.2 + 1)))) else
  (if inb s1.2 64 then 
  (if inb (s1.2 - 1) 64 then 
  (if (gi σ 8 0 (ix s1.2)) = (gi σ 8 0 (ix (s1.2 - 1))) then
  (some (.inl ((s1.1, s1.2 + 1)))) else
  (some (.inl ((s1.1 + 1, s1.2 + 1))))) else none) else none))) 100 ((0, 0))).bind (fun r1 : Int32 × Int32 =>
  some r1.1)
abbrev rm_C_countRuns : Room := { frames := 0, cells := 0, slots := 0, locals := 0 }
set_option maxRecDepth 100000 in
set_option maxHeartbeats 4000000 in
theorem ac_C_countRuns {l : Launch} {D : va_G} {cc : Nat → ClassId} {al : Nat → Nat → Nat} {σ : ST} {h0 h : AH}  {res : Int32}  (hG : SW dmC (cfC cc) al σ h0 h) (E : C_countRuns σ = some res) : AC l D vwCl (tysOf cc) NN y_G_countRuns (Cond.code y_G_countRuns b_G_countRuns 3 (some .int) :: TT) rm_C_countRuns [.ref (al 0 0)] h (fun rv h' => rv = some (.int res) ∧ SW dmC (cfC cc) al σ h0 h') := by
  refine AC.of (by decide) rfl (Nat.le_of_ble_eq_true rfl) (fun X M hR hI => ?_)
  unfold C_countRuns at E
  refine ax_lv (lv' := [(0, .ref (al 0 0))]) [0] rfl ?_
  refine ax_iconst (v := 0) M d_G_countRuns_0 (by decide) ?_
  refine ax_istore_n (lv' := [(0, .ref (al 0 0)), (1, .int 0)]) M d_G_countRuns_1 (by decide) [1, 0] rfl ?_
  refine ax_iconst (v := 0) M d_G_countRuns_2 (by decide) ?_
  refine ax_istore_n (lv' := [(0, .ref (al 0 0)), (1, .int 0), (2, .int 0)]) M d_G_countRuns_3 (by decide) [1, 2, 0] rfl ?_
  refine ax_lv (lv' := [(0, .ref (al 0 0)), (1, .int 0), (2, .int 0)]) [0, 1, 2] rfl ?_
  obtain ⟨r1, l1, E⟩ := ob_b E
  refine lp_walk (fun (s1 : Int32 × Int32) => ∀ h : AH, SW dmC (cfC cc) al σ h0 h → AW l D vwCl rm_C_countRuns 3 X 0 0 h 4 [(0, .ref (al 0 0)), (1, .int s1.1), (2, .int s1.2)] []) (fun (r1 : Int32 × Int32) => ∀ h : AH, SW dmC (cfC cc) al σ h0 h → AW l D vwCl rm_C_countRuns 3 X 0 0 h 42 [(0, .ref (al 0 0)), (1, .int r1.1), (2, .int r1.2)] []) ?_ _ _ _ l1 ?_ h hG
  · intro s1 y1 E K1 K2 h hG
    refine ax_iload_n M d_G_countRuns_4 2 rfl ?_
    refine ax_aload_n M d_G_countRuns_5 0 rfl ?_
    refine sw_get M hG 0 0 (by decide) in_G rfl rfl 6 (by decide) wd_158 rfl d_G_countRuns_6 ?_
    refine ax_icmp_ge (tgt := 42) M d_G_countRuns_9 (by decide) (fun c1 => ?_) (fun c1 => ?_)
    · have E := ob_t E c1
      obtain rfl := Option.some.inj E
      refine ax_lv (lv' := [(0, .ref (al 0 0)), (1, .int s1.1), (2, .int s1.2)]) [0, 1, 2] rfl ?_
      exact (K2 _ rfl) h hG
    · have E := ob_f E c1
      refine ax_iload_n M d_G_countRuns_12 2 rfl ?_
      refine ax_if_eq (tgt := 33) M d_G_countRuns_13 (by decide) (fun c2 => ?_) (fun c2 => ?_)
      · have E := ob_t E c2
        refine ax_iinc (v := s1.1 + 1) (lv' := [(0, .ref (al 0 0)), (1, .int (s1.1 + 1)), (2, .int s1.2)]) M d_G_countRuns_33 1 rfl rfl (by decide) [1, 0, 2] rfl ?_
        refine ax_iinc (v := s1.2 + 1) (lv' := [(0, .ref (al 0 0)), (1, .int (s1.1 + 1)), (2, .int (s1.2 + 1))]) M d_G_countRuns_36 2 rfl rfl (by decide) [1, 2, 0] rfl ?_
        refine ax_goto (tgt := 4) M d_G_countRuns_39 (by decide) ?_
        obtain rfl := Option.some.inj E
        refine ax_lv (lv' := [(0, .ref (al 0 0)), (1, .int (s1.1 + 1)), (2, .int (s1.2 + 1))]) [0, 1, 2] rfl ?_
        exact K1 _ rfl h hG
      · have E := ob_f E c2
        refine ax_aload_n M d_G_countRuns_16 0 rfl ?_
        refine sw_get M hG 0 0 (by decide) in_G rfl rfl 4 (by decide) wd_156 rfl d_G_countRuns_17 ?_
        refine ax_iload_n M d_G_countRuns_20 2 rfl ?_
        obtain ⟨k1, E⟩ := ob_c E
        refine sw_iald M hG 8 0 (by decide) rfl 0 rfl k1 d_G_countRuns_21 ?_
        refine ax_aload_n M d_G_countRuns_22 0 rfl ?_
        refine sw_get M hG 0 0 (by decide) in_G rfl rfl 4 (by decide) wd_156 rfl d_G_countRuns_23 ?_
        refine ax_iload_n M d_G_countRuns_26 2 rfl ?_
        refine ax_iconst (v := 1) M d_G_countRuns_27 (by decide) ?_
        refine ax_isub M d_G_countRuns_28 ?_
        obtain ⟨k2, E⟩ := ob_c E
        refine sw_iald M hG 8 0 (by decide) rfl 0 rfl k2 d_G_countRuns_29 ?_
        refine ax_icmp_eq (tgt := 36) M d_G_countRuns_30 (by decide) (fun c3 => ?_) (fun c3 => ?_)
        · have E := ob_t E c3
          refine ax_iinc (v := s1.2 + 1) (lv' := [(0, .ref (al 0 0)), (1, .int s1.1), (2, .int (s1.2 + 1))]) M d_G_countRuns_36 2 rfl rfl (by decide) [1, 2, 0] rfl ?_
          refine ax_goto (tgt := 4) M d_G_countRuns_39 (by decide) ?_
          obtain rfl := Option.some.inj E
          refine ax_lv (lv' := [(0, .ref (al 0 0)), (1, .int s1.1), (2, .int (s1.2 + 1))]) [0, 1, 2] rfl ?_
          exact K1 _ rfl h hG
        · have E := ob_f E c3
          refine ax_iinc (v := s1.1 + 1) (lv' := [(0, .ref (al 0 0)), (1, .int (s1.1 + 1)), (2, .int s1.2)]) M d_G_countRuns_33 1 rfl rfl (by decide) [1, 0, 2] rfl ?_
          refine ax_iinc (v := s1.2 + 1) (lv' := [(0, .ref (al 0 0)), (1, .int (s1.1 + 1)), (2, .int (s1.2 + 1))]) M d_G_countRuns_36 2 rfl rfl (by decide) [1, 2, 0] rfl ?_
          refine ax_goto (tgt := 4) M d_G_countRuns_39 (by decide) ?_
          obtain rfl := Option.some.inj E
          refine ax_lv (lv' := [(0, .ref (al 0 0)), (1, .int (s1.1 + 1)), (2, .int (s1.2 + 1))]) [0, 1, 2] rfl ?_
          exact K1 _ rfl h hG
  · intro h hG
    refine ax_iload_n M d_G_countRuns_42 1 rfl ?_
    obtain rfl := Option.some.inj E
    exact ax_iret M hR (by decide) (by decide) d_G_countRuns_43 ⟨rfl, hG⟩
def C_sumOfPeaks (σ : ST) : Option (Int32) :=
  (lp (fun s1 : Int32 × Int32 =>
  if (gi σ 0 0 5) ≤ s1.2 then
  (some (.inr ((s1.1, s1.2)))) else
  (if inb s1.2 12 then 
  (if ix (gi σ 5 0 (ix s1.2)) < 12 then 
  (some (.inl ((s1.1 + (gi σ 2 (ix (gi σ 5 0 (ix s1.2))) 8), s1.2 + 1)))) else none) else none)) 100 ((0, 0))).bind (fun r1 : Int32 × Int32 =>
  some r1.1)
abbrev rm_C_sumOfPeaks : Room := { frames := 0, cells := 0, slots := 0, locals := 0 }
set_option maxRecDepth 100000 in
set_option maxHeartbeats 4000000 in
theorem ac_C_sumOfPeaks {l : Launch} {D : va_G} {cc : Nat → ClassId} {al : Nat → Nat → Nat} {σ : ST} {h0 h : AH}  {res : Int32}  (hG : SW dmC (cfC cc) al σ h0 h) (E : C_sumOfPeaks σ = some res) : AC l D vwCl (tysOf cc) NN y_G_sumOfPeaks (Cond.code y_G_sumOfPeaks b_G_sumOfPeaks 3 (some .int) :: TT) rm_C_sumOfPeaks [.ref (al 0 0)] h (fun rv h' => rv = some (.int res) ∧ SW dmC (cfC cc) al σ h0 h') := by
  refine AC.of (by decide) rfl (Nat.le_of_ble_eq_true rfl) (fun X M hR hI => ?_)
  unfold C_sumOfPeaks at E
  refine ax_lv (lv' := [(0, .ref (al 0 0))]) [0] rfl ?_
  refine ax_iconst (v := 0) M d_G_sumOfPeaks_0 (by decide) ?_
  refine ax_istore_n (lv' := [(0, .ref (al 0 0)), (1, .int 0)]) M d_G_sumOfPeaks_1 (by decide) [1, 0] rfl ?_
  refine ax_iconst (v := 0) M d_G_sumOfPeaks_2 (by decide) ?_
  refine ax_istore_n (lv' := [(0, .ref (al 0 0)), (1, .int 0), (2, .int 0)]) M d_G_sumOfPeaks_3 (by decide) [1, 2, 0] rfl ?_
  refine ax_lv (lv' := [(0, .ref (al 0 0)), (1, .int 0), (2, .int 0)]) [0, 1, 2] rfl ?_
  obtain ⟨r1, l1, E⟩ := ob_b E
  refine lp_walk (fun (s1 : Int32 × Int32) => ∀ h : AH, SW dmC (cfC cc) al σ h0 h → AW l D vwCl rm_C_sumOfPeaks 3 X 0 0 h 4 [(0, .ref (al 0 0)), (1, .int s1.1), (2, .int s1.2)] []) (fun (r1 : Int32 × Int32) => ∀ h : AH, SW dmC (cfC cc) al σ h0 h → AW l D vwCl rm_C_sumOfPeaks 3 X 0 0 h 30 [(0, .ref (al 0 0)), (1, .int r1.1), (2, .int r1.2)] []) ?_ _ _ _ l1 ?_ h hG
  · intro s1 y1 E K1 K2 h hG
    refine ax_iload_n M d_G_sumOfPeaks_4 2 rfl ?_
    refine ax_aload_n M d_G_sumOfPeaks_5 0 rfl ?_
    refine sw_get M hG 0 0 (by decide) in_G rfl rfl 5 (by decide) wd_157 rfl d_G_sumOfPeaks_6 ?_
    refine ax_icmp_ge (tgt := 30) M d_G_sumOfPeaks_9 (by decide) (fun c1 => ?_) (fun c1 => ?_)
    · have E := ob_t E c1
      obtain rfl := Option.some.inj E
      refine ax_lv (lv' := [(0, .ref (al 0 0)), (1, .int s1.1), (2, .int s1.2)]) [0, 1, 2] rfl ?_
      exact (K2 _ rfl) h hG
    · have E := ob_f E c1
      refine ax_iload_n M d_G_sumOfPeaks_12 1 rfl ?_
      refine ax_aload_n M d_G_sumOfPeaks_13 0 rfl ?_
      refine sw_get M hG 0 0 (by decide) in_G rfl rfl 1 (by decide) wd_153 rfl d_G_sumOfPeaks_14 ?_
      refine ax_iload_n M d_G_sumOfPeaks_17 2 rfl ?_
      obtain ⟨k1, E⟩ := ob_c E
      refine sw_aldq (g := fun e => ix (gi σ 5 0 e)) M hG 5 0 (by decide) rfl 2 rfl rfl k1 d_G_sumOfPeaks_18 ?_
      obtain ⟨k2, E⟩ := ob_c E
      refine sw_getN M hG 2 (ix (gi σ 5 0 (ix s1.2))) k2 in_E rfl rfl 8 (by decide) wd_132 rfl d_G_sumOfPeaks_19 ?_
      refine ax_iadd M d_G_sumOfPeaks_22 ?_
      refine ax_istore_n (lv' := [(0, .ref (al 0 0)), (1, .int (s1.1 + (gi σ 2 (ix (gi σ 5 0 (ix s1.2))) 8))), (2, .int s1.2)]) M d_G_sumOfPeaks_23 (by decide) [1, 0, 2] rfl ?_
      refine ax_iinc (v := s1.2 + 1) (lv' := [(0, .ref (al 0 0)), (1, .int (s1.1 + (gi σ 2 (ix (gi σ 5 0 (ix s1.2))) 8))), (2, .int (s1.2 + 1))]) M d_G_sumOfPeaks_24 2 rfl rfl (by decide) [1, 2, 0] rfl ?_
      refine ax_goto (tgt := 4) M d_G_sumOfPeaks_27 (by decide) ?_
      obtain rfl := Option.some.inj E
      refine ax_lv (lv' := [(0, .ref (al 0 0)), (1, .int (s1.1 + (gi σ 2 (ix (gi σ 5 0 (ix s1.2))) 8))), (2, .int (s1.2 + 1))]) [0, 1, 2] rfl ?_
      exact K1 _ rfl h hG
  · intro h hG
    refine ax_iload_n M d_G_sumOfPeaks_30 1 rfl ?_
    obtain rfl := Option.some.inj E
    exact ax_iret M hR (by decide) (by decide) d_G_sumOfPeaks_31 ⟨rfl, hG⟩
def C_sumOfTokens (σ : ST) : Option (Int32) :=
  (lp (fun s1 : Int32 × Int32 =>
  if (gi σ 0 0 5) ≤ s1.2 then
  (some (.inr ((s1.1, s1.2)))) else
  (if inb s1.2 12 then 
  (if ix (gi σ 5 0 (ix s1.2)) < 12 then 
  (some (.inl ((s1.1 + (gi σ 2 (ix (gi σ 5 0 (ix s1.2))) 7), s1.2 + 1)))) else none) else none)) 100 ((0, 0))).bind (fun r1 : Int32 × Int32 =>
  some r1.1)
abbrev rm_C_sumOfTokens : Room := { frames := 0, cells := 0, slots := 0, locals := 0 }
set_option maxRecDepth 100000 in
set_option maxHeartbeats 4000000 in
theorem ac_C_sumOfTokens {l : Launch} {D : va_G} {cc : Nat → ClassId} {al : Nat → Nat → Nat} {σ : ST} {h0 h : AH}  {res : Int32}  (hG : SW dmC (cfC cc) al σ h0 h) (E : C_sumOfTokens σ = some res) : AC l D vwCl (tysOf cc) NN y_G_sumOfTokens (Cond.code y_G_sumOfTokens b_G_sumOfTokens 3 (some .int) :: TT) rm_C_sumOfTokens [.ref (al 0 0)] h (fun rv h' => rv = some (.int res) ∧ SW dmC (cfC cc) al σ h0 h') := by
  refine AC.of (by decide) rfl (Nat.le_of_ble_eq_true rfl) (fun X M hR hI => ?_)
  unfold C_sumOfTokens at E
  refine ax_lv (lv' := [(0, .ref (al 0 0))]) [0] rfl ?_
  refine ax_iconst (v := 0) M d_G_sumOfTokens_0 (by decide) ?_
  refine ax_istore_n (lv' := [(0, .ref (al 0 0)), (1, .int 0)]) M d_G_sumOfTokens_1 (by decide) [1, 0] rfl ?_
  refine ax_iconst (v := 0) M d_G_sumOfTokens_2 (by decide) ?_
  refine ax_istore_n (lv' := [(0, .ref (al 0 0)), (1, .int 0), (2, .int 0)]) M d_G_sumOfTokens_3 (by decide) [1, 2, 0] rfl ?_
  refine ax_lv (lv' := [(0, .ref (al 0 0)), (1, .int 0), (2, .int 0)]) [0, 1, 2] rfl ?_
  obtain ⟨r1, l1, E⟩ := ob_b E
  refine lp_walk (fun (s1 : Int32 × Int32) => ∀ h : AH, SW dmC (cfC cc) al σ h0 h → AW l D vwCl rm_C_sumOfTokens 3 X 0 0 h 4 [(0, .ref (al 0 0)), (1, .int s1.1), (2, .int s1.2)] []) (fun (r1 : Int32 × Int32) => ∀ h : AH, SW dmC (cfC cc) al σ h0 h → AW l D vwCl rm_C_sumOfTokens 3 X 0 0 h 30 [(0, .ref (al 0 0)), (1, .int r1.1), (2, .int r1.2)] []) ?_ _ _ _ l1 ?_ h hG
  · intro s1 y1 E K1 K2 h hG
    refine ax_iload_n M d_G_sumOfTokens_4 2 rfl ?_
    refine ax_aload_n M d_G_sumOfTokens_5 0 rfl ?_
    refine sw_get M hG 0 0 (by decide) in_G rfl rfl 5 (by decide) wd_157 rfl d_G_sumOfTokens_6 ?_
    refine ax_icmp_ge (tgt := 30) M d_G_sumOfTokens_9 (by decide) (fun c1 => ?_) (fun c1 => ?_)
    · have E := ob_t E c1
      obtain rfl := Option.some.inj E
      refine ax_lv (lv' := [(0, .ref (al 0 0)), (1, .int s1.1), (2, .int s1.2)]) [0, 1, 2] rfl ?_
      exact (K2 _ rfl) h hG
    · have E := ob_f E c1
      refine ax_iload_n M d_G_sumOfTokens_12 1 rfl ?_
      refine ax_aload_n M d_G_sumOfTokens_13 0 rfl ?_
      refine sw_get M hG 0 0 (by decide) in_G rfl rfl 1 (by decide) wd_153 rfl d_G_sumOfTokens_14 ?_
      refine ax_iload_n M d_G_sumOfTokens_17 2 rfl ?_
      obtain ⟨k1, E⟩ := ob_c E
      refine sw_aldq (g := fun e => ix (gi σ 5 0 e)) M hG 5 0 (by decide) rfl 2 rfl rfl k1 d_G_sumOfTokens_18 ?_
      obtain ⟨k2, E⟩ := ob_c E
      refine sw_getN M hG 2 (ix (gi σ 5 0 (ix s1.2))) k2 in_E rfl rfl 7 (by decide) wd_131 rfl d_G_sumOfTokens_19 ?_
      refine ax_iadd M d_G_sumOfTokens_22 ?_
      refine ax_istore_n (lv' := [(0, .ref (al 0 0)), (1, .int (s1.1 + (gi σ 2 (ix (gi σ 5 0 (ix s1.2))) 7))), (2, .int s1.2)]) M d_G_sumOfTokens_23 (by decide) [1, 0, 2] rfl ?_
      refine ax_iinc (v := s1.2 + 1) (lv' := [(0, .ref (al 0 0)), (1, .int (s1.1 + (gi σ 2 (ix (gi σ 5 0 (ix s1.2))) 7))), (2, .int (s1.2 + 1))]) M d_G_sumOfTokens_24 2 rfl rfl (by decide) [1, 2, 0] rfl ?_
      refine ax_goto (tgt := 4) M d_G_sumOfTokens_27 (by decide) ?_
      obtain rfl := Option.some.inj E
      refine ax_lv (lv' := [(0, .ref (al 0 0)), (1, .int (s1.1 + (gi σ 2 (ix (gi σ 5 0 (ix s1.2))) 7))), (2, .int (s1.2 + 1))]) [0, 1, 2] rfl ?_
      exact K1 _ rfl h hG
  · intro h hG
    refine ax_iload_n M d_G_sumOfTokens_30 1 rfl ?_
    obtain rfl := Option.some.inj E
    exact ax_iret M hR (by decide) (by decide) d_G_sumOfTokens_31 ⟨rfl, hG⟩
def C_count (σ : ST) (x1 : Int32) : Option (Int32 × ST) :=
  if x1 = 0 then
  ((C_countActors σ).bind (fun b1 => 
  (some ((b1, σ))))) else
  (if x1 = 1 then
  (some ((gi σ 0 0 5, σ))) else
  (if x1 = 2 then
  ((C_countParts σ).bind (fun b2 => 
  (some ((b2.1, b2.2))))) else
  (if x1 = 3 then
  (if (gi σ 0 0 8) = 0 then
  (some ((0, σ))) else
  (some ((1, σ)))) else
  (if x1 = 4 then
  (if (gi σ 0 0 8) = 0 then
  (some ((0, σ))) else
  (some ((gi σ 0 0 6, σ)))) else
  (if x1 = 5 then
  (if (gi σ 0 0 8) = 0 then
  (some ((0, σ))) else
  ((C_countRuns σ).bind (fun b3 => 
  (some ((b3, σ)))))) else
  (if x1 = 6 then
  (if (gi σ 0 0 8) = 0 then
  (some ((0, σ))) else
  ((C_sumOfPeaks σ).bind (fun b4 => 
  (some ((b4, σ)))))) else
  (if x1 = 7 then
  (if (gi σ 0 0 8) = 0 then
  (some ((0, σ))) else
  (some ((gi σ 0 0 7, σ)))) else
  (if x1 = 8 then
  (if (gi σ 0 0 8) = 0 then
  (some ((0, σ))) else
  ((C_sumOfTokens σ).bind (fun b5 => 
  (some ((b5, σ)))))) else
  (some ((-1, σ)))))))))))
abbrev rm_C_count : Room := { frames := 2, cells := 0, slots := 0, locals := 47 }
set_option maxRecDepth 100000 in
set_option maxHeartbeats 4000000 in
theorem ac_C_count {l : Launch} {D : va_G} {cc : Nat → ClassId} {al : Nat → Nat → Nat} {σ : ST} {h0 h : AH} {x1 : Int32} {res : Int32 × ST}  (hG : SW dmC (cfC cc) al σ h0 h) (E : C_count σ x1 = some res) : AC l D vwCl (tysOf cc) NN y_G_count (Cond.code y_G_count b_G_count 2 (some .int) :: TT) rm_C_count [.ref (al 0 0), .int x1] h (fun rv h' => rv = some (.int res.1) ∧ SW dmC (cfC cc) al res.2 h0 h') := by
  refine AC.of (by decide) rfl (Nat.le_of_ble_eq_true rfl) (fun X M hR hI => ?_)
  unfold C_count at E
  refine ax_lv (lv' := [(0, .ref (al 0 0)), (1, .int x1)]) [0, 1] rfl ?_
  refine ax_iload_n M d_G_count_0 1 rfl ?_
  by_cases c1_0 : x1 = 0
  · have E := ob_t E c1_0
    refine ax_tableIn (tgt := 52) M d_G_count_1 (by rw [c1_0]; decide) (by rw [c1_0]; decide) (by rw [c1_0]; rfl) (by decide) ?_
    refine ax_aload_n M d_G_count_52 0 rfl ?_
    obtain ⟨b1, e1, E⟩ := ob_b E
    refine ax_callV (n := 0) (C := R_G) (q := (R_G, F_G, 9)) M TT_good rfl rfl (SW.at hG 0 0 (by decide)) (ac_C_countActors hG e1) lm_G_78 (by decide) (by decide) rfl rfl (Nat.le_of_ble_eq_true rfl) d_G_count_53 (by decide) (c1 := 0) (s1 := 0) (by decide) (ax_ret_i (fun h hG => ?_))
    obtain rfl := Option.some.inj E
    exact ax_iret M hR (by decide) (by decide) d_G_count_56 ⟨rfl, hG⟩
  · have E := ob_f E c1_0
    by_cases c1_1 : x1 = 1
    · have E := ob_t E c1_1
      refine ax_tableIn (tgt := 57) M d_G_count_1 (by rw [c1_1]; decide) (by rw [c1_1]; decide) (by rw [c1_1]; rfl) (by decide) ?_
      refine ax_aload_n M d_G_count_57 0 rfl ?_
      refine sw_get M hG 0 0 (by decide) in_G rfl rfl 5 (by decide) wd_157 rfl d_G_count_58 ?_
      obtain rfl := Option.some.inj E
      exact ax_iret M hR (by decide) (by decide) d_G_count_61 ⟨rfl, hG⟩
    · have E := ob_f E c1_1
      by_cases c1_2 : x1 = 2
      · have E := ob_t E c1_2
        refine ax_tableIn (tgt := 62) M d_G_count_1 (by rw [c1_2]; decide) (by rw [c1_2]; decide) (by rw [c1_2]; rfl) (by decide) ?_
        refine ax_aload_n M d_G_count_62 0 rfl ?_
        obtain ⟨b2, e2, E⟩ := ob_b E
        refine ax_callV (n := 0) (C := R_G) (q := (R_G, F_G, 9)) M TT_good rfl rfl (SW.at hG 0 0 (by decide)) (ac_C_countParts hG e2) lm_G_129 (by decide) (by decide) rfl rfl (Nat.le_of_ble_eq_true rfl) d_G_count_63 (by decide) (c1 := 0) (s1 := 0) (by decide) (ax_ret_i (fun h hG => ?_))
        obtain rfl := Option.some.inj E
        exact ax_iret M hR (by decide) (by decide) d_G_count_66 ⟨rfl, hG⟩
      · have E := ob_f E c1_2
        by_cases c1_3 : x1 = 3
        · have E := ob_t E c1_3
          refine ax_tableIn (tgt := 67) M d_G_count_1 (by rw [c1_3]; decide) (by rw [c1_3]; decide) (by rw [c1_3]; rfl) (by decide) ?_
          refine ax_aload_n M d_G_count_67 0 rfl ?_
          refine sw_get M hG 0 0 (by decide) in_G rfl rfl 8 (by decide) wd_160 rfl d_G_count_68 ?_
          refine ax_if_eq (tgt := 78) M d_G_count_71 (by decide) (fun c2 => ?_) (fun c2 => ?_)
          · have E := ob_t E c2
            refine ax_iconst (v := 0) M d_G_count_78 (by decide) ?_
            obtain rfl := Option.some.inj E
            exact ax_iret M hR (by decide) (by decide) d_G_count_79 ⟨rfl, hG⟩
          · have E := ob_f E c2
            refine ax_iconst (v := 1) M d_G_count_74 (by decide) ?_
            refine ax_goto (tgt := 79) M d_G_count_75 (by decide) ?_
            obtain rfl := Option.some.inj E
            exact ax_iret M hR (by decide) (by decide) d_G_count_79 ⟨rfl, hG⟩
        · have E := ob_f E c1_3
          by_cases c1_4 : x1 = 4
          · have E := ob_t E c1_4
            refine ax_tableIn (tgt := 80) M d_G_count_1 (by rw [c1_4]; decide) (by rw [c1_4]; decide) (by rw [c1_4]; rfl) (by decide) ?_
            refine ax_aload_n M d_G_count_80 0 rfl ?_
            refine sw_get M hG 0 0 (by decide) in_G rfl rfl 8 (by decide) wd_160 rfl d_G_count_81 ?_
            refine ax_if_eq (tgt := 94) M d_G_count_84 (by decide) (fun c3 => ?_) (fun c3 => ?_)
            · have E := ob_t E c3
              refine ax_iconst (v := 0) M d_G_count_94 (by decide) ?_
              obtain rfl := Option.some.inj E
              exact ax_iret M hR (by decide) (by decide) d_G_count_95 ⟨rfl, hG⟩
            · have E := ob_f E c3
              refine ax_aload_n M d_G_count_87 0 rfl ?_
              refine sw_get M hG 0 0 (by decide) in_G rfl rfl 6 (by decide) wd_158 rfl d_G_count_88 ?_
              refine ax_goto (tgt := 95) M d_G_count_91 (by decide) ?_
              obtain rfl := Option.some.inj E
              exact ax_iret M hR (by decide) (by decide) d_G_count_95 ⟨rfl, hG⟩
          · have E := ob_f E c1_4
            by_cases c1_5 : x1 = 5
            · have E := ob_t E c1_5
              refine ax_tableIn (tgt := 96) M d_G_count_1 (by rw [c1_5]; decide) (by rw [c1_5]; decide) (by rw [c1_5]; rfl) (by decide) ?_
              refine ax_aload_n M d_G_count_96 0 rfl ?_
              refine sw_get M hG 0 0 (by decide) in_G rfl rfl 8 (by decide) wd_160 rfl d_G_count_97 ?_
              refine ax_if_eq (tgt := 110) M d_G_count_100 (by decide) (fun c4 => ?_) (fun c4 => ?_)
              · have E := ob_t E c4
                refine ax_iconst (v := 0) M d_G_count_110 (by decide) ?_
                obtain rfl := Option.some.inj E
                exact ax_iret M hR (by decide) (by decide) d_G_count_111 ⟨rfl, hG⟩
              · have E := ob_f E c4
                refine ax_aload_n M d_G_count_103 0 rfl ?_
                obtain ⟨b3, e3, E⟩ := ob_b E
                refine ax_callV (n := 0) (C := R_G) (q := (R_G, F_G, 9)) M TT_good rfl rfl (SW.at hG 0 0 (by decide)) (ac_C_countRuns hG e3) lm_G_132 (by decide) (by decide) rfl rfl (Nat.le_of_ble_eq_true rfl) d_G_count_104 (by decide) (c1 := 0) (s1 := 0) (by decide) (ax_ret_i (fun h hG => ?_))
                refine ax_goto (tgt := 111) M d_G_count_107 (by decide) ?_
                obtain rfl := Option.some.inj E
                exact ax_iret M hR (by decide) (by decide) d_G_count_111 ⟨rfl, hG⟩
            · have E := ob_f E c1_5
              by_cases c1_6 : x1 = 6
              · have E := ob_t E c1_6
                refine ax_tableIn (tgt := 112) M d_G_count_1 (by rw [c1_6]; decide) (by rw [c1_6]; decide) (by rw [c1_6]; rfl) (by decide) ?_
                refine ax_aload_n M d_G_count_112 0 rfl ?_
                refine sw_get M hG 0 0 (by decide) in_G rfl rfl 8 (by decide) wd_160 rfl d_G_count_113 ?_
                refine ax_if_eq (tgt := 126) M d_G_count_116 (by decide) (fun c5 => ?_) (fun c5 => ?_)
                · have E := ob_t E c5
                  refine ax_iconst (v := 0) M d_G_count_126 (by decide) ?_
                  obtain rfl := Option.some.inj E
                  exact ax_iret M hR (by decide) (by decide) d_G_count_127 ⟨rfl, hG⟩
                · have E := ob_f E c5
                  refine ax_aload_n M d_G_count_119 0 rfl ?_
                  obtain ⟨b4, e4, E⟩ := ob_b E
                  refine ax_callV (n := 0) (C := R_G) (q := (R_G, F_G, 9)) M TT_good rfl rfl (SW.at hG 0 0 (by decide)) (ac_C_sumOfPeaks hG e4) lm_G_135 (by decide) (by decide) rfl rfl (Nat.le_of_ble_eq_true rfl) d_G_count_120 (by decide) (c1 := 0) (s1 := 0) (by decide) (ax_ret_i (fun h hG => ?_))
                  refine ax_goto (tgt := 127) M d_G_count_123 (by decide) ?_
                  obtain rfl := Option.some.inj E
                  exact ax_iret M hR (by decide) (by decide) d_G_count_127 ⟨rfl, hG⟩
              · have E := ob_f E c1_6
                by_cases c1_7 : x1 = 7
                · have E := ob_t E c1_7
                  refine ax_tableIn (tgt := 128) M d_G_count_1 (by rw [c1_7]; decide) (by rw [c1_7]; decide) (by rw [c1_7]; rfl) (by decide) ?_
                  refine ax_aload_n M d_G_count_128 0 rfl ?_
                  refine sw_get M hG 0 0 (by decide) in_G rfl rfl 8 (by decide) wd_160 rfl d_G_count_129 ?_
                  refine ax_if_eq (tgt := 142) M d_G_count_132 (by decide) (fun c6 => ?_) (fun c6 => ?_)
                  · have E := ob_t E c6
                    refine ax_iconst (v := 0) M d_G_count_142 (by decide) ?_
                    obtain rfl := Option.some.inj E
                    exact ax_iret M hR (by decide) (by decide) d_G_count_143 ⟨rfl, hG⟩
                  · have E := ob_f E c6
                    refine ax_aload_n M d_G_count_135 0 rfl ?_
                    refine sw_get M hG 0 0 (by decide) in_G rfl rfl 7 (by decide) wd_159 rfl d_G_count_136 ?_
                    refine ax_goto (tgt := 143) M d_G_count_139 (by decide) ?_
                    obtain rfl := Option.some.inj E
                    exact ax_iret M hR (by decide) (by decide) d_G_count_143 ⟨rfl, hG⟩
                · have E := ob_f E c1_7
                  by_cases c1_8 : x1 = 8
                  · have E := ob_t E c1_8
                    refine ax_tableIn (tgt := 144) M d_G_count_1 (by rw [c1_8]; decide) (by rw [c1_8]; decide) (by rw [c1_8]; rfl) (by decide) ?_
                    refine ax_aload_n M d_G_count_144 0 rfl ?_
                    refine sw_get M hG 0 0 (by decide) in_G rfl rfl 8 (by decide) wd_160 rfl d_G_count_145 ?_
                    refine ax_if_eq (tgt := 158) M d_G_count_148 (by decide) (fun c7 => ?_) (fun c7 => ?_)
                    · have E := ob_t E c7
                      refine ax_iconst (v := 0) M d_G_count_158 (by decide) ?_
                      obtain rfl := Option.some.inj E
                      exact ax_iret M hR (by decide) (by decide) d_G_count_159 ⟨rfl, hG⟩
                    · have E := ob_f E c7
                      refine ax_aload_n M d_G_count_151 0 rfl ?_
                      obtain ⟨b5, e5, E⟩ := ob_b E
                      refine ax_callV (n := 0) (C := R_G) (q := (R_G, F_G, 9)) M TT_good rfl rfl (SW.at hG 0 0 (by decide)) (ac_C_sumOfTokens hG e5) lm_G_138 (by decide) (by decide) rfl rfl (Nat.le_of_ble_eq_true rfl) d_G_count_152 (by decide) (c1 := 0) (s1 := 0) (by decide) (ax_ret_i (fun h hG => ?_))
                      refine ax_goto (tgt := 159) M d_G_count_155 (by decide) ?_
                      obtain rfl := Option.some.inj E
                      exact ax_iret M hR (by decide) (by decide) d_G_count_159 ⟨rfl, hG⟩
                  · have E := ob_f E c1_8
                    refine ax_tableOut (tgt := 160) M d_G_count_1 (so_0_8 c1_0 c1_1 c1_2 c1_3 c1_4 c1_5 c1_6 c1_7 c1_8) (by decide) ?_
                    refine ax_iconst (v := (-1)) M d_G_count_160 (by decide) ?_
                    obtain rfl := Option.some.inj E
                    exact ax_iret M hR (by decide) (by decide) d_G_count_161 ⟨rfl, hG⟩
end
