section
-- ===== PART A: goes FIRST, ahead of the names: the tables' words, and 'selects' of the private methods out of them =====
/-- a private method of a class that the tables say can be made, by its rows of tables_1 -/
def lw_okq (q : MethodName × Nat) : Prop := (q.1.cls ≠ "java/lang/invoke/MethodHandle" ∧ q.1.cls ≠ "java/lang/invoke/VarHandle") ∧ Cond.instantiable q.1.cls q.2 ∈ tables_1 ∧ Cond.privateMethod q.1 ∈ tables_1 ∧ Cond.instanceMethod q.1 ∈ tables_1
theorem lw_p0 : lw_okq (⟨"RateGraph", "isActor", "(I)Z"⟩, 9) := ⟨⟨by decide +kernel, by decide +kernel⟩, List.mem_of_getElem? (i := 7) (by decide +kernel), List.mem_of_getElem? (i := 142) (by decide +kernel), List.mem_of_getElem? (i := 143) (by decide +kernel)⟩
theorem lw_p1 : lw_okq (⟨"RateGraph", "isEdge", "(I)Z"⟩, 9) := ⟨⟨by decide +kernel, by decide +kernel⟩, List.mem_of_getElem? (i := 7) (by decide +kernel), List.mem_of_getElem? (i := 150) (by decide +kernel), List.mem_of_getElem? (i := 151) (by decide +kernel)⟩
theorem lw_p2 : lw_okq (⟨"RateGraph", "countActors", "()I"⟩, 9) := ⟨⟨by decide +kernel, by decide +kernel⟩, List.mem_of_getElem? (i := 7) (by decide +kernel), List.mem_of_getElem? (i := 158) (by decide +kernel), List.mem_of_getElem? (i := 159) (by decide +kernel)⟩
theorem lw_p3 : lw_okq (⟨"RateGraph", "findCulprit", "()I"⟩, 9) := ⟨⟨by decide +kernel, by decide +kernel⟩, List.mem_of_getElem? (i := 7) (by decide +kernel), List.mem_of_getElem? (i := 162) (by decide +kernel), List.mem_of_getElem? (i := 163) (by decide +kernel)⟩
theorem lw_p4 : lw_okq (⟨"RateGraph", "makePartsOfOne", "()V"⟩, 9) := ⟨⟨by decide +kernel, by decide +kernel⟩, List.mem_of_getElem? (i := 7) (by decide +kernel), List.mem_of_getElem? (i := 166) (by decide +kernel), List.mem_of_getElem? (i := 167) (by decide +kernel)⟩
theorem lw_p5 : lw_okq (⟨"RateGraph", "balance", "(LRateGraph$Edge;)Z"⟩, 9) := ⟨⟨by decide +kernel, by decide +kernel⟩, List.mem_of_getElem? (i := 7) (by decide +kernel), List.mem_of_getElem? (i := 170) (by decide +kernel), List.mem_of_getElem? (i := 171) (by decide +kernel)⟩
theorem lw_p6 : lw_okq (⟨"RateGraph", "scalePart", "(II)V"⟩, 9) := ⟨⟨by decide +kernel, by decide +kernel⟩, List.mem_of_getElem? (i := 7) (by decide +kernel), List.mem_of_getElem? (i := 180) (by decide +kernel), List.mem_of_getElem? (i := 181) (by decide +kernel)⟩
theorem lw_p7 : lw_okq (⟨"RateGraph", "joinParts", "(II)V"⟩, 9) := ⟨⟨by decide +kernel, by decide +kernel⟩, List.mem_of_getElem? (i := 7) (by decide +kernel), List.mem_of_getElem? (i := 184) (by decide +kernel), List.mem_of_getElem? (i := 185) (by decide +kernel)⟩
theorem lw_p8 : lw_okq (⟨"RateGraph", "keepRepetitions", "()I"⟩, 9) := ⟨⟨by decide +kernel, by decide +kernel⟩, List.mem_of_getElem? (i := 7) (by decide +kernel), List.mem_of_getElem? (i := 188) (by decide +kernel), List.mem_of_getElem? (i := 189) (by decide +kernel)⟩
theorem lw_p9 : lw_okq (⟨"RateGraph", "makeSchedule", "(I)I"⟩, 9) := ⟨⟨by decide +kernel, by decide +kernel⟩, List.mem_of_getElem? (i := 7) (by decide +kernel), List.mem_of_getElem? (i := 192) (by decide +kernel), List.mem_of_getElem? (i := 193) (by decide +kernel)⟩
theorem lw_p10 : lw_okq (⟨"RateGraph", "choose", "(II)I"⟩, 9) := ⟨⟨by decide +kernel, by decide +kernel⟩, List.mem_of_getElem? (i := 7) (by decide +kernel), List.mem_of_getElem? (i := 196) (by decide +kernel), List.mem_of_getElem? (i := 197) (by decide +kernel)⟩
theorem lw_p11 : lw_okq (⟨"RateGraph", "chooseFewestTokens", "()I"⟩, 9) := ⟨⟨by decide +kernel, by decide +kernel⟩, List.mem_of_getElem? (i := 7) (by decide +kernel), List.mem_of_getElem? (i := 200) (by decide +kernel), List.mem_of_getElem? (i := 201) (by decide +kernel)⟩
theorem lw_p12 : lw_okq (⟨"RateGraph", "canFire", "(I)Z"⟩, 9) := ⟨⟨by decide +kernel, by decide +kernel⟩, List.mem_of_getElem? (i := 7) (by decide +kernel), List.mem_of_getElem? (i := 204) (by decide +kernel), List.mem_of_getElem? (i := 205) (by decide +kernel)⟩
theorem lw_p13 : lw_okq (⟨"RateGraph$Actor", "isDue", "()Z"⟩, 10) := ⟨⟨by decide +kernel, by decide +kernel⟩, List.mem_of_getElem? (i := 20) (by decide +kernel), List.mem_of_getElem? (i := 208) (by decide +kernel), List.mem_of_getElem? (i := 209) (by decide +kernel)⟩
theorem lw_p14 : lw_okq (⟨"RateGraph", "isReady", "(I)Z"⟩, 9) := ⟨⟨by decide +kernel, by decide +kernel⟩, List.mem_of_getElem? (i := 7) (by decide +kernel), List.mem_of_getElem? (i := 212) (by decide +kernel), List.mem_of_getElem? (i := 213) (by decide +kernel)⟩
theorem lw_p15 : lw_okq (⟨"RateGraph", "tokensWonBy", "(I)I"⟩, 9) := ⟨⟨by decide +kernel, by decide +kernel⟩, List.mem_of_getElem? (i := 7) (by decide +kernel), List.mem_of_getElem? (i := 216) (by decide +kernel), List.mem_of_getElem? (i := 217) (by decide +kernel)⟩
def lw_privs_1 : List (MethodName × Nat) := [(⟨"RateGraph", "isActor", "(I)Z"⟩, 9), (⟨"RateGraph", "isEdge", "(I)Z"⟩, 9), (⟨"RateGraph", "countActors", "()I"⟩, 9), (⟨"RateGraph", "findCulprit", "()I"⟩, 9), (⟨"RateGraph", "makePartsOfOne", "()V"⟩, 9), (⟨"RateGraph", "balance", "(LRateGraph$Edge;)Z"⟩, 9), (⟨"RateGraph", "scalePart", "(II)V"⟩, 9), (⟨"RateGraph", "joinParts", "(II)V"⟩, 9), (⟨"RateGraph", "keepRepetitions", "()I"⟩, 9), (⟨"RateGraph", "makeSchedule", "(I)I"⟩, 9), (⟨"RateGraph", "choose", "(II)I"⟩, 9), (⟨"RateGraph", "chooseFewestTokens", "()I"⟩, 9), (⟨"RateGraph", "canFire", "(I)Z"⟩, 9), (⟨"RateGraph$Actor", "isDue", "()Z"⟩, 10), (⟨"RateGraph", "isReady", "(I)Z"⟩, 9), (⟨"RateGraph", "tokensWonBy", "(I)I"⟩, 9)]
theorem lw_r1 : ∀ q ∈ lw_privs_1, lw_okq q := List.forall_mem_cons.mpr ⟨lw_p0, List.forall_mem_cons.mpr ⟨lw_p1, List.forall_mem_cons.mpr ⟨lw_p2, List.forall_mem_cons.mpr ⟨lw_p3, List.forall_mem_cons.mpr ⟨lw_p4, List.forall_mem_cons.mpr ⟨lw_p5, List.forall_mem_cons.mpr ⟨lw_p6, List.forall_mem_cons.mpr ⟨lw_p7, List.forall_mem_cons.mpr ⟨lw_p8, List.forall_mem_cons.mpr ⟨lw_p9, List.forall_mem_cons.mpr ⟨lw_p10, List.forall_mem_cons.mpr ⟨lw_p11, List.forall_mem_cons.mpr ⟨lw_p12, List.forall_mem_cons.mpr ⟨lw_p13, List.forall_mem_cons.mpr ⟨lw_p14, List.forall_mem_cons.mpr ⟨lw_p15, fun _ h => absurd h List.not_mem_nil⟩⟩⟩⟩⟩⟩⟩⟩⟩⟩⟩⟩⟩⟩⟩⟩
theorem lw_p16 : lw_okq (⟨"RateGraph", "chooseFrom", "(I)I"⟩, 9) := ⟨⟨by decide +kernel, by decide +kernel⟩, List.mem_of_getElem? (i := 7) (by decide +kernel), List.mem_of_getElem? (i := 220) (by decide +kernel), List.mem_of_getElem? (i := 221) (by decide +kernel)⟩
theorem lw_p17 : lw_okq (⟨"RateGraph", "leastDue", "()I"⟩, 9) := ⟨⟨by decide +kernel, by decide +kernel⟩, List.mem_of_getElem? (i := 7) (by decide +kernel), List.mem_of_getElem? (i := 224) (by decide +kernel), List.mem_of_getElem? (i := 225) (by decide +kernel)⟩
theorem lw_p18 : lw_okq (⟨"RateGraph", "fireCounting", "(I)V"⟩, 9) := ⟨⟨by decide +kernel, by decide +kernel⟩, List.mem_of_getElem? (i := 7) (by decide +kernel), List.mem_of_getElem? (i := 228) (by decide +kernel), List.mem_of_getElem? (i := 229) (by decide +kernel)⟩
theorem lw_p19 : lw_okq (⟨"RateGraph", "setRunAsAtFirst", "()V"⟩, 9) := ⟨⟨by decide +kernel, by decide +kernel⟩, List.mem_of_getElem? (i := 7) (by decide +kernel), List.mem_of_getElem? (i := 232) (by decide +kernel), List.mem_of_getElem? (i := 233) (by decide +kernel)⟩
theorem lw_p20 : lw_okq (⟨"RateGraph$Actor", "forgetRun", "()V"⟩, 10) := ⟨⟨by decide +kernel, by decide +kernel⟩, List.mem_of_getElem? (i := 20) (by decide +kernel), List.mem_of_getElem? (i := 236) (by decide +kernel), List.mem_of_getElem? (i := 237) (by decide +kernel)⟩
theorem lw_p21 : lw_okq (⟨"RateGraph$Edge", "setAsAtFirst", "()V"⟩, 9) := ⟨⟨by decide +kernel, by decide +kernel⟩, List.mem_of_getElem? (i := 63) (by decide +kernel), List.mem_of_getElem? (i := 240) (by decide +kernel), List.mem_of_getElem? (i := 241) (by decide +kernel)⟩
theorem lw_p22 : lw_okq (⟨"RateGraph", "fire", "(I)V"⟩, 9) := ⟨⟨by decide +kernel, by decide +kernel⟩, List.mem_of_getElem? (i := 7) (by decide +kernel), List.mem_of_getElem? (i := 248) (by decide +kernel), List.mem_of_getElem? (i := 249) (by decide +kernel)⟩
theorem lw_p23 : lw_okq (⟨"RateGraph$Edge", "takeWeighed", "()I"⟩, 9) := ⟨⟨by decide +kernel, by decide +kernel⟩, List.mem_of_getElem? (i := 63) (by decide +kernel), List.mem_of_getElem? (i := 252) (by decide +kernel), List.mem_of_getElem? (i := 253) (by decide +kernel)⟩
theorem lw_p24 : lw_okq (⟨"RateGraph$Edge", "at", "(I)I"⟩, 9) := ⟨⟨by decide +kernel, by decide +kernel⟩, List.mem_of_getElem? (i := 63) (by decide +kernel), List.mem_of_getElem? (i := 256) (by decide +kernel), List.mem_of_getElem? (i := 257) (by decide +kernel)⟩
theorem lw_p25 : lw_okq (⟨"RateGraph$Actor", "answerTo", "(I)I"⟩, 10) := ⟨⟨by decide +kernel, by decide +kernel⟩, List.mem_of_getElem? (i := 20) (by decide +kernel), List.mem_of_getElem? (i := 260) (by decide +kernel), List.mem_of_getElem? (i := 261) (by decide +kernel)⟩
theorem lw_p26 : lw_okq (⟨"RateGraph$Edge", "putFrom", "(I)V"⟩, 9) := ⟨⟨by decide +kernel, by decide +kernel⟩, List.mem_of_getElem? (i := 63) (by decide +kernel), List.mem_of_getElem? (i := 264) (by decide +kernel), List.mem_of_getElem? (i := 265) (by decide +kernel)⟩
theorem lw_p27 : lw_okq (⟨"RateGraph", "canNest", "()Z"⟩, 9) := ⟨⟨by decide +kernel, by decide +kernel⟩, List.mem_of_getElem? (i := 7) (by decide +kernel), List.mem_of_getElem? (i := 284) (by decide +kernel), List.mem_of_getElem? (i := 285) (by decide +kernel)⟩
theorem lw_p28 : lw_okq (⟨"RateGraph$Edge", "isLoop", "()Z"⟩, 9) := ⟨⟨by decide +kernel, by decide +kernel⟩, List.mem_of_getElem? (i := 63) (by decide +kernel), List.mem_of_getElem? (i := 288) (by decide +kernel), List.mem_of_getElem? (i := 289) (by decide +kernel)⟩
theorem lw_p29 : lw_okq (⟨"RateGraph", "nestedRoom", "()I"⟩, 9) := ⟨⟨by decide +kernel, by decide +kernel⟩, List.mem_of_getElem? (i := 7) (by decide +kernel), List.mem_of_getElem? (i := 292) (by decide +kernel), List.mem_of_getElem? (i := 293) (by decide +kernel)⟩
theorem lw_p30 : lw_okq (⟨"RateGraph", "listActors", "()I"⟩, 9) := ⟨⟨by decide +kernel, by decide +kernel⟩, List.mem_of_getElem? (i := 7) (by decide +kernel), List.mem_of_getElem? (i := 296) (by decide +kernel), List.mem_of_getElem? (i := 297) (by decide +kernel)⟩
theorem lw_p31 : lw_okq (⟨"RateGraph", "costOfStretch", "(II)I"⟩, 9) := ⟨⟨by decide +kernel, by decide +kernel⟩, List.mem_of_getElem? (i := 7) (by decide +kernel), List.mem_of_getElem? (i := 300) (by decide +kernel), List.mem_of_getElem? (i := 301) (by decide +kernel)⟩
def lw_privs_2 : List (MethodName × Nat) := [(⟨"RateGraph", "chooseFrom", "(I)I"⟩, 9), (⟨"RateGraph", "leastDue", "()I"⟩, 9), (⟨"RateGraph", "fireCounting", "(I)V"⟩, 9), (⟨"RateGraph", "setRunAsAtFirst", "()V"⟩, 9), (⟨"RateGraph$Actor", "forgetRun", "()V"⟩, 10), (⟨"RateGraph$Edge", "setAsAtFirst", "()V"⟩, 9), (⟨"RateGraph", "fire", "(I)V"⟩, 9), (⟨"RateGraph$Edge", "takeWeighed", "()I"⟩, 9), (⟨"RateGraph$Edge", "at", "(I)I"⟩, 9), (⟨"RateGraph$Actor", "answerTo", "(I)I"⟩, 10), (⟨"RateGraph$Edge", "putFrom", "(I)V"⟩, 9), (⟨"RateGraph", "canNest", "()Z"⟩, 9), (⟨"RateGraph$Edge", "isLoop", "()Z"⟩, 9), (⟨"RateGraph", "nestedRoom", "()I"⟩, 9), (⟨"RateGraph", "listActors", "()I"⟩, 9), (⟨"RateGraph", "costOfStretch", "(II)I"⟩, 9)]
theorem lw_r2 : ∀ q ∈ lw_privs_2, lw_okq q := List.forall_mem_cons.mpr ⟨lw_p16, List.forall_mem_cons.mpr ⟨lw_p17, List.forall_mem_cons.mpr ⟨lw_p18, List.forall_mem_cons.mpr ⟨lw_p19, List.forall_mem_cons.mpr ⟨lw_p20, List.forall_mem_cons.mpr ⟨lw_p21, List.forall_mem_cons.mpr ⟨lw_p22, List.forall_mem_cons.mpr ⟨lw_p23, List.forall_mem_cons.mpr ⟨lw_p24, List.forall_mem_cons.mpr ⟨lw_p25, List.forall_mem_cons.mpr ⟨lw_p26, List.forall_mem_cons.mpr ⟨lw_p27, List.forall_mem_cons.mpr ⟨lw_p28, List.forall_mem_cons.mpr ⟨lw_p29, List.forall_mem_cons.mpr ⟨lw_p30, List.forall_mem_cons.mpr ⟨lw_p31, fun _ h => absurd h List.not_mem_nil⟩⟩⟩⟩⟩⟩⟩⟩⟩⟩⟩⟩⟩⟩⟩⟩
theorem lw_p32 : lw_okq (⟨"RateGraph", "divisorOfStretch", "(II)I"⟩, 9) := ⟨⟨by decide +kernel, by decide +kernel⟩, List.mem_of_getElem? (i := 7) (by decide +kernel), List.mem_of_getElem? (i := 304) (by decide +kernel), List.mem_of_getElem? (i := 305) (by decide +kernel)⟩
theorem lw_p33 : lw_okq (⟨"RateGraph", "tokensAcross", "(III)I"⟩, 9) := ⟨⟨by decide +kernel, by decide +kernel⟩, List.mem_of_getElem? (i := 7) (by decide +kernel), List.mem_of_getElem? (i := 309) (by decide +kernel), List.mem_of_getElem? (i := 310) (by decide +kernel)⟩
theorem lw_p34 : lw_okq (⟨"RateGraph", "countParts", "()I"⟩, 9) := ⟨⟨by decide +kernel, by decide +kernel⟩, List.mem_of_getElem? (i := 7) (by decide +kernel), List.mem_of_getElem? (i := 334) (by decide +kernel), List.mem_of_getElem? (i := 335) (by decide +kernel)⟩
theorem lw_p35 : lw_okq (⟨"RateGraph", "countRuns", "()I"⟩, 9) := ⟨⟨by decide +kernel, by decide +kernel⟩, List.mem_of_getElem? (i := 7) (by decide +kernel), List.mem_of_getElem? (i := 338) (by decide +kernel), List.mem_of_getElem? (i := 339) (by decide +kernel)⟩
theorem lw_p36 : lw_okq (⟨"RateGraph", "sumOfPeaks", "()I"⟩, 9) := ⟨⟨by decide +kernel, by decide +kernel⟩, List.mem_of_getElem? (i := 7) (by decide +kernel), List.mem_of_getElem? (i := 342) (by decide +kernel), List.mem_of_getElem? (i := 343) (by decide +kernel)⟩
theorem lw_p37 : lw_okq (⟨"RateGraph", "sumOfTokens", "()I"⟩, 9) := ⟨⟨by decide +kernel, by decide +kernel⟩, List.mem_of_getElem? (i := 7) (by decide +kernel), List.mem_of_getElem? (i := 346) (by decide +kernel), List.mem_of_getElem? (i := 347) (by decide +kernel)⟩
theorem lw_p38 : lw_okq (⟨"RateGraphModel", "isActor", "(I)Z"⟩, 25) := ⟨⟨by decide +kernel, by decide +kernel⟩, List.mem_of_getElem? (i := 350) (by decide +kernel), List.mem_of_getElem? (i := 442) (by decide +kernel), List.mem_of_getElem? (i := 443) (by decide +kernel)⟩
theorem lw_p39 : lw_okq (⟨"RateGraphModel", "balance", "(I)Z"⟩, 25) := ⟨⟨by decide +kernel, by decide +kernel⟩, List.mem_of_getElem? (i := 350) (by decide +kernel), List.mem_of_getElem? (i := 454) (by decide +kernel), List.mem_of_getElem? (i := 455) (by decide +kernel)⟩
theorem lw_p40 : lw_okq (⟨"RateGraphModel", "setFraction", "(IJJ)V"⟩, 25) := ⟨⟨by decide +kernel, by decide +kernel⟩, List.mem_of_getElem? (i := 350) (by decide +kernel), List.mem_of_getElem? (i := 458) (by decide +kernel), List.mem_of_getElem? (i := 459) (by decide +kernel)⟩
theorem lw_p41 : lw_okq (⟨"RateGraphModel", "repeat", "()I"⟩, 25) := ⟨⟨by decide +kernel, by decide +kernel⟩, List.mem_of_getElem? (i := 350) (by decide +kernel), List.mem_of_getElem? (i := 465) (by decide +kernel), List.mem_of_getElem? (i := 466) (by decide +kernel)⟩
theorem lw_p42 : lw_okq (⟨"RateGraphModel", "whole", "(II)Z"⟩, 25) := ⟨⟨by decide +kernel, by decide +kernel⟩, List.mem_of_getElem? (i := 350) (by decide +kernel), List.mem_of_getElem? (i := 469) (by decide +kernel), List.mem_of_getElem? (i := 470) (by decide +kernel)⟩
theorem lw_p43 : lw_okq (⟨"RateGraphModel", "pick", "(II)I"⟩, 25) := ⟨⟨by decide +kernel, by decide +kernel⟩, List.mem_of_getElem? (i := 350) (by decide +kernel), List.mem_of_getElem? (i := 474) (by decide +kernel), List.mem_of_getElem? (i := 475) (by decide +kernel)⟩
theorem lw_p44 : lw_okq (⟨"RateGraphModel", "ready", "(I)Z"⟩, 25) := ⟨⟨by decide +kernel, by decide +kernel⟩, List.mem_of_getElem? (i := 350) (by decide +kernel), List.mem_of_getElem? (i := 478) (by decide +kernel), List.mem_of_getElem? (i := 479) (by decide +kernel)⟩
theorem lw_p45 : lw_okq (⟨"RateGraphModel", "growth", "(I)I"⟩, 25) := ⟨⟨by decide +kernel, by decide +kernel⟩, List.mem_of_getElem? (i := 350) (by decide +kernel), List.mem_of_getElem? (i := 482) (by decide +kernel), List.mem_of_getElem? (i := 483) (by decide +kernel)⟩
theorem lw_p46 : lw_okq (⟨"RateGraphModel", "step", "(I)V"⟩, 25) := ⟨⟨by decide +kernel, by decide +kernel⟩, List.mem_of_getElem? (i := 350) (by decide +kernel), List.mem_of_getElem? (i := 486) (by decide +kernel), List.mem_of_getElem? (i := 487) (by decide +kernel)⟩
theorem lw_p47 : lw_okq (⟨"RateGraphModel", "fire", "(I)V"⟩, 25) := ⟨⟨by decide +kernel, by decide +kernel⟩, List.mem_of_getElem? (i := 350) (by decide +kernel), List.mem_of_getElem? (i := 494) (by decide +kernel), List.mem_of_getElem? (i := 495) (by decide +kernel)⟩
def lw_privs_3 : List (MethodName × Nat) := [(⟨"RateGraph", "divisorOfStretch", "(II)I"⟩, 9), (⟨"RateGraph", "tokensAcross", "(III)I"⟩, 9), (⟨"RateGraph", "countParts", "()I"⟩, 9), (⟨"RateGraph", "countRuns", "()I"⟩, 9), (⟨"RateGraph", "sumOfPeaks", "()I"⟩, 9), (⟨"RateGraph", "sumOfTokens", "()I"⟩, 9), (⟨"RateGraphModel", "isActor", "(I)Z"⟩, 25), (⟨"RateGraphModel", "balance", "(I)Z"⟩, 25), (⟨"RateGraphModel", "setFraction", "(IJJ)V"⟩, 25), (⟨"RateGraphModel", "repeat", "()I"⟩, 25), (⟨"RateGraphModel", "whole", "(II)Z"⟩, 25), (⟨"RateGraphModel", "pick", "(II)I"⟩, 25), (⟨"RateGraphModel", "ready", "(I)Z"⟩, 25), (⟨"RateGraphModel", "growth", "(I)I"⟩, 25), (⟨"RateGraphModel", "step", "(I)V"⟩, 25), (⟨"RateGraphModel", "fire", "(I)V"⟩, 25)]
theorem lw_r3 : ∀ q ∈ lw_privs_3, lw_okq q := List.forall_mem_cons.mpr ⟨lw_p32, List.forall_mem_cons.mpr ⟨lw_p33, List.forall_mem_cons.mpr ⟨lw_p34, List.forall_mem_cons.mpr ⟨lw_p35, List.forall_mem_cons.mpr ⟨lw_p36, List.forall_mem_cons.mpr ⟨lw_p37, List.forall_mem_cons.mpr ⟨lw_p38, List.forall_mem_cons.mpr ⟨lw_p39, List.forall_mem_cons.mpr ⟨lw_p40, List.forall_mem_cons.mpr ⟨lw_p41, List.forall_mem_cons.mpr ⟨lw_p42, List.forall_mem_cons.mpr ⟨lw_p43, List.forall_mem_cons.mpr ⟨lw_p44, List.forall_mem_cons.mpr ⟨lw_p45, List.forall_mem_cons.mpr ⟨lw_p46, List.forall_mem_cons.mpr ⟨lw_p47, fun _ h => absurd h List.not_mem_nil⟩⟩⟩⟩⟩⟩⟩⟩⟩⟩⟩⟩⟩⟩⟩⟩
theorem lw_p48 : lw_okq (⟨"RateGraphModel", "takeFrom", "(I)I"⟩, 25) := ⟨⟨by decide +kernel, by decide +kernel⟩, List.mem_of_getElem? (i := 350) (by decide +kernel), List.mem_of_getElem? (i := 498) (by decide +kernel), List.mem_of_getElem? (i := 499) (by decide +kernel)⟩
theorem lw_p49 : lw_okq (⟨"RateGraphModel", "cut", "(III)I"⟩, 25) := ⟨⟨by decide +kernel, by decide +kernel⟩, List.mem_of_getElem? (i := 350) (by decide +kernel), List.mem_of_getElem? (i := 518) (by decide +kernel), List.mem_of_getElem? (i := 519) (by decide +kernel)⟩
def lw_privs_4 : List (MethodName × Nat) := [(⟨"RateGraphModel", "takeFrom", "(I)I"⟩, 25), (⟨"RateGraphModel", "cut", "(III)I"⟩, 25)]
theorem lw_r4 : ∀ q ∈ lw_privs_4, lw_okq q := List.forall_mem_cons.mpr ⟨lw_p48, List.forall_mem_cons.mpr ⟨lw_p49, fun _ h => absurd h List.not_mem_nil⟩⟩
def lw_privs : List (MethodName × Nat) := lw_privs_1 ++ (lw_privs_2 ++ (lw_privs_3 ++ (lw_privs_4)))
def lw_tbl : List Cond := k2_sels lw_privs ++ tables_1
theorem lw_privs_ok : ∀ q ∈ lw_privs, lw_okq q := by
  show ∀ q ∈ lw_privs_1 ++ (lw_privs_2 ++ (lw_privs_3 ++ (lw_privs_4))), lw_okq q
  exact List.forall_mem_append.mpr ⟨lw_r1, List.forall_mem_append.mpr ⟨lw_r2, List.forall_mem_append.mpr ⟨lw_r3, lw_r4⟩⟩⟩
-- ===== end of PART A; then your names; then what follows =====
end
section
/-! the layer AW: a method's walk over a map from addresses to cells -/
abbrev AH : Type := Nat → Option va_E
def ah_set (h : AH) (a : Nat) (c : va_E) : AH := fun q => if q = a then some c else h q
theorem ah_same {h : AH} {a : Nat} {c : va_E} : ah_set h a c a = some c := by simp [ah_set]
theorem ah_ne {h : AH} {a q : Nat} {c : va_E} (hq : q ≠ a) : ah_set h a c q = h q := by simp [ah_set, hq]
/-- the map as a list of cells -/
def ah_cov (h : AH) (ws : va_W) : Prop := ∀ (a : Nat) (c : va_E), h a = some c ↔ ∃ k : Nat, ws[k]? = some (a, c)
/-- the heap holds the map's cells, and they lie in A -/
def XP (D : va_G) (cl : List vw_C) (A : Nat → Prop) (h : AH) (H : Heap) : Prop := ∃ ws : va_W, va_P D cl ws H ∧ va_D A ws ∧ ah_cov h ws
theorem ah_cov_set {A : Nat → Prop} {h : AH} {ws : va_W} (hc : ah_cov h ws) (hD : va_D A ws) {a k : Nat} {e e1 : va_E} (hk : ws[k]? = some (a, e)) : ah_cov (ah_set h a e1) (ws.set k (a, e1)) := by
  have hl := (List.getElem?_eq_some_iff.mp hk).1
  intro q c
  by_cases hq : q = a
  · subst hq
    rw [ah_same]
    constructor
    · intro h1
      cases h1
      exact ⟨k, List.getElem?_set_self hl⟩
    · rintro ⟨j, hj⟩
      by_cases hjk : j = k
      · subst hjk
        rw [List.getElem?_set_self hl] at hj
        cases hj
        rfl
      · rw [List.getElem?_set_ne (Ne.symm hjk)] at hj
        exact absurd (hD.1 j k _ _ hj hk rfl) hjk
  · rw [ah_ne hq, hc q c]
    constructor
    · rintro ⟨j, hj⟩
      have hjk : j ≠ k := by
        intro e2
        subst e2
        rw [hk] at hj
        cases hj
        exact hq rfl
      exact ⟨j, by rw [List.getElem?_set_ne (Ne.symm hjk)]; exact hj⟩
    · rintro ⟨j, hj⟩
      by_cases hjk : j = k
      · subst hjk
        rw [List.getElem?_set_self hl] at hj
        cases hj
        exact absurd rfl hq
      · rw [List.getElem?_set_ne (Ne.symm hjk)] at hj
        exact ⟨j, hj⟩
theorem ah_cov_push {A : Nat → Prop} {h : AH} {ws : va_W} (hc : ah_cov h ws) {a : Nat} {e1 : va_E} (hD : va_D A (ws ++ [(a, e1)])) : h a = none ∧ ah_cov (ah_set h a e1) (ws ++ [(a, e1)]) := by
  have hlast : (ws ++ [(a, e1)])[ws.length]? = some (a, e1) := by rw [List.getElem?_append_right (Nat.le_refl _), Nat.sub_self]; rfl
  have key : ∀ (j : Nat) (c : va_E), ws[j]? ≠ some (a, c) := by
    intro j c hj
    have hl := (List.getElem?_eq_some_iff.mp hj).1
    have h1 : (ws ++ [(a, e1)])[j]? = some (a, c) := by rw [List.getElem?_append_left hl]; exact hj
    have := hD.1 j ws.length _ _ h1 hlast rfl
    omega
  refine ⟨?_, ?_⟩
  · cases hh : h a with
    | none => rfl
    | some c =>
      obtain ⟨j, hj⟩ := (hc a c).mp hh
      exact absurd hj (key j c)
  · intro q c
    by_cases hq : q = a
    · subst hq
      rw [ah_same]
      constructor
      · intro h1
        cases h1
        exact ⟨_, hlast⟩
      · rintro ⟨j, hj⟩
        have h2 := hD.1 j ws.length _ _ hj hlast rfl
        subst h2
        rw [hlast] at hj
        cases hj
        rfl
    · rw [ah_ne hq, hc q c]
      constructor
      · rintro ⟨j, hj⟩
        exact ⟨j, by rw [List.getElem?_append_left (List.getElem?_eq_some_iff.mp hj).1]; exact hj⟩
      · rintro ⟨j, hj⟩
        by_cases hl : j < ws.length
        · rw [List.getElem?_append_left hl] at hj
          exact ⟨j, hj⟩
        · rw [List.getElem?_append_right (by omega)] at hj
          have hz : j - ws.length < 1 := (List.getElem?_eq_some_iff.mp hj).1
          rw [show j - ws.length = 0 by omega] at hj
          cases hj
          exact absurd rfl hq
/-- which cells a method may change: those of its map, and those that it makes -/
def ah_A (h : AH) (sz : Nat) : Nat → Prop := fun q => h q ≠ none ∨ sz ≤ q
theorem XP.weaken {D : va_G} {cl : List vw_C} {A B : Nat → Prop} {h : AH} {H : Heap} (hP : XP D cl A h H) (hAB : ∀ q, A q → B q) : XP D cl B h H := by
  obtain ⟨ws, h1, h2, h3⟩ := hP
  exact ⟨ws, h1, h2.weaken (fun _ _ _ hq => hAB _ hq), h3⟩
theorem XP.self {D : va_G} {cl : List vw_C} {A : Nat → Prop} {h : AH} {H : Heap} (hP : XP D cl A h H) (sz : Nat) : XP D cl (ah_A h sz) h H := by
  obtain ⟨ws, h1, h2, h3⟩ := hP
  refine ⟨ws, h1, ⟨h2.1, fun k q hk => Or.inl ?_⟩, h3⟩
  rw [(h3 q.1 q.2).mpr ⟨k, hk⟩]
  exact fun hn => by cases hn
theorem XP.in {D : va_G} {cl : List vw_C} {A : Nat → Prop} {h : AH} {H : Heap} (hP : XP D cl A h H) {q : Nat} (hq : h q ≠ none) : A q := by
  obtain ⟨ws, h1, h2, h3⟩ := hP
  cases hh : h q with
  | none => exact absurd hh hq
  | some c =>
    obtain ⟨k, hk⟩ := (h3 q c).mp hh
    exact h2.2 k _ hk
/-- what stays along a walk: program, env, start, method, arguments, frames below, its method, its code, region, end -/
abbrev CX : Type := Program × Env × State × MethodId × Array Value × List Frame × Method × Code × (Nat → Prop) × (State → Prop)
abbrev xp (X : CX) : Program := X.1
abbrev xe (X : CX) : Env := X.2.1
abbrev xs (X : CX) : State := X.2.2.1
abbrev xm (X : CX) : MethodId := X.2.2.2.1
abbrev xa (X : CX) : Array Value := X.2.2.2.2.1
abbrev xb (X : CX) : List Frame := X.2.2.2.2.2.1
abbrev xh (X : CX) : Method := X.2.2.2.2.2.2.1
abbrev xc (X : CX) : Code := X.2.2.2.2.2.2.2.1
abbrev xA (X : CX) : Nat → Prop := X.2.2.2.2.2.2.2.2.1
abbrev xQ (X : CX) : State → Prop := X.2.2.2.2.2.2.2.2.2
def AW (l : Launch) (D : va_G) (cl : List vw_C) (R : Room) (nL : Nat) (X : CX) (cells slots : Nat) (h : AH) (pc : Nat) (lv : List (Nat × Value)) (st : List Value) : Prop :=
  ∀ (H : Heap) (locs : List Loc) (ls : Array Slot), XP D cl (xA X) h H → va_S (xA X) (xs X).heap H locs → lv_has ls nL lv →
    W (xp X) l (xe X) R (xs X) (xm X) (xa X) (xb X) (xh X) (xc X) H locs cells slots (xQ X) (F0 (xm X) pc ls st)
/-- words on nest mates: they hold along a run, but not by the general law -/
def nw_b : Cond → Bool
  | .fieldLinkNest .. => true
  | .methodLinkNest .. => true
  | _ => false
theorem nw_on {w : Cond} (hw : nw_b w = true) : w.onTables = true := by cases w <;> first | rfl | cases hw
theorem nw_warm {w : Cond} (hw : nw_b w = true) {s U : State} (hW : s.WarmedH U.vm) (h : va_Nw w s) : va_Nw w U := by
  cases w <;> first | exact va_Nw.warmF hW h | exact va_Nw.warmM hW h | cases hw
/-- what a walk knows: its code, its own class's name, its words, the array classes -/
def Mx (D : va_G) (cl : List vw_C) (nL : Nat) (X : CX) (cc : ByteArray) (own : String) (Ts : List Cond) (tys : List (ClassId × FieldType)) (NN : List Cond) : Prop :=
  (xp X).tables.exec = Jvm.exec ∧ (xc X).code = cc ∧ (xc X).maxLocals = nL ∧ (xs X).vm.findClass own = some (xm X).cls ∧ (∀ w ∈ Ts, w.before (xa X) (xs X) = true) ∧ va_K D cl tys (xs X) ∧ (xh X).locks = false ∧ (∀ q, (xs X).heap.size ≤ q → xA X q) ∧ ∀ w ∈ NN, nw_b w = true ∧ va_Nw w (xs X)
/-- a method's end -/
def Qx (D : va_G) (cl : List vw_C) (A : Nat → Prop) (post : Option Value → AH → Prop) : Array Value → State → Outcome → State → Prop := fun _ st oc t => (∃ (r : Option Value) (h' : AH), oc = .returned r ∧ post r h' ∧ XP D cl A h' t.heap) ∧ va_F A st t
def Rx (D : va_G) (cl : List vw_C) (R : Room) (X : CX) (ret : Option FieldType) (post : Option Value → AH → Prop) : Prop :=
  xQ X = MQ (xb X) (Qx D cl (xA X) post) (xa X) (xs X) R.cells R.slots (xA X) ∧ (xh X).sig.returnType = ret
/-- a contract: from the map h with these arguments the method returns, with post -/
def AC (l : Launch) (D : va_G) (cl : List vw_C) (tys : List (ClassId × FieldType)) (NN : List Cond) (y : MethodName) (ws : List Cond) (rm : Room) (av : List Value) (h : AH) (post : Option Value → AH → Prop) : Prop :=
  ∀ sz : Nat, Met l y ws rm (va_Pc av (fun U => U.heap.size = sz ∧ XP D cl (fun _ => True) h U.heap ∧ va_K D cl tys U ∧ ∀ w ∈ NN, nw_b w = true ∧ va_Nw w U)) (Qx D cl (ah_A h sz) post) rm.cells rm.slots (ah_A h sz)
section AX
variable {l : Launch} {D : va_G} {cl : List vw_C} {R : Room} {nL : Nat} {X : CX} {cc : ByteArray} {own : String} {Ts : List Cond} {tys : List (ClassId × FieldType)} {NN : List Cond} {cells slots pc : Nat} {h : AH} {lv lv' : List (Nat × Value)} {rest : List Value}
theorem ax_iconst (M : Mx D cl nL X cc own Ts tys NN) {n : Int} {v : Int32} (d : decode cc pc = .ok (.iconst n, 1)) (hv : Int32.ofInt n = v) (k : AW l D cl R nL X cells slots h (pc + 1) lv (.int v :: rest)) : AW l D cl R nL X cells slots h pc lv (rest) := fun H locs ls hP hS hl => lv_iconst M.1 M.2.1 d hv (k H locs ls hP hS hl)
theorem ax_bipush (M : Mx D cl nL X cc own Ts tys NN) {n : Int} {v : Int32} (d : decode cc pc = .ok (.bipush n, 2)) (hv : (Int8.ofInt n).toInt32 = v) (k : AW l D cl R nL X cells slots h (pc + 2) lv (.int v :: rest)) : AW l D cl R nL X cells slots h pc lv (rest) := fun H locs ls hP hS hl => lv_bipush M.1 M.2.1 d hv (k H locs ls hP hS hl)
theorem ax_sipush (M : Mx D cl nL X cc own Ts tys NN) {n : Int} {v : Int32} (d : decode cc pc = .ok (.sipush n, 3)) (hv : (Int16.ofInt n).toInt32 = v) (k : AW l D cl R nL X cells slots h (pc + 3) lv (.int v :: rest)) : AW l D cl R nL X cells slots h pc lv (rest) := fun H locs ls hP hS hl => lv_sipush M.1 M.2.1 d hv (k H locs ls hP hS hl)
theorem ax_lconst (M : Mx D cl nL X cc own Ts tys NN) {n : Fin 2} {v : Int64} (d : decode cc pc = .ok (.lconst n, 1)) (hv : Int64.ofNat (n : Nat) = v) (k : AW l D cl R nL X cells slots h (pc + 1) lv (.long v :: rest)) : AW l D cl R nL X cells slots h pc lv (rest) := fun H locs ls hP hS hl => lv_lconst M.1 M.2.1 d hv (k H locs ls hP hS hl)
theorem ax_iload_n (M : Mx D cl nL X cc own Ts tys NN) {kf : Fin 4} {x : Int32} (d : decode cc pc = .ok (.iload_n kf, 1)) (j : Nat) (hj : lv[j]? = some ((kf : Nat), .int x)) (k : AW l D cl R nL X cells slots h (pc + 1) lv (.int x :: rest)) : AW l D cl R nL X cells slots h pc lv rest := fun H locs ls hP hS hl => lv_iload_n M.1 M.2.1 d rfl (lv_at hl j hj) (k H locs ls hP hS hl)
theorem ax_iload (M : Mx D cl nL X cc own Ts tys NN) {i : Nat} {x : Int32} (d : decode cc pc = .ok (.iload i, 2)) (j : Nat) (hj : lv[j]? = some (i, .int x)) (k : AW l D cl R nL X cells slots h (pc + 2) lv (.int x :: rest)) : AW l D cl R nL X cells slots h pc lv rest := fun H locs ls hP hS hl => lv_iload M.1 M.2.1 d (lv_at hl j hj) (k H locs ls hP hS hl)
theorem ax_lload_n (M : Mx D cl nL X cc own Ts tys NN) {kf : Fin 4} {x : Int64} (d : decode cc pc = .ok (.lload_n kf, 1)) (j : Nat) (hj : lv[j]? = some ((kf : Nat), .long x)) (k : AW l D cl R nL X cells slots h (pc + 1) lv (.long x :: rest)) : AW l D cl R nL X cells slots h pc lv rest := fun H locs ls hP hS hl => lv_lload_n M.1 M.2.1 d rfl (lv_at hl j hj) (k H locs ls hP hS hl)
theorem ax_lload (M : Mx D cl nL X cc own Ts tys NN) {i : Nat} {x : Int64} (d : decode cc pc = .ok (.lload i, 2)) (j : Nat) (hj : lv[j]? = some (i, .long x)) (k : AW l D cl R nL X cells slots h (pc + 2) lv (.long x :: rest)) : AW l D cl R nL X cells slots h pc lv rest := fun H locs ls hP hS hl => lv_lload M.1 M.2.1 d (lv_at hl j hj) (k H locs ls hP hS hl)
theorem ax_aload_n (M : Mx D cl nL X cc own Ts tys NN) {kf : Fin 4} {x : Nat} (d : decode cc pc = .ok (.aload_n kf, 1)) (j : Nat) (hj : lv[j]? = some ((kf : Nat), .ref x)) (k : AW l D cl R nL X cells slots h (pc + 1) lv (.ref x :: rest)) : AW l D cl R nL X cells slots h pc lv rest := fun H locs ls hP hS hl => lv_aload_n M.1 M.2.1 d rfl (lv_at hl j hj) (k H locs ls hP hS hl)
theorem ax_aload (M : Mx D cl nL X cc own Ts tys NN) {i : Nat} {x : Nat} (d : decode cc pc = .ok (.aload i, 2)) (j : Nat) (hj : lv[j]? = some (i, .ref x)) (k : AW l D cl R nL X cells slots h (pc + 2) lv (.ref x :: rest)) : AW l D cl R nL X cells slots h pc lv rest := fun H locs ls hP hS hl => lv_aload M.1 M.2.1 d (lv_at hl j hj) (k H locs ls hP hS hl)
theorem ax_istore_n (M : Mx D cl nL X cc own Ts tys NN) {kf : Fin 4} {x : Int32} (d : decode cc pc = .ok (.istore_n kf, 1)) (hn : (kf : Nat) < nL) (js : List Nat) (hl' : lv_pick (((kf : Nat), Value.int x) :: lv.filter (fun q => !(q.1 == (kf : Nat)) && !(q.1 + 1 == (kf : Nat) && q.2.category == 2))) js = lv') (k : AW l D cl R nL X cells slots h (pc + 1) lv' rest) : AW l D cl R nL X cells slots h pc lv (.int x :: rest) := fun H locs ls hP hS hl => lv_istore_n M.1 M.2.1 d rfl hl hn rfl (fun ls' hl2 => k H locs ls' hP hS (lv_sub hl2 js hl'))
theorem ax_istore (M : Mx D cl nL X cc own Ts tys NN) {i : Nat} {x : Int32} (d : decode cc pc = .ok (.istore i, 2)) (hn : i < nL) (js : List Nat) (hl' : lv_pick ((i, Value.int x) :: lv.filter (fun q => !(q.1 == i) && !(q.1 + 1 == i && q.2.category == 2))) js = lv') (k : AW l D cl R nL X cells slots h (pc + 2) lv' rest) : AW l D cl R nL X cells slots h pc lv (.int x :: rest) := fun H locs ls hP hS hl => lv_istore M.1 M.2.1 d hl hn rfl (fun ls' hl2 => k H locs ls' hP hS (lv_sub hl2 js hl'))
theorem ax_astore_n (M : Mx D cl nL X cc own Ts tys NN) {kf : Fin 4} {x : Nat} (d : decode cc pc = .ok (.astore_n kf, 1)) (hn : (kf : Nat) < nL) (js : List Nat) (hl' : lv_pick (((kf : Nat), Value.ref x) :: lv.filter (fun q => !(q.1 == (kf : Nat)) && !(q.1 + 1 == (kf : Nat) && q.2.category == 2))) js = lv') (k : AW l D cl R nL X cells slots h (pc + 1) lv' rest) : AW l D cl R nL X cells slots h pc lv (.ref x :: rest) := fun H locs ls hP hS hl => lv_astore_n M.1 M.2.1 d rfl hl hn rfl (fun ls' hl2 => k H locs ls' hP hS (lv_sub hl2 js hl'))
theorem ax_astore (M : Mx D cl nL X cc own Ts tys NN) {i : Nat} {x : Nat} (d : decode cc pc = .ok (.astore i, 2)) (hn : i < nL) (js : List Nat) (hl' : lv_pick ((i, Value.ref x) :: lv.filter (fun q => !(q.1 == i) && !(q.1 + 1 == i && q.2.category == 2))) js = lv') (k : AW l D cl R nL X cells slots h (pc + 2) lv' rest) : AW l D cl R nL X cells slots h pc lv (.ref x :: rest) := fun H locs ls hP hS hl => lv_astore M.1 M.2.1 d hl hn rfl (fun ls' hl2 => k H locs ls' hP hS (lv_sub hl2 js hl'))
theorem ax_lstore_n (M : Mx D cl nL X cc own Ts tys NN) {kf : Fin 4} {x : Int64} (d : decode cc pc = .ok (.lstore_n kf, 1)) (hn : (kf : Nat) + 1 < nL) (js : List Nat) (hl' : lv_pick (((kf : Nat), Value.long x) :: lv.filter (fun q => !(q.1 == (kf : Nat)) && (!(q.1 == (kf : Nat) + 1) && !(q.1 + 1 == (kf : Nat) && q.2.category == 2)))) js = lv') (k : AW l D cl R nL X cells slots h (pc + 1) lv' rest) : AW l D cl R nL X cells slots h pc lv (.long x :: rest) := fun H locs ls hP hS hl => lv_lstore_n M.1 M.2.1 d rfl hl hn rfl (fun ls' hl2 => k H locs ls' hP hS (lv_sub hl2 js hl'))
theorem ax_lstore (M : Mx D cl nL X cc own Ts tys NN) {i : Nat} {x : Int64} (d : decode cc pc = .ok (.lstore i, 2)) (hn : i + 1 < nL) (js : List Nat) (hl' : lv_pick ((i, Value.long x) :: lv.filter (fun q => !(q.1 == i) && (!(q.1 == i + 1) && !(q.1 + 1 == i && q.2.category == 2)))) js = lv') (k : AW l D cl R nL X cells slots h (pc + 2) lv' rest) : AW l D cl R nL X cells slots h pc lv (.long x :: rest) := fun H locs ls hP hS hl => lv_lstore M.1 M.2.1 d hl hn rfl (fun ls' hl2 => k H locs ls' hP hS (lv_sub hl2 js hl'))
theorem ax_iinc (M : Mx D cl nL X cc own Ts tys NN) {i : Nat} {n : Int} {x v : Int32} (d : decode cc pc = .ok (.iinc i n, 3)) (j : Nat) (hj : lv[j]? = some (i, .int x)) (hv : x + Int32.ofInt n = v) (hn : i < nL) (js : List Nat) (hl' : lv_pick ((i, Value.int v) :: lv.filter (fun q => !(q.1 == i) && !(q.1 + 1 == i && q.2.category == 2))) js = lv') (k : AW l D cl R nL X cells slots h (pc + 3) lv' rest) : AW l D cl R nL X cells slots h pc lv rest := fun H locs ls hP hS hl => lv_iinc M.1 M.2.1 d hl hj hv hn rfl (fun ls' hl2 => k H locs ls' hP hS (lv_sub hl2 js hl'))
theorem ax_lv (js : List Nat) (hl' : lv_pick lv js = lv') (k : AW l D cl R nL X cells slots h pc lv' rest) : AW l D cl R nL X cells slots h pc lv rest := fun H locs ls hP hS hl => k H locs ls hP hS (lv_sub hl js hl')
theorem ax_topi {x : Int32} (y : Int32) (e : x = y) (k : AW l D cl R nL X cells slots h pc lv (.int y :: rest)) : AW l D cl R nL X cells slots h pc lv (.int x :: rest) := by rw [e]; exact k
theorem ax_topl {x : Int64} (y : Int64) (e : x = y) (k : AW l D cl R nL X cells slots h pc lv (.long y :: rest)) : AW l D cl R nL X cells slots h pc lv (.long x :: rest) := by rw [e]; exact k
theorem ax_topr {x y : Nat} (e : x = y) (k : AW l D cl R nL X cells slots h pc lv (.ref y :: rest)) : AW l D cl R nL X cells slots h pc lv (.ref x :: rest) := by rw [e]; exact k
theorem ax_widen {a b : Nat} (h1 : cells ≤ a) (h2 : slots ≤ b) (k : AW l D cl R nL X a b h pc lv rest) : AW l D cl R nL X cells slots h pc lv rest := fun H locs ls hP hS hl => W.widen h1 h2 (k H locs ls hP hS hl)
theorem ax_iadd (M : Mx D cl nL X cc own Ts tys NN) {x y : Int32} (d : decode cc pc = .ok (.iadd, 1))  (k : AW l D cl R nL X cells slots h (pc + 1) lv (.int (x + y) :: rest)) : AW l D cl R nL X cells slots h pc lv (.int y :: .int x :: rest) := fun H locs ls hP hS hl => lv_iadd M.1 M.2.1 d (k H locs ls hP hS hl)
theorem ax_isub (M : Mx D cl nL X cc own Ts tys NN) {x y : Int32} (d : decode cc pc = .ok (.isub, 1))  (k : AW l D cl R nL X cells slots h (pc + 1) lv (.int (x - y) :: rest)) : AW l D cl R nL X cells slots h pc lv (.int y :: .int x :: rest) := fun H locs ls hP hS hl => lv_isub M.1 M.2.1 d (k H locs ls hP hS hl)
theorem ax_imul (M : Mx D cl nL X cc own Ts tys NN) {x y : Int32} (d : decode cc pc = .ok (.imul, 1))  (k : AW l D cl R nL X cells slots h (pc + 1) lv (.int (x * y) :: rest)) : AW l D cl R nL X cells slots h pc lv (.int y :: .int x :: rest) := fun H locs ls hP hS hl => lv_imul M.1 M.2.1 d (k H locs ls hP hS hl)
theorem ax_iand (M : Mx D cl nL X cc own Ts tys NN) {x y : Int32} (d : decode cc pc = .ok (.iand, 1))  (k : AW l D cl R nL X cells slots h (pc + 1) lv (.int (x &&& y) :: rest)) : AW l D cl R nL X cells slots h pc lv (.int y :: .int x :: rest) := fun H locs ls hP hS hl => lv_iand M.1 M.2.1 d (k H locs ls hP hS hl)
theorem ax_ior (M : Mx D cl nL X cc own Ts tys NN) {x y : Int32} (d : decode cc pc = .ok (.ior, 1))  (k : AW l D cl R nL X cells slots h (pc + 1) lv (.int (x ||| y) :: rest)) : AW l D cl R nL X cells slots h pc lv (.int y :: .int x :: rest) := fun H locs ls hP hS hl => lv_ior M.1 M.2.1 d (k H locs ls hP hS hl)
theorem ax_ixor (M : Mx D cl nL X cc own Ts tys NN) {x y : Int32} (d : decode cc pc = .ok (.ixor, 1))  (k : AW l D cl R nL X cells slots h (pc + 1) lv (.int (x ^^^ y) :: rest)) : AW l D cl R nL X cells slots h pc lv (.int y :: .int x :: rest) := fun H locs ls hP hS hl => lv_ixor M.1 M.2.1 d (k H locs ls hP hS hl)
theorem ax_idiv (M : Mx D cl nL X cc own Ts tys NN) {x y : Int32} (d : decode cc pc = .ok (.idiv, 1)) (hne : ¬ y = 0) (k : AW l D cl R nL X cells slots h (pc + 1) lv (.int (x / y) :: rest)) : AW l D cl R nL X cells slots h pc lv (.int y :: .int x :: rest) := fun H locs ls hP hS hl => lv_idiv M.1 M.2.1 d hne (k H locs ls hP hS hl)
theorem ax_irem (M : Mx D cl nL X cc own Ts tys NN) {x y : Int32} (d : decode cc pc = .ok (.irem, 1)) (hne : ¬ y = 0) (k : AW l D cl R nL X cells slots h (pc + 1) lv (.int (x - x / y * y) :: rest)) : AW l D cl R nL X cells slots h pc lv (.int y :: .int x :: rest) := fun H locs ls hP hS hl => lv_irem M.1 M.2.1 d hne (k H locs ls hP hS hl)
theorem ax_ineg (M : Mx D cl nL X cc own Ts tys NN) {x : Int32} (d : decode cc pc = .ok (.ineg, 1))  (k : AW l D cl R nL X cells slots h (pc + 1) lv (.int (-x) :: rest)) : AW l D cl R nL X cells slots h pc lv (.int x :: rest) := fun H locs ls hP hS hl => lv_ineg M.1 M.2.1 d (k H locs ls hP hS hl)
theorem ax_ladd (M : Mx D cl nL X cc own Ts tys NN) {x y : Int64} (d : decode cc pc = .ok (.ladd, 1))  (k : AW l D cl R nL X cells slots h (pc + 1) lv (.long (x + y) :: rest)) : AW l D cl R nL X cells slots h pc lv (.long y :: .long x :: rest) := fun H locs ls hP hS hl => lv_ladd M.1 M.2.1 d (k H locs ls hP hS hl)
theorem ax_lsub (M : Mx D cl nL X cc own Ts tys NN) {x y : Int64} (d : decode cc pc = .ok (.lsub, 1))  (k : AW l D cl R nL X cells slots h (pc + 1) lv (.long (x - y) :: rest)) : AW l D cl R nL X cells slots h pc lv (.long y :: .long x :: rest) := fun H locs ls hP hS hl => lv_lsub M.1 M.2.1 d (k H locs ls hP hS hl)
theorem ax_lmul (M : Mx D cl nL X cc own Ts tys NN) {x y : Int64} (d : decode cc pc = .ok (.lmul, 1))  (k : AW l D cl R nL X cells slots h (pc + 1) lv (.long (x * y) :: rest)) : AW l D cl R nL X cells slots h pc lv (.long y :: .long x :: rest) := fun H locs ls hP hS hl => lv_lmul M.1 M.2.1 d (k H locs ls hP hS hl)
theorem ax_land (M : Mx D cl nL X cc own Ts tys NN) {x y : Int64} (d : decode cc pc = .ok (.land, 1))  (k : AW l D cl R nL X cells slots h (pc + 1) lv (.long (x &&& y) :: rest)) : AW l D cl R nL X cells slots h pc lv (.long y :: .long x :: rest) := fun H locs ls hP hS hl => lv_land M.1 M.2.1 d (k H locs ls hP hS hl)
theorem ax_ldiv (M : Mx D cl nL X cc own Ts tys NN) {x y : Int64} (d : decode cc pc = .ok (.ldiv, 1)) (hne : ¬ y = 0) (k : AW l D cl R nL X cells slots h (pc + 1) lv (.long (x / y) :: rest)) : AW l D cl R nL X cells slots h pc lv (.long y :: .long x :: rest) := fun H locs ls hP hS hl => lv_ldiv M.1 M.2.1 d hne (k H locs ls hP hS hl)
theorem ax_lrem (M : Mx D cl nL X cc own Ts tys NN) {x y : Int64} (d : decode cc pc = .ok (.lrem, 1)) (hne : ¬ y = 0) (k : AW l D cl R nL X cells slots h (pc + 1) lv (.long (x - x / y * y) :: rest)) : AW l D cl R nL X cells slots h pc lv (.long y :: .long x :: rest) := fun H locs ls hP hS hl => lv_lrem M.1 M.2.1 d hne (k H locs ls hP hS hl)
theorem ax_i2l (M : Mx D cl nL X cc own Ts tys NN) {x : Int32} {v : Int64} (d : decode cc pc = .ok (.i2l, 1)) (hv : x.toInt64 = v) (k : AW l D cl R nL X cells slots h (pc + 1) lv (.long v :: rest)) : AW l D cl R nL X cells slots h pc lv (.int x :: rest) := fun H locs ls hP hS hl => lv_i2l M.1 M.2.1 d hv (k H locs ls hP hS hl)
theorem ax_l2i (M : Mx D cl nL X cc own Ts tys NN) {x : Int64} {v : Int32} (d : decode cc pc = .ok (.l2i, 1)) (hv : x.toInt32 = v) (k : AW l D cl R nL X cells slots h (pc + 1) lv (.int v :: rest)) : AW l D cl R nL X cells slots h pc lv (.long x :: rest) := fun H locs ls hP hS hl => lv_l2i M.1 M.2.1 d hv (k H locs ls hP hS hl)
theorem ax_dup (M : Mx D cl nL X cc own Ts tys NN) {va : Value} (d : decode cc pc = .ok (.dup, 1)) (hva : va.category = 1) (k : AW l D cl R nL X cells slots h (pc + 1) lv (va :: va :: rest)) : AW l D cl R nL X cells slots h pc lv (va :: rest) := fun H locs ls hP hS hl => lv_dup M.1 M.2.1 d hva (k H locs ls hP hS hl)
theorem ax_pop (M : Mx D cl nL X cc own Ts tys NN) {va : Value} (d : decode cc pc = .ok (.pop, 1)) (hva : va.category = 1) (k : AW l D cl R nL X cells slots h (pc + 1) lv (rest)) : AW l D cl R nL X cells slots h pc lv (va :: rest) := fun H locs ls hP hS hl => lv_pop M.1 M.2.1 d hva (k H locs ls hP hS hl)
theorem ax_lcmp (M : Mx D cl nL X cc own Ts tys NN) {x y : Int64} (d : decode cc pc = .ok (.lcmp, 1))  (k : AW l D cl R nL X cells slots h (pc + 1) lv (.int (lg_cmp x y) :: rest)) : AW l D cl R nL X cells slots h pc lv (.long y :: .long x :: rest) := fun H locs ls hP hS hl => W.lcmp M.1 M.2.1 d (k H locs ls hP hS hl)
theorem ax_dup2_2 (M : Mx D cl nL X cc own Ts tys NN) {va : Value} (d : decode cc pc = .ok (.dup2, 1)) (hva : va.category = 2) (k : AW l D cl R nL X cells slots h (pc + 1) lv (va :: va :: rest)) : AW l D cl R nL X cells slots h pc lv (va :: rest) := fun H locs ls hP hS hl => lv_dup2_2 M.1 M.2.1 d hva (k H locs ls hP hS hl)
theorem ax_dup2_x2_2 (M : Mx D cl nL X cc own Ts tys NN) {va vb vd : Value} (d : decode cc pc = .ok (.dup2_x2, 1)) (hva : va.category = 2) (hvb : vb.category = 1) (hvd : vd.category = 1) (k : AW l D cl R nL X cells slots h (pc + 1) lv (va :: vb :: vd :: va :: rest)) : AW l D cl R nL X cells slots h pc lv (va :: vb :: vd :: rest) := fun H locs ls hP hS hl => lv_dup2_x2_2 M.1 M.2.1 d hva hvb hvd (k H locs ls hP hS hl)
theorem ax_dup_x1 (M : Mx D cl nL X cc own Ts tys NN) {va vb : Value} (d : decode cc pc = .ok (.dup_x1, 1)) (hva : va.category = 1) (hvb : vb.category = 1) (k : AW l D cl R nL X cells slots h (pc + 1) lv (va :: vb :: va :: rest)) : AW l D cl R nL X cells slots h pc lv (va :: vb :: rest) := fun H locs ls hP hS hl => lv_dup_x1 M.1 M.2.1 d hva hvb (k H locs ls hP hS hl)
theorem ax_dup_x2 (M : Mx D cl nL X cc own Ts tys NN) {va vb vd : Value} (d : decode cc pc = .ok (.dup_x2, 1)) (hva : va.category = 1) (hvb : vb.category = 1) (hvd : vd.category = 1) (k : AW l D cl R nL X cells slots h (pc + 1) lv (va :: vb :: vd :: va :: rest)) : AW l D cl R nL X cells slots h pc lv (va :: vb :: vd :: rest) := fun H locs ls hP hS hl => lv_dup_x2 M.1 M.2.1 d hva hvb hvd (k H locs ls hP hS hl)
theorem ax_dup2 (M : Mx D cl nL X cc own Ts tys NN) {va vb : Value} (d : decode cc pc = .ok (.dup2, 1)) (hva : va.category = 1) (hvb : vb.category = 1) (k : AW l D cl R nL X cells slots h (pc + 1) lv (va :: vb :: va :: vb :: rest)) : AW l D cl R nL X cells slots h pc lv (va :: vb :: rest) := fun H locs ls hP hS hl => lv_dup2_11 M.1 M.2.1 d hva hvb (k H locs ls hP hS hl)
theorem ax_if_eq (M : Mx D cl nL X cc own Ts tys NN) {x : Int32} {off : Int} {tgt : Nat} (d : decode cc pc = .ok (.ifCond .eq off, 3)) (ht : (pc : Int) + off = (tgt : Int)) (kt : x = 0 → AW l D cl R nL X cells slots h tgt lv rest) (kf : ¬ x = 0 → AW l D cl R nL X cells slots h (pc + 3) lv rest) : AW l D cl R nL X cells slots h pc lv (.int x :: rest) := fun H locs ls hP hS hl => lv_if_eq M.1 M.2.1 d ht (fun z => kt z H locs ls hP hS hl) (fun z => kf z H locs ls hP hS hl)
theorem ax_icmp_eq (M : Mx D cl nL X cc own Ts tys NN) {x y : Int32} {off : Int} {tgt : Nat} (d : decode cc pc = .ok (.if_icmp .eq off, 3)) (ht : (pc : Int) + off = (tgt : Int)) (kt : x = y → AW l D cl R nL X cells slots h tgt lv rest) (kf : ¬ x = y → AW l D cl R nL X cells slots h (pc + 3) lv rest) : AW l D cl R nL X cells slots h pc lv (.int y :: .int x :: rest) := fun H locs ls hP hS hl => lv_icmp_eq M.1 M.2.1 d ht (fun z => kt z H locs ls hP hS hl) (fun z => kf z H locs ls hP hS hl)
theorem ax_if_lt (M : Mx D cl nL X cc own Ts tys NN) {x : Int32} {off : Int} {tgt : Nat} (d : decode cc pc = .ok (.ifCond .lt off, 3)) (ht : (pc : Int) + off = (tgt : Int)) (kt : x < 0 → AW l D cl R nL X cells slots h tgt lv rest) (kf : ¬ x < 0 → AW l D cl R nL X cells slots h (pc + 3) lv rest) : AW l D cl R nL X cells slots h pc lv (.int x :: rest) := fun H locs ls hP hS hl => lv_if_lt M.1 M.2.1 d ht (fun z => kt z H locs ls hP hS hl) (fun z => kf z H locs ls hP hS hl)
theorem ax_icmp_lt (M : Mx D cl nL X cc own Ts tys NN) {x y : Int32} {off : Int} {tgt : Nat} (d : decode cc pc = .ok (.if_icmp .lt off, 3)) (ht : (pc : Int) + off = (tgt : Int)) (kt : x < y → AW l D cl R nL X cells slots h tgt lv rest) (kf : ¬ x < y → AW l D cl R nL X cells slots h (pc + 3) lv rest) : AW l D cl R nL X cells slots h pc lv (.int y :: .int x :: rest) := fun H locs ls hP hS hl => lv_icmp_lt M.1 M.2.1 d ht (fun z => kt z H locs ls hP hS hl) (fun z => kf z H locs ls hP hS hl)
theorem ax_if_ge (M : Mx D cl nL X cc own Ts tys NN) {x : Int32} {off : Int} {tgt : Nat} (d : decode cc pc = .ok (.ifCond .ge off, 3)) (ht : (pc : Int) + off = (tgt : Int)) (kt : 0 ≤ x → AW l D cl R nL X cells slots h tgt lv rest) (kf : ¬ 0 ≤ x → AW l D cl R nL X cells slots h (pc + 3) lv rest) : AW l D cl R nL X cells slots h pc lv (.int x :: rest) := fun H locs ls hP hS hl => lv_if_ge M.1 M.2.1 d ht (fun z => kt z H locs ls hP hS hl) (fun z => kf z H locs ls hP hS hl)
theorem ax_icmp_ge (M : Mx D cl nL X cc own Ts tys NN) {x y : Int32} {off : Int} {tgt : Nat} (d : decode cc pc = .ok (.if_icmp .ge off, 3)) (ht : (pc : Int) + off = (tgt : Int)) (kt : y ≤ x → AW l D cl R nL X cells slots h tgt lv rest) (kf : ¬ y ≤ x → AW l D cl R nL X cells slots h (pc + 3) lv rest) : AW l D cl R nL X cells slots h pc lv (.int y :: .int x :: rest) := fun H locs ls hP hS hl => lv_icmp_ge M.1 M.2.1 d ht (fun z => kt z H locs ls hP hS hl) (fun z => kf z H locs ls hP hS hl)
theorem ax_if_gt (M : Mx D cl nL X cc own Ts tys NN) {x : Int32} {off : Int} {tgt : Nat} (d : decode cc pc = .ok (.ifCond .gt off, 3)) (ht : (pc : Int) + off = (tgt : Int)) (kt : 0 < x → AW l D cl R nL X cells slots h tgt lv rest) (kf : ¬ 0 < x → AW l D cl R nL X cells slots h (pc + 3) lv rest) : AW l D cl R nL X cells slots h pc lv (.int x :: rest) := fun H locs ls hP hS hl => lv_if_gt M.1 M.2.1 d ht (fun z => kt z H locs ls hP hS hl) (fun z => kf z H locs ls hP hS hl)
theorem ax_icmp_gt (M : Mx D cl nL X cc own Ts tys NN) {x y : Int32} {off : Int} {tgt : Nat} (d : decode cc pc = .ok (.if_icmp .gt off, 3)) (ht : (pc : Int) + off = (tgt : Int)) (kt : y < x → AW l D cl R nL X cells slots h tgt lv rest) (kf : ¬ y < x → AW l D cl R nL X cells slots h (pc + 3) lv rest) : AW l D cl R nL X cells slots h pc lv (.int y :: .int x :: rest) := fun H locs ls hP hS hl => lv_icmp_gt M.1 M.2.1 d ht (fun z => kt z H locs ls hP hS hl) (fun z => kf z H locs ls hP hS hl)
theorem ax_if_le (M : Mx D cl nL X cc own Ts tys NN) {x : Int32} {off : Int} {tgt : Nat} (d : decode cc pc = .ok (.ifCond .le off, 3)) (ht : (pc : Int) + off = (tgt : Int)) (kt : x ≤ 0 → AW l D cl R nL X cells slots h tgt lv rest) (kf : ¬ x ≤ 0 → AW l D cl R nL X cells slots h (pc + 3) lv rest) : AW l D cl R nL X cells slots h pc lv (.int x :: rest) := fun H locs ls hP hS hl => lv_if_le M.1 M.2.1 d ht (fun z => kt z H locs ls hP hS hl) (fun z => kf z H locs ls hP hS hl)
theorem ax_icmp_le (M : Mx D cl nL X cc own Ts tys NN) {x y : Int32} {off : Int} {tgt : Nat} (d : decode cc pc = .ok (.if_icmp .le off, 3)) (ht : (pc : Int) + off = (tgt : Int)) (kt : x ≤ y → AW l D cl R nL X cells slots h tgt lv rest) (kf : ¬ x ≤ y → AW l D cl R nL X cells slots h (pc + 3) lv rest) : AW l D cl R nL X cells slots h pc lv (.int y :: .int x :: rest) := fun H locs ls hP hS hl => lv_icmp_le M.1 M.2.1 d ht (fun z => kt z H locs ls hP hS hl) (fun z => kf z H locs ls hP hS hl)
theorem ax_if_ne (M : Mx D cl nL X cc own Ts tys NN) {x : Int32} {off : Int} {tgt : Nat} (d : decode cc pc = .ok (.ifCond .ne off, 3)) (ht : (pc : Int) + off = (tgt : Int)) (kt : ¬ x = 0 → AW l D cl R nL X cells slots h tgt lv rest) (kf : x = 0 → AW l D cl R nL X cells slots h (pc + 3) lv rest) : AW l D cl R nL X cells slots h pc lv (.int x :: rest) := fun H locs ls hP hS hl => lv_if_ne M.1 M.2.1 d ht (fun z => kt z H locs ls hP hS hl) (fun z => kf z H locs ls hP hS hl)
theorem ax_icmp_ne (M : Mx D cl nL X cc own Ts tys NN) {x y : Int32} {off : Int} {tgt : Nat} (d : decode cc pc = .ok (.if_icmp .ne off, 3)) (ht : (pc : Int) + off = (tgt : Int)) (kt : ¬ x = y → AW l D cl R nL X cells slots h tgt lv rest) (kf : x = y → AW l D cl R nL X cells slots h (pc + 3) lv rest) : AW l D cl R nL X cells slots h pc lv (.int y :: .int x :: rest) := fun H locs ls hP hS hl => lv_icmp_ne M.1 M.2.1 d ht (fun z => kt z H locs ls hP hS hl) (fun z => kf z H locs ls hP hS hl)
theorem ax_goto (M : Mx D cl nL X cc own Ts tys NN) {off : Int} {tgt : Nat} (d : decode cc pc = .ok (.goto off, 3)) (ht : (pc : Int) + off = (tgt : Int)) (k : AW l D cl R nL X cells slots h tgt lv rest) : AW l D cl R nL X cells slots h pc lv rest := fun H locs ls hP hS hl => lv_goto M.1 M.2.1 d ht (k H locs ls hP hS hl)
theorem ax_tableOut (M : Mx D cl nL X cc own Ts tys NN) {dflt lo hi : Int} {offs : Array Int} {len : Nat} {x : Int32} {tgt : Nat} (d : decode cc pc = .ok (.tableswitch dflt lo hi offs, len)) (hx : x.toInt < lo ∨ hi < x.toInt) (ht : (pc : Int) + dflt = (tgt : Int)) (k : AW l D cl R nL X cells slots h tgt lv rest) : AW l D cl R nL X cells slots h pc lv (.int x :: rest) := fun H locs ls hP hS hl => lv_tableOut M.1 M.2.1 d hx ht (k H locs ls hP hS hl)
theorem ax_tableIn (M : Mx D cl nL X cc own Ts tys NN) {dflt lo hi : Int} {offs : Array Int} {len : Nat} {x : Int32} {off : Int} {tgt : Nat} (d : decode cc pc = .ok (.tableswitch dflt lo hi offs, len)) (h1 : ¬ x.toInt < lo) (h2 : ¬ hi < x.toInt) (ho : offs[(x.toInt - lo).toNat]? = some off) (ht : (pc : Int) + off = (tgt : Int)) (k : AW l D cl R nL X cells slots h tgt lv rest) : AW l D cl R nL X cells slots h pc lv (.int x :: rest) := fun H locs ls hP hS hl => lv_tableIn M.1 M.2.1 d h1 h2 ho ht (k H locs ls hP hS hl)
theorem ax_lookup (M : Mx D cl nL X cc own Ts tys NN) {dflt : Int} {ps : Array (Int × Int)} {len : Nat} {x : Int32} {off : Int} {tgt : Nat} (d : decode cc pc = .ok (.lookupswitch dflt ps, len)) (hp : (ps.toList.zip (ps.toList.drop 1)).all (fun (a, next) => a.1 < next.1) = true) (ho : Op.lookupswitch.offset ps.toList dflt x.toInt = off) (ht : (pc : Int) + off = (tgt : Int)) (k : AW l D cl R nL X cells slots h tgt lv rest) : AW l D cl R nL X cells slots h pc lv (.int x :: rest) := fun H locs ls hP hS hl => lv_lookup M.1 M.2.1 d hp ho ht (k H locs ls hP hS hl)
theorem ax_ldc (M : Mx D cl nL X cc own Ts tys NN) {index : Nat} {v : Int32} (hc : Jvm.Cond.constant own index v ∈ Ts) (d : decode cc pc = .ok (.ldc index, 2)) (k : AW l D cl R nL X cells slots h (pc + 2) lv (.int v :: rest)) : AW l D cl R nL X cells slots h pc lv rest := fun H locs ls hP hS hl => lv_ldc M.1 M.2.1 M.2.2.2.1 (M.2.2.2.2.1 _ hc) d (k H locs ls hP hS hl)
theorem ax_ldc2 (M : Mx D cl nL X cc own Ts tys NN) {index : Nat} {v : Int64} (hc : Jvm.Cond.constantLong own index v ∈ Ts) (d : decode cc pc = .ok (.ldc2_w index, 3)) (k : AW l D cl R nL X cells slots h (pc + 3) lv (.long v :: rest)) : AW l D cl R nL X cells slots h pc lv rest := fun H locs ls hP hS hl => lv_ldc2 M.1 M.2.1 M.2.2.2.1 (M.2.2.2.2.1 _ hc) d (k H locs ls hP hS hl)
/-- fields: of the own class, of a nest mate's -/
theorem ax_get (M : Mx D cl nL X cc own Ts tys NN) {C : String} {T : u_T} {N ci index a : Nat} (hin : ∀ w ∈ u_ws C T N, w ∈ Ts) {fs : List Value} (ha : h a = some (.inr (ci, fs))) (hc : cl[ci]? = some (C, T, N)) (k0 : Nat) (hk : k0 < N) (hlink : Cond.fieldLink own index (T k0).1 (T k0).2.1 (T k0).2.2.1 ∈ Ts) {v : Value} (hv : fs[k0]? = some v) (d : decode cc pc = .ok (.getfield index, 3)) (k : AW l D cl R nL X cells slots h (pc + 3) lv (v :: rest)) : AW l D cl R nL X cells slots h pc lv (.ref a :: rest) := fun H locs ls hP hS hl => by
  obtain ⟨ws, h1, h2, h3⟩ := id hP
  obtain ⟨q, hq⟩ := (h3 _ _).mp ha
  exact va_get M.1 M.2.1 M.2.2.2.2.1 hin M.2.2.2.1 M.2.2.2.2.2.1 h1 q hq hc k0 hk (M.2.2.2.2.1 _ hlink) (fun _ h9 => h9) hv d (k H locs ls hP hS hl)
theorem ax_getN (M : Mx D cl nL X cc own Ts tys NN) {C host : String} {T : u_T} {N ci index a : Nat} (hin : ∀ w ∈ u_ws C T N, w ∈ Ts) {fs : List Value} (ha : h a = some (.inr (ci, fs))) (hc : cl[ci]? = some (C, T, N)) (k0 : Nat) (hk : k0 < N) (hlink : Cond.fieldLinkNest own index (T k0).1 (T k0).2.1 (T k0).2.2.1 host ∈ NN) {v : Value} (hv : fs[k0]? = some v) (d : decode cc pc = .ok (.getfield index, 3)) (k : AW l D cl R nL X cells slots h (pc + 3) lv (v :: rest)) : AW l D cl R nL X cells slots h pc lv (.ref a :: rest) := fun H locs ls hP hS hl => by
  obtain ⟨ws, h1, h2, h3⟩ := id hP
  obtain ⟨q, hq⟩ := (h3 _ _).mp ha
  exact va_getN M.1 M.2.1 M.2.2.2.2.1 hin M.2.2.2.1 M.2.2.2.2.2.1 h1 q hq hc k0 hk (va_Nw.use rfl (M.2.2.2.2.2.2.2.2 _ hlink).2) (fun _ h9 => h9) hv d (k H locs ls hP hS hl)
theorem ax_put (M : Mx D cl nL X cc own Ts tys NN) {C : String} {T : u_T} {N ci index a : Nat} (hin : ∀ w ∈ u_ws C T N, w ∈ Ts) (ty0 : Nat → FieldType) (hty : ∀ k, k < N → parseFieldDescriptor (T k).2.2.1 = some (ty0 k)) (hnm : ∀ a, a < N → ∀ b, b < N → a ≠ b → (T a).2.1 ≠ (T b).2.1) {fs : List Value} (ha : h a = some (.inr (ci, fs))) (hc : cl[ci]? = some (C, T, N)) (k0 : Nat) (hk : k0 < N) (hlink : Cond.fieldLink own index (T k0).1 (T k0).2.1 (T k0).2.2.1 ∈ Ts) (hfin : (T k0).2.2.2 = false) {v : Value} (hn : narrow (ty0 k0) v = v) (hfit : fits (ty0 k0) v = true) (hlen : k0 < fs.length) (d : decode cc pc = .ok (.putfield index, 3)) (k : AW l D cl R nL X cells slots (ah_set h a (.inr (ci, fs.set k0 v))) (pc + 3) lv rest) : AW l D cl R nL X cells slots h pc lv (v :: .ref a :: rest) := fun H locs ls hP hS hl => by
  obtain ⟨ws, h1, h2, h3⟩ := id hP
  obtain ⟨q, hq⟩ := (h3 _ _).mp ha
  exact va_put M.1 M.2.1 M.2.2.2.2.1 hin ty0 hty hnm M.2.2.2.1 M.2.2.2.2.2.1 h1 h2 hS q hq hc k0 hk (M.2.2.2.2.1 _ hlink) (fun _ h9 => h9) hfin (hty k0 hk) hn hfit hlen d (fun H1 locs1 g1 g2 g3 => k H1 locs1 ls ⟨_, g1, g2, ah_cov_set h3 h2 hq⟩ g3 hl)
theorem ax_putN (M : Mx D cl nL X cc own Ts tys NN) {C host : String} {T : u_T} {N ci index a : Nat} (hin : ∀ w ∈ u_ws C T N, w ∈ Ts) (ty0 : Nat → FieldType) (hty : ∀ k, k < N → parseFieldDescriptor (T k).2.2.1 = some (ty0 k)) (hnm : ∀ a, a < N → ∀ b, b < N → a ≠ b → (T a).2.1 ≠ (T b).2.1) {fs : List Value} (ha : h a = some (.inr (ci, fs))) (hc : cl[ci]? = some (C, T, N)) (k0 : Nat) (hk : k0 < N) (hlink : Cond.fieldLinkNest own index (T k0).1 (T k0).2.1 (T k0).2.2.1 host ∈ NN) (hfin : (T k0).2.2.2 = false) {v : Value} (hn : narrow (ty0 k0) v = v) (hfit : fits (ty0 k0) v = true) (hlen : k0 < fs.length) (d : decode cc pc = .ok (.putfield index, 3)) (k : AW l D cl R nL X cells slots (ah_set h a (.inr (ci, fs.set k0 v))) (pc + 3) lv rest) : AW l D cl R nL X cells slots h pc lv (v :: .ref a :: rest) := fun H locs ls hP hS hl => by
  obtain ⟨ws, h1, h2, h3⟩ := id hP
  obtain ⟨q, hq⟩ := (h3 _ _).mp ha
  exact va_putN M.1 M.2.1 M.2.2.2.2.1 hin ty0 hty hnm M.2.2.2.1 M.2.2.2.2.2.1 h1 h2 hS q hq hc k0 hk (va_Nw.use rfl (M.2.2.2.2.2.2.2.2 _ hlink).2) (fun _ h9 => h9) hfin (hty k0 hk) hn hfit hlen d (fun H1 locs1 g1 g2 g3 => k H1 locs1 ls ⟨_, g1, g2, ah_cov_set h3 h2 hq⟩ g3 hl)
theorem ax_putF (M : Mx D cl nL X cc own Ts tys NN) {C : String} {T : u_T} {N ci index a : Nat} (hin : ∀ w ∈ u_ws C T N, w ∈ Ts) (ty0 : Nat → FieldType) (hty : ∀ k, k < N → parseFieldDescriptor (T k).2.2.1 = some (ty0 k)) (hnm : ∀ a, a < N → ∀ b, b < N → a ≠ b → (T a).2.1 ≠ (T b).2.1) {fs : List Value} (ha : h a = some (.inr (ci, fs))) (hc : cl[ci]? = some (C, T, N)) (k0 : Nat) (hk : k0 < N) (hlink : Cond.fieldLink own index (T k0).1 (T k0).2.1 (T k0).2.2.1 ∈ Ts) (hfin : (T k0).2.2.2 = true) (hi2 : (xh X).name = "<init>") (hdecl : (T k0).1 = own) {v : Value} (hn : narrow (ty0 k0) v = v) (hfit : fits (ty0 k0) v = true) (hlen : k0 < fs.length) (d : decode cc pc = .ok (.putfield index, 3)) (k : AW l D cl R nL X cells slots (ah_set h a (.inr (ci, fs.set k0 v))) (pc + 3) lv rest) : AW l D cl R nL X cells slots h pc lv (v :: .ref a :: rest) := fun H locs ls hP hS hl => by
  obtain ⟨ws, h1, h2, h3⟩ := id hP
  obtain ⟨q, hq⟩ := (h3 _ _).mp ha
  exact va_putF M.1 M.2.1 M.2.2.2.2.1 hin ty0 hty hnm M.2.2.2.1 M.2.2.2.2.2.1 h1 h2 hS q hq hc k0 hk (M.2.2.2.2.1 _ hlink) (fun _ h9 => h9) hfin hi2 hdecl (hty k0 hk) hn hfit hlen d (fun H1 locs1 g1 g2 g3 => k H1 locs1 ls ⟨_, g1, g2, ah_cov_set h3 h2 hq⟩ g3 hl)
theorem ax_iald (M : Mx D cl nL X cc own Ts tys NN) {a : Nat} {cA : ClassId} {n : Nat} {f : Nat → Int32} (ha : h a = some (.inl (cA, n, .inl f))) (t0 : Nat) (ht : tys[t0]? = some (cA, .int)) {i : Int32} (hi : vp_in i n) (d : decode cc pc = .ok (.iaload, 1)) (k : AW l D cl R nL X cells slots h (pc + 1) lv (.int (f i.toNatClampNeg) :: rest)) : AW l D cl R nL X cells slots h pc lv (.int i :: .ref a :: rest) := fun H locs ls hP hS hl => by
  obtain ⟨ws, h1, h2, h3⟩ := id hP
  obtain ⟨q, hq⟩ := (h3 _ _).mp ha
  exact va_iald M.1 M.2.1 M.2.2.2.2.2.1 h1 q t0 hq ht hi d (k H locs ls hP hS hl)
theorem ax_zald (M : Mx D cl nL X cc own Ts tys NN) {a : Nat} {cA : ClassId} {n : Nat} {f : Nat → Int32} (ha : h a = some (.inl (cA, n, .inl f))) (t0 : Nat) (ht : tys[t0]? = some (cA, .boolean)) {i : Int32} (hi : vp_in i n) (d : decode cc pc = .ok (.baload, 1)) (k : AW l D cl R nL X cells slots h (pc + 1) lv (.int (f i.toNatClampNeg) :: rest)) : AW l D cl R nL X cells slots h pc lv (.int i :: .ref a :: rest) := fun H locs ls hP hS hl => by
  obtain ⟨ws, h1, h2, h3⟩ := id hP
  obtain ⟨q, hq⟩ := (h3 _ _).mp ha
  exact va_zald M.1 M.2.1 M.2.2.2.2.2.1 h1 q t0 hq ht hi d (k H locs ls hP hS hl)
theorem ax_lald (M : Mx D cl nL X cc own Ts tys NN) {a : Nat} {cA : ClassId} {n : Nat} {f : Nat → Int64} (ha : h a = some (.inl (cA, n, .inr (.inl f)))) (t0 : Nat) (ht : tys[t0]? = some (cA, .long)) {i : Int32} (hi : vp_in i n) (d : decode cc pc = .ok (.laload, 1)) (k : AW l D cl R nL X cells slots h (pc + 1) lv (.long (f i.toNatClampNeg) :: rest)) : AW l D cl R nL X cells slots h pc lv (.int i :: .ref a :: rest) := fun H locs ls hP hS hl => by
  obtain ⟨ws, h1, h2, h3⟩ := id hP
  obtain ⟨q, hq⟩ := (h3 _ _).mp ha
  exact va_lald M.1 M.2.1 M.2.2.2.2.2.1 h1 q t0 hq ht hi d (k H locs ls hP hS hl)
theorem ax_last (M : Mx D cl nL X cc own Ts tys NN) {a : Nat} {cA : ClassId} {n : Nat} {f : Nat → Int64} (ha : h a = some (.inl (cA, n, .inr (.inl f)))) (t0 : Nat) (ht : tys[t0]? = some (cA, .long)) {i : Int32} {x : Int64} (hi : vp_in i n) (d : decode cc pc = .ok (.lastore, 1)) (k : AW l D cl R nL X cells slots (ah_set h a (.inl (cA, n, .inr (.inl (vp_updL f i.toNatClampNeg x))))) (pc + 1) lv rest) : AW l D cl R nL X cells slots h pc lv (.long x :: .int i :: .ref a :: rest) := fun H locs ls hP hS hl => by
  obtain ⟨ws, h1, h2, h3⟩ := id hP
  obtain ⟨q, hq⟩ := (h3 _ _).mp ha
  exact va_last M.1 M.2.1 M.2.2.2.2.2.1 h1 h2 hS q t0 hq ht hi d (fun H1 locs1 g1 g2 g3 => k H1 locs1 ls ⟨_, g1, g2, ah_cov_set h3 h2 hq⟩ g3 hl)
theorem ax_iast (M : Mx D cl nL X cc own Ts tys NN) {a : Nat} {cA : ClassId} {n : Nat} {f : Nat → Int32} (ha : h a = some (.inl (cA, n, .inl f))) (t0 : Nat) (ht : tys[t0]? = some (cA, .int)) {i x : Int32} (hi : vp_in i n) (d : decode cc pc = .ok (.iastore, 1)) (k : AW l D cl R nL X cells slots (ah_set h a (.inl (cA, n, .inl (upd f i.toNatClampNeg x)))) (pc + 1) lv rest) : AW l D cl R nL X cells slots h pc lv (.int x :: .int i :: .ref a :: rest) := fun H locs ls hP hS hl => by
  obtain ⟨ws, h1, h2, h3⟩ := id hP
  obtain ⟨q, hq⟩ := (h3 _ _).mp ha
  exact va_iast M.1 M.2.1 M.2.2.2.2.2.1 h1 h2 hS q t0 hq ht hi d (fun H1 locs1 g1 g2 g3 => k H1 locs1 ls ⟨_, g1, g2, ah_cov_set h3 h2 hq⟩ g3 hl)
theorem ax_zast (M : Mx D cl nL X cc own Ts tys NN) {a : Nat} {cA : ClassId} {n : Nat} {f : Nat → Int32} (ha : h a = some (.inl (cA, n, .inl f))) (t0 : Nat) (ht : tys[t0]? = some (cA, .boolean)) {i x : Int32} (hi : vp_in i n) (hb : vp_nar .boolean x = x) (d : decode cc pc = .ok (.bastore, 1)) (k : AW l D cl R nL X cells slots (ah_set h a (.inl (cA, n, .inl (upd f i.toNatClampNeg x)))) (pc + 1) lv rest) : AW l D cl R nL X cells slots h pc lv (.int x :: .int i :: .ref a :: rest) := fun H locs ls hP hS hl => by
  obtain ⟨ws, h1, h2, h3⟩ := id hP
  obtain ⟨q, hq⟩ := (h3 _ _).mp ha
  have hk := k
  rw [← hb] at hk
  exact va_zast M.1 M.2.1 M.2.2.2.2.2.1 h1 h2 hS q t0 hq ht hi d (fun H1 locs1 g1 g2 g3 => hk H1 locs1 ls ⟨_, g1, g2, ah_cov_set h3 h2 hq⟩ g3 hl)
theorem ax_aldq (M : Mx D cl nL X cc own Ts tys NN) {a : Nat} {cA : ClassId} {ty : FieldType} {n : Nat} {f : Nat → Option Nat} (ha : h a = some (.inl (cA, n, .inr (.inr (.inr (.inr f)))))) (t0 : Nat) (ht : tys[t0]? = some (cA, ty)) (hty : ty.isReference = true) {i : Int32} {v : Nat} (hi : vp_in i n) (hv : f i.toNatClampNeg = some v) (d : decode cc pc = .ok (.aaload, 1)) (k : AW l D cl R nL X cells slots h (pc + 1) lv (.ref v :: rest)) : AW l D cl R nL X cells slots h pc lv (.int i :: .ref a :: rest) := fun H locs ls hP hS hl => by
  obtain ⟨ws, h1, h2, h3⟩ := id hP
  obtain ⟨q, hq⟩ := (h3 _ _).mp ha
  have hlt : i.toNatClampNeg < n := Nat.not_le.mp fun q => hi (Or.inr q)
  exact W.aald (v := .ref v) (ty := ty) M.1 M.2.1 (h1 q _ hq) ((M.2.2.2.2.2.1.2 t0 _ ht).1 n (fun j => va_rf (f j))) hty (fun q => by cases q) (by show ¬ (i < 0 ∨ (arrV _ _ _).slots.size ≤ _); rw [arrV_size]; exact hi) (by show (arrV _ _ _).slots[_]? = _; rw [arrV_read _ _ hlt, hv]; rfl) rfl rfl d (k H locs ls hP hS hl)
theorem ax_astq (M : Mx D cl nL X cc own Ts tys NN) {a ci : Nat} {cA : ClassId} {r : vw_C} {n v : Nat} {vs : List Value} {f : Nat → Option Nat} (ha : h a = some (.inl (cA, n, .inr (.inr (.inr (.inr f)))))) (t0 : Nat) (ht : tys[t0]? = some (cA, .object r.1)) (hv : h v = some (.inr (ci, vs))) (hc : cl[ci]? = some r) {i : Int32} (hi : vp_in i n) (d : decode cc pc = .ok (.aastore, 1)) (k : AW l D cl R nL X cells slots (ah_set h a (.inl (cA, n, .inr (.inr (.inr (.inr (va_up f i.toNatClampNeg (some v)))))))) (pc + 1) lv rest) : AW l D cl R nL X cells slots h pc lv (.ref v :: .int i :: .ref a :: rest) := fun H locs ls hP hS hl => by
  obtain ⟨ws, h1, h2, h3⟩ := id hP
  obtain ⟨q, hq⟩ := (h3 _ _).mp ha
  obtain ⟨q2, hq2⟩ := (h3 _ _).mp hv
  exact va_astq M.1 M.2.1 M.2.2.2.2.2.1 h1 h2 hS q t0 q2 ci hq ht hq2 hc hi d (fun H1 locs1 g1 g2 g3 => k H1 locs1 ls ⟨_, g1, g2, ah_cov_set h3 h2 hq⟩ g3 hl)
theorem ax_alen (M : Mx D cl nL X cc own Ts tys NN) {a : Nat} {cA : ClassId} {x : vp_A} (ha : h a = some (.inl (cA, x))) (t0 : Nat) {ty : FieldType} (ht : tys[t0]? = some (cA, ty)) (d : decode cc pc = .ok (.arraylength, 1)) (k : AW l D cl R nL X cells slots h (pc + 1) lv (.int (nI x.1) :: rest)) : AW l D cl R nL X cells slots h pc lv (.ref a :: rest) := fun H locs ls hP hS hl => by
  obtain ⟨ws, h1, h2, h3⟩ := id hP
  obtain ⟨q, hq⟩ := (h3 _ _).mp ha
  exact va_alen M.1 M.2.1 M.2.2.2.2.2.1 h1 q t0 hq ht rfl d (k H locs ls hP hS hl)
theorem ax_new (M : Mx D cl nL X cc own Ts tys NN) {C : String} {T : u_T} {N ci index : Nat} (hin : ∀ w ∈ u_ws C T N, w ∈ Ts) (ty : Nat → FieldType) (hty : ∀ k, k < N → parseFieldDescriptor (T k).2.2.1 = some (ty k)) (hcl : Cond.classLink own index C ∈ Ts) (hinst : Cond.instantiable C N ∈ Ts) (hini : Cond.initialized C ∈ Ts) (hc : cl[ci]? = some (C, T, N)) {fs : List Value} (hfs : ∀ j, j < N → defaultValue (ty j) = vp_V fs j) (hcells : cells + 1 ≤ R.cells) (hslots : slots + N ≤ R.slots) (d : decode cc pc = .ok (.new index, 3)) (k : ∀ q : Nat, h q = none → AW l D cl R nL X (cells + 1) (slots + N) (ah_set h q (.inr (ci, fs))) (pc + 3) lv (.ref q :: rest)) : AW l D cl R nL X cells slots h pc lv rest := fun H locs ls hP hS hl => by
  obtain ⟨ws, h1, h2, h3⟩ := id hP
  exact va_new M.1 M.2.1 M.2.2.2.2.1 hin ty hty M.2.2.2.1 (M.2.2.2.2.1 _ hcl) (M.2.2.2.2.1 _ hinst) (M.2.2.2.2.1 _ hini) M.2.2.2.2.2.1 h1 h2 hS M.2.2.2.2.2.2.2.1 hc hfs hcells hslots d (fun q H1 g1 g2 g3 => k q (ah_cov_push h3 g2).1 H1 locs ls ⟨_, g1, g2, (ah_cov_push h3 g2).2⟩ g3 hl)
theorem ax_objInit (M : Mx D cl nL X cc own Ts tys NN) {a idx : Nat} (hlink : Cond.methodLink own idx Lib.objectInit ∈ Ts) (hinst : Cond.instanceMethod Lib.objectInit ∈ Ts) (hcode : Cond.code Lib.objectInit ⟨#[0xb1]⟩ 1 none ∈ Ts) (d : decode cc pc = .ok (.invokespecial idx, 3)) (hframes : 1 ≤ R.frames) (hlocals : (rest.map fun v => v.category).sum + 12 ≤ R.locals) (k : AW l D cl R nL X cells slots h (pc + 3) lv rest) : AW l D cl R nL X cells slots h pc lv (.ref a :: rest) := fun H locs ls hP hS hl =>
  W.objInit M.1 M.2.1 M.2.2.2.1 (M.2.2.2.2.1 _ hlink) (M.2.2.2.2.1 _ hinst) (M.2.2.2.2.1 _ hcode) rfl (by rw [M.2.2.1]; exact hl.1) rfl d hframes (by show 2 * 0 + _ + 12 ≤ _; omega) (k H locs ls hP hS hl)
theorem ax_iret (M : Mx D cl nL X cc own Ts tys NN) {post : Option Value → AH → Prop} (hR : Rx D cl R X (some .int) post) {v : Int32} (hc : cells ≤ R.cells) (hs : slots ≤ R.slots) (d : decode cc pc = .ok (.ireturn, 1)) (hp : post (some (.int v)) h) : AW l D cl R nL X cells slots h pc lv [.int v] := fun H locs ls hP hS hl => by
  rw [hR.1]
  refine W.widen hc hs ?_
  exact W.iret M.1 M.2.1 hR.2 (fun t ht _ => ⟨⟨_, _, rfl, hp, by rw [ht]; exact hP⟩, hS.F ht⟩) hS.2.2 d M.2.2.2.2.2.2.1
theorem ax_lret (M : Mx D cl nL X cc own Ts tys NN) {post : Option Value → AH → Prop} (hR : Rx D cl R X (some .long) post) {v : Int64} (hc : cells ≤ R.cells) (hs : slots ≤ R.slots) (d : decode cc pc = .ok (.lreturn, 1)) (hp : post (some (.long v)) h) : AW l D cl R nL X cells slots h pc lv [.long v] := fun H locs ls hP hS hl => by
  rw [hR.1]
  refine W.widen hc hs ?_
  exact W.lret M.1 M.2.1 hR.2 (fun t ht _ => ⟨⟨_, _, rfl, hp, by rw [ht]; exact hP⟩, hS.F ht⟩) hS.2.2 d M.2.2.2.2.2.2.1
theorem ax_zret (M : Mx D cl nL X cc own Ts tys NN) {post : Option Value → AH → Prop} (hR : Rx D cl R X (some .boolean) post) {v : Int32} (hn : narrow .boolean (.int v) = .int v) (hc : cells ≤ R.cells) (hs : slots ≤ R.slots) (d : decode cc pc = .ok (.ireturn, 1)) (hp : post (some (.int v)) h) : AW l D cl R nL X cells slots h pc lv [.int v] := fun H locs ls hP hS hl => by
  rw [hR.1]
  refine W.widen hc hs ?_
  exact W.zret M.1 M.2.1 hR.2 hn (fun t ht _ => ⟨⟨_, _, rfl, hp, by rw [ht]; exact hP⟩, hS.F ht⟩) hS.2.2 d M.2.2.2.2.2.2.1
theorem ax_vret (M : Mx D cl nL X cc own Ts tys NN) {post : Option Value → AH → Prop} (hR : Rx D cl R X none post) (hc : cells ≤ R.cells) (hs : slots ≤ R.slots) (d : decode cc pc = .ok (.return_, 1)) (hp : post none h) : AW l D cl R nL X cells slots h pc lv [] := fun H locs ls hP hS hl => by
  rw [hR.1]
  refine W.widen hc hs ?_
  exact W.vret M.1 M.2.1 hR.2 (fun t ht _ => ⟨⟨_, _, rfl, hp, by rw [ht]; exact hP⟩, hS.F ht⟩) hS.2.2 d M.2.2.2.2.2.2.1
/-- behind a call -/
theorem ax_behind {rm : Room} {post : Option Value → AH → Prop} {a : Array Value} {H : Heap} {locs : List Loc} {ls : Array Slot} {st0 : List Value} (hA : ∀ q, (xs X).heap.size ≤ q → xA X q) (hP : XP D cl (xA X) h H) (hS : va_S (xA X) (xs X).heap H locs) (hl : lv_has ls nL lv)
    (run : va_Run (xp X) l (xe X) R (xs X) (xm X) (xa X) (xb X) (xh X) (xc X) H locs cells slots rm.cells rm.slots (F0 (xm X) pc ls st0) rest (Qx D cl (ah_A h H.size) post a) (ah_A h H.size))
    (k : ∀ (r : Option Value) (h' : AH), post r h' → AW l D cl R nL X (cells + rm.cells) (slots + rm.slots) h' (pc + 3) lv (r.toList ++ rest)) :
    W (xp X) l (xe X) R (xs X) (xm X) (xa X) (xb X) (xh X) (xc X) H locs cells slots (xQ X) (F0 (xm X) pc ls st0) := by
  intro T hT X0
  obtain ⟨v, st₀, t, T', L, h0, X', hL, e1, e2, ⟨⟨r, h', hv, hp, hX⟩, hz, hk⟩, st⟩ := run T hT X0
  cases hv
  rw [h0] at hz hk
  have hin : ∀ q, ah_A h H.size q → xA X q := fun q hq => by
    rcases hq with hq | hq
    · exact hP.in hq
    · exact hA q (Nat.le_trans hS.1 hq)
  obtain ⟨t2, a1, b1⟩ := k _ h' hp T'.heap (locs ++ L) ls (by rw [e1]; exact hX.weaken hin)
    ⟨Nat.le_trans hS.1 (by rw [e1]; exact hz), fun q h1 h2 => by rw [e1, hk q (Nat.lt_of_lt_of_le h1 hS.1) (fun z => h2 (hin q z))]; exact hS.2.1 q h1 h2, fun q hq => by
      rcases List.mem_append.mp hq with h4 | h4
      · exact hS.2.2 q h4
      · exact hin _ (hL q h4)⟩ hl T' rfl X'
  exact ⟨t2, st t2 a1, b1⟩
/-- a callee's start out of the caller's map -/
theorem ax_blind {av : List Value} {sz : Nat} : FrameBlind (va_Pc av (fun U => U.heap.size = sz ∧ XP D cl (fun _ => True) h U.heap ∧ va_K D cl tys U ∧ ∀ w ∈ NN, nw_b w = true ∧ va_Nw w U)) := fun a U g mk q => by
  obtain ⟨q0, q1, qP, qK, qN⟩ := q
  exact ⟨q0, q1, qP, va_K.moved (u := U) (U := U.calling g mk a) (Vm.Alike.refl U.vm) qK, fun w hw => ⟨(qN w hw).1, va_Nw.same (u := U) (U := U.calling g mk a) (nw_on (qN w hw).1) rfl (qN w hw).2⟩⟩
theorem ax_start {av : List Value} {H : Heap} (M : Mx D cl nL X cc own Ts tys NN) (hP : XP D cl (xA X) h H) : ∀ U : State, U.heap = H → (xs X).WarmedH U.vm → va_Pc av (fun U => U.heap.size = H.size ∧ XP D cl (fun _ => True) h U.heap ∧ va_K D cl tys U ∧ ∀ w ∈ NN, nw_b w = true ∧ va_Nw w U) av.toArray U :=
  fun U hU hW => ⟨rfl, by rw [hU], by rw [hU]; exact hP.weaken (fun _ _ => trivial), va_K.moved hW.alike M.2.2.2.2.2.1, fun w hw => ⟨(M.2.2.2.2.2.2.2.2 w hw).1, nw_warm (M.2.2.2.2.2.2.2.2 w hw).1 hW (M.2.2.2.2.2.2.2.2 w hw).2⟩⟩
theorem ax_recv {H : Heap} {b ci : Nat} {q : vw_C} {fs : List Value} (M : Mx D cl nL X cc own Ts tys NN) (hP : XP D cl (xA X) h H) (hc : cl[ci]? = some q) (ha : h b = some (.inr (ci, fs))) : ∃ cell : Cell, H[b]? = some cell ∧ cell.vm.isStatics = false ∧ (xs X).vm.findClass q.1 = some cell.cls := by
  obtain ⟨ws, h1, h2, h3⟩ := hP
  obtain ⟨j, hj⟩ := (h3 _ _).mp ha
  exact va_recv M.2.2.2.2.2.1 h1 hc hj
/-- the words of a callee: all callees share one list of words -/
def ax_good (TT : List Cond) : Prop := ∀ w ∈ TT, (w.onTables && w.keeps) = true ∨ ∃ ty, w = .arrayClass ty
theorem ax_goodIn {ws : List Cond} (hg : ax_good Ts) (hw : ∀ w ∈ ws, w ∈ Ts) : GoodIn Ts ws := fun w h => ⟨hw w h, hg w (hw w h)⟩
theorem ax_callV (M : Mx D cl nL X cc own Ts tys NN) (hg : ax_good Ts) {C : String} {q : vw_C} {y : MethodName} {bytes : ByteArray} {maxL index n b ci : Nat} {ret : Option FieldType} {rm : Room} {As st0 : List Value} {fs : List Value} {post : Option Value → AH → Prop} (hq1 : q.1 = C) (hc : cl[ci]? = some q) (ha : h b = some (.inr (ci, fs))) (hM : AC l D cl tys NN y (Cond.code y bytes maxL ret :: Ts) rm (.ref b :: As) h post)
    (hws : ∀ w ∈ ([.methodLink own index y, .instanceMethod y, .selects C y y, .initialized C, .code y bytes maxL ret] : List Cond), w ∈ Ts) (hd : y.cls = C ∧ y.cls ≠ "java/lang/invoke/MethodHandle" ∧ y.cls ≠ "java/lang/invoke/VarHandle" ∧ (parseMethodDescriptor y.desc).map (fun d => d.parameters.length) = some n) (hR : rm.frames + 1 ≤ R.frames ∧ 8 + (maxL + 11) + rm.locals ≤ R.locals) (hn : As.length = n) (hst : st0 = As.reverse ++ .ref b :: rest) (hr : (rest.map fun v => v.category).sum ≤ 8) (d : decode cc pc = .ok (.invokevirtual index, 3)) (hf : cells + rm.cells ≤ R.cells ∧ slots + rm.slots ≤ R.slots) {c1 s1 : Nat} (hf1 : cells + rm.cells ≤ c1 ∧ slots + rm.slots ≤ s1)
    (k : ∀ (r : Option Value) (h' : AH), post r h' → AW l D cl R nL X c1 s1 h' (pc + 3) lv (r.toList ++ rest)) : AW l D cl R nL X cells slots h pc lv st0 := fun H locs ls hP hS hl => by
  subst hq1
  refine ax_behind M.2.2.2.2.2.2.2.1 hP hS hl (va_runV ⟨M.1, M.2.1, M.2.2.1, M.2.2.2.1, M.2.2.2.2.1⟩ (hM H.size) (cwV n M.2.2.2.2.1 (ax_goodIn hg ?_) rfl rfl rfl hd hR) ⟨ax_blind, ax_recv M hP hc ha, ax_start M hP⟩ rfl hn hl.1 hst (lv_room hr) d hf) (fun r h' hp => ax_widen hf1.1 hf1.2 (k r h' hp))
  intro w hw
  unfold wsV at hw
  rcases List.mem_append.mp hw with hw | hw
  · exact hws w (List.mem_append_left [Cond.code y bytes maxL ret] hw)
  · rcases List.mem_cons.mp hw with hw | hw
    · exact hws w (by rw [hw]; simp)
    · exact hw
theorem ax_callS (M : Mx D cl nL X cc own Ts tys NN) (hg : ax_good Ts) {y : MethodName} {bytes : ByteArray} {maxL index n : Nat} {ret : Option FieldType} {rm : Room} {As st0 : List Value} {post : Option Value → AH → Prop} (hM : AC l D cl tys NN y (Cond.code y bytes maxL ret :: Ts) rm As h post)
    (hws : ∀ w ∈ ([.methodLink own index y, .static y, .initialized y.cls, .code y bytes maxL ret] : List Cond), w ∈ Ts) (hd : y.cls ≠ "java/lang/invoke/MethodHandle" ∧ y.cls ≠ "java/lang/invoke/VarHandle" ∧ (parseMethodDescriptor y.desc).map (fun d => d.parameters.length) = some n) (hR : rm.frames + 1 ≤ R.frames ∧ 8 + (maxL + 11) + rm.locals ≤ R.locals) (hn : As.length = n) (hst : st0 = As.reverse ++ rest) (hr : (rest.map fun v => v.category).sum ≤ 8) (d : decode cc pc = .ok (.invokestatic index, 3)) (hf : cells + rm.cells ≤ R.cells ∧ slots + rm.slots ≤ R.slots) {c1 s1 : Nat} (hf1 : cells + rm.cells ≤ c1 ∧ slots + rm.slots ≤ s1)
    (k : ∀ (r : Option Value) (h' : AH), post r h' → AW l D cl R nL X c1 s1 h' (pc + 3) lv (r.toList ++ rest)) : AW l D cl R nL X cells slots h pc lv st0 := fun H locs ls hP hS hl => by
  refine ax_behind M.2.2.2.2.2.2.2.1 hP hS hl (va_runS ⟨M.1, M.2.1, M.2.2.1, M.2.2.2.1, M.2.2.2.2.1⟩ (hM H.size) (va_cwS n M.2.2.2.2.1 (ax_goodIn hg ?_) rfl rfl rfl hd hR) ⟨ax_blind, ax_start M hP⟩ rfl hn hl.1 hst (lv_room hr) d hf) (fun r h' hp => ax_widen hf1.1 hf1.2 (k r h' hp))
  intro w hw
  unfold va_wsS at hw
  rcases List.mem_append.mp hw with hw | hw
  · exact hws w (List.mem_append_left [Cond.code y bytes maxL ret] hw)
  · rcases List.mem_cons.mp hw with hw | hw
    · exact hws w (by rw [hw]; simp)
    · exact hw
theorem ax_callI (M : Mx D cl nL X cc own Ts tys NN) (hg : ax_good Ts) {y : MethodName} {bytes : ByteArray} {maxL index n b : Nat} {rm : Room} {As st0 : List Value} {post : Option Value → AH → Prop} (hM : AC l D cl tys NN y (Cond.code y bytes maxL none :: Ts) rm (.ref b :: As) h post)
    (hws : ∀ w ∈ ([.methodLink own index y, .instanceMethod y, .initialized y.cls, .code y bytes maxL none] : List Cond), w ∈ Ts) (hy1 : y.name = "<init>") (hd : y.cls ≠ "java/lang/invoke/MethodHandle" ∧ y.cls ≠ "java/lang/invoke/VarHandle" ∧ (parseMethodDescriptor y.desc).map (fun d => d.parameters.length) = some n) (hR : rm.frames + 1 ≤ R.frames ∧ 8 + (maxL + 11) + rm.locals ≤ R.locals) (hn : As.length = n) (hst : st0 = As.reverse ++ .ref b :: rest) (hr : (rest.map fun v => v.category).sum ≤ 8) (d : decode cc pc = .ok (.invokespecial index, 3)) (hf : cells + rm.cells ≤ R.cells ∧ slots + rm.slots ≤ R.slots) {c1 s1 : Nat} (hf1 : cells + rm.cells ≤ c1 ∧ slots + rm.slots ≤ s1)
    (k : ∀ (r : Option Value) (h' : AH), post r h' → AW l D cl R nL X c1 s1 h' (pc + 3) lv (r.toList ++ rest)) : AW l D cl R nL X cells slots h pc lv st0 := fun H locs ls hP hS hl => by
  have hm : ∀ w ∈ ([.methodLink own index y, .instanceMethod y, .initialized y.cls, .code y bytes maxL none] : List Cond), w.before (xa X) (xs X) = true := fun w h9 => M.2.2.2.2.1 w (hws w h9)
  refine ax_behind M.2.2.2.2.2.2.2.1 hP hS hl (va_runI ⟨M.1, M.2.1, M.2.2.1, M.2.2.2.1, M.2.2.2.2.1⟩ (hM H.size) (cwI n M.2.2.2.2.1 (ax_goodIn hg ?_) rfl rfl rfl (hm _ (by simp)) (hm _ (by simp)) (hm _ (by simp)) hy1 hd hR) ⟨ax_blind, ax_start M hP⟩ rfl hn hl.1 hst (lv_room hr) d hf) (fun r h' hp => ax_widen hf1.1 hf1.2 (k r h' hp))
  intro w hw
  rcases List.mem_cons.mp hw with hw | hw
  · exact hws w (by rw [hw]; simp)
  · exact hw
theorem ax_callVN (M : Mx D cl nL X cc own Ts tys NN) (hg : ax_good Ts) {host : String} {q : vw_C} {y : MethodName} {bytes : ByteArray} {maxL index n b ci : Nat} {ret : Option FieldType} {rm : Room} {As st0 : List Value} {fs : List Value} {post : Option Value → AH → Prop} (hc : cl[ci]? = some q) (ha : h b = some (.inr (ci, fs))) (hM : AC l D cl tys NN y (Cond.code y bytes maxL ret :: Ts) rm (.ref b :: As) h post)
    (hN : Cond.methodLinkNest own index y host ∈ NN) (hws : ∀ w ∈ ([.instanceMethod y, .selects q.1 y y, .initialized y.cls, .code y bytes maxL ret] : List Cond), w ∈ Ts) (hd : y.cls ≠ "java/lang/invoke/MethodHandle" ∧ y.cls ≠ "java/lang/invoke/VarHandle" ∧ (parseMethodDescriptor y.desc).map (fun d => d.parameters.length) = some n) (hR : rm.frames + 1 ≤ R.frames ∧ 8 + (maxL + 11) + rm.locals ≤ R.locals) (hn : As.length = n) (hst : st0 = As.reverse ++ .ref b :: rest) (hr : (rest.map fun v => v.category).sum ≤ 8) (d : decode cc pc = .ok (.invokevirtual index, 3)) (hf : cells + rm.cells ≤ R.cells ∧ slots + rm.slots ≤ R.slots) {c1 s1 : Nat} (hf1 : cells + rm.cells ≤ c1 ∧ slots + rm.slots ≤ s1)
    (k : ∀ (r : Option Value) (h' : AH), post r h' → AW l D cl R nL X c1 s1 h' (pc + 3) lv (r.toList ++ rest)) : AW l D cl R nL X cells slots h pc lv st0 := fun H locs ls hP hS hl => by
  have hm : ∀ w ∈ ([.instanceMethod y, .selects q.1 y y, .initialized y.cls, .code y bytes maxL ret] : List Cond), w.before (xa X) (xs X) = true := fun w h9 => M.2.2.2.2.1 w (hws w h9)
  refine ax_behind M.2.2.2.2.2.2.2.1 hP hS hl (va_runVN ⟨M.1, M.2.1, M.2.2.1, M.2.2.2.1, M.2.2.2.2.1⟩ (hM H.size) ⟨va_cnB (host := host) n M.2.2.2.2.1 (ax_goodIn hg ?_) rfl rfl rfl (M.2.2.2.2.2.2.2.2 _ hN).2 (hm _ (by simp)) hd hR, hm _ (by simp), hm _ (by simp)⟩ ⟨ax_blind, ax_recv M hP hc ha, ax_start M hP⟩ rfl hn hl.1 hst (lv_room hr) d hf) (fun r h' hp => ax_widen hf1.1 hf1.2 (k r h' hp))
  intro w hw
  rcases List.mem_cons.mp hw with hw | hw
  · exact hws w (by rw [hw]; simp)
  · exact hw
theorem ax_callIN (M : Mx D cl nL X cc own Ts tys NN) (hg : ax_good Ts) {host : String} {y : MethodName} {bytes : ByteArray} {maxL index n b : Nat} {rm : Room} {As st0 : List Value} {post : Option Value → AH → Prop} (hM : AC l D cl tys NN y (Cond.code y bytes maxL none :: Ts) rm (.ref b :: As) h post)
    (hN : Cond.methodLinkNest own index y host ∈ NN) (hws : ∀ w ∈ ([.instanceMethod y, .initialized y.cls, .code y bytes maxL none] : List Cond), w ∈ Ts) (hy1 : y.name = "<init>") (hd : y.cls ≠ "java/lang/invoke/MethodHandle" ∧ y.cls ≠ "java/lang/invoke/VarHandle" ∧ (parseMethodDescriptor y.desc).map (fun d => d.parameters.length) = some n) (hR : rm.frames + 1 ≤ R.frames ∧ 8 + (maxL + 11) + rm.locals ≤ R.locals) (hn : As.length = n) (hst : st0 = As.reverse ++ .ref b :: rest) (hr : (rest.map fun v => v.category).sum ≤ 8) (d : decode cc pc = .ok (.invokespecial index, 3)) (hf : cells + rm.cells ≤ R.cells ∧ slots + rm.slots ≤ R.slots) {c1 s1 : Nat} (hf1 : cells + rm.cells ≤ c1 ∧ slots + rm.slots ≤ s1)
    (k : ∀ (r : Option Value) (h' : AH), post r h' → AW l D cl R nL X c1 s1 h' (pc + 3) lv (r.toList ++ rest)) : AW l D cl R nL X cells slots h pc lv st0 := fun H locs ls hP hS hl => by
  have hm : ∀ w ∈ ([.instanceMethod y, .initialized y.cls, .code y bytes maxL none] : List Cond), w.before (xa X) (xs X) = true := fun w h9 => M.2.2.2.2.1 w (hws w h9)
  refine ax_behind M.2.2.2.2.2.2.2.1 hP hS hl (va_runIN ⟨M.1, M.2.1, M.2.2.1, M.2.2.2.1, M.2.2.2.2.1⟩ (hM H.size) ⟨va_cnB (host := host) n M.2.2.2.2.1 (ax_goodIn hg ?_) rfl rfl rfl (M.2.2.2.2.2.2.2.2 _ hN).2 (hm _ (by simp)) hd hR, hy1, hm _ (by simp)⟩ ⟨ax_blind, ax_start M hP⟩ rfl hn hl.1 hst (lv_room hr) d hf) (fun r h' hp => ax_widen hf1.1 hf1.2 (k r h' hp))
  intro w hw
  rcases List.mem_cons.mp hw with hw | hw
  · exact hws w (by rw [hw]; simp)
  · exact hw
/-- a contract out of the walk of the body -/
theorem AC.of {y : MethodName} {ws ws' : List Cond} {rm : Room} {ret : Option FieldType} {av : List Value} {post : Option Value → AH → Prop} (hy : plainName y.cls = true) (hw : ws = Cond.code y cc nL ret :: ws') (hn : (lg_sl av).length ≤ nL)
    (body : ∀ X : CX, Mx D cl nL X cc y.cls ws' tys NN → Rx D cl rm X ret post → (xh X).name = y.name → AW l D cl rm nL X 0 0 h 0 (lv_args 0 av) []) : AC l D cl tys NN y ws rm av h post := by
  intro sz
  refine Met.ofW (cc := cc) (maxL := nL) (ret := ret) hy hw ?_
  intro p e s m args below meth c s₁ B hml hv
  obtain ⟨rfl, hsz, hP, hK, hN⟩ := hv
  subst hsz
  have hts := atoms_spec (ws := ws) B.pre
  have hl := lv_entry av (n := nL) hn
  rw [lg_entry_eq]
  exact body (p, e, s, m, av.toArray, below, meth, c, ah_A h s.heap.size, MQ below (Qx D cl (ah_A h s.heap.size) post) av.toArray s rm.cells rm.slots (ah_A h s.heap.size)) ⟨B.exec, B.bytes, hml, findClass_of_methodNamed B.named, fun w h9 => hts w (by rw [hw]; exact List.mem_cons_of_mem _ h9), hK, B.notSynchronized, fun q hq => Or.inr hq, hN⟩ ⟨rfl, B.returns⟩ (name_of_methodNamed B.named B.method).1 s.heap [] _ (hP.self _) va_S.rf hl
theorem ax_ret_i {c1 s1 : Nat} {r : Int32} {Φ : AH → Prop} (k : ∀ h' : AH, Φ h' → AW l D cl R nL X c1 s1 h' pc lv (.int r :: rest)) : ∀ (rv : Option Value) (h' : AH), (rv = some (.int r) ∧ Φ h') → AW l D cl R nL X c1 s1 h' pc lv (rv.toList ++ rest) := fun rv h' hp => by
  obtain ⟨e, hp⟩ := hp
  subst e
  exact k h' hp
theorem ax_ret_l {c1 s1 : Nat} {r : Int64} {Φ : AH → Prop} (k : ∀ h' : AH, Φ h' → AW l D cl R nL X c1 s1 h' pc lv (.long r :: rest)) : ∀ (rv : Option Value) (h' : AH), (rv = some (.long r) ∧ Φ h') → AW l D cl R nL X c1 s1 h' pc lv (rv.toList ++ rest) := fun rv h' hp => by
  obtain ⟨e, hp⟩ := hp
  subst e
  exact k h' hp
theorem ax_ret_v {c1 s1 : Nat} {Φ : AH → Prop} (k : ∀ h' : AH, Φ h' → AW l D cl R nL X c1 s1 h' pc lv rest) : ∀ (rv : Option Value) (h' : AH), (rv = none ∧ Φ h') → AW l D cl R nL X c1 s1 h' pc lv (rv.toList ++ rest) := fun rv h' hp => by
  obtain ⟨e, hp⟩ := hp
  subst e
  exact k h' hp
theorem ax_mmax (M : Mx D cl nL X cc own Ts tys NN) {index : Nat} (hws : ∀ w ∈ ([.methodLink own index Lib.Math.max.name, .static Lib.Math.max.name, .initialized "java/lang/Math", .code Lib.Math.max.name Lib.Math.max.code 2 (some .int)] : List Cond), w ∈ Ts) (hfr : 1 ≤ R.frames) (hlo : (rest.map fun v => v.category).sum + 13 ≤ R.locals) (hc : cells ≤ R.cells) (hs : slots ≤ R.slots) {x y : Int32} (d : decode cc pc = .ok (.invokestatic index, 3)) (k : AW l D cl R nL X cells slots h (pc + 3) lv (.int (if x < y then y else x) :: rest)) : AW l D cl R nL X cells slots h pc lv (.int y :: .int x :: rest) := fun H locs ls hP hS hl => by
  have hm := fun w h9 => M.2.2.2.2.1 w (hws w h9)
  exact va_mmax M.1 M.2.1 (by rw [M.2.2.1]; exact hl.1.symm) M.2.2.2.1 (hm _ (by simp)) (hm _ (by simp)) (hm _ (by simp)) (hm _ (by simp)) hfr hlo hc hs d (k H locs ls hP hS hl)
theorem ax_mmin (M : Mx D cl nL X cc own Ts tys NN) {index : Nat} (hws : ∀ w ∈ ([.methodLink own index Lib.Math.min.name, .static Lib.Math.min.name, .initialized "java/lang/Math", .code Lib.Math.min.name Lib.Math.min.code 2 (some .int)] : List Cond), w ∈ Ts) (hfr : 1 ≤ R.frames) (hlo : (rest.map fun v => v.category).sum + 13 ≤ R.locals) (hc : cells ≤ R.cells) (hs : slots ≤ R.slots) {x y : Int32} (d : decode cc pc = .ok (.invokestatic index, 3)) (k : AW l D cl R nL X cells slots h (pc + 3) lv (.int (if y < x then y else x) :: rest)) : AW l D cl R nL X cells slots h pc lv (.int y :: .int x :: rest) := fun H locs ls hP hS hl => by
  have hm := fun w h9 => M.2.2.2.2.1 w (hws w h9)
  exact va_mmin M.1 M.2.1 (by rw [M.2.2.1]; exact hl.1.symm) M.2.2.2.1 (hm _ (by simp)) (hm _ (by simp)) (hm _ (by simp)) (hm _ (by simp)) hfr hlo hc hs d (k H locs ls hP hS hl)
end AX
end
section
/-! the state of an object with all that hangs on it: kind K, number i, place k -/
abbrev ST : Type := (Nat → Nat → Nat → Int32) × (Nat → Nat → Nat → Int64)
def gi (f : ST) (K i k : Nat) : Int32 := f.1 K i k
def gl (f : ST) (K i k : Nat) : Int64 := f.2 K i k
def su (f : ST) (K i k : Nat) (v : Int32) : ST := (fun K' i' k' => if K' = K ∧ i' = i ∧ k' = k then v else f.1 K' i' k', f.2)
def sl (f : ST) (K i k : Nat) (v : Int64) : ST := (f.1, fun K' i' k' => if K' = K ∧ i' = i ∧ k' = k then v else f.2 K' i' k')
theorem gi_su (f : ST) (K i k : Nat) (v : Int32) (K' i' k' : Nat) : gi (su f K i k v) K' i' k' = if K' = K ∧ i' = i ∧ k' = k then v else gi f K' i' k' := rfl
theorem gl_sl (f : ST) (K i k : Nat) (v : Int64) (K' i' k' : Nat) : gl (sl f K i k v) K' i' k' = if K' = K ∧ i' = i ∧ k' = k then v else gl f K' i' k' := rfl
theorem gi_sl {f : ST} {K i k K' i' k' : Nat} {v : Int64} : gi (sl f K i k v) K' i' k' = gi f K' i' k' := rfl
theorem gl_su {f : ST} {K i k K' i' k' : Nat} {v : Int32} : gl (su f K i k v) K' i' k' = gl f K' i' k' := rfl
theorem gi_same {f : ST} {K i k : Nat} {v : Int32} : gi (su f K i k v) K i k = v := by simp [gi_su]
theorem gi_k {f : ST} {K i k K' i' k' : Nat} {v : Int32} (hk : k' ≠ k) : gi (su f K i k v) K' i' k' = gi f K' i' k' := by simp [gi_su, hk]
theorem gi_K {f : ST} {K i k K' i' k' : Nat} {v : Int32} (hk : K' ≠ K) : gi (su f K i k v) K' i' k' = gi f K' i' k' := by simp [gi_su, hk]
theorem gi_i {f : ST} {K i k K' i' k' : Nat} {v : Int32} (hk : i' ≠ i) : gi (su f K i k v) K' i' k' = gi f K' i' k' := by simp [gi_su, hk]
theorem gl_same {f : ST} {K i k : Nat} {v : Int64} : gl (sl f K i k v) K i k = v := by simp [gl_sl]
theorem gl_k {f : ST} {K i k K' i' k' : Nat} {v : Int64} (hk : k' ≠ k) : gl (sl f K i k v) K' i' k' = gl f K' i' k' := by simp [gl_sl, hk]
theorem gl_K {f : ST} {K i k K' i' k' : Nat} {v : Int64} (hk : K' ≠ K) : gl (sl f K i k v) K' i' k' = gl f K' i' k' := by simp [gl_sl, hk]
abbrev ix (i : Int32) : Nat := i.toNatClampNeg
abbrev inb (i : Int32) (n : Nat) : Prop := ¬ (i < 0 ∨ n ≤ i.toNatClampNeg)
abbrev isb (x : Int32) : Prop := x = 0 ∨ x = 1
theorem isb_narrow {x : Int32} (hx : isb x) : narrow .boolean (.int x) = .int x := by rcases hx with rfl | rfl <;> rfl
theorem isb_nar {x : Int32} (hx : isb x) : vp_nar .boolean x = x := by rcases hx with rfl | rfl <;> rfl
/-- the map h holds the state σ at the addresses al; elsewhere it is h0 -/
def SW (dm : Nat → Nat) (cf : (Nat → Nat → Nat) → Nat → Nat → (Nat → Int32) → (Nat → Int64) → va_E) (al : Nat → Nat → Nat) (σ : ST) (h0 h : AH) : Prop :=
  (∀ K i, i < dm K → h (al K i) = some (cf al K i (fun k => gi σ K i k) (fun k => gl σ K i k))) ∧ (∀ K i K' i', i < dm K → i' < dm K' → al K i = al K' i' → K = K' ∧ i = i') ∧ ∀ q, (∀ K i, i < dm K → q ≠ al K i) → h q = h0 q
section SWs
variable {dm : Nat → Nat} {cf : (Nat → Nat → Nat) → Nat → Nat → (Nat → Int32) → (Nat → Int64) → va_E} {al : Nat → Nat → Nat} {σ : ST} {h0 h : AH}
theorem SW.at (hG : SW dm cf al σ h0 h) (K i : Nat) (hi : i < dm K) : h (al K i) = some (cf al K i (fun k => gi σ K i k) (fun k => gl σ K i k)) := hG.1 K i hi
theorem SW.put (hG : SW dm cf al σ h0 h) (K i k : Nat) (v : Int32) {c : va_E} (hi : i < dm K) (hc : c = cf al K i (fun k' => if k' = k then v else gi σ K i k') (fun k' => gl σ K i k')) : SW dm cf al (su σ K i k v) h0 (ah_set h (al K i) c) := by
  refine ⟨fun K' i' hi' => ?_, hG.2.1, fun q hq => ?_⟩
  · by_cases he : al K' i' = al K i
    · obtain ⟨rfl, rfl⟩ := hG.2.1 K' i' K i hi' hi he
      rw [ah_same, hc]
      have e1 : (fun k' => if k' = k then v else gi σ K' i' k') = fun k' => gi (su σ K' i' k v) K' i' k' := by
        funext k'
        simp [gi_su]
      rw [e1]
      rfl
    · rw [ah_ne he, hG.1 K' i' hi']
      have e1 : (fun k' => gi σ K' i' k') = fun k' => gi (su σ K i k v) K' i' k' := by
        funext k'
        have hne : ¬ (K' = K ∧ i' = i ∧ k' = k) := fun ⟨h1, h2, _⟩ => he (by rw [h1, h2])
        simp [gi_su, hne]
      rw [e1]
      rfl
  · rw [ah_ne (hq K i hi)]
    exact hG.2.2 q hq
theorem SW.putl (hG : SW dm cf al σ h0 h) (K i k : Nat) (v : Int64) {c : va_E} (hi : i < dm K) (hc : c = cf al K i (fun k' => gi σ K i k') (fun k' => if k' = k then v else gl σ K i k')) : SW dm cf al (sl σ K i k v) h0 (ah_set h (al K i) c) := by
  refine ⟨fun K' i' hi' => ?_, hG.2.1, fun q hq => ?_⟩
  · by_cases he : al K' i' = al K i
    · obtain ⟨rfl, rfl⟩ := hG.2.1 K' i' K i hi' hi he
      rw [ah_same, hc]
      have e1 : (fun k' => if k' = k then v else gl σ K' i' k') = fun k' => gl (sl σ K' i' k v) K' i' k' := by
        funext k'
        simp [gl_sl]
      rw [e1]
      rfl
    · rw [ah_ne he, hG.1 K' i' hi']
      have e1 : (fun k' => gl σ K' i' k') = fun k' => gl (sl σ K i k v) K' i' k' := by
        funext k'
        have hne : ¬ (K' = K ∧ i' = i ∧ k' = k) := fun ⟨h1, h2, _⟩ => he (by rw [h1, h2])
        simp [gl_sl, hne]
      rw [e1]
      rfl
  · rw [ah_ne (hq K i hi)]
    exact hG.2.2 q hq
theorem SW.base {h1 : AH} (hG : SW dm cf al σ h0 h) (hh : ∀ q, (∀ K i, i < dm K → q ≠ al K i) → h0 q = h1 q) : SW dm cf al σ h1 h := ⟨hG.1, hG.2.1, fun q hq => (hG.2.2 q hq).trans (hh q hq)⟩
end SWs
/-- a loop: 'body' goes on with a new state, or ends it -/
def lp {S R : Type} (body : S → Option (S ⊕ R)) : Nat → S → Option R
  | 0, _ => none
  | n + 1, s => match body s with
    | none => none
    | some (.inl s') => lp body n s'
    | some (.inr r) => some r
theorem lp_walk {S R : Type} {body : S → Option (S ⊕ R)} (P : S → Prop) (Q : R → Prop) (hs : ∀ s x, body s = some x → (∀ s', x = .inl s' → P s') → (∀ r, x = .inr r → Q r) → P s) : ∀ n s r, lp body n s = some r → Q r → P s := by
  intro n
  induction n with
  | zero => intro s r h; cases h
  | succ n ih =>
    intro s r h hQ
    unfold lp at h
    cases hb : body s with
    | none => rw [hb] at h; cases h
    | some x =>
      rw [hb] at h
      refine hs s x hb (fun s' e => ?_) (fun r' e => ?_)
      · subst e
        exact ih s' r h hQ
      · subst e
        cases h
        exact hQ
theorem ob_t {τ : Type} {c : Prop} [Decidable c] {a b : Option τ} {r : τ} (E : (if c then a else b) = some r) (hc : c) : a = some r := by rwa [if_pos hc] at E
theorem ob_f {τ : Type} {c : Prop} [Decidable c] {a b : Option τ} {r : τ} (E : (if c then a else b) = some r) (hc : ¬ c) : b = some r := by rwa [if_neg hc] at E
theorem ob_c {τ : Type} {c : Prop} [Decidable c] {a : Option τ} {r : τ} (E : (if c then a else none) = some r) : c ∧ a = some r := by
  by_cases hc : c
  · exact ⟨hc, by rwa [if_pos hc] at E⟩
  · rw [if_neg hc] at E; cases E
theorem ob_b {τ υ : Type} {m : Option τ} {f : τ → Option υ} {r : υ} (E : m.bind f = some r) : ∃ q, m = some q ∧ f q = some r := by
  cases m with
  | none => cases E
  | some q => exact ⟨q, rfl, E⟩
/-- references out of numbers: a place of an array of objects is written -/
theorem rf_put {al : Nat → Nat → Nat} {K : Nat} {f : Nat → Int32} {i j : Nat} (hj : j < 2147483648) : va_up (fun e => some (al K (ix (f e)))) i (some (al K j)) = fun e => some (al K (ix (if e = i then nI j else f e))) := by
  funext e
  unfold va_up
  split
  · rw [show ix (nI j) = j from nI_clamp (by omega)]
  · rfl
theorem se_l {τ υ ω : Type} {f : τ → Option ω} {g : υ → Option ω} {a : τ} {r : ω} (E : Sum.elim f g (.inl a) = some r) : f a = some r := E
theorem se_r {τ υ ω : Type} {f : τ → Option ω} {g : υ → Option ω} {a : υ} {r : ω} (E : Sum.elim f g (.inr a) = some r) : g a = some r := E
theorem qe_l {τ υ : Type} {f : τ → Prop} {g : υ → Prop} {a : τ} (E : Sum.elim f g (.inl a)) : f a := E
theorem qe_r {τ υ : Type} {f : τ → Prop} {g : υ → Prop} {a : υ} (E : Sum.elim f g (.inr a)) : g a := E
theorem qi_l {τ υ : Type} {f : τ → Prop} {g : υ → Prop} {a : τ} (E : f a) : Sum.elim f g (.inl a) := E
theorem qi_r {τ υ : Type} {f : τ → Prop} {g : υ → Prop} {a : υ} (E : g a) : Sum.elim f g (.inr a) := E
theorem in_lt {j : Int32} {n : Nat} (hj : inb j n) : ix j < n := Nat.not_le.mp (fun q => hj (Or.inr q))
theorem ne_ti {x k : Int32} (hx : ¬ x = k) : x.toInt ≠ k.toInt := fun e => hx (Int32.toInt_inj.mp e)
section SWr
variable {l : Launch} {D : va_G} {cl : List vw_C} {R : Room} {nL : Nat} {X : CX} {cc : ByteArray} {own : String} {Ts : List Cond} {tys : List (ClassId × FieldType)} {NN : List Cond} {cells slots pc : Nat} {h h0 : AH} {lv : List (Nat × Value)} {rest : List Value}
variable {dm : Nat → Nat} {cf : (Nat → Nat → Nat) → Nat → Nat → (Nat → Int32) → (Nat → Int64) → va_E} {al : Nat → Nat → Nat} {σ : ST}
theorem sw_get (M : Mx D cl nL X cc own Ts tys NN) (hG : SW dm cf al σ h0 h) (K i : Nat) (hi : i < dm K) {C : String} {T : u_T} {N ci index : Nat} (hin : ∀ w ∈ u_ws C T N, w ∈ Ts) {fs : List Value} (hcell : cf al K i (fun k => gi σ K i k) (fun k => gl σ K i k) = .inr (ci, fs)) (hc : cl[ci]? = some (C, T, N)) (k0 : Nat) (hk : k0 < N) (hlink : Cond.fieldLink own index (T k0).1 (T k0).2.1 (T k0).2.2.1 ∈ Ts) {v : Value} (hv : fs[k0]? = some v) (d : decode cc pc = .ok (.getfield index, 3)) (k : AW l D cl R nL X cells slots h (pc + 3) lv (v :: rest)) : AW l D cl R nL X cells slots h pc lv (.ref (al K i) :: rest) :=
  ax_get M hin ((hG.at K i hi).trans (congrArg some hcell)) hc k0 hk hlink hv d k
theorem sw_getN (M : Mx D cl nL X cc own Ts tys NN) (hG : SW dm cf al σ h0 h) (K i : Nat) (hi : i < dm K) {C host : String} {T : u_T} {N ci index : Nat} (hin : ∀ w ∈ u_ws C T N, w ∈ Ts) {fs : List Value} (hcell : cf al K i (fun k => gi σ K i k) (fun k => gl σ K i k) = .inr (ci, fs)) (hc : cl[ci]? = some (C, T, N)) (k0 : Nat) (hk : k0 < N) (hlink : Cond.fieldLinkNest own index (T k0).1 (T k0).2.1 (T k0).2.2.1 host ∈ NN) {v : Value} (hv : fs[k0]? = some v) (d : decode cc pc = .ok (.getfield index, 3)) (k : AW l D cl R nL X cells slots h (pc + 3) lv (v :: rest)) : AW l D cl R nL X cells slots h pc lv (.ref (al K i) :: rest) :=
  ax_getN M hin ((hG.at K i hi).trans (congrArg some hcell)) hc k0 hk hlink hv d k
theorem sw_put (M : Mx D cl nL X cc own Ts tys NN) (hG : SW dm cf al σ h0 h) (K i : Nat) (hi : i < dm K) {C : String} {T : u_T} {N ci index : Nat} (hin : ∀ w ∈ u_ws C T N, w ∈ Ts) (ty0 : Nat → FieldType) (hty : ∀ k, k < N → parseFieldDescriptor (T k).2.2.1 = some (ty0 k)) (hnm : ∀ a, a < N → ∀ b, b < N → a ≠ b → (T a).2.1 ≠ (T b).2.1) {fs : List Value} (hcell : cf al K i (fun k => gi σ K i k) (fun k => gl σ K i k) = .inr (ci, fs)) (hc : cl[ci]? = some (C, T, N)) (k0 : Nat) (hk : k0 < N) (hlink : Cond.fieldLink own index (T k0).1 (T k0).2.1 (T k0).2.2.1 ∈ Ts) (hfin : (T k0).2.2.2 = false) {x : Int32} (hn : narrow (ty0 k0) (.int x) = .int x) (hfit : fits (ty0 k0) (.int x) = true) (hlen : k0 < fs.length) (hnew : .inr (ci, fs.set k0 (.int x)) = cf al K i (fun k' => if k' = k0 then x else gi σ K i k') (fun k' => gl σ K i k')) (d : decode cc pc = .ok (.putfield index, 3)) (k : ∀ h1 : AH, SW dm cf al (su σ K i k0 x) h0 h1 → AW l D cl R nL X cells slots h1 (pc + 3) lv rest) : AW l D cl R nL X cells slots h pc lv (.int x :: .ref (al K i) :: rest) :=
  ax_put M hin ty0 hty hnm ((hG.at K i hi).trans (congrArg some hcell)) hc k0 hk hlink hfin hn hfit hlen d (k _ (hG.put K i k0 x hi hnew))
theorem sw_putN (M : Mx D cl nL X cc own Ts tys NN) (hG : SW dm cf al σ h0 h) (K i : Nat) (hi : i < dm K) {C host : String} {T : u_T} {N ci index : Nat} (hin : ∀ w ∈ u_ws C T N, w ∈ Ts) (ty0 : Nat → FieldType) (hty : ∀ k, k < N → parseFieldDescriptor (T k).2.2.1 = some (ty0 k)) (hnm : ∀ a, a < N → ∀ b, b < N → a ≠ b → (T a).2.1 ≠ (T b).2.1) {fs : List Value} (hcell : cf al K i (fun k => gi σ K i k) (fun k => gl σ K i k) = .inr (ci, fs)) (hc : cl[ci]? = some (C, T, N)) (k0 : Nat) (hk : k0 < N) (hlink : Cond.fieldLinkNest own index (T k0).1 (T k0).2.1 (T k0).2.2.1 host ∈ NN) (hfin : (T k0).2.2.2 = false) {x : Int32} (hn : narrow (ty0 k0) (.int x) = .int x) (hfit : fits (ty0 k0) (.int x) = true) (hlen : k0 < fs.length) (hnew : .inr (ci, fs.set k0 (.int x)) = cf al K i (fun k' => if k' = k0 then x else gi σ K i k') (fun k' => gl σ K i k')) (d : decode cc pc = .ok (.putfield index, 3)) (k : ∀ h1 : AH, SW dm cf al (su σ K i k0 x) h0 h1 → AW l D cl R nL X cells slots h1 (pc + 3) lv rest) : AW l D cl R nL X cells slots h pc lv (.int x :: .ref (al K i) :: rest) :=
  ax_putN M hin ty0 hty hnm ((hG.at K i hi).trans (congrArg some hcell)) hc k0 hk hlink hfin hn hfit hlen d (k _ (hG.put K i k0 x hi hnew))
theorem sw_iald (M : Mx D cl nL X cc own Ts tys NN) (hG : SW dm cf al σ h0 h) (K i : Nat) (hi : i < dm K) {cA : ClassId} {n : Nat} (hcell : cf al K i (fun k => gi σ K i k) (fun k => gl σ K i k) = .inl (cA, n, .inl (fun k => gi σ K i k))) (t0 : Nat) (ht : tys[t0]? = some (cA, .int)) {j : Int32} (hj : inb j n) (d : decode cc pc = .ok (.iaload, 1)) (k : AW l D cl R nL X cells slots h (pc + 1) lv (.int (gi σ K i (ix j)) :: rest)) : AW l D cl R nL X cells slots h pc lv (.int j :: .ref (al K i) :: rest) :=
  ax_iald M ((hG.at K i hi).trans (congrArg some hcell)) t0 ht hj d k
theorem sw_iast (M : Mx D cl nL X cc own Ts tys NN) (hG : SW dm cf al σ h0 h) (K i : Nat) (hi : i < dm K) {cA : ClassId} {n : Nat} (hcell : cf al K i (fun k => gi σ K i k) (fun k => gl σ K i k) = .inl (cA, n, .inl (fun k => gi σ K i k))) (t0 : Nat) (ht : tys[t0]? = some (cA, .int)) {j x : Int32} (hj : inb j n) (hnew : .inl (cA, n, .inl (fun k' => if k' = ix j then x else gi σ K i k')) = cf al K i (fun k' => if k' = ix j then x else gi σ K i k') (fun k' => gl σ K i k')) (d : decode cc pc = .ok (.iastore, 1)) (k : ∀ h1 : AH, SW dm cf al (su σ K i (ix j) x) h0 h1 → AW l D cl R nL X cells slots h1 (pc + 1) lv rest) : AW l D cl R nL X cells slots h pc lv (.int x :: .int j :: .ref (al K i) :: rest) :=
  ax_iast M ((hG.at K i hi).trans (congrArg some hcell)) t0 ht hj d (k _ (hG.put K i (ix j) x hi hnew))
theorem sw_zald (M : Mx D cl nL X cc own Ts tys NN) (hG : SW dm cf al σ h0 h) (K i : Nat) (hi : i < dm K) {cA : ClassId} {n : Nat} (hcell : cf al K i (fun k => gi σ K i k) (fun k => gl σ K i k) = .inl (cA, n, .inl (fun k => gi σ K i k))) (t0 : Nat) (ht : tys[t0]? = some (cA, .boolean)) {j : Int32} (hj : inb j n) (d : decode cc pc = .ok (.baload, 1)) (k : AW l D cl R nL X cells slots h (pc + 1) lv (.int (gi σ K i (ix j)) :: rest)) : AW l D cl R nL X cells slots h pc lv (.int j :: .ref (al K i) :: rest) :=
  ax_zald M ((hG.at K i hi).trans (congrArg some hcell)) t0 ht hj d k
theorem sw_zast (M : Mx D cl nL X cc own Ts tys NN) (hG : SW dm cf al σ h0 h) (K i : Nat) (hi : i < dm K) {cA : ClassId} {n : Nat} (hcell : cf al K i (fun k => gi σ K i k) (fun k => gl σ K i k) = .inl (cA, n, .inl (fun k => gi σ K i k))) (t0 : Nat) (ht : tys[t0]? = some (cA, .boolean)) {j x : Int32} (hj : inb j n) (hx : isb x) (hnew : .inl (cA, n, .inl (fun k' => if k' = ix j then x else gi σ K i k')) = cf al K i (fun k' => if k' = ix j then x else gi σ K i k') (fun k' => gl σ K i k')) (d : decode cc pc = .ok (.bastore, 1)) (k : ∀ h1 : AH, SW dm cf al (su σ K i (ix j) x) h0 h1 → AW l D cl R nL X cells slots h1 (pc + 1) lv rest) : AW l D cl R nL X cells slots h pc lv (.int x :: .int j :: .ref (al K i) :: rest) :=
  ax_zast M ((hG.at K i hi).trans (congrArg some hcell)) t0 ht hj (isb_nar hx) d (k _ (hG.put K i (ix j) x hi hnew))
theorem sw_lald (M : Mx D cl nL X cc own Ts tys NN) (hG : SW dm cf al σ h0 h) (K i : Nat) (hi : i < dm K) {cA : ClassId} {n : Nat} (hcell : cf al K i (fun k => gi σ K i k) (fun k => gl σ K i k) = .inl (cA, n, .inr (.inl (fun k => gl σ K i k)))) (t0 : Nat) (ht : tys[t0]? = some (cA, .long)) {j : Int32} (hj : inb j n) (d : decode cc pc = .ok (.laload, 1)) (k : AW l D cl R nL X cells slots h (pc + 1) lv (.long (gl σ K i (ix j)) :: rest)) : AW l D cl R nL X cells slots h pc lv (.int j :: .ref (al K i) :: rest) :=
  ax_lald M ((hG.at K i hi).trans (congrArg some hcell)) t0 ht hj d k
theorem sw_last (M : Mx D cl nL X cc own Ts tys NN) (hG : SW dm cf al σ h0 h) (K i : Nat) (hi : i < dm K) {cA : ClassId} {n : Nat} (hcell : cf al K i (fun k => gi σ K i k) (fun k => gl σ K i k) = .inl (cA, n, .inr (.inl (fun k => gl σ K i k)))) (t0 : Nat) (ht : tys[t0]? = some (cA, .long)) {j : Int32} {x : Int64} (hj : inb j n) (hnew : .inl (cA, n, .inr (.inl (fun k' => if k' = ix j then x else gl σ K i k'))) = cf al K i (fun k' => gi σ K i k') (fun k' => if k' = ix j then x else gl σ K i k')) (d : decode cc pc = .ok (.lastore, 1)) (k : ∀ h1 : AH, SW dm cf al (sl σ K i (ix j) x) h0 h1 → AW l D cl R nL X cells slots h1 (pc + 1) lv rest) : AW l D cl R nL X cells slots h pc lv (.long x :: .int j :: .ref (al K i) :: rest) :=
  ax_last M ((hG.at K i hi).trans (congrArg some hcell)) t0 ht hj d (k _ (hG.putl K i (ix j) x hi hnew))
/-- an array of objects: place j holds the object of kind K2 and number g j -/
theorem sw_aldq (M : Mx D cl nL X cc own Ts tys NN) (hG : SW dm cf al σ h0 h) (K i : Nat) (hi : i < dm K) {K2 : Nat} {g : Nat → Nat} {cA : ClassId} {n : Nat} (hcell : cf al K i (fun k => gi σ K i k) (fun k => gl σ K i k) = .inl (cA, n, .inr (.inr (.inr (.inr (fun e => some (al K2 (g e)))))))) (t0 : Nat) {ty : FieldType} (ht : tys[t0]? = some (cA, ty)) (hty : ty.isReference = true) {j : Int32} (hj : inb j n) (d : decode cc pc = .ok (.aaload, 1)) (k : AW l D cl R nL X cells slots h (pc + 1) lv (.ref (al K2 (g (ix j))) :: rest)) : AW l D cl R nL X cells slots h pc lv (.int j :: .ref (al K i) :: rest) :=
  ax_aldq M ((hG.at K i hi).trans (congrArg some hcell)) t0 ht hty hj rfl d k
theorem sw_astq (M : Mx D cl nL X cc own Ts tys NN) (hG : SW dm cf al σ h0 h) (K i : Nat) (hi : i < dm K) {K2 j2 : Nat} (hj2 : j2 < dm K2) (hb2 : j2 < 2147483648) {cA : ClassId} {n : Nat} (hcell : cf al K i (fun k => gi σ K i k) (fun k => gl σ K i k) = .inl (cA, n, .inr (.inr (.inr (.inr (fun e => some (al K2 (ix (gi σ K i e))))))))) (t0 : Nat) {ci : Nat} {r : vw_C} {vs : List Value} (ht : tys[t0]? = some (cA, .object r.1)) (hc2 : cf al K2 j2 (fun k => gi σ K2 j2 k) (fun k => gl σ K2 j2 k) = .inr (ci, vs)) (hc : cl[ci]? = some r) {j : Int32} (hj : inb j n) (hnew : .inl (cA, n, .inr (.inr (.inr (.inr (fun e => some (al K2 (ix (if e = ix j then nI j2 else gi σ K i e)))))))) = cf al K i (fun k' => if k' = ix j then nI j2 else gi σ K i k') (fun k' => gl σ K i k')) (d : decode cc pc = .ok (.aastore, 1)) (k : ∀ h1 : AH, SW dm cf al (su σ K i (ix j) (nI j2)) h0 h1 → AW l D cl R nL X cells slots h1 (pc + 1) lv rest) : AW l D cl R nL X cells slots h pc lv (.ref (al K2 j2) :: .int j :: .ref (al K i) :: rest) := by
  refine ax_astq M ((hG.at K i hi).trans (congrArg some hcell)) t0 ht ((hG.at K2 j2 hj2).trans (congrArg some hc2)) hc hj d (k _ (hG.put K i (ix j) (nI j2) hi ?_))
  rw [rf_put hb2]
  exact hnew
end SWr
end
section
/-! names, tables of fields, words -/
def R_A : String := "RateGraph$Actor"
def F_A : u_T := fun k => match k with
  | 0 => ("RateGraph$Actor", "there", "Z", false)
  | 1 => ("RateGraph$Actor", "kind", "I", false)
  | 2 => ("RateGraph$Actor", "parameter", "I", false)
  | 3 => ("RateGraph$Actor", "part", "I", false)
  | 4 => ("RateGraph$Actor", "share", "I", false)
  | 5 => ("RateGraph$Actor", "repetitions", "I", false)
  | 6 => ("RateGraph$Actor", "fired", "I", false)
  | 7 => ("RateGraph$Actor", "formerX", "I", false)
  | 8 => ("RateGraph$Actor", "sumOfX", "I", false)
  | _ => ("RateGraph$Actor", "latest", "I", false)
def t_A : Nat → FieldType := fun k => match k with
  | 0 => .boolean
  | 1 => .int
  | 2 => .int
  | 3 => .int
  | 4 => .int
  | 5 => .int
  | 6 => .int
  | 7 => .int
  | 8 => .int
  | _ => .int
def R_E : String := "RateGraph$Edge"
def F_E : u_T := fun k => match k with
  | 0 => ("RateGraph$Edge", "ring", "[I", true)
  | 1 => ("RateGraph$Edge", "from", "I", false)
  | 2 => ("RateGraph$Edge", "to", "I", false)
  | 3 => ("RateGraph$Edge", "in", "I", false)
  | 4 => ("RateGraph$Edge", "out", "I", false)
  | 5 => ("RateGraph$Edge", "delay", "I", false)
  | 6 => ("RateGraph$Edge", "start", "I", false)
  | 7 => ("RateGraph$Edge", "held", "I", false)
  | _ => ("RateGraph$Edge", "most", "I", false)
def t_E : Nat → FieldType := fun k => match k with
  | 0 => .array .int
  | 1 => .int
  | 2 => .int
  | 3 => .int
  | 4 => .int
  | 5 => .int
  | 6 => .int
  | 7 => .int
  | _ => .int
def R_G : String := "RateGraph"
def F_G : u_T := fun k => match k with
  | 0 => ("RateGraph", "actors", "[LRateGraph$Actor;", true)
  | 1 => ("RateGraph", "edges", "[LRateGraph$Edge;", true)
  | 2 => ("RateGraph", "order", "[I", true)
  | 3 => ("RateGraph", "cost", "[[I", true)
  | 4 => ("RateGraph", "firingOrder", "[I", true)
  | 5 => ("RateGraph", "edgeCount", "I", false)
  | 6 => ("RateGraph", "length", "I", false)
  | 7 => ("RateGraph", "firings", "I", false)
  | _ => ("RateGraph", "solved", "Z", false)
def t_G : Nat → FieldType := fun k => match k with
  | 0 => .array (.object "RateGraph$Actor")
  | 1 => .array (.object "RateGraph$Edge")
  | 2 => .array .int
  | 3 => .array (.array .int)
  | 4 => .array .int
  | 5 => .int
  | 6 => .int
  | 7 => .int
  | _ => .boolean
def R_M : String := "RateGraphModel"
def F_M : u_T := fun k => match k with
  | 0 => ("RateGraphModel", "there", "[Z", true)
  | 1 => ("RateGraphModel", "kind", "[I", true)
  | 2 => ("RateGraphModel", "parameter", "[I", true)
  | 3 => ("RateGraphModel", "from", "[I", true)
  | 4 => ("RateGraphModel", "to", "[I", true)
  | 5 => ("RateGraphModel", "in", "[I", true)
  | 6 => ("RateGraphModel", "out", "[I", true)
  | 7 => ("RateGraphModel", "delay", "[I", true)
  | 8 => ("RateGraphModel", "edges", "I", false)
  | 9 => ("RateGraphModel", "solved", "Z", false)
  | 10 => ("RateGraphModel", "top", "[J", true)
  | 11 => ("RateGraphModel", "low", "[J", true)
  | 12 => ("RateGraphModel", "part", "[I", true)
  | 13 => ("RateGraphModel", "times", "[I", true)
  | 14 => ("RateGraphModel", "fired", "[I", true)
  | 15 => ("RateGraphModel", "order", "[I", true)
  | 16 => ("RateGraphModel", "peaks", "[I", true)
  | 17 => ("RateGraphModel", "on", "[I", true)
  | 18 => ("RateGraphModel", "length", "I", false)
  | 19 => ("RateGraphModel", "firings", "I", false)
  | 20 => ("RateGraphModel", "token", "[I", true)
  | 21 => ("RateGraphModel", "now", "[I", true)
  | 22 => ("RateGraphModel", "latest", "[I", true)
  | 23 => ("RateGraphModel", "memory", "[I", true)
  | _ => ("RateGraphModel", "cost", "[I", true)
def t_M : Nat → FieldType := fun k => match k with
  | 0 => .array .boolean
  | 1 => .array .int
  | 2 => .array .int
  | 3 => .array .int
  | 4 => .array .int
  | 5 => .array .int
  | 6 => .array .int
  | 7 => .array .int
  | 8 => .int
  | 9 => .boolean
  | 10 => .array .long
  | 11 => .array .long
  | 12 => .array .int
  | 13 => .array .int
  | 14 => .array .int
  | 15 => .array .int
  | 16 => .array .int
  | 17 => .array .int
  | 18 => .int
  | 19 => .int
  | 20 => .array .int
  | 21 => .array .int
  | 22 => .array .int
  | 23 => .array .int
  | _ => .array .int
def R_L : String := "RateGraphLaw"
abbrev b_A_init : ByteArray := prog_2_method_1_code
def y_A_init : MethodName := ⟨R_A, "<init>", "()V"⟩
abbrev b_A_forgetRun : ByteArray := prog_2_method_2_code
def y_A_forgetRun : MethodName := ⟨R_A, "forgetRun", "()V"⟩
abbrev b_A_isDue : ByteArray := prog_2_method_3_code
def y_A_isDue : MethodName := ⟨R_A, "isDue", "()Z"⟩
abbrev b_A_answerTo : ByteArray := prog_2_method_4_code
def y_A_answerTo : MethodName := ⟨R_A, "answerTo", "(I)I"⟩
abbrev b_E_init : ByteArray := prog_3_method_1_code
def y_E_init : MethodName := ⟨R_E, "<init>", "()V"⟩
abbrev b_E_isLoop : ByteArray := prog_3_method_2_code
def y_E_isLoop : MethodName := ⟨R_E, "isLoop", "()Z"⟩
abbrev b_E_setAsAtFirst : ByteArray := prog_3_method_3_code
def y_E_setAsAtFirst : MethodName := ⟨R_E, "setAsAtFirst", "()V"⟩
abbrev b_E_at : ByteArray := prog_3_method_4_code
def y_E_at : MethodName := ⟨R_E, "at", "(I)I"⟩
abbrev b_E_takeWeighed : ByteArray := prog_3_method_5_code
def y_E_takeWeighed : MethodName := ⟨R_E, "takeWeighed", "()I"⟩
abbrev b_E_putFrom : ByteArray := prog_3_method_6_code
def y_E_putFrom : MethodName := ⟨R_E, "putFrom", "(I)V"⟩
abbrev b_G_init : ByteArray := prog_1_method_1_code
def y_G_init : MethodName := ⟨R_G, "<init>", "()V"⟩
abbrev b_G_actor : ByteArray := prog_1_method_2_code
def y_G_actor : MethodName := ⟨R_G, "actor", "(III)I"⟩
abbrev b_G_edge : ByteArray := prog_1_method_3_code
def y_G_edge : MethodName := ⟨R_G, "edge", "(IIIII)I"⟩
abbrev b_G_unedge : ByteArray := prog_1_method_4_code
def y_G_unedge : MethodName := ⟨R_G, "unedge", "(I)I"⟩
abbrev b_G_solve : ByteArray := prog_1_method_5_code
def y_G_solve : MethodName := ⟨R_G, "solve", "(I)I"⟩
abbrev b_G_run : ByteArray := prog_1_method_6_code
def y_G_run : MethodName := ⟨R_G, "run", "(I)I"⟩
abbrev b_G_repetitions : ByteArray := prog_1_method_7_code
def y_G_repetitions : MethodName := ⟨R_G, "repetitions", "(I)I"⟩
abbrev b_G_schedule : ByteArray := prog_1_method_8_code
def y_G_schedule : MethodName := ⟨R_G, "schedule", "(I)I"⟩
abbrev b_G_peak : ByteArray := prog_1_method_9_code
def y_G_peak : MethodName := ⟨R_G, "peak", "(I)I"⟩
abbrev b_G_nested : ByteArray := prog_1_method_10_code
def y_G_nested : MethodName := ⟨R_G, "nested", "()I"⟩
abbrev b_G_latest : ByteArray := prog_1_method_11_code
def y_G_latest : MethodName := ⟨R_G, "latest", "(I)J"⟩
abbrev b_G_token : ByteArray := prog_1_method_12_code
def y_G_token : MethodName := ⟨R_G, "token", "(II)J"⟩
abbrev b_G_tokens : ByteArray := prog_1_method_13_code
def y_G_tokens : MethodName := ⟨R_G, "tokens", "(I)I"⟩
abbrev b_G_count : ByteArray := prog_1_method_14_code
def y_G_count : MethodName := ⟨R_G, "count", "(I)I"⟩
abbrev b_G_isWithin : ByteArray := prog_1_method_15_code
def y_G_isWithin : MethodName := ⟨R_G, "isWithin", "(III)Z"⟩
abbrev b_G_isActor : ByteArray := prog_1_method_16_code
def y_G_isActor : MethodName := ⟨R_G, "isActor", "(I)Z"⟩
abbrev b_G_isEdge : ByteArray := prog_1_method_17_code
def y_G_isEdge : MethodName := ⟨R_G, "isEdge", "(I)Z"⟩
abbrev b_G_greatestDivisor : ByteArray := prog_1_method_18_code
def y_G_greatestDivisor : MethodName := ⟨R_G, "greatestDivisor", "(II)I"⟩
abbrev b_G_countActors : ByteArray := prog_1_method_19_code
def y_G_countActors : MethodName := ⟨R_G, "countActors", "()I"⟩
abbrev b_G_countParts : ByteArray := prog_1_method_20_code
def y_G_countParts : MethodName := ⟨R_G, "countParts", "()I"⟩
abbrev b_G_countRuns : ByteArray := prog_1_method_21_code
def y_G_countRuns : MethodName := ⟨R_G, "countRuns", "()I"⟩
abbrev b_G_sumOfPeaks : ByteArray := prog_1_method_22_code
def y_G_sumOfPeaks : MethodName := ⟨R_G, "sumOfPeaks", "()I"⟩
abbrev b_G_sumOfTokens : ByteArray := prog_1_method_23_code
def y_G_sumOfTokens : MethodName := ⟨R_G, "sumOfTokens", "()I"⟩
abbrev b_G_makePartsOfOne : ByteArray := prog_1_method_24_code
def y_G_makePartsOfOne : MethodName := ⟨R_G, "makePartsOfOne", "()V"⟩
abbrev b_G_joinParts : ByteArray := prog_1_method_25_code
def y_G_joinParts : MethodName := ⟨R_G, "joinParts", "(II)V"⟩
abbrev b_G_scalePart : ByteArray := prog_1_method_26_code
def y_G_scalePart : MethodName := ⟨R_G, "scalePart", "(II)V"⟩
abbrev b_G_findCulprit : ByteArray := prog_1_method_27_code
def y_G_findCulprit : MethodName := ⟨R_G, "findCulprit", "()I"⟩
abbrev b_G_balance : ByteArray := prog_1_method_28_code
def y_G_balance : MethodName := ⟨R_G, "balance", "(LRateGraph$Edge;)Z"⟩
abbrev b_G_keepRepetitions : ByteArray := prog_1_method_29_code
def y_G_keepRepetitions : MethodName := ⟨R_G, "keepRepetitions", "()I"⟩
abbrev b_G_makeSchedule : ByteArray := prog_1_method_30_code
def y_G_makeSchedule : MethodName := ⟨R_G, "makeSchedule", "(I)I"⟩
abbrev b_G_choose : ByteArray := prog_1_method_31_code
def y_G_choose : MethodName := ⟨R_G, "choose", "(II)I"⟩
abbrev b_G_chooseFrom : ByteArray := prog_1_method_32_code
def y_G_chooseFrom : MethodName := ⟨R_G, "chooseFrom", "(I)I"⟩
abbrev b_G_chooseFewestTokens : ByteArray := prog_1_method_33_code
def y_G_chooseFewestTokens : MethodName := ⟨R_G, "chooseFewestTokens", "()I"⟩
abbrev b_G_tokensWonBy : ByteArray := prog_1_method_34_code
def y_G_tokensWonBy : MethodName := ⟨R_G, "tokensWonBy", "(I)I"⟩
abbrev b_G_canFire : ByteArray := prog_1_method_35_code
def y_G_canFire : MethodName := ⟨R_G, "canFire", "(I)Z"⟩
abbrev b_G_isReady : ByteArray := prog_1_method_36_code
def y_G_isReady : MethodName := ⟨R_G, "isReady", "(I)Z"⟩
abbrev b_G_leastDue : ByteArray := prog_1_method_37_code
def y_G_leastDue : MethodName := ⟨R_G, "leastDue", "()I"⟩
abbrev b_G_fireCounting : ByteArray := prog_1_method_38_code
def y_G_fireCounting : MethodName := ⟨R_G, "fireCounting", "(I)V"⟩
abbrev b_G_setRunAsAtFirst : ByteArray := prog_1_method_39_code
def y_G_setRunAsAtFirst : MethodName := ⟨R_G, "setRunAsAtFirst", "()V"⟩
abbrev b_G_fire : ByteArray := prog_1_method_40_code
def y_G_fire : MethodName := ⟨R_G, "fire", "(I)V"⟩
abbrev b_G_canNest : ByteArray := prog_1_method_41_code
def y_G_canNest : MethodName := ⟨R_G, "canNest", "()Z"⟩
abbrev b_G_listActors : ByteArray := prog_1_method_42_code
def y_G_listActors : MethodName := ⟨R_G, "listActors", "()I"⟩
abbrev b_G_nestedRoom : ByteArray := prog_1_method_43_code
def y_G_nestedRoom : MethodName := ⟨R_G, "nestedRoom", "()I"⟩
abbrev b_G_costOfStretch : ByteArray := prog_1_method_44_code
def y_G_costOfStretch : MethodName := ⟨R_G, "costOfStretch", "(II)I"⟩
abbrev b_G_divisorOfStretch : ByteArray := prog_1_method_45_code
def y_G_divisorOfStretch : MethodName := ⟨R_G, "divisorOfStretch", "(II)I"⟩
abbrev b_G_tokensAcross : ByteArray := prog_1_method_46_code
def y_G_tokensAcross : MethodName := ⟨R_G, "tokensAcross", "(III)I"⟩
abbrev b_M_init : ByteArray := prog_5_method_1_code
def y_M_init : MethodName := ⟨R_M, "<init>", "()V"⟩
abbrev b_M_isActor : ByteArray := prog_5_method_2_code
def y_M_isActor : MethodName := ⟨R_M, "isActor", "(I)Z"⟩
abbrev b_M_actor : ByteArray := prog_5_method_3_code
def y_M_actor : MethodName := ⟨R_M, "actor", "(III)I"⟩
abbrev b_M_edge : ByteArray := prog_5_method_4_code
def y_M_edge : MethodName := ⟨R_M, "edge", "(IIIII)I"⟩
abbrev b_M_unedge : ByteArray := prog_5_method_5_code
def y_M_unedge : MethodName := ⟨R_M, "unedge", "(I)I"⟩
abbrev b_M_gcd : ByteArray := prog_5_method_6_code
def y_M_gcd : MethodName := ⟨R_M, "gcd", "(JJ)J"⟩
abbrev b_M_setFraction : ByteArray := prog_5_method_7_code
def y_M_setFraction : MethodName := ⟨R_M, "setFraction", "(IJJ)V"⟩
abbrev b_M_balance : ByteArray := prog_5_method_8_code
def y_M_balance : MethodName := ⟨R_M, "balance", "(I)Z"⟩
abbrev b_M_whole : ByteArray := prog_5_method_9_code
def y_M_whole : MethodName := ⟨R_M, "whole", "(II)Z"⟩
abbrev b_M_repeat : ByteArray := prog_5_method_10_code
def y_M_repeat : MethodName := ⟨R_M, "repeat", "()I"⟩
abbrev b_M_ready : ByteArray := prog_5_method_11_code
def y_M_ready : MethodName := ⟨R_M, "ready", "(I)Z"⟩
abbrev b_M_growth : ByteArray := prog_5_method_12_code
def y_M_growth : MethodName := ⟨R_M, "growth", "(I)I"⟩
abbrev b_M_pick : ByteArray := prog_5_method_13_code
def y_M_pick : MethodName := ⟨R_M, "pick", "(II)I"⟩
abbrev b_M_step : ByteArray := prog_5_method_14_code
def y_M_step : MethodName := ⟨R_M, "step", "(I)V"⟩
abbrev b_M_solve : ByteArray := prog_5_method_15_code
def y_M_solve : MethodName := ⟨R_M, "solve", "(I)I"⟩
abbrev b_M_takeFrom : ByteArray := prog_5_method_16_code
def y_M_takeFrom : MethodName := ⟨R_M, "takeFrom", "(I)I"⟩
abbrev b_M_fire : ByteArray := prog_5_method_17_code
def y_M_fire : MethodName := ⟨R_M, "fire", "(I)V"⟩
abbrev b_M_run : ByteArray := prog_5_method_18_code
def y_M_run : MethodName := ⟨R_M, "run", "(I)I"⟩
abbrev b_M_repetitions : ByteArray := prog_5_method_19_code
def y_M_repetitions : MethodName := ⟨R_M, "repetitions", "(I)I"⟩
abbrev b_M_schedule : ByteArray := prog_5_method_20_code
def y_M_schedule : MethodName := ⟨R_M, "schedule", "(I)I"⟩
abbrev b_M_peak : ByteArray := prog_5_method_21_code
def y_M_peak : MethodName := ⟨R_M, "peak", "(I)I"⟩
abbrev b_M_cut : ByteArray := prog_5_method_22_code
def y_M_cut : MethodName := ⟨R_M, "cut", "(III)I"⟩
abbrev b_M_nested : ByteArray := prog_5_method_23_code
def y_M_nested : MethodName := ⟨R_M, "nested", "()I"⟩
abbrev b_M_latest : ByteArray := prog_5_method_24_code
def y_M_latest : MethodName := ⟨R_M, "latest", "(I)J"⟩
abbrev b_M_token : ByteArray := prog_5_method_25_code
def y_M_token : MethodName := ⟨R_M, "token", "(II)J"⟩
abbrev b_M_tokens : ByteArray := prog_5_method_26_code
def y_M_tokens : MethodName := ⟨R_M, "tokens", "(I)I"⟩
abbrev b_M_count : ByteArray := prog_5_method_27_code
def y_M_count : MethodName := ⟨R_M, "count", "(I)I"⟩
abbrev vwCl : List vw_C := [(R_A, F_A, 10), (R_E, F_E, 9), (R_G, F_G, 9), (R_M, F_M, 25)]
def TT : List Cond := lw_tbl.filter goodWord
theorem TT_good : ax_good TT := fun w h => good_of_word (List.mem_filter.mp h).2
def NN : List Cond := lw_tbl.filter nw_b
theorem mem_NN {w : Cond} (i : Nat) (h : lw_tbl[i]? = some w) (hg : nw_b w = true) : w ∈ NN := List.mem_filter.mpr ⟨List.mem_of_getElem? h, hg⟩
theorem mem_TT {w : Cond} (i : Nat) (h : lw_tbl[i]? = some w) (hg : goodWord w = true) : w ∈ TT := List.mem_filter.mpr ⟨List.mem_of_getElem? h, hg⟩
theorem tok_A : ∀ k, k < 10 → parseFieldDescriptor (F_A k).2.2.1 = some (t_A k) := by decide +kernel
theorem nok_A : ∀ a, a < 10 → ∀ b, b < 10 → a ≠ b → (F_A a).2.1 ≠ (F_A b).2.1 := by decide +kernel
theorem tok_E : ∀ k, k < 9 → parseFieldDescriptor (F_E k).2.2.1 = some (t_E k) := by decide +kernel
theorem nok_E : ∀ a, a < 9 → ∀ b, b < 9 → a ≠ b → (F_E a).2.1 ≠ (F_E b).2.1 := by decide +kernel
theorem tok_G : ∀ k, k < 9 → parseFieldDescriptor (F_G k).2.2.1 = some (t_G k) := by decide +kernel
theorem nok_G : ∀ a, a < 9 → ∀ b, b < 9 → a ≠ b → (F_G a).2.1 ≠ (F_G b).2.1 := by decide +kernel
theorem tok_M : ∀ k, k < 25 → parseFieldDescriptor (F_M k).2.2.1 = some (t_M k) := by decide +kernel
theorem nok_M : ∀ a, a < 25 → ∀ b, b < 25 → a ≠ b → (F_M a).2.1 ≠ (F_M b).2.1 := by decide +kernel
theorem wd_0 : Cond.selects R_G y_G_isActor y_G_isActor ∈ TT := mem_TT 0 (by decide +kernel) (by decide +kernel)
theorem wd_1 : Cond.selects R_G y_G_isEdge y_G_isEdge ∈ TT := mem_TT 1 (by decide +kernel) (by decide +kernel)
theorem wd_2 : Cond.selects R_G y_G_countActors y_G_countActors ∈ TT := mem_TT 2 (by decide +kernel) (by decide +kernel)
theorem wd_3 : Cond.selects R_G y_G_findCulprit y_G_findCulprit ∈ TT := mem_TT 3 (by decide +kernel) (by decide +kernel)
theorem wd_4 : Cond.selects R_G y_G_makePartsOfOne y_G_makePartsOfOne ∈ TT := mem_TT 4 (by decide +kernel) (by decide +kernel)
theorem wd_5 : Cond.selects R_G y_G_balance y_G_balance ∈ TT := mem_TT 5 (by decide +kernel) (by decide +kernel)
theorem wd_6 : Cond.selects R_G y_G_scalePart y_G_scalePart ∈ TT := mem_TT 6 (by decide +kernel) (by decide +kernel)
theorem wd_7 : Cond.selects R_G y_G_joinParts y_G_joinParts ∈ TT := mem_TT 7 (by decide +kernel) (by decide +kernel)
theorem wd_8 : Cond.selects R_G y_G_keepRepetitions y_G_keepRepetitions ∈ TT := mem_TT 8 (by decide +kernel) (by decide +kernel)
theorem wd_9 : Cond.selects R_G y_G_makeSchedule y_G_makeSchedule ∈ TT := mem_TT 9 (by decide +kernel) (by decide +kernel)
theorem wd_10 : Cond.selects R_G y_G_choose y_G_choose ∈ TT := mem_TT 10 (by decide +kernel) (by decide +kernel)
theorem wd_11 : Cond.selects R_G y_G_chooseFewestTokens y_G_chooseFewestTokens ∈ TT := mem_TT 11 (by decide +kernel) (by decide +kernel)
theorem wd_12 : Cond.selects R_G y_G_canFire y_G_canFire ∈ TT := mem_TT 12 (by decide +kernel) (by decide +kernel)
theorem wd_13 : Cond.selects R_A y_A_isDue y_A_isDue ∈ TT := mem_TT 13 (by decide +kernel) (by decide +kernel)
theorem wd_14 : Cond.selects R_G y_G_isReady y_G_isReady ∈ TT := mem_TT 14 (by decide +kernel) (by decide +kernel)
theorem wd_15 : Cond.selects R_G y_G_tokensWonBy y_G_tokensWonBy ∈ TT := mem_TT 15 (by decide +kernel) (by decide +kernel)
theorem wd_16 : Cond.selects R_G y_G_chooseFrom y_G_chooseFrom ∈ TT := mem_TT 16 (by decide +kernel) (by decide +kernel)
theorem wd_17 : Cond.selects R_G y_G_leastDue y_G_leastDue ∈ TT := mem_TT 17 (by decide +kernel) (by decide +kernel)
theorem wd_18 : Cond.selects R_G y_G_fireCounting y_G_fireCounting ∈ TT := mem_TT 18 (by decide +kernel) (by decide +kernel)
theorem wd_19 : Cond.selects R_G y_G_setRunAsAtFirst y_G_setRunAsAtFirst ∈ TT := mem_TT 19 (by decide +kernel) (by decide +kernel)
theorem wd_20 : Cond.selects R_A y_A_forgetRun y_A_forgetRun ∈ TT := mem_TT 20 (by decide +kernel) (by decide +kernel)
theorem wd_21 : Cond.selects R_E y_E_setAsAtFirst y_E_setAsAtFirst ∈ TT := mem_TT 21 (by decide +kernel) (by decide +kernel)
theorem wd_22 : Cond.selects R_G y_G_fire y_G_fire ∈ TT := mem_TT 22 (by decide +kernel) (by decide +kernel)
theorem wd_23 : Cond.selects R_E y_E_takeWeighed y_E_takeWeighed ∈ TT := mem_TT 23 (by decide +kernel) (by decide +kernel)
theorem wd_24 : Cond.selects R_E y_E_at y_E_at ∈ TT := mem_TT 24 (by decide +kernel) (by decide +kernel)
theorem wd_25 : Cond.selects R_A y_A_answerTo y_A_answerTo ∈ TT := mem_TT 25 (by decide +kernel) (by decide +kernel)
theorem wd_26 : Cond.selects R_E y_E_putFrom y_E_putFrom ∈ TT := mem_TT 26 (by decide +kernel) (by decide +kernel)
theorem wd_27 : Cond.selects R_G y_G_canNest y_G_canNest ∈ TT := mem_TT 27 (by decide +kernel) (by decide +kernel)
theorem wd_28 : Cond.selects R_E y_E_isLoop y_E_isLoop ∈ TT := mem_TT 28 (by decide +kernel) (by decide +kernel)
theorem wd_29 : Cond.selects R_G y_G_nestedRoom y_G_nestedRoom ∈ TT := mem_TT 29 (by decide +kernel) (by decide +kernel)
theorem wd_30 : Cond.selects R_G y_G_listActors y_G_listActors ∈ TT := mem_TT 30 (by decide +kernel) (by decide +kernel)
theorem wd_31 : Cond.selects R_G y_G_costOfStretch y_G_costOfStretch ∈ TT := mem_TT 31 (by decide +kernel) (by decide +kernel)
theorem wd_32 : Cond.selects R_G y_G_divisorOfStretch y_G_divisorOfStretch ∈ TT := mem_TT 32 (by decide +kernel) (by decide +kernel)
theorem wd_33 : Cond.selects R_G y_G_tokensAcross y_G_tokensAcross ∈ TT := mem_TT 33 (by decide +kernel) (by decide +kernel)
theorem wd_34 : Cond.selects R_G y_G_countParts y_G_countParts ∈ TT := mem_TT 34 (by decide +kernel) (by decide +kernel)
theorem wd_35 : Cond.selects R_G y_G_countRuns y_G_countRuns ∈ TT := mem_TT 35 (by decide +kernel) (by decide +kernel)
theorem wd_36 : Cond.selects R_G y_G_sumOfPeaks y_G_sumOfPeaks ∈ TT := mem_TT 36 (by decide +kernel) (by decide +kernel)
theorem wd_37 : Cond.selects R_G y_G_sumOfTokens y_G_sumOfTokens ∈ TT := mem_TT 37 (by decide +kernel) (by decide +kernel)
theorem wd_38 : Cond.selects R_M y_M_isActor y_M_isActor ∈ TT := mem_TT 38 (by decide +kernel) (by decide +kernel)
theorem wd_39 : Cond.selects R_M y_M_balance y_M_balance ∈ TT := mem_TT 39 (by decide +kernel) (by decide +kernel)
theorem wd_40 : Cond.selects R_M y_M_setFraction y_M_setFraction ∈ TT := mem_TT 40 (by decide +kernel) (by decide +kernel)
theorem wd_41 : Cond.selects R_M y_M_repeat y_M_repeat ∈ TT := mem_TT 41 (by decide +kernel) (by decide +kernel)
theorem wd_42 : Cond.selects R_M y_M_whole y_M_whole ∈ TT := mem_TT 42 (by decide +kernel) (by decide +kernel)
theorem wd_43 : Cond.selects R_M y_M_pick y_M_pick ∈ TT := mem_TT 43 (by decide +kernel) (by decide +kernel)
theorem wd_44 : Cond.selects R_M y_M_ready y_M_ready ∈ TT := mem_TT 44 (by decide +kernel) (by decide +kernel)
theorem wd_45 : Cond.selects R_M y_M_growth y_M_growth ∈ TT := mem_TT 45 (by decide +kernel) (by decide +kernel)
theorem wd_46 : Cond.selects R_M y_M_step y_M_step ∈ TT := mem_TT 46 (by decide +kernel) (by decide +kernel)
theorem wd_47 : Cond.selects R_M y_M_fire y_M_fire ∈ TT := mem_TT 47 (by decide +kernel) (by decide +kernel)
theorem wd_48 : Cond.selects R_M y_M_takeFrom y_M_takeFrom ∈ TT := mem_TT 48 (by decide +kernel) (by decide +kernel)
theorem wd_49 : Cond.selects R_M y_M_cut y_M_cut ∈ TT := mem_TT 49 (by decide +kernel) (by decide +kernel)
theorem wd_51 : Cond.initialized y_G_isWithin.cls ∈ TT := mem_TT 51 (by decide +kernel) (by decide +kernel)
theorem wd_52 : Cond.initialized y_A_isDue.cls ∈ TT := mem_TT 52 (by decide +kernel) (by decide +kernel)
theorem wd_53 : Cond.initialized y_E_setAsAtFirst.cls ∈ TT := mem_TT 53 (by decide +kernel) (by decide +kernel)
theorem wd_54 : Cond.initialized R_M ∈ TT := mem_TT 54 (by decide +kernel) (by decide +kernel)
theorem wd_55 : Cond.initialized "java/lang/Math" ∈ TT := mem_TT 55 (by decide +kernel) (by decide +kernel)
theorem wd_75 : Cond.fieldLinkNest R_G 39 (F_A 0).1 (F_A 0).2.1 (F_A 0).2.2.1 "RateGraph" ∈ NN := mem_NN 75 (by decide +kernel) (by decide +kernel)
theorem wd_76 : Cond.fieldLink R_A 19 (F_A 0).1 (F_A 0).2.1 (F_A 0).2.2.1 ∈ TT := mem_TT 76 (by decide +kernel) (by decide +kernel)
theorem wd_77 : Cond.fieldLinkNest R_G 43 (F_A 1).1 (F_A 1).2.1 (F_A 1).2.2.1 "RateGraph" ∈ NN := mem_NN 77 (by decide +kernel) (by decide +kernel)
theorem wd_78 : Cond.fieldLink R_A 29 (F_A 1).1 (F_A 1).2.1 (F_A 1).2.2.1 ∈ TT := mem_TT 78 (by decide +kernel) (by decide +kernel)
theorem wd_79 : Cond.fieldLinkNest R_G 47 (F_A 2).1 (F_A 2).2.1 (F_A 2).2.2.1 "RateGraph" ∈ NN := mem_NN 79 (by decide +kernel) (by decide +kernel)
theorem wd_80 : Cond.fieldLink R_A 32 (F_A 2).1 (F_A 2).2.1 (F_A 2).2.2.1 ∈ TT := mem_TT 80 (by decide +kernel) (by decide +kernel)
theorem wd_81 : Cond.fieldLinkNest R_G 150 (F_A 3).1 (F_A 3).2.1 (F_A 3).2.2.1 "RateGraph" ∈ NN := mem_NN 81 (by decide +kernel) (by decide +kernel)
theorem wd_82 : Cond.fieldLinkNest R_G 157 (F_A 4).1 (F_A 4).2.1 (F_A 4).2.2.1 "RateGraph" ∈ NN := mem_NN 82 (by decide +kernel) (by decide +kernel)
theorem wd_83 : Cond.fieldLink R_A 26 (F_A 5).1 (F_A 5).2.1 (F_A 5).2.2.1 ∈ TT := mem_TT 83 (by decide +kernel) (by decide +kernel)
theorem wd_84 : Cond.fieldLinkNest R_G 105 (F_A 5).1 (F_A 5).2.1 (F_A 5).2.2.1 "RateGraph" ∈ NN := mem_NN 84 (by decide +kernel) (by decide +kernel)
theorem wd_85 : Cond.fieldLink R_A 23 (F_A 6).1 (F_A 6).2.1 (F_A 6).2.2.1 ∈ TT := mem_TT 85 (by decide +kernel) (by decide +kernel)
theorem wd_86 : Cond.fieldLinkNest R_G 170 (F_A 6).1 (F_A 6).2.1 (F_A 6).2.2.1 "RateGraph" ∈ NN := mem_NN 86 (by decide +kernel) (by decide +kernel)
theorem wd_87 : Cond.fieldLink R_A 7 (F_A 7).1 (F_A 7).2.1 (F_A 7).2.2.1 ∈ TT := mem_TT 87 (by decide +kernel) (by decide +kernel)
theorem wd_88 : Cond.fieldLink R_A 13 (F_A 8).1 (F_A 8).2.1 (F_A 8).2.2.1 ∈ TT := mem_TT 88 (by decide +kernel) (by decide +kernel)
theorem wd_89 : Cond.fieldLink R_A 16 (F_A 9).1 (F_A 9).2.1 (F_A 9).2.2.1 ∈ TT := mem_TT 89 (by decide +kernel) (by decide +kernel)
theorem wd_90 : Cond.fieldLinkNest R_G 118 (F_A 9).1 (F_A 9).2.1 (F_A 9).2.2.1 "RateGraph" ∈ NN := mem_NN 90 (by decide +kernel) (by decide +kernel)
theorem wd_91 : u_lay R_A F_A 0 ∈ TT := mem_TT 91 (by decide +kernel) (by decide +kernel)
theorem wd_93 : u_lay R_A F_A 1 ∈ TT := mem_TT 93 (by decide +kernel) (by decide +kernel)
theorem wd_95 : u_lay R_A F_A 2 ∈ TT := mem_TT 95 (by decide +kernel) (by decide +kernel)
theorem wd_97 : u_lay R_A F_A 3 ∈ TT := mem_TT 97 (by decide +kernel) (by decide +kernel)
theorem wd_99 : u_lay R_A F_A 4 ∈ TT := mem_TT 99 (by decide +kernel) (by decide +kernel)
theorem wd_101 : u_lay R_A F_A 5 ∈ TT := mem_TT 101 (by decide +kernel) (by decide +kernel)
theorem wd_103 : u_lay R_A F_A 6 ∈ TT := mem_TT 103 (by decide +kernel) (by decide +kernel)
theorem wd_105 : u_lay R_A F_A 7 ∈ TT := mem_TT 105 (by decide +kernel) (by decide +kernel)
theorem wd_107 : u_lay R_A F_A 8 ∈ TT := mem_TT 107 (by decide +kernel) (by decide +kernel)
theorem wd_109 : u_lay R_A F_A 9 ∈ TT := mem_TT 109 (by decide +kernel) (by decide +kernel)
theorem wd_118 : Cond.fieldLink R_E 9 (F_E 0).1 (F_E 0).2.1 (F_E 0).2.2.1 ∈ TT := mem_TT 118 (by decide +kernel) (by decide +kernel)
theorem wd_119 : Cond.fieldLink R_E 13 (F_E 1).1 (F_E 1).2.1 (F_E 1).2.2.1 ∈ TT := mem_TT 119 (by decide +kernel) (by decide +kernel)
theorem wd_120 : Cond.fieldLinkNest R_G 60 (F_E 1).1 (F_E 1).2.1 (F_E 1).2.2.1 "RateGraph" ∈ NN := mem_NN 120 (by decide +kernel) (by decide +kernel)
theorem wd_121 : Cond.fieldLink R_E 17 (F_E 2).1 (F_E 2).2.1 (F_E 2).2.2.1 ∈ TT := mem_TT 121 (by decide +kernel) (by decide +kernel)
theorem wd_122 : Cond.fieldLinkNest R_G 63 (F_E 2).1 (F_E 2).2.1 (F_E 2).2.2.1 "RateGraph" ∈ NN := mem_NN 122 (by decide +kernel) (by decide +kernel)
theorem wd_123 : Cond.fieldLinkNest R_G 66 (F_E 3).1 (F_E 3).2.1 (F_E 3).2.2.1 "RateGraph" ∈ NN := mem_NN 123 (by decide +kernel) (by decide +kernel)
theorem wd_124 : Cond.fieldLink R_E 36 (F_E 3).1 (F_E 3).2.1 (F_E 3).2.2.1 ∈ TT := mem_TT 124 (by decide +kernel) (by decide +kernel)
theorem wd_125 : Cond.fieldLinkNest R_G 69 (F_E 4).1 (F_E 4).2.1 (F_E 4).2.2.1 "RateGraph" ∈ NN := mem_NN 125 (by decide +kernel) (by decide +kernel)
theorem wd_126 : Cond.fieldLink R_E 29 (F_E 4).1 (F_E 4).2.1 (F_E 4).2.2.1 ∈ TT := mem_TT 126 (by decide +kernel) (by decide +kernel)
theorem wd_127 : Cond.fieldLink R_E 20 (F_E 5).1 (F_E 5).2.1 (F_E 5).2.2.1 ∈ TT := mem_TT 127 (by decide +kernel) (by decide +kernel)
theorem wd_128 : Cond.fieldLinkNest R_G 72 (F_E 5).1 (F_E 5).2.1 (F_E 5).2.2.1 "RateGraph" ∈ NN := mem_NN 128 (by decide +kernel) (by decide +kernel)
theorem wd_129 : Cond.fieldLink R_E 23 (F_E 6).1 (F_E 6).2.1 (F_E 6).2.2.1 ∈ TT := mem_TT 129 (by decide +kernel) (by decide +kernel)
theorem wd_130 : Cond.fieldLink R_E 26 (F_E 7).1 (F_E 7).2.1 (F_E 7).2.2.1 ∈ TT := mem_TT 130 (by decide +kernel) (by decide +kernel)
theorem wd_131 : Cond.fieldLinkNest R_G 123 (F_E 7).1 (F_E 7).2.1 (F_E 7).2.2.1 "RateGraph" ∈ NN := mem_NN 131 (by decide +kernel) (by decide +kernel)
theorem wd_132 : Cond.fieldLinkNest R_G 108 (F_E 8).1 (F_E 8).2.1 (F_E 8).2.2.1 "RateGraph" ∈ NN := mem_NN 132 (by decide +kernel) (by decide +kernel)
theorem wd_133 : u_lay R_E F_E 0 ∈ TT := mem_TT 133 (by decide +kernel) (by decide +kernel)
theorem wd_135 : u_lay R_E F_E 1 ∈ TT := mem_TT 135 (by decide +kernel) (by decide +kernel)
theorem wd_137 : u_lay R_E F_E 2 ∈ TT := mem_TT 137 (by decide +kernel) (by decide +kernel)
theorem wd_139 : u_lay R_E F_E 3 ∈ TT := mem_TT 139 (by decide +kernel) (by decide +kernel)
theorem wd_141 : u_lay R_E F_E 4 ∈ TT := mem_TT 141 (by decide +kernel) (by decide +kernel)
theorem wd_143 : u_lay R_E F_E 5 ∈ TT := mem_TT 143 (by decide +kernel) (by decide +kernel)
theorem wd_145 : u_lay R_E F_E 6 ∈ TT := mem_TT 145 (by decide +kernel) (by decide +kernel)
theorem wd_147 : u_lay R_E F_E 7 ∈ TT := mem_TT 147 (by decide +kernel) (by decide +kernel)
theorem wd_149 : u_lay R_E F_E 8 ∈ TT := mem_TT 149 (by decide +kernel) (by decide +kernel)
theorem wd_152 : Cond.fieldLink R_G 11 (F_G 0).1 (F_G 0).2.1 (F_G 0).2.2.1 ∈ TT := mem_TT 152 (by decide +kernel) (by decide +kernel)
theorem wd_153 : Cond.fieldLink R_G 17 (F_G 1).1 (F_G 1).2.1 (F_G 1).2.2.1 ∈ TT := mem_TT 153 (by decide +kernel) (by decide +kernel)
theorem wd_154 : Cond.fieldLink R_G 21 (F_G 2).1 (F_G 2).2.1 (F_G 2).2.2.1 ∈ TT := mem_TT 154 (by decide +kernel) (by decide +kernel)
theorem wd_155 : Cond.fieldLink R_G 27 (F_G 3).1 (F_G 3).2.1 (F_G 3).2.2.1 ∈ TT := mem_TT 155 (by decide +kernel) (by decide +kernel)
theorem wd_156 : Cond.fieldLink R_G 30 (F_G 4).1 (F_G 4).2.1 (F_G 4).2.2.1 ∈ TT := mem_TT 156 (by decide +kernel) (by decide +kernel)
theorem wd_157 : Cond.fieldLink R_G 57 (F_G 5).1 (F_G 5).2.1 (F_G 5).2.2.1 ∈ TT := mem_TT 157 (by decide +kernel) (by decide +kernel)
theorem wd_158 : Cond.fieldLink R_G 88 (F_G 6).1 (F_G 6).2.1 (F_G 6).2.2.1 ∈ TT := mem_TT 158 (by decide +kernel) (by decide +kernel)
theorem wd_159 : Cond.fieldLink R_G 102 (F_G 7).1 (F_G 7).2.1 (F_G 7).2.2.1 ∈ TT := mem_TT 159 (by decide +kernel) (by decide +kernel)
theorem wd_160 : Cond.fieldLink R_G 50 (F_G 8).1 (F_G 8).2.1 (F_G 8).2.2.1 ∈ TT := mem_TT 160 (by decide +kernel) (by decide +kernel)
theorem wd_161 : u_lay R_G F_G 0 ∈ TT := mem_TT 161 (by decide +kernel) (by decide +kernel)
theorem wd_163 : u_lay R_G F_G 1 ∈ TT := mem_TT 163 (by decide +kernel) (by decide +kernel)
theorem wd_165 : u_lay R_G F_G 2 ∈ TT := mem_TT 165 (by decide +kernel) (by decide +kernel)
theorem wd_167 : u_lay R_G F_G 3 ∈ TT := mem_TT 167 (by decide +kernel) (by decide +kernel)
theorem wd_169 : u_lay R_G F_G 4 ∈ TT := mem_TT 169 (by decide +kernel) (by decide +kernel)
theorem wd_171 : u_lay R_G F_G 5 ∈ TT := mem_TT 171 (by decide +kernel) (by decide +kernel)
theorem wd_173 : u_lay R_G F_G 6 ∈ TT := mem_TT 173 (by decide +kernel) (by decide +kernel)
theorem wd_175 : u_lay R_G F_G 7 ∈ TT := mem_TT 175 (by decide +kernel) (by decide +kernel)
theorem wd_177 : u_lay R_G F_G 8 ∈ TT := mem_TT 177 (by decide +kernel) (by decide +kernel)
theorem wd_184 : Cond.methodLink R_G 35 y_G_isWithin ∈ TT := mem_TT 184 (by decide +kernel) (by decide +kernel)
theorem wd_185 : Cond.static y_G_isWithin ∈ TT := mem_TT 185 (by decide +kernel) (by decide +kernel)
theorem wd_186 : Cond.code y_G_isWithin b_G_isWithin 3 (some .boolean) ∈ TT := mem_TT 186 (by decide +kernel) (by decide +kernel)
theorem wd_191 : Cond.methodLink R_G 53 y_G_isActor ∈ TT := mem_TT 191 (by decide +kernel) (by decide +kernel)
theorem wd_193 : Cond.instanceMethod y_G_isActor ∈ TT := mem_TT 193 (by decide +kernel) (by decide +kernel)
theorem wd_194 : Cond.code y_G_isActor b_G_isActor 2 (some .boolean) ∈ TT := mem_TT 194 (by decide +kernel) (by decide +kernel)
theorem wd_199 : Cond.methodLink R_G 75 y_G_isEdge ∈ TT := mem_TT 199 (by decide +kernel) (by decide +kernel)
theorem wd_201 : Cond.instanceMethod y_G_isEdge ∈ TT := mem_TT 201 (by decide +kernel) (by decide +kernel)
theorem wd_202 : Cond.code y_G_isEdge b_G_isEdge 2 (some .boolean) ∈ TT := mem_TT 202 (by decide +kernel) (by decide +kernel)
theorem wd_207 : Cond.methodLink R_G 78 y_G_countActors ∈ TT := mem_TT 207 (by decide +kernel) (by decide +kernel)
theorem wd_209 : Cond.instanceMethod y_G_countActors ∈ TT := mem_TT 209 (by decide +kernel) (by decide +kernel)
theorem wd_210 : Cond.code y_G_countActors b_G_countActors 3 (some .int) ∈ TT := mem_TT 210 (by decide +kernel) (by decide +kernel)
theorem wd_211 : Cond.methodLink R_G 82 y_G_findCulprit ∈ TT := mem_TT 211 (by decide +kernel) (by decide +kernel)
theorem wd_213 : Cond.instanceMethod y_G_findCulprit ∈ TT := mem_TT 213 (by decide +kernel) (by decide +kernel)
theorem wd_214 : Cond.code y_G_findCulprit b_G_findCulprit 2 (some .int) ∈ TT := mem_TT 214 (by decide +kernel) (by decide +kernel)
theorem wd_215 : Cond.methodLink R_G 147 y_G_makePartsOfOne ∈ TT := mem_TT 215 (by decide +kernel) (by decide +kernel)
theorem wd_217 : Cond.instanceMethod y_G_makePartsOfOne ∈ TT := mem_TT 217 (by decide +kernel) (by decide +kernel)
theorem wd_218 : Cond.code y_G_makePartsOfOne b_G_makePartsOfOne 2 none ∈ TT := mem_TT 218 (by decide +kernel) (by decide +kernel)
theorem wd_219 : Cond.methodLink R_G 160 y_G_balance ∈ TT := mem_TT 219 (by decide +kernel) (by decide +kernel)
theorem wd_221 : Cond.instanceMethod y_G_balance ∈ TT := mem_TT 221 (by decide +kernel) (by decide +kernel)
theorem wd_222 : Cond.code y_G_balance b_G_balance 7 (some .boolean) ∈ TT := mem_TT 222 (by decide +kernel) (by decide +kernel)
theorem wd_223 : Cond.methodLink R_G 164 y_G_greatestDivisor ∈ TT := mem_TT 223 (by decide +kernel) (by decide +kernel)
theorem wd_224 : Cond.static y_G_greatestDivisor ∈ TT := mem_TT 224 (by decide +kernel) (by decide +kernel)
theorem wd_225 : Cond.code y_G_greatestDivisor b_G_greatestDivisor 6 (some .int) ∈ TT := mem_TT 225 (by decide +kernel) (by decide +kernel)
theorem wd_226 : Cond.methodLink R_G 141 Lib.Math.max.name ∈ TT := mem_TT 226 (by decide +kernel) (by decide +kernel)
theorem wd_227 : Cond.static Lib.Math.max.name ∈ TT := mem_TT 227 (by decide +kernel) (by decide +kernel)
theorem wd_228 : Cond.code Lib.Math.max.name Lib.Math.max.code 2 (some .int) ∈ TT := mem_TT 228 (by decide +kernel) (by decide +kernel)
theorem wd_229 : Cond.methodLink R_G 167 y_G_scalePart ∈ TT := mem_TT 229 (by decide +kernel) (by decide +kernel)
theorem wd_231 : Cond.instanceMethod y_G_scalePart ∈ TT := mem_TT 231 (by decide +kernel) (by decide +kernel)
theorem wd_232 : Cond.code y_G_scalePart b_G_scalePart 4 none ∈ TT := mem_TT 232 (by decide +kernel) (by decide +kernel)
theorem wd_233 : Cond.methodLink R_G 153 y_G_joinParts ∈ TT := mem_TT 233 (by decide +kernel) (by decide +kernel)
theorem wd_235 : Cond.instanceMethod y_G_joinParts ∈ TT := mem_TT 235 (by decide +kernel) (by decide +kernel)
theorem wd_236 : Cond.code y_G_joinParts b_G_joinParts 4 none ∈ TT := mem_TT 236 (by decide +kernel) (by decide +kernel)
theorem wd_237 : Cond.methodLink R_G 85 y_G_keepRepetitions ∈ TT := mem_TT 237 (by decide +kernel) (by decide +kernel)
theorem wd_239 : Cond.instanceMethod y_G_keepRepetitions ∈ TT := mem_TT 239 (by decide +kernel) (by decide +kernel)
theorem wd_240 : Cond.code y_G_keepRepetitions b_G_keepRepetitions 4 (some .int) ∈ TT := mem_TT 240 (by decide +kernel) (by decide +kernel)
theorem wd_241 : Cond.methodLink R_G 91 y_G_makeSchedule ∈ TT := mem_TT 241 (by decide +kernel) (by decide +kernel)
theorem wd_243 : Cond.instanceMethod y_G_makeSchedule ∈ TT := mem_TT 243 (by decide +kernel) (by decide +kernel)
theorem wd_244 : Cond.code y_G_makeSchedule b_G_makeSchedule 5 (some .int) ∈ TT := mem_TT 244 (by decide +kernel) (by decide +kernel)
theorem wd_245 : Cond.methodLink R_G 173 y_G_choose ∈ TT := mem_TT 245 (by decide +kernel) (by decide +kernel)
theorem wd_247 : Cond.instanceMethod y_G_choose ∈ TT := mem_TT 247 (by decide +kernel) (by decide +kernel)
theorem wd_248 : Cond.code y_G_choose b_G_choose 3 (some .int) ∈ TT := mem_TT 248 (by decide +kernel) (by decide +kernel)
theorem wd_249 : Cond.methodLink R_G 182 y_G_chooseFewestTokens ∈ TT := mem_TT 249 (by decide +kernel) (by decide +kernel)
theorem wd_251 : Cond.instanceMethod y_G_chooseFewestTokens ∈ TT := mem_TT 251 (by decide +kernel) (by decide +kernel)
theorem wd_252 : Cond.code y_G_chooseFewestTokens b_G_chooseFewestTokens 5 (some .int) ∈ TT := mem_TT 252 (by decide +kernel) (by decide +kernel)
theorem wd_253 : Cond.methodLink R_G 188 y_G_canFire ∈ TT := mem_TT 253 (by decide +kernel) (by decide +kernel)
theorem wd_255 : Cond.instanceMethod y_G_canFire ∈ TT := mem_TT 255 (by decide +kernel) (by decide +kernel)
theorem wd_256 : Cond.code y_G_canFire b_G_canFire 2 (some .boolean) ∈ TT := mem_TT 256 (by decide +kernel) (by decide +kernel)
theorem wd_257 : Cond.methodLinkNest R_G 194 y_A_isDue "RateGraph" ∈ NN := mem_NN 257 (by decide +kernel) (by decide +kernel)
theorem wd_259 : Cond.instanceMethod y_A_isDue ∈ TT := mem_TT 259 (by decide +kernel) (by decide +kernel)
theorem wd_260 : Cond.code y_A_isDue b_A_isDue 1 (some .boolean) ∈ TT := mem_TT 260 (by decide +kernel) (by decide +kernel)
theorem wd_261 : Cond.methodLink R_G 197 y_G_isReady ∈ TT := mem_TT 261 (by decide +kernel) (by decide +kernel)
theorem wd_263 : Cond.instanceMethod y_G_isReady ∈ TT := mem_TT 263 (by decide +kernel) (by decide +kernel)
theorem wd_264 : Cond.code y_G_isReady b_G_isReady 4 (some .boolean) ∈ TT := mem_TT 264 (by decide +kernel) (by decide +kernel)
theorem wd_265 : Cond.methodLink R_G 191 y_G_tokensWonBy ∈ TT := mem_TT 265 (by decide +kernel) (by decide +kernel)
theorem wd_267 : Cond.instanceMethod y_G_tokensWonBy ∈ TT := mem_TT 267 (by decide +kernel) (by decide +kernel)
theorem wd_268 : Cond.code y_G_tokensWonBy b_G_tokensWonBy 5 (some .int) ∈ TT := mem_TT 268 (by decide +kernel) (by decide +kernel)
theorem wd_269 : Cond.methodLink R_G 185 y_G_chooseFrom ∈ TT := mem_TT 269 (by decide +kernel) (by decide +kernel)
theorem wd_271 : Cond.instanceMethod y_G_chooseFrom ∈ TT := mem_TT 271 (by decide +kernel) (by decide +kernel)
theorem wd_272 : Cond.code y_G_chooseFrom b_G_chooseFrom 4 (some .int) ∈ TT := mem_TT 272 (by decide +kernel) (by decide +kernel)
theorem wd_273 : Cond.methodLink R_G 176 y_G_leastDue ∈ TT := mem_TT 273 (by decide +kernel) (by decide +kernel)
theorem wd_275 : Cond.instanceMethod y_G_leastDue ∈ TT := mem_TT 275 (by decide +kernel) (by decide +kernel)
theorem wd_276 : Cond.code y_G_leastDue b_G_leastDue 2 (some .int) ∈ TT := mem_TT 276 (by decide +kernel) (by decide +kernel)
theorem wd_277 : Cond.methodLink R_G 179 y_G_fireCounting ∈ TT := mem_TT 277 (by decide +kernel) (by decide +kernel)
theorem wd_279 : Cond.instanceMethod y_G_fireCounting ∈ TT := mem_TT 279 (by decide +kernel) (by decide +kernel)
theorem wd_280 : Cond.code y_G_fireCounting b_G_fireCounting 4 none ∈ TT := mem_TT 280 (by decide +kernel) (by decide +kernel)
theorem wd_281 : Cond.methodLink R_G 95 y_G_setRunAsAtFirst ∈ TT := mem_TT 281 (by decide +kernel) (by decide +kernel)
theorem wd_283 : Cond.instanceMethod y_G_setRunAsAtFirst ∈ TT := mem_TT 283 (by decide +kernel) (by decide +kernel)
theorem wd_284 : Cond.code y_G_setRunAsAtFirst b_G_setRunAsAtFirst 2 none ∈ TT := mem_TT 284 (by decide +kernel) (by decide +kernel)
theorem wd_285 : Cond.methodLinkNest R_G 200 y_A_forgetRun "RateGraph" ∈ NN := mem_NN 285 (by decide +kernel) (by decide +kernel)
theorem wd_287 : Cond.instanceMethod y_A_forgetRun ∈ TT := mem_TT 287 (by decide +kernel) (by decide +kernel)
theorem wd_288 : Cond.code y_A_forgetRun b_A_forgetRun 1 none ∈ TT := mem_TT 288 (by decide +kernel) (by decide +kernel)
theorem wd_289 : Cond.methodLinkNest R_G 203 y_E_setAsAtFirst "RateGraph" ∈ NN := mem_NN 289 (by decide +kernel) (by decide +kernel)
theorem wd_291 : Cond.instanceMethod y_E_setAsAtFirst ∈ TT := mem_TT 291 (by decide +kernel) (by decide +kernel)
theorem wd_292 : Cond.code y_E_setAsAtFirst b_E_setAsAtFirst 2 none ∈ TT := mem_TT 292 (by decide +kernel) (by decide +kernel)
theorem wd_297 : Cond.methodLink R_G 98 y_G_fire ∈ TT := mem_TT 297 (by decide +kernel) (by decide +kernel)
theorem wd_299 : Cond.instanceMethod y_G_fire ∈ TT := mem_TT 299 (by decide +kernel) (by decide +kernel)
theorem wd_300 : Cond.code y_G_fire b_G_fire 5 none ∈ TT := mem_TT 300 (by decide +kernel) (by decide +kernel)
theorem wd_301 : Cond.methodLinkNest R_G 206 y_E_takeWeighed "RateGraph" ∈ NN := mem_NN 301 (by decide +kernel) (by decide +kernel)
theorem wd_303 : Cond.instanceMethod y_E_takeWeighed ∈ TT := mem_TT 303 (by decide +kernel) (by decide +kernel)
theorem wd_304 : Cond.code y_E_takeWeighed b_E_takeWeighed 3 (some .int) ∈ TT := mem_TT 304 (by decide +kernel) (by decide +kernel)
theorem wd_305 : Cond.methodLink R_E 32 y_E_at ∈ TT := mem_TT 305 (by decide +kernel) (by decide +kernel)
theorem wd_307 : Cond.instanceMethod y_E_at ∈ TT := mem_TT 307 (by decide +kernel) (by decide +kernel)
theorem wd_308 : Cond.code y_E_at b_E_at 2 (some .int) ∈ TT := mem_TT 308 (by decide +kernel) (by decide +kernel)
theorem wd_309 : Cond.methodLinkNest R_G 209 y_A_answerTo "RateGraph" ∈ NN := mem_NN 309 (by decide +kernel) (by decide +kernel)
theorem wd_311 : Cond.instanceMethod y_A_answerTo ∈ TT := mem_TT 311 (by decide +kernel) (by decide +kernel)
theorem wd_312 : Cond.code y_A_answerTo b_A_answerTo 3 (some .int) ∈ TT := mem_TT 312 (by decide +kernel) (by decide +kernel)
theorem wd_313 : Cond.methodLinkNest R_G 212 y_E_putFrom "RateGraph" ∈ NN := mem_NN 313 (by decide +kernel) (by decide +kernel)
theorem wd_315 : Cond.instanceMethod y_E_putFrom ∈ TT := mem_TT 315 (by decide +kernel) (by decide +kernel)
theorem wd_316 : Cond.code y_E_putFrom b_E_putFrom 3 none ∈ TT := mem_TT 316 (by decide +kernel) (by decide +kernel)
theorem wd_333 : Cond.methodLink R_G 111 y_G_canNest ∈ TT := mem_TT 333 (by decide +kernel) (by decide +kernel)
theorem wd_335 : Cond.instanceMethod y_G_canNest ∈ TT := mem_TT 335 (by decide +kernel) (by decide +kernel)
theorem wd_336 : Cond.code y_G_canNest b_G_canNest 4 (some .boolean) ∈ TT := mem_TT 336 (by decide +kernel) (by decide +kernel)
theorem wd_337 : Cond.methodLinkNest R_G 215 y_E_isLoop "RateGraph" ∈ NN := mem_NN 337 (by decide +kernel) (by decide +kernel)
theorem wd_339 : Cond.instanceMethod y_E_isLoop ∈ TT := mem_TT 339 (by decide +kernel) (by decide +kernel)
theorem wd_340 : Cond.code y_E_isLoop b_E_isLoop 1 (some .boolean) ∈ TT := mem_TT 340 (by decide +kernel) (by decide +kernel)
theorem wd_341 : Cond.methodLink R_G 115 y_G_nestedRoom ∈ TT := mem_TT 341 (by decide +kernel) (by decide +kernel)
theorem wd_343 : Cond.instanceMethod y_G_nestedRoom ∈ TT := mem_TT 343 (by decide +kernel) (by decide +kernel)
theorem wd_344 : Cond.code y_G_nestedRoom b_G_nestedRoom 4 (some .int) ∈ TT := mem_TT 344 (by decide +kernel) (by decide +kernel)
theorem wd_345 : Cond.methodLink R_G 218 y_G_listActors ∈ TT := mem_TT 345 (by decide +kernel) (by decide +kernel)
theorem wd_347 : Cond.instanceMethod y_G_listActors ∈ TT := mem_TT 347 (by decide +kernel) (by decide +kernel)
theorem wd_348 : Cond.code y_G_listActors b_G_listActors 3 (some .int) ∈ TT := mem_TT 348 (by decide +kernel) (by decide +kernel)
theorem wd_349 : Cond.methodLink R_G 221 y_G_costOfStretch ∈ TT := mem_TT 349 (by decide +kernel) (by decide +kernel)
theorem wd_351 : Cond.instanceMethod y_G_costOfStretch ∈ TT := mem_TT 351 (by decide +kernel) (by decide +kernel)
theorem wd_352 : Cond.code y_G_costOfStretch b_G_costOfStretch 7 (some .int) ∈ TT := mem_TT 352 (by decide +kernel) (by decide +kernel)
theorem wd_353 : Cond.methodLink R_G 224 y_G_divisorOfStretch ∈ TT := mem_TT 353 (by decide +kernel) (by decide +kernel)
theorem wd_355 : Cond.instanceMethod y_G_divisorOfStretch ∈ TT := mem_TT 355 (by decide +kernel) (by decide +kernel)
theorem wd_356 : Cond.code y_G_divisorOfStretch b_G_divisorOfStretch 5 (some .int) ∈ TT := mem_TT 356 (by decide +kernel) (by decide +kernel)
theorem wd_357 : Cond.constant R_G 229 (2147483647) ∈ TT := mem_TT 357 (by decide +kernel) (by decide +kernel)
theorem wd_358 : Cond.methodLink R_G 230 y_G_tokensAcross ∈ TT := mem_TT 358 (by decide +kernel) (by decide +kernel)
theorem wd_360 : Cond.instanceMethod y_G_tokensAcross ∈ TT := mem_TT 360 (by decide +kernel) (by decide +kernel)
theorem wd_361 : Cond.code y_G_tokensAcross b_G_tokensAcross 7 (some .int) ∈ TT := mem_TT 361 (by decide +kernel) (by decide +kernel)
theorem wd_362 : Cond.methodLink R_G 234 Lib.Math.min.name ∈ TT := mem_TT 362 (by decide +kernel) (by decide +kernel)
theorem wd_363 : Cond.static Lib.Math.min.name ∈ TT := mem_TT 363 (by decide +kernel) (by decide +kernel)
theorem wd_364 : Cond.code Lib.Math.min.name Lib.Math.min.code 2 (some .int) ∈ TT := mem_TT 364 (by decide +kernel) (by decide +kernel)
theorem wd_369 : Cond.constantLong R_G 121 (-1000000000000) ∈ TT := mem_TT 369 (by decide +kernel) (by decide +kernel)
theorem wd_374 : Cond.methodLinkNest R_G 126 y_E_at "RateGraph" ∈ NN := mem_NN 374 (by decide +kernel) (by decide +kernel)
theorem wd_383 : Cond.methodLink R_G 129 y_G_countParts ∈ TT := mem_TT 383 (by decide +kernel) (by decide +kernel)
theorem wd_385 : Cond.instanceMethod y_G_countParts ∈ TT := mem_TT 385 (by decide +kernel) (by decide +kernel)
theorem wd_386 : Cond.code y_G_countParts b_G_countParts 5 (some .int) ∈ TT := mem_TT 386 (by decide +kernel) (by decide +kernel)
theorem wd_387 : Cond.methodLink R_G 132 y_G_countRuns ∈ TT := mem_TT 387 (by decide +kernel) (by decide +kernel)
theorem wd_389 : Cond.instanceMethod y_G_countRuns ∈ TT := mem_TT 389 (by decide +kernel) (by decide +kernel)
theorem wd_390 : Cond.code y_G_countRuns b_G_countRuns 3 (some .int) ∈ TT := mem_TT 390 (by decide +kernel) (by decide +kernel)
theorem wd_391 : Cond.methodLink R_G 135 y_G_sumOfPeaks ∈ TT := mem_TT 391 (by decide +kernel) (by decide +kernel)
theorem wd_393 : Cond.instanceMethod y_G_sumOfPeaks ∈ TT := mem_TT 393 (by decide +kernel) (by decide +kernel)
theorem wd_394 : Cond.code y_G_sumOfPeaks b_G_sumOfPeaks 3 (some .int) ∈ TT := mem_TT 394 (by decide +kernel) (by decide +kernel)
theorem wd_395 : Cond.methodLink R_G 138 y_G_sumOfTokens ∈ TT := mem_TT 395 (by decide +kernel) (by decide +kernel)
theorem wd_397 : Cond.instanceMethod y_G_sumOfTokens ∈ TT := mem_TT 397 (by decide +kernel) (by decide +kernel)
theorem wd_398 : Cond.code y_G_sumOfTokens b_G_sumOfTokens 3 (some .int) ∈ TT := mem_TT 398 (by decide +kernel) (by decide +kernel)
theorem wd_405 : Cond.fieldLink R_M 7 (F_M 0).1 (F_M 0).2.1 (F_M 0).2.2.1 ∈ TT := mem_TT 405 (by decide +kernel) (by decide +kernel)
theorem wd_406 : Cond.fieldLink R_M 13 (F_M 1).1 (F_M 1).2.1 (F_M 1).2.2.1 ∈ TT := mem_TT 406 (by decide +kernel) (by decide +kernel)
theorem wd_407 : Cond.fieldLink R_M 17 (F_M 2).1 (F_M 2).2.1 (F_M 2).2.2.1 ∈ TT := mem_TT 407 (by decide +kernel) (by decide +kernel)
theorem wd_408 : Cond.fieldLink R_M 20 (F_M 3).1 (F_M 3).2.1 (F_M 3).2.2.1 ∈ TT := mem_TT 408 (by decide +kernel) (by decide +kernel)
theorem wd_409 : Cond.fieldLink R_M 23 (F_M 4).1 (F_M 4).2.1 (F_M 4).2.2.1 ∈ TT := mem_TT 409 (by decide +kernel) (by decide +kernel)
theorem wd_410 : Cond.fieldLink R_M 26 (F_M 5).1 (F_M 5).2.1 (F_M 5).2.2.1 ∈ TT := mem_TT 410 (by decide +kernel) (by decide +kernel)
theorem wd_411 : Cond.fieldLink R_M 29 (F_M 6).1 (F_M 6).2.1 (F_M 6).2.2.1 ∈ TT := mem_TT 411 (by decide +kernel) (by decide +kernel)
theorem wd_412 : Cond.fieldLink R_M 32 (F_M 7).1 (F_M 7).2.1 (F_M 7).2.2.1 ∈ TT := mem_TT 412 (by decide +kernel) (by decide +kernel)
theorem wd_413 : Cond.fieldLink R_M 83 (F_M 8).1 (F_M 8).2.1 (F_M 8).2.2.1 ∈ TT := mem_TT 413 (by decide +kernel) (by decide +kernel)
theorem wd_414 : Cond.fieldLink R_M 75 (F_M 9).1 (F_M 9).2.1 (F_M 9).2.2.1 ∈ TT := mem_TT 414 (by decide +kernel) (by decide +kernel)
theorem wd_415 : Cond.fieldLink R_M 35 (F_M 10).1 (F_M 10).2.1 (F_M 10).2.2.1 ∈ TT := mem_TT 415 (by decide +kernel) (by decide +kernel)
theorem wd_416 : Cond.fieldLink R_M 39 (F_M 11).1 (F_M 11).2.1 (F_M 11).2.2.1 ∈ TT := mem_TT 416 (by decide +kernel) (by decide +kernel)
theorem wd_417 : Cond.fieldLink R_M 42 (F_M 12).1 (F_M 12).2.1 (F_M 12).2.2.1 ∈ TT := mem_TT 417 (by decide +kernel) (by decide +kernel)
theorem wd_418 : Cond.fieldLink R_M 45 (F_M 13).1 (F_M 13).2.1 (F_M 13).2.2.1 ∈ TT := mem_TT 418 (by decide +kernel) (by decide +kernel)
theorem wd_419 : Cond.fieldLink R_M 48 (F_M 14).1 (F_M 14).2.1 (F_M 14).2.2.1 ∈ TT := mem_TT 419 (by decide +kernel) (by decide +kernel)
theorem wd_420 : Cond.fieldLink R_M 51 (F_M 15).1 (F_M 15).2.1 (F_M 15).2.2.1 ∈ TT := mem_TT 420 (by decide +kernel) (by decide +kernel)
theorem wd_421 : Cond.fieldLink R_M 54 (F_M 16).1 (F_M 16).2.1 (F_M 16).2.2.1 ∈ TT := mem_TT 421 (by decide +kernel) (by decide +kernel)
theorem wd_422 : Cond.fieldLink R_M 57 (F_M 17).1 (F_M 17).2.1 (F_M 17).2.2.1 ∈ TT := mem_TT 422 (by decide +kernel) (by decide +kernel)
theorem wd_423 : Cond.fieldLink R_M 108 (F_M 18).1 (F_M 18).2.1 (F_M 18).2.2.1 ∈ TT := mem_TT 423 (by decide +kernel) (by decide +kernel)
theorem wd_424 : Cond.fieldLink R_M 118 (F_M 19).1 (F_M 19).2.1 (F_M 19).2.2.1 ∈ TT := mem_TT 424 (by decide +kernel) (by decide +kernel)
theorem wd_425 : Cond.fieldLink R_M 60 (F_M 20).1 (F_M 20).2.1 (F_M 20).2.2.1 ∈ TT := mem_TT 425 (by decide +kernel) (by decide +kernel)
theorem wd_426 : Cond.fieldLink R_M 63 (F_M 21).1 (F_M 21).2.1 (F_M 21).2.2.1 ∈ TT := mem_TT 426 (by decide +kernel) (by decide +kernel)
theorem wd_427 : Cond.fieldLink R_M 66 (F_M 22).1 (F_M 22).2.1 (F_M 22).2.2.1 ∈ TT := mem_TT 427 (by decide +kernel) (by decide +kernel)
theorem wd_428 : Cond.fieldLink R_M 69 (F_M 23).1 (F_M 23).2.1 (F_M 23).2.2.1 ∈ TT := mem_TT 428 (by decide +kernel) (by decide +kernel)
theorem wd_429 : Cond.fieldLink R_M 72 (F_M 24).1 (F_M 24).2.1 (F_M 24).2.2.1 ∈ TT := mem_TT 429 (by decide +kernel) (by decide +kernel)
theorem wd_430 : u_lay R_M F_M 0 ∈ TT := mem_TT 430 (by decide +kernel) (by decide +kernel)
theorem wd_432 : u_lay R_M F_M 1 ∈ TT := mem_TT 432 (by decide +kernel) (by decide +kernel)
theorem wd_434 : u_lay R_M F_M 2 ∈ TT := mem_TT 434 (by decide +kernel) (by decide +kernel)
theorem wd_436 : u_lay R_M F_M 3 ∈ TT := mem_TT 436 (by decide +kernel) (by decide +kernel)
theorem wd_438 : u_lay R_M F_M 4 ∈ TT := mem_TT 438 (by decide +kernel) (by decide +kernel)
theorem wd_440 : u_lay R_M F_M 5 ∈ TT := mem_TT 440 (by decide +kernel) (by decide +kernel)
theorem wd_442 : u_lay R_M F_M 6 ∈ TT := mem_TT 442 (by decide +kernel) (by decide +kernel)
theorem wd_444 : u_lay R_M F_M 7 ∈ TT := mem_TT 444 (by decide +kernel) (by decide +kernel)
theorem wd_446 : u_lay R_M F_M 8 ∈ TT := mem_TT 446 (by decide +kernel) (by decide +kernel)
theorem wd_448 : u_lay R_M F_M 9 ∈ TT := mem_TT 448 (by decide +kernel) (by decide +kernel)
theorem wd_450 : u_lay R_M F_M 10 ∈ TT := mem_TT 450 (by decide +kernel) (by decide +kernel)
theorem wd_452 : u_lay R_M F_M 11 ∈ TT := mem_TT 452 (by decide +kernel) (by decide +kernel)
theorem wd_454 : u_lay R_M F_M 12 ∈ TT := mem_TT 454 (by decide +kernel) (by decide +kernel)
theorem wd_456 : u_lay R_M F_M 13 ∈ TT := mem_TT 456 (by decide +kernel) (by decide +kernel)
theorem wd_458 : u_lay R_M F_M 14 ∈ TT := mem_TT 458 (by decide +kernel) (by decide +kernel)
theorem wd_460 : u_lay R_M F_M 15 ∈ TT := mem_TT 460 (by decide +kernel) (by decide +kernel)
theorem wd_462 : u_lay R_M F_M 16 ∈ TT := mem_TT 462 (by decide +kernel) (by decide +kernel)
theorem wd_464 : u_lay R_M F_M 17 ∈ TT := mem_TT 464 (by decide +kernel) (by decide +kernel)
theorem wd_466 : u_lay R_M F_M 18 ∈ TT := mem_TT 466 (by decide +kernel) (by decide +kernel)
theorem wd_468 : u_lay R_M F_M 19 ∈ TT := mem_TT 468 (by decide +kernel) (by decide +kernel)
theorem wd_470 : u_lay R_M F_M 20 ∈ TT := mem_TT 470 (by decide +kernel) (by decide +kernel)
theorem wd_472 : u_lay R_M F_M 21 ∈ TT := mem_TT 472 (by decide +kernel) (by decide +kernel)
theorem wd_474 : u_lay R_M F_M 22 ∈ TT := mem_TT 474 (by decide +kernel) (by decide +kernel)
theorem wd_476 : u_lay R_M F_M 23 ∈ TT := mem_TT 476 (by decide +kernel) (by decide +kernel)
theorem wd_478 : u_lay R_M F_M 24 ∈ TT := mem_TT 478 (by decide +kernel) (by decide +kernel)
theorem wd_491 : Cond.methodLink R_M 79 y_M_isActor ∈ TT := mem_TT 491 (by decide +kernel) (by decide +kernel)
theorem wd_493 : Cond.instanceMethod y_M_isActor ∈ TT := mem_TT 493 (by decide +kernel) (by decide +kernel)
theorem wd_494 : Cond.code y_M_isActor b_M_isActor 2 (some .boolean) ∈ TT := mem_TT 494 (by decide +kernel) (by decide +kernel)
theorem wd_503 : Cond.methodLink R_M 111 y_M_balance ∈ TT := mem_TT 503 (by decide +kernel) (by decide +kernel)
theorem wd_505 : Cond.instanceMethod y_M_balance ∈ TT := mem_TT 505 (by decide +kernel) (by decide +kernel)
theorem wd_506 : Cond.code y_M_balance b_M_balance 7 (some .boolean) ∈ TT := mem_TT 506 (by decide +kernel) (by decide +kernel)
theorem wd_507 : Cond.methodLink R_M 91 y_M_setFraction ∈ TT := mem_TT 507 (by decide +kernel) (by decide +kernel)
theorem wd_509 : Cond.instanceMethod y_M_setFraction ∈ TT := mem_TT 509 (by decide +kernel) (by decide +kernel)
theorem wd_510 : Cond.code y_M_setFraction b_M_setFraction 8 none ∈ TT := mem_TT 510 (by decide +kernel) (by decide +kernel)
theorem wd_511 : Cond.methodLink R_M 87 y_M_gcd ∈ TT := mem_TT 511 (by decide +kernel) (by decide +kernel)
theorem wd_512 : Cond.static y_M_gcd ∈ TT := mem_TT 512 (by decide +kernel) (by decide +kernel)
theorem wd_513 : Cond.code y_M_gcd b_M_gcd 10 (some .long) ∈ TT := mem_TT 513 (by decide +kernel) (by decide +kernel)
theorem wd_514 : Cond.methodLink R_M 114 y_M_repeat ∈ TT := mem_TT 514 (by decide +kernel) (by decide +kernel)
theorem wd_516 : Cond.instanceMethod y_M_repeat ∈ TT := mem_TT 516 (by decide +kernel) (by decide +kernel)
theorem wd_517 : Cond.code y_M_repeat b_M_repeat 4 (some .int) ∈ TT := mem_TT 517 (by decide +kernel) (by decide +kernel)
theorem wd_518 : Cond.methodLink R_M 97 y_M_whole ∈ TT := mem_TT 518 (by decide +kernel) (by decide +kernel)
theorem wd_520 : Cond.instanceMethod y_M_whole ∈ TT := mem_TT 520 (by decide +kernel) (by decide +kernel)
theorem wd_521 : Cond.code y_M_whole b_M_whole 6 (some .boolean) ∈ TT := mem_TT 521 (by decide +kernel) (by decide +kernel)
theorem wd_522 : Cond.constantLong R_M 95 (1000) ∈ TT := mem_TT 522 (by decide +kernel) (by decide +kernel)
theorem wd_523 : Cond.methodLink R_M 121 y_M_pick ∈ TT := mem_TT 523 (by decide +kernel) (by decide +kernel)
theorem wd_525 : Cond.instanceMethod y_M_pick ∈ TT := mem_TT 525 (by decide +kernel) (by decide +kernel)
theorem wd_526 : Cond.code y_M_pick b_M_pick 6 (some .int) ∈ TT := mem_TT 526 (by decide +kernel) (by decide +kernel)
theorem wd_527 : Cond.methodLink R_M 101 y_M_ready ∈ TT := mem_TT 527 (by decide +kernel) (by decide +kernel)
theorem wd_529 : Cond.instanceMethod y_M_ready ∈ TT := mem_TT 529 (by decide +kernel) (by decide +kernel)
theorem wd_530 : Cond.code y_M_ready b_M_ready 3 (some .boolean) ∈ TT := mem_TT 530 (by decide +kernel) (by decide +kernel)
theorem wd_531 : Cond.methodLink R_M 104 y_M_growth ∈ TT := mem_TT 531 (by decide +kernel) (by decide +kernel)
theorem wd_533 : Cond.instanceMethod y_M_growth ∈ TT := mem_TT 533 (by decide +kernel) (by decide +kernel)
theorem wd_534 : Cond.code y_M_growth b_M_growth 4 (some .int) ∈ TT := mem_TT 534 (by decide +kernel) (by decide +kernel)
theorem wd_535 : Cond.methodLink R_M 125 y_M_step ∈ TT := mem_TT 535 (by decide +kernel) (by decide +kernel)
theorem wd_537 : Cond.instanceMethod y_M_step ∈ TT := mem_TT 537 (by decide +kernel) (by decide +kernel)
theorem wd_538 : Cond.code y_M_step b_M_step 3 none ∈ TT := mem_TT 538 (by decide +kernel) (by decide +kernel)
theorem wd_543 : Cond.methodLink R_M 132 y_M_fire ∈ TT := mem_TT 543 (by decide +kernel) (by decide +kernel)
theorem wd_545 : Cond.instanceMethod y_M_fire ∈ TT := mem_TT 545 (by decide +kernel) (by decide +kernel)
theorem wd_546 : Cond.code y_M_fire b_M_fire 6 none ∈ TT := mem_TT 546 (by decide +kernel) (by decide +kernel)
theorem wd_547 : Cond.methodLink R_M 129 y_M_takeFrom ∈ TT := mem_TT 547 (by decide +kernel) (by decide +kernel)
theorem wd_549 : Cond.instanceMethod y_M_takeFrom ∈ TT := mem_TT 549 (by decide +kernel) (by decide +kernel)
theorem wd_550 : Cond.code y_M_takeFrom b_M_takeFrom 4 (some .int) ∈ TT := mem_TT 550 (by decide +kernel) (by decide +kernel)
theorem wd_567 : Cond.methodLink R_M 135 y_M_cut ∈ TT := mem_TT 567 (by decide +kernel) (by decide +kernel)
theorem wd_569 : Cond.instanceMethod y_M_cut ∈ TT := mem_TT 569 (by decide +kernel) (by decide +kernel)
theorem wd_570 : Cond.code y_M_cut b_M_cut 8 (some .int) ∈ TT := mem_TT 570 (by decide +kernel) (by decide +kernel)
theorem wd_575 : Cond.constantLong R_M 139 (-1000000000000) ∈ TT := mem_TT 575 (by decide +kernel) (by decide +kernel)
theorem lm_G_35 : ∀ w ∈ ([Cond.methodLink R_G 35 y_G_isWithin, Cond.static y_G_isWithin, Cond.initialized y_G_isWithin.cls, Cond.code y_G_isWithin b_G_isWithin 3 (some .boolean)] : List Cond), w ∈ TT := List.forall_mem_cons.mpr ⟨wd_184, List.forall_mem_cons.mpr ⟨wd_185, List.forall_mem_cons.mpr ⟨wd_51, List.forall_mem_cons.mpr ⟨wd_186, List.forall_mem_nil _⟩⟩⟩⟩
theorem lm_G_53 : ∀ w ∈ ([Cond.methodLink R_G 53 y_G_isActor, Cond.instanceMethod y_G_isActor, Cond.selects R_G y_G_isActor y_G_isActor, Cond.initialized R_G, Cond.code y_G_isActor b_G_isActor 2 (some .boolean)] : List Cond), w ∈ TT := List.forall_mem_cons.mpr ⟨wd_191, List.forall_mem_cons.mpr ⟨wd_193, List.forall_mem_cons.mpr ⟨wd_0, List.forall_mem_cons.mpr ⟨wd_51, List.forall_mem_cons.mpr ⟨wd_194, List.forall_mem_nil _⟩⟩⟩⟩⟩
theorem lm_G_75 : ∀ w ∈ ([Cond.methodLink R_G 75 y_G_isEdge, Cond.instanceMethod y_G_isEdge, Cond.selects R_G y_G_isEdge y_G_isEdge, Cond.initialized R_G, Cond.code y_G_isEdge b_G_isEdge 2 (some .boolean)] : List Cond), w ∈ TT := List.forall_mem_cons.mpr ⟨wd_199, List.forall_mem_cons.mpr ⟨wd_201, List.forall_mem_cons.mpr ⟨wd_1, List.forall_mem_cons.mpr ⟨wd_51, List.forall_mem_cons.mpr ⟨wd_202, List.forall_mem_nil _⟩⟩⟩⟩⟩
theorem lm_G_141 : ∀ w ∈ ([Cond.methodLink R_G 141 Lib.Math.max.name, Cond.static Lib.Math.max.name, Cond.initialized "java/lang/Math", Cond.code Lib.Math.max.name Lib.Math.max.code 2 (some .int)] : List Cond), w ∈ TT := List.forall_mem_cons.mpr ⟨wd_226, List.forall_mem_cons.mpr ⟨wd_227, List.forall_mem_cons.mpr ⟨wd_55, List.forall_mem_cons.mpr ⟨wd_228, List.forall_mem_nil _⟩⟩⟩⟩
theorem lm_G_164 : ∀ w ∈ ([Cond.methodLink R_G 164 y_G_greatestDivisor, Cond.static y_G_greatestDivisor, Cond.initialized y_G_greatestDivisor.cls, Cond.code y_G_greatestDivisor b_G_greatestDivisor 6 (some .int)] : List Cond), w ∈ TT := List.forall_mem_cons.mpr ⟨wd_223, List.forall_mem_cons.mpr ⟨wd_224, List.forall_mem_cons.mpr ⟨wd_51, List.forall_mem_cons.mpr ⟨wd_225, List.forall_mem_nil _⟩⟩⟩⟩
theorem lm_G_167 : ∀ w ∈ ([Cond.methodLink R_G 167 y_G_scalePart, Cond.instanceMethod y_G_scalePart, Cond.selects R_G y_G_scalePart y_G_scalePart, Cond.initialized R_G, Cond.code y_G_scalePart b_G_scalePart 4 none] : List Cond), w ∈ TT := List.forall_mem_cons.mpr ⟨wd_229, List.forall_mem_cons.mpr ⟨wd_231, List.forall_mem_cons.mpr ⟨wd_6, List.forall_mem_cons.mpr ⟨wd_51, List.forall_mem_cons.mpr ⟨wd_232, List.forall_mem_nil _⟩⟩⟩⟩⟩
theorem lm_G_153 : ∀ w ∈ ([Cond.methodLink R_G 153 y_G_joinParts, Cond.instanceMethod y_G_joinParts, Cond.selects R_G y_G_joinParts y_G_joinParts, Cond.initialized R_G, Cond.code y_G_joinParts b_G_joinParts 4 none] : List Cond), w ∈ TT := List.forall_mem_cons.mpr ⟨wd_233, List.forall_mem_cons.mpr ⟨wd_235, List.forall_mem_cons.mpr ⟨wd_7, List.forall_mem_cons.mpr ⟨wd_51, List.forall_mem_cons.mpr ⟨wd_236, List.forall_mem_nil _⟩⟩⟩⟩⟩
theorem lm_G_147 : ∀ w ∈ ([Cond.methodLink R_G 147 y_G_makePartsOfOne, Cond.instanceMethod y_G_makePartsOfOne, Cond.selects R_G y_G_makePartsOfOne y_G_makePartsOfOne, Cond.initialized R_G, Cond.code y_G_makePartsOfOne b_G_makePartsOfOne 2 none] : List Cond), w ∈ TT := List.forall_mem_cons.mpr ⟨wd_215, List.forall_mem_cons.mpr ⟨wd_217, List.forall_mem_cons.mpr ⟨wd_4, List.forall_mem_cons.mpr ⟨wd_51, List.forall_mem_cons.mpr ⟨wd_218, List.forall_mem_nil _⟩⟩⟩⟩⟩
theorem lm_G_160 : ∀ w ∈ ([Cond.methodLink R_G 160 y_G_balance, Cond.instanceMethod y_G_balance, Cond.selects R_G y_G_balance y_G_balance, Cond.initialized R_G, Cond.code y_G_balance b_G_balance 7 (some .boolean)] : List Cond), w ∈ TT := List.forall_mem_cons.mpr ⟨wd_219, List.forall_mem_cons.mpr ⟨wd_221, List.forall_mem_cons.mpr ⟨wd_5, List.forall_mem_cons.mpr ⟨wd_51, List.forall_mem_cons.mpr ⟨wd_222, List.forall_mem_nil _⟩⟩⟩⟩⟩
theorem lm_G_194 : ∀ w ∈ ([Cond.instanceMethod y_A_isDue, Cond.selects R_A y_A_isDue y_A_isDue, Cond.initialized y_A_isDue.cls, Cond.code y_A_isDue b_A_isDue 1 (some .boolean)] : List Cond), w ∈ TT := List.forall_mem_cons.mpr ⟨wd_259, List.forall_mem_cons.mpr ⟨wd_13, List.forall_mem_cons.mpr ⟨wd_52, List.forall_mem_cons.mpr ⟨wd_260, List.forall_mem_nil _⟩⟩⟩⟩
theorem lm_G_197 : ∀ w ∈ ([Cond.methodLink R_G 197 y_G_isReady, Cond.instanceMethod y_G_isReady, Cond.selects R_G y_G_isReady y_G_isReady, Cond.initialized R_G, Cond.code y_G_isReady b_G_isReady 4 (some .boolean)] : List Cond), w ∈ TT := List.forall_mem_cons.mpr ⟨wd_261, List.forall_mem_cons.mpr ⟨wd_263, List.forall_mem_cons.mpr ⟨wd_14, List.forall_mem_cons.mpr ⟨wd_51, List.forall_mem_cons.mpr ⟨wd_264, List.forall_mem_nil _⟩⟩⟩⟩⟩
theorem lm_G_188 : ∀ w ∈ ([Cond.methodLink R_G 188 y_G_canFire, Cond.instanceMethod y_G_canFire, Cond.selects R_G y_G_canFire y_G_canFire, Cond.initialized R_G, Cond.code y_G_canFire b_G_canFire 2 (some .boolean)] : List Cond), w ∈ TT := List.forall_mem_cons.mpr ⟨wd_253, List.forall_mem_cons.mpr ⟨wd_255, List.forall_mem_cons.mpr ⟨wd_12, List.forall_mem_cons.mpr ⟨wd_51, List.forall_mem_cons.mpr ⟨wd_256, List.forall_mem_nil _⟩⟩⟩⟩⟩
theorem lm_G_191 : ∀ w ∈ ([Cond.methodLink R_G 191 y_G_tokensWonBy, Cond.instanceMethod y_G_tokensWonBy, Cond.selects R_G y_G_tokensWonBy y_G_tokensWonBy, Cond.initialized R_G, Cond.code y_G_tokensWonBy b_G_tokensWonBy 5 (some .int)] : List Cond), w ∈ TT := List.forall_mem_cons.mpr ⟨wd_265, List.forall_mem_cons.mpr ⟨wd_267, List.forall_mem_cons.mpr ⟨wd_15, List.forall_mem_cons.mpr ⟨wd_51, List.forall_mem_cons.mpr ⟨wd_268, List.forall_mem_nil _⟩⟩⟩⟩⟩
theorem lm_G_185 : ∀ w ∈ ([Cond.methodLink R_G 185 y_G_chooseFrom, Cond.instanceMethod y_G_chooseFrom, Cond.selects R_G y_G_chooseFrom y_G_chooseFrom, Cond.initialized R_G, Cond.code y_G_chooseFrom b_G_chooseFrom 4 (some .int)] : List Cond), w ∈ TT := List.forall_mem_cons.mpr ⟨wd_269, List.forall_mem_cons.mpr ⟨wd_271, List.forall_mem_cons.mpr ⟨wd_16, List.forall_mem_cons.mpr ⟨wd_51, List.forall_mem_cons.mpr ⟨wd_272, List.forall_mem_nil _⟩⟩⟩⟩⟩
theorem lm_G_182 : ∀ w ∈ ([Cond.methodLink R_G 182 y_G_chooseFewestTokens, Cond.instanceMethod y_G_chooseFewestTokens, Cond.selects R_G y_G_chooseFewestTokens y_G_chooseFewestTokens, Cond.initialized R_G, Cond.code y_G_chooseFewestTokens b_G_chooseFewestTokens 5 (some .int)] : List Cond), w ∈ TT := List.forall_mem_cons.mpr ⟨wd_249, List.forall_mem_cons.mpr ⟨wd_251, List.forall_mem_cons.mpr ⟨wd_11, List.forall_mem_cons.mpr ⟨wd_51, List.forall_mem_cons.mpr ⟨wd_252, List.forall_mem_nil _⟩⟩⟩⟩⟩
theorem lm_G_173 : ∀ w ∈ ([Cond.methodLink R_G 173 y_G_choose, Cond.instanceMethod y_G_choose, Cond.selects R_G y_G_choose y_G_choose, Cond.initialized R_G, Cond.code y_G_choose b_G_choose 3 (some .int)] : List Cond), w ∈ TT := List.forall_mem_cons.mpr ⟨wd_245, List.forall_mem_cons.mpr ⟨wd_247, List.forall_mem_cons.mpr ⟨wd_10, List.forall_mem_cons.mpr ⟨wd_51, List.forall_mem_cons.mpr ⟨wd_248, List.forall_mem_nil _⟩⟩⟩⟩⟩
theorem lm_G_179 : ∀ w ∈ ([Cond.methodLink R_G 179 y_G_fireCounting, Cond.instanceMethod y_G_fireCounting, Cond.selects R_G y_G_fireCounting y_G_fireCounting, Cond.initialized R_G, Cond.code y_G_fireCounting b_G_fireCounting 4 none] : List Cond), w ∈ TT := List.forall_mem_cons.mpr ⟨wd_277, List.forall_mem_cons.mpr ⟨wd_279, List.forall_mem_cons.mpr ⟨wd_18, List.forall_mem_cons.mpr ⟨wd_51, List.forall_mem_cons.mpr ⟨wd_280, List.forall_mem_nil _⟩⟩⟩⟩⟩
theorem lm_G_176 : ∀ w ∈ ([Cond.methodLink R_G 176 y_G_leastDue, Cond.instanceMethod y_G_leastDue, Cond.selects R_G y_G_leastDue y_G_leastDue, Cond.initialized R_G, Cond.code y_G_leastDue b_G_leastDue 2 (some .int)] : List Cond), w ∈ TT := List.forall_mem_cons.mpr ⟨wd_273, List.forall_mem_cons.mpr ⟨wd_275, List.forall_mem_cons.mpr ⟨wd_17, List.forall_mem_cons.mpr ⟨wd_51, List.forall_mem_cons.mpr ⟨wd_276, List.forall_mem_nil _⟩⟩⟩⟩⟩
theorem lm_G_200 : ∀ w ∈ ([Cond.instanceMethod y_A_forgetRun, Cond.selects R_A y_A_forgetRun y_A_forgetRun, Cond.initialized y_A_forgetRun.cls, Cond.code y_A_forgetRun b_A_forgetRun 1 none] : List Cond), w ∈ TT := List.forall_mem_cons.mpr ⟨wd_287, List.forall_mem_cons.mpr ⟨wd_20, List.forall_mem_cons.mpr ⟨wd_52, List.forall_mem_cons.mpr ⟨wd_288, List.forall_mem_nil _⟩⟩⟩⟩
theorem lm_G_203 : ∀ w ∈ ([Cond.instanceMethod y_E_setAsAtFirst, Cond.selects R_E y_E_setAsAtFirst y_E_setAsAtFirst, Cond.initialized y_E_setAsAtFirst.cls, Cond.code y_E_setAsAtFirst b_E_setAsAtFirst 2 none] : List Cond), w ∈ TT := List.forall_mem_cons.mpr ⟨wd_291, List.forall_mem_cons.mpr ⟨wd_21, List.forall_mem_cons.mpr ⟨wd_53, List.forall_mem_cons.mpr ⟨wd_292, List.forall_mem_nil _⟩⟩⟩⟩
theorem lm_G_78 : ∀ w ∈ ([Cond.methodLink R_G 78 y_G_countActors, Cond.instanceMethod y_G_countActors, Cond.selects R_G y_G_countActors y_G_countActors, Cond.initialized R_G, Cond.code y_G_countActors b_G_countActors 3 (some .int)] : List Cond), w ∈ TT := List.forall_mem_cons.mpr ⟨wd_207, List.forall_mem_cons.mpr ⟨wd_209, List.forall_mem_cons.mpr ⟨wd_2, List.forall_mem_cons.mpr ⟨wd_51, List.forall_mem_cons.mpr ⟨wd_210, List.forall_mem_nil _⟩⟩⟩⟩⟩
theorem lm_G_82 : ∀ w ∈ ([Cond.methodLink R_G 82 y_G_findCulprit, Cond.instanceMethod y_G_findCulprit, Cond.selects R_G y_G_findCulprit y_G_findCulprit, Cond.initialized R_G, Cond.code y_G_findCulprit b_G_findCulprit 2 (some .int)] : List Cond), w ∈ TT := List.forall_mem_cons.mpr ⟨wd_211, List.forall_mem_cons.mpr ⟨wd_213, List.forall_mem_cons.mpr ⟨wd_3, List.forall_mem_cons.mpr ⟨wd_51, List.forall_mem_cons.mpr ⟨wd_214, List.forall_mem_nil _⟩⟩⟩⟩⟩
theorem lm_G_85 : ∀ w ∈ ([Cond.methodLink R_G 85 y_G_keepRepetitions, Cond.instanceMethod y_G_keepRepetitions, Cond.selects R_G y_G_keepRepetitions y_G_keepRepetitions, Cond.initialized R_G, Cond.code y_G_keepRepetitions b_G_keepRepetitions 4 (some .int)] : List Cond), w ∈ TT := List.forall_mem_cons.mpr ⟨wd_237, List.forall_mem_cons.mpr ⟨wd_239, List.forall_mem_cons.mpr ⟨wd_8, List.forall_mem_cons.mpr ⟨wd_51, List.forall_mem_cons.mpr ⟨wd_240, List.forall_mem_nil _⟩⟩⟩⟩⟩
theorem lm_G_91 : ∀ w ∈ ([Cond.methodLink R_G 91 y_G_makeSchedule, Cond.instanceMethod y_G_makeSchedule, Cond.selects R_G y_G_makeSchedule y_G_makeSchedule, Cond.initialized R_G, Cond.code y_G_makeSchedule b_G_makeSchedule 5 (some .int)] : List Cond), w ∈ TT := List.forall_mem_cons.mpr ⟨wd_241, List.forall_mem_cons.mpr ⟨wd_243, List.forall_mem_cons.mpr ⟨wd_9, List.forall_mem_cons.mpr ⟨wd_51, List.forall_mem_cons.mpr ⟨wd_244, List.forall_mem_nil _⟩⟩⟩⟩⟩
theorem lm_G_95 : ∀ w ∈ ([Cond.methodLink R_G 95 y_G_setRunAsAtFirst, Cond.instanceMethod y_G_setRunAsAtFirst, Cond.selects R_G y_G_setRunAsAtFirst y_G_setRunAsAtFirst, Cond.initialized R_G, Cond.code y_G_setRunAsAtFirst b_G_setRunAsAtFirst 2 none] : List Cond), w ∈ TT := List.forall_mem_cons.mpr ⟨wd_281, List.forall_mem_cons.mpr ⟨wd_283, List.forall_mem_cons.mpr ⟨wd_19, List.forall_mem_cons.mpr ⟨wd_51, List.forall_mem_cons.mpr ⟨wd_284, List.forall_mem_nil _⟩⟩⟩⟩⟩
theorem lm_E_32 : ∀ w ∈ ([Cond.methodLink R_E 32 y_E_at, Cond.instanceMethod y_E_at, Cond.selects R_E y_E_at y_E_at, Cond.initialized R_E, Cond.code y_E_at b_E_at 2 (some .int)] : List Cond), w ∈ TT := List.forall_mem_cons.mpr ⟨wd_305, List.forall_mem_cons.mpr ⟨wd_307, List.forall_mem_cons.mpr ⟨wd_24, List.forall_mem_cons.mpr ⟨wd_53, List.forall_mem_cons.mpr ⟨wd_308, List.forall_mem_nil _⟩⟩⟩⟩⟩
theorem lm_G_206 : ∀ w ∈ ([Cond.instanceMethod y_E_takeWeighed, Cond.selects R_E y_E_takeWeighed y_E_takeWeighed, Cond.initialized y_E_takeWeighed.cls, Cond.code y_E_takeWeighed b_E_takeWeighed 3 (some .int)] : List Cond), w ∈ TT := List.forall_mem_cons.mpr ⟨wd_303, List.forall_mem_cons.mpr ⟨wd_23, List.forall_mem_cons.mpr ⟨wd_53, List.forall_mem_cons.mpr ⟨wd_304, List.forall_mem_nil _⟩⟩⟩⟩
theorem lm_G_209 : ∀ w ∈ ([Cond.instanceMethod y_A_answerTo, Cond.selects R_A y_A_answerTo y_A_answerTo, Cond.initialized y_A_answerTo.cls, Cond.code y_A_answerTo b_A_answerTo 3 (some .int)] : List Cond), w ∈ TT := List.forall_mem_cons.mpr ⟨wd_311, List.forall_mem_cons.mpr ⟨wd_25, List.forall_mem_cons.mpr ⟨wd_52, List.forall_mem_cons.mpr ⟨wd_312, List.forall_mem_nil _⟩⟩⟩⟩
theorem lm_G_212 : ∀ w ∈ ([Cond.instanceMethod y_E_putFrom, Cond.selects R_E y_E_putFrom y_E_putFrom, Cond.initialized y_E_putFrom.cls, Cond.code y_E_putFrom b_E_putFrom 3 none] : List Cond), w ∈ TT := List.forall_mem_cons.mpr ⟨wd_315, List.forall_mem_cons.mpr ⟨wd_26, List.forall_mem_cons.mpr ⟨wd_53, List.forall_mem_cons.mpr ⟨wd_316, List.forall_mem_nil _⟩⟩⟩⟩
theorem lm_G_98 : ∀ w ∈ ([Cond.methodLink R_G 98 y_G_fire, Cond.instanceMethod y_G_fire, Cond.selects R_G y_G_fire y_G_fire, Cond.initialized R_G, Cond.code y_G_fire b_G_fire 5 none] : List Cond), w ∈ TT := List.forall_mem_cons.mpr ⟨wd_297, List.forall_mem_cons.mpr ⟨wd_299, List.forall_mem_cons.mpr ⟨wd_22, List.forall_mem_cons.mpr ⟨wd_51, List.forall_mem_cons.mpr ⟨wd_300, List.forall_mem_nil _⟩⟩⟩⟩⟩
theorem lm_G_215 : ∀ w ∈ ([Cond.instanceMethod y_E_isLoop, Cond.selects R_E y_E_isLoop y_E_isLoop, Cond.initialized y_E_isLoop.cls, Cond.code y_E_isLoop b_E_isLoop 1 (some .boolean)] : List Cond), w ∈ TT := List.forall_mem_cons.mpr ⟨wd_339, List.forall_mem_cons.mpr ⟨wd_28, List.forall_mem_cons.mpr ⟨wd_53, List.forall_mem_cons.mpr ⟨wd_340, List.forall_mem_nil _⟩⟩⟩⟩
theorem lm_G_224 : ∀ w ∈ ([Cond.methodLink R_G 224 y_G_divisorOfStretch, Cond.instanceMethod y_G_divisorOfStretch, Cond.selects R_G y_G_divisorOfStretch y_G_divisorOfStretch, Cond.initialized R_G, Cond.code y_G_divisorOfStretch b_G_divisorOfStretch 5 (some .int)] : List Cond), w ∈ TT := List.forall_mem_cons.mpr ⟨wd_353, List.forall_mem_cons.mpr ⟨wd_355, List.forall_mem_cons.mpr ⟨wd_32, List.forall_mem_cons.mpr ⟨wd_51, List.forall_mem_cons.mpr ⟨wd_356, List.forall_mem_nil _⟩⟩⟩⟩⟩
theorem lm_G_230 : ∀ w ∈ ([Cond.methodLink R_G 230 y_G_tokensAcross, Cond.instanceMethod y_G_tokensAcross, Cond.selects R_G y_G_tokensAcross y_G_tokensAcross, Cond.initialized R_G, Cond.code y_G_tokensAcross b_G_tokensAcross 7 (some .int)] : List Cond), w ∈ TT := List.forall_mem_cons.mpr ⟨wd_358, List.forall_mem_cons.mpr ⟨wd_360, List.forall_mem_cons.mpr ⟨wd_33, List.forall_mem_cons.mpr ⟨wd_51, List.forall_mem_cons.mpr ⟨wd_361, List.forall_mem_nil _⟩⟩⟩⟩⟩
theorem lm_G_234 : ∀ w ∈ ([Cond.methodLink R_G 234 Lib.Math.min.name, Cond.static Lib.Math.min.name, Cond.initialized "java/lang/Math", Cond.code Lib.Math.min.name Lib.Math.min.code 2 (some .int)] : List Cond), w ∈ TT := List.forall_mem_cons.mpr ⟨wd_362, List.forall_mem_cons.mpr ⟨wd_363, List.forall_mem_cons.mpr ⟨wd_55, List.forall_mem_cons.mpr ⟨wd_364, List.forall_mem_nil _⟩⟩⟩⟩
theorem lm_G_218 : ∀ w ∈ ([Cond.methodLink R_G 218 y_G_listActors, Cond.instanceMethod y_G_listActors, Cond.selects R_G y_G_listActors y_G_listActors, Cond.initialized R_G, Cond.code y_G_listActors b_G_listActors 3 (some .int)] : List Cond), w ∈ TT := List.forall_mem_cons.mpr ⟨wd_345, List.forall_mem_cons.mpr ⟨wd_347, List.forall_mem_cons.mpr ⟨wd_30, List.forall_mem_cons.mpr ⟨wd_51, List.forall_mem_cons.mpr ⟨wd_348, List.forall_mem_nil _⟩⟩⟩⟩⟩
theorem lm_G_221 : ∀ w ∈ ([Cond.methodLink R_G 221 y_G_costOfStretch, Cond.instanceMethod y_G_costOfStretch, Cond.selects R_G y_G_costOfStretch y_G_costOfStretch, Cond.initialized R_G, Cond.code y_G_costOfStretch b_G_costOfStretch 7 (some .int)] : List Cond), w ∈ TT := List.forall_mem_cons.mpr ⟨wd_349, List.forall_mem_cons.mpr ⟨wd_351, List.forall_mem_cons.mpr ⟨wd_31, List.forall_mem_cons.mpr ⟨wd_51, List.forall_mem_cons.mpr ⟨wd_352, List.forall_mem_nil _⟩⟩⟩⟩⟩
theorem lm_G_111 : ∀ w ∈ ([Cond.methodLink R_G 111 y_G_canNest, Cond.instanceMethod y_G_canNest, Cond.selects R_G y_G_canNest y_G_canNest, Cond.initialized R_G, Cond.code y_G_canNest b_G_canNest 4 (some .boolean)] : List Cond), w ∈ TT := List.forall_mem_cons.mpr ⟨wd_333, List.forall_mem_cons.mpr ⟨wd_335, List.forall_mem_cons.mpr ⟨wd_27, List.forall_mem_cons.mpr ⟨wd_51, List.forall_mem_cons.mpr ⟨wd_336, List.forall_mem_nil _⟩⟩⟩⟩⟩
theorem lm_G_115 : ∀ w ∈ ([Cond.methodLink R_G 115 y_G_nestedRoom, Cond.instanceMethod y_G_nestedRoom, Cond.selects R_G y_G_nestedRoom y_G_nestedRoom, Cond.initialized R_G, Cond.code y_G_nestedRoom b_G_nestedRoom 4 (some .int)] : List Cond), w ∈ TT := List.forall_mem_cons.mpr ⟨wd_341, List.forall_mem_cons.mpr ⟨wd_343, List.forall_mem_cons.mpr ⟨wd_29, List.forall_mem_cons.mpr ⟨wd_51, List.forall_mem_cons.mpr ⟨wd_344, List.forall_mem_nil _⟩⟩⟩⟩⟩
theorem lm_G_126 : ∀ w ∈ ([Cond.instanceMethod y_E_at, Cond.selects R_E y_E_at y_E_at, Cond.initialized y_E_at.cls, Cond.code y_E_at b_E_at 2 (some .int)] : List Cond), w ∈ TT := List.forall_mem_cons.mpr ⟨wd_307, List.forall_mem_cons.mpr ⟨wd_24, List.forall_mem_cons.mpr ⟨wd_53, List.forall_mem_cons.mpr ⟨wd_308, List.forall_mem_nil _⟩⟩⟩⟩
theorem lm_G_129 : ∀ w ∈ ([Cond.methodLink R_G 129 y_G_countParts, Cond.instanceMethod y_G_countParts, Cond.selects R_G y_G_countParts y_G_countParts, Cond.initialized R_G, Cond.code y_G_countParts b_G_countParts 5 (some .int)] : List Cond), w ∈ TT := List.forall_mem_cons.mpr ⟨wd_383, List.forall_mem_cons.mpr ⟨wd_385, List.forall_mem_cons.mpr ⟨wd_34, List.forall_mem_cons.mpr ⟨wd_51, List.forall_mem_cons.mpr ⟨wd_386, List.forall_mem_nil _⟩⟩⟩⟩⟩
theorem lm_G_132 : ∀ w ∈ ([Cond.methodLink R_G 132 y_G_countRuns, Cond.instanceMethod y_G_countRuns, Cond.selects R_G y_G_countRuns y_G_countRuns, Cond.initialized R_G, Cond.code y_G_countRuns b_G_countRuns 3 (some .int)] : List Cond), w ∈ TT := List.forall_mem_cons.mpr ⟨wd_387, List.forall_mem_cons.mpr ⟨wd_389, List.forall_mem_cons.mpr ⟨wd_35, List.forall_mem_cons.mpr ⟨wd_51, List.forall_mem_cons.mpr ⟨wd_390, List.forall_mem_nil _⟩⟩⟩⟩⟩
theorem lm_G_135 : ∀ w ∈ ([Cond.methodLink R_G 135 y_G_sumOfPeaks, Cond.instanceMethod y_G_sumOfPeaks, Cond.selects R_G y_G_sumOfPeaks y_G_sumOfPeaks, Cond.initialized R_G, Cond.code y_G_sumOfPeaks b_G_sumOfPeaks 3 (some .int)] : List Cond), w ∈ TT := List.forall_mem_cons.mpr ⟨wd_391, List.forall_mem_cons.mpr ⟨wd_393, List.forall_mem_cons.mpr ⟨wd_36, List.forall_mem_cons.mpr ⟨wd_51, List.forall_mem_cons.mpr ⟨wd_394, List.forall_mem_nil _⟩⟩⟩⟩⟩
theorem lm_G_138 : ∀ w ∈ ([Cond.methodLink R_G 138 y_G_sumOfTokens, Cond.instanceMethod y_G_sumOfTokens, Cond.selects R_G y_G_sumOfTokens y_G_sumOfTokens, Cond.initialized R_G, Cond.code y_G_sumOfTokens b_G_sumOfTokens 3 (some .int)] : List Cond), w ∈ TT := List.forall_mem_cons.mpr ⟨wd_395, List.forall_mem_cons.mpr ⟨wd_397, List.forall_mem_cons.mpr ⟨wd_37, List.forall_mem_cons.mpr ⟨wd_51, List.forall_mem_cons.mpr ⟨wd_398, List.forall_mem_nil _⟩⟩⟩⟩⟩
theorem lm_M_79 : ∀ w ∈ ([Cond.methodLink R_M 79 y_M_isActor, Cond.instanceMethod y_M_isActor, Cond.selects R_M y_M_isActor y_M_isActor, Cond.initialized R_M, Cond.code y_M_isActor b_M_isActor 2 (some .boolean)] : List Cond), w ∈ TT := List.forall_mem_cons.mpr ⟨wd_491, List.forall_mem_cons.mpr ⟨wd_493, List.forall_mem_cons.mpr ⟨wd_38, List.forall_mem_cons.mpr ⟨wd_54, List.forall_mem_cons.mpr ⟨wd_494, List.forall_mem_nil _⟩⟩⟩⟩⟩
theorem lm_M_87 : ∀ w ∈ ([Cond.methodLink R_M 87 y_M_gcd, Cond.static y_M_gcd, Cond.initialized y_M_gcd.cls, Cond.code y_M_gcd b_M_gcd 10 (some .long)] : List Cond), w ∈ TT := List.forall_mem_cons.mpr ⟨wd_511, List.forall_mem_cons.mpr ⟨wd_512, List.forall_mem_cons.mpr ⟨wd_54, List.forall_mem_cons.mpr ⟨wd_513, List.forall_mem_nil _⟩⟩⟩⟩
theorem lm_M_91 : ∀ w ∈ ([Cond.methodLink R_M 91 y_M_setFraction, Cond.instanceMethod y_M_setFraction, Cond.selects R_M y_M_setFraction y_M_setFraction, Cond.initialized R_M, Cond.code y_M_setFraction b_M_setFraction 8 none] : List Cond), w ∈ TT := List.forall_mem_cons.mpr ⟨wd_507, List.forall_mem_cons.mpr ⟨wd_509, List.forall_mem_cons.mpr ⟨wd_40, List.forall_mem_cons.mpr ⟨wd_54, List.forall_mem_cons.mpr ⟨wd_510, List.forall_mem_nil _⟩⟩⟩⟩⟩
theorem lm_M_97 : ∀ w ∈ ([Cond.methodLink R_M 97 y_M_whole, Cond.instanceMethod y_M_whole, Cond.selects R_M y_M_whole y_M_whole, Cond.initialized R_M, Cond.code y_M_whole b_M_whole 6 (some .boolean)] : List Cond), w ∈ TT := List.forall_mem_cons.mpr ⟨wd_518, List.forall_mem_cons.mpr ⟨wd_520, List.forall_mem_cons.mpr ⟨wd_42, List.forall_mem_cons.mpr ⟨wd_54, List.forall_mem_cons.mpr ⟨wd_521, List.forall_mem_nil _⟩⟩⟩⟩⟩
theorem lm_M_101 : ∀ w ∈ ([Cond.methodLink R_M 101 y_M_ready, Cond.instanceMethod y_M_ready, Cond.selects R_M y_M_ready y_M_ready, Cond.initialized R_M, Cond.code y_M_ready b_M_ready 3 (some .boolean)] : List Cond), w ∈ TT := List.forall_mem_cons.mpr ⟨wd_527, List.forall_mem_cons.mpr ⟨wd_529, List.forall_mem_cons.mpr ⟨wd_44, List.forall_mem_cons.mpr ⟨wd_54, List.forall_mem_cons.mpr ⟨wd_530, List.forall_mem_nil _⟩⟩⟩⟩⟩
theorem lm_M_104 : ∀ w ∈ ([Cond.methodLink R_M 104 y_M_growth, Cond.instanceMethod y_M_growth, Cond.selects R_M y_M_growth y_M_growth, Cond.initialized R_M, Cond.code y_M_growth b_M_growth 4 (some .int)] : List Cond), w ∈ TT := List.forall_mem_cons.mpr ⟨wd_531, List.forall_mem_cons.mpr ⟨wd_533, List.forall_mem_cons.mpr ⟨wd_45, List.forall_mem_cons.mpr ⟨wd_54, List.forall_mem_cons.mpr ⟨wd_534, List.forall_mem_nil _⟩⟩⟩⟩⟩
theorem lm_M_111 : ∀ w ∈ ([Cond.methodLink R_M 111 y_M_balance, Cond.instanceMethod y_M_balance, Cond.selects R_M y_M_balance y_M_balance, Cond.initialized R_M, Cond.code y_M_balance b_M_balance 7 (some .boolean)] : List Cond), w ∈ TT := List.forall_mem_cons.mpr ⟨wd_503, List.forall_mem_cons.mpr ⟨wd_505, List.forall_mem_cons.mpr ⟨wd_39, List.forall_mem_cons.mpr ⟨wd_54, List.forall_mem_cons.mpr ⟨wd_506, List.forall_mem_nil _⟩⟩⟩⟩⟩
theorem lm_M_114 : ∀ w ∈ ([Cond.methodLink R_M 114 y_M_repeat, Cond.instanceMethod y_M_repeat, Cond.selects R_M y_M_repeat y_M_repeat, Cond.initialized R_M, Cond.code y_M_repeat b_M_repeat 4 (some .int)] : List Cond), w ∈ TT := List.forall_mem_cons.mpr ⟨wd_514, List.forall_mem_cons.mpr ⟨wd_516, List.forall_mem_cons.mpr ⟨wd_41, List.forall_mem_cons.mpr ⟨wd_54, List.forall_mem_cons.mpr ⟨wd_517, List.forall_mem_nil _⟩⟩⟩⟩⟩
theorem lm_M_121 : ∀ w ∈ ([Cond.methodLink R_M 121 y_M_pick, Cond.instanceMethod y_M_pick, Cond.selects R_M y_M_pick y_M_pick, Cond.initialized R_M, Cond.code y_M_pick b_M_pick 6 (some .int)] : List Cond), w ∈ TT := List.forall_mem_cons.mpr ⟨wd_523, List.forall_mem_cons.mpr ⟨wd_525, List.forall_mem_cons.mpr ⟨wd_43, List.forall_mem_cons.mpr ⟨wd_54, List.forall_mem_cons.mpr ⟨wd_526, List.forall_mem_nil _⟩⟩⟩⟩⟩
theorem lm_M_125 : ∀ w ∈ ([Cond.methodLink R_M 125 y_M_step, Cond.instanceMethod y_M_step, Cond.selects R_M y_M_step y_M_step, Cond.initialized R_M, Cond.code y_M_step b_M_step 3 none] : List Cond), w ∈ TT := List.forall_mem_cons.mpr ⟨wd_535, List.forall_mem_cons.mpr ⟨wd_537, List.forall_mem_cons.mpr ⟨wd_46, List.forall_mem_cons.mpr ⟨wd_54, List.forall_mem_cons.mpr ⟨wd_538, List.forall_mem_nil _⟩⟩⟩⟩⟩
theorem lm_M_129 : ∀ w ∈ ([Cond.methodLink R_M 129 y_M_takeFrom, Cond.instanceMethod y_M_takeFrom, Cond.selects R_M y_M_takeFrom y_M_takeFrom, Cond.initialized R_M, Cond.code y_M_takeFrom b_M_takeFrom 4 (some .int)] : List Cond), w ∈ TT := List.forall_mem_cons.mpr ⟨wd_547, List.forall_mem_cons.mpr ⟨wd_549, List.forall_mem_cons.mpr ⟨wd_48, List.forall_mem_cons.mpr ⟨wd_54, List.forall_mem_cons.mpr ⟨wd_550, List.forall_mem_nil _⟩⟩⟩⟩⟩
theorem lm_M_132 : ∀ w ∈ ([Cond.methodLink R_M 132 y_M_fire, Cond.instanceMethod y_M_fire, Cond.selects R_M y_M_fire y_M_fire, Cond.initialized R_M, Cond.code y_M_fire b_M_fire 6 none] : List Cond), w ∈ TT := List.forall_mem_cons.mpr ⟨wd_543, List.forall_mem_cons.mpr ⟨wd_545, List.forall_mem_cons.mpr ⟨wd_47, List.forall_mem_cons.mpr ⟨wd_54, List.forall_mem_cons.mpr ⟨wd_546, List.forall_mem_nil _⟩⟩⟩⟩⟩
theorem lm_M_135 : ∀ w ∈ ([Cond.methodLink R_M 135 y_M_cut, Cond.instanceMethod y_M_cut, Cond.selects R_M y_M_cut y_M_cut, Cond.initialized R_M, Cond.code y_M_cut b_M_cut 8 (some .int)] : List Cond), w ∈ TT := List.forall_mem_cons.mpr ⟨wd_567, List.forall_mem_cons.mpr ⟨wd_569, List.forall_mem_cons.mpr ⟨wd_49, List.forall_mem_cons.mpr ⟨wd_54, List.forall_mem_cons.mpr ⟨wd_570, List.forall_mem_nil _⟩⟩⟩⟩⟩
theorem in_A : ∀ w ∈ u_ws R_A F_A 10, w ∈ TT := List.forall_mem_cons.mpr ⟨wd_91, List.forall_mem_cons.mpr ⟨wd_93, List.forall_mem_cons.mpr ⟨wd_95, List.forall_mem_cons.mpr ⟨wd_97, List.forall_mem_cons.mpr ⟨wd_99, List.forall_mem_cons.mpr ⟨wd_101, List.forall_mem_cons.mpr ⟨wd_103, List.forall_mem_cons.mpr ⟨wd_105, List.forall_mem_cons.mpr ⟨wd_107, List.forall_mem_cons.mpr ⟨wd_109, List.forall_mem_nil _⟩⟩⟩⟩⟩⟩⟩⟩⟩⟩
theorem in_E : ∀ w ∈ u_ws R_E F_E 9, w ∈ TT := List.forall_mem_cons.mpr ⟨wd_133, List.forall_mem_cons.mpr ⟨wd_135, List.forall_mem_cons.mpr ⟨wd_137, List.forall_mem_cons.mpr ⟨wd_139, List.forall_mem_cons.mpr ⟨wd_141, List.forall_mem_cons.mpr ⟨wd_143, List.forall_mem_cons.mpr ⟨wd_145, List.forall_mem_cons.mpr ⟨wd_147, List.forall_mem_cons.mpr ⟨wd_149, List.forall_mem_nil _⟩⟩⟩⟩⟩⟩⟩⟩⟩
theorem in_G : ∀ w ∈ u_ws R_G F_G 9, w ∈ TT := List.forall_mem_cons.mpr ⟨wd_161, List.forall_mem_cons.mpr ⟨wd_163, List.forall_mem_cons.mpr ⟨wd_165, List.forall_mem_cons.mpr ⟨wd_167, List.forall_mem_cons.mpr ⟨wd_169, List.forall_mem_cons.mpr ⟨wd_171, List.forall_mem_cons.mpr ⟨wd_173, List.forall_mem_cons.mpr ⟨wd_175, List.forall_mem_cons.mpr ⟨wd_177, List.forall_mem_nil _⟩⟩⟩⟩⟩⟩⟩⟩⟩
theorem in_M : ∀ w ∈ u_ws R_M F_M 25, w ∈ TT := List.forall_mem_cons.mpr ⟨wd_430, List.forall_mem_cons.mpr ⟨wd_432, List.forall_mem_cons.mpr ⟨wd_434, List.forall_mem_cons.mpr ⟨wd_436, List.forall_mem_cons.mpr ⟨wd_438, List.forall_mem_cons.mpr ⟨wd_440, List.forall_mem_cons.mpr ⟨wd_442, List.forall_mem_cons.mpr ⟨wd_444, List.forall_mem_cons.mpr ⟨wd_446, List.forall_mem_cons.mpr ⟨wd_448, List.forall_mem_cons.mpr ⟨wd_450, List.forall_mem_cons.mpr ⟨wd_452, List.forall_mem_cons.mpr ⟨wd_454, List.forall_mem_cons.mpr ⟨wd_456, List.forall_mem_cons.mpr ⟨wd_458, List.forall_mem_cons.mpr ⟨wd_460, List.forall_mem_cons.mpr ⟨wd_462, List.forall_mem_cons.mpr ⟨wd_464, List.forall_mem_cons.mpr ⟨wd_466, List.forall_mem_cons.mpr ⟨wd_468, List.forall_mem_cons.mpr ⟨wd_470, List.forall_mem_cons.mpr ⟨wd_472, List.forall_mem_cons.mpr ⟨wd_474, List.forall_mem_cons.mpr ⟨wd_476, List.forall_mem_cons.mpr ⟨wd_478, List.forall_mem_nil _⟩⟩⟩⟩⟩⟩⟩⟩⟩⟩⟩⟩⟩⟩⟩⟩⟩⟩⟩⟩⟩⟩⟩⟩⟩
/-! the layouts: kinds of the class: 0 graph, 1 actors, 2 edges, 3 rings, 4 actors[], 5 edges[], 6 order[], 7 cost[][], 8 firingOrder[], 9 rows of cost -/
def tysOf (cc : Nat → ClassId) : List (ClassId × FieldType) := [(cc 0, .int), (cc 1, .object "RateGraph$Actor"), (cc 2, .object "RateGraph$Edge"), (cc 3, .array .int), (cc 4, .boolean), (cc 5, .long)]
def dmC (K : Nat) : Nat := match K with
  | 0 => 1
  | 1 => 8
  | 2 => 12
  | 3 => 12
  | 4 => 1
  | 5 => 1
  | 6 => 1
  | 7 => 1
  | 8 => 1
  | 9 => 8
  | _ => 0
def cfC (cc : Nat → ClassId) (al : Nat → Nat → Nat) (K i : Nat) (f : Nat → Int32) (_g : Nat → Int64) : va_E := match K with
  | 0 => .inr (2, [.ref (al 4 0), .ref (al 5 0), .ref (al 6 0), .ref (al 7 0), .ref (al 8 0), .int (f 5), .int (f 6), .int (f 7), .int (f 8)])
  | 1 => .inr (0, [.int (f 0), .int (f 1), .int (f 2), .int (f 3), .int (f 4), .int (f 5), .int (f 6), .int (f 7), .int (f 8), .int (f 9)])
  | 2 => .inr (1, [.ref (al 3 i), .int (f 1), .int (f 2), .int (f 3), .int (f 4), .int (f 5), .int (f 6), .int (f 7), .int (f 8)])
  | 3 => .inl (cc 0, 256, .inl f)
  | 4 => .inl (cc 1, 8, .inr (.inr (.inr (.inr (fun e => some (al 1 e))))))
  | 5 => .inl (cc 2, 12, .inr (.inr (.inr (.inr (fun e => some (al 2 (ix (f e))))))))
  | 6 => .inl (cc 0, 8, .inl f)
  | 7 => .inl (cc 3, 8, .inr (.inr (.inr (.inr (fun e => some (al 9 e))))))
  | 8 => .inl (cc 0, 64, .inl f)
  | _ => .inl (cc 0, 8, .inl f)
def dmM (K : Nat) : Nat := if K < 26 ∧ K ≠ 9 ∧ K ≠ 10 ∧ K ≠ 19 ∧ K ≠ 20 then 1 else 0
def cfM (cc : Nat → ClassId) (al : Nat → Nat → Nat) (K _i : Nat) (f : Nat → Int32) (g : Nat → Int64) : va_E := match K with
  | 0 => .inr (3, [.ref (al 1 0), .ref (al 2 0), .ref (al 3 0), .ref (al 4 0), .ref (al 5 0), .ref (al 6 0), .ref (al 7 0), .ref (al 8 0), .int (f 8), .int (f 9), .ref (al 11 0), .ref (al 12 0), .ref (al 13 0), .ref (al 14 0), .ref (al 15 0), .ref (al 16 0), .ref (al 17 0), .ref (al 18 0), .int (f 18), .int (f 19), .ref (al 21 0), .ref (al 22 0), .ref (al 23 0), .ref (al 24 0), .ref (al 25 0)])
  | 1 => .inl (cc 4, 8, .inl f)
  | 2 => .inl (cc 0, 8, .inl f)
  | 3 => .inl (cc 0, 8, .inl f)
  | 4 => .inl (cc 0, 13, .inl f)
  | 5 => .inl (cc 0, 13, .inl f)
  | 6 => .inl (cc 0, 13, .inl f)
  | 7 => .inl (cc 0, 13, .inl f)
  | 8 => .inl (cc 0, 13, .inl f)
  | 11 => .inl (cc 5, 8, .inr (.inl g))
  | 12 => .inl (cc 5, 8, .inr (.inl g))
  | 13 => .inl (cc 0, 8, .inl f)
  | 14 => .inl (cc 0, 8, .inl f)
  | 15 => .inl (cc 0, 8, .inl f)
  | 16 => .inl (cc 0, 64, .inl f)
  | 17 => .inl (cc 0, 12, .inl f)
  | 18 => .inl (cc 0, 12, .inl f)
  | 21 => .inl (cc 0, 4800, .inl f)
  | 22 => .inl (cc 0, 12, .inl f)
  | 23 => .inl (cc 0, 8, .inl f)
  | 24 => .inl (cc 0, 8, .inl f)
  | 25 => .inl (cc 0, 64, .inl f)
  | _ => .inl (cc 0, 0, .inl f)
theorem so_0_2 {x : Int32} (h0 : ¬ x = 0) (h1 : ¬ x = 1) (h2 : ¬ x = 2) : x.toInt < 0 ∨ 2 < x.toInt := by
  have g0 : x.toInt ≠ 0 := ne_ti h0
  have g1 : x.toInt ≠ 1 := ne_ti h1
  have g2 : x.toInt ≠ 2 := ne_ti h2
  omega
theorem so_0_8 {x : Int32} (h0 : ¬ x = 0) (h1 : ¬ x = 1) (h2 : ¬ x = 2) (h3 : ¬ x = 3) (h4 : ¬ x = 4) (h5 : ¬ x = 5) (h6 : ¬ x = 6) (h7 : ¬ x = 7) (h8 : ¬ x = 8) : x.toInt < 0 ∨ 8 < x.toInt := by
  have g0 : x.toInt ≠ 0 := ne_ti h0
  have g1 : x.toInt ≠ 1 := ne_ti h1
  have g2 : x.toInt ≠ 2 := ne_ti h2
  have g3 : x.toInt ≠ 3 := ne_ti h3
  have g4 : x.toInt ≠ 4 := ne_ti h4
  have g5 : x.toInt ≠ 5 := ne_ti h5
  have g6 : x.toInt ≠ 6 := ne_ti h6
  have g7 : x.toInt ≠ 7 := ne_ti h7
  have g8 : x.toInt ≠ 8 := ne_ti h8
  omega
end
